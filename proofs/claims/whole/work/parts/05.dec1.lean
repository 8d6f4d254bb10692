theorem dX0_init_0 : decode cX0_init 0 = .ok (.aload_n 0, 1) := by decide +kernel
theorem dX0_init_1 : decode cX0_init 1 = .ok (.invokespecial 1, 3) := by decide +kernel
theorem dX0_init_4 : decode cX0_init 4 = .ok (.aload_n 0, 1) := by decide +kernel
theorem dX0_init_5 : decode cX0_init 5 = .ok (.bipush 12, 2) := by decide +kernel
theorem dX0_init_7 : decode cX0_init 7 = .ok (.newarray .long, 2) := by decide +kernel
theorem dX0_init_9 : decode cX0_init 9 = .ok (.putfield 7, 3) := by decide +kernel
theorem dX0_init_12 : decode cX0_init 12 = .ok (.return_, 1) := by decide +kernel
theorem dX0_build_0 : decode cX0_build 0 = .ok (.iconst 0, 1) := by decide +kernel
theorem dX0_build_1 : decode cX0_build 1 = .ok (.istore 4, 2) := by decide +kernel
theorem dX0_build_3 : decode cX0_build 3 = .ok (.iload 4, 2) := by decide +kernel
theorem dX0_build_5 : decode cX0_build 5 = .ok (.iconst 3, 1) := by decide +kernel
theorem dX0_build_6 : decode cX0_build 6 = .ok (.if_icmp .ge 42, 3) := by decide +kernel
theorem dX0_build_9 : decode cX0_build 9 = .ok (.aload_n 0, 1) := by decide +kernel
theorem dX0_build_10 : decode cX0_build 10 = .ok (.getfield 7, 3) := by decide +kernel
theorem dX0_build_13 : decode cX0_build 13 = .ok (.iload 4, 2) := by decide +kernel
theorem dX0_build_15 : decode cX0_build 15 = .ok (.aload_n 1, 1) := by decide +kernel
theorem dX0_build_16 : decode cX0_build 16 = .ok (.iload_n 2, 1) := by decide +kernel
theorem dX0_build_17 : decode cX0_build 17 = .ok (.iload 4, 2) := by decide +kernel
theorem dX0_build_19 : decode cX0_build 19 = .ok (.invokevirtual 13, 3) := by decide +kernel
theorem dX0_build_22 : decode cX0_build 22 = .ok (.i2l, 1) := by decide +kernel
theorem dX0_build_23 : decode cX0_build 23 = .ok (.lastore, 1) := by decide +kernel
theorem dX0_build_24 : decode cX0_build 24 = .ok (.aload_n 0, 1) := by decide +kernel
theorem dX0_build_25 : decode cX0_build 25 = .ok (.getfield 7, 3) := by decide +kernel
theorem dX0_build_28 : decode cX0_build 28 = .ok (.bipush 9, 2) := by decide +kernel
theorem dX0_build_30 : decode cX0_build 30 = .ok (.iload 4, 2) := by decide +kernel
theorem dX0_build_32 : decode cX0_build 32 = .ok (.iadd, 1) := by decide +kernel
theorem dX0_build_33 : decode cX0_build 33 = .ok (.aload_n 1, 1) := by decide +kernel
theorem dX0_build_34 : decode cX0_build 34 = .ok (.iload_n 3, 1) := by decide +kernel
theorem dX0_build_35 : decode cX0_build 35 = .ok (.iload 4, 2) := by decide +kernel
theorem dX0_build_37 : decode cX0_build 37 = .ok (.invokevirtual 13, 3) := by decide +kernel
theorem dX0_build_40 : decode cX0_build 40 = .ok (.i2l, 1) := by decide +kernel
theorem dX0_build_41 : decode cX0_build 41 = .ok (.lastore, 1) := by decide +kernel
theorem dX0_build_42 : decode cX0_build 42 = .ok (.iinc 4 1, 3) := by decide +kernel
theorem dX0_build_45 : decode cX0_build 45 = .ok (.goto (-42), 3) := by decide +kernel
theorem dX0_build_48 : decode cX0_build 48 = .ok (.aload_n 0, 1) := by decide +kernel
theorem dX0_build_49 : decode cX0_build 49 = .ok (.iconst 0, 1) := by decide +kernel
theorem dX0_build_50 : decode cX0_build 50 = .ok (.iconst 3, 1) := by decide +kernel
theorem dX0_build_51 : decode cX0_build 51 = .ok (.iconst 1, 1) := by decide +kernel
theorem dX0_build_52 : decode cX0_build 52 = .ok (.invokevirtual 19, 3) := by decide +kernel
theorem dX0_build_55 : decode cX0_build 55 = .ok (.aload_n 0, 1) := by decide +kernel
theorem dX0_build_56 : decode cX0_build 56 = .ok (.iconst 0, 1) := by decide +kernel
theorem dX0_build_57 : decode cX0_build 57 = .ok (.iconst 1, 1) := by decide +kernel
theorem dX0_build_58 : decode cX0_build 58 = .ok (.iconst 2, 1) := by decide +kernel
theorem dX0_build_59 : decode cX0_build 59 = .ok (.invokevirtual 19, 3) := by decide +kernel
theorem dX0_build_62 : decode cX0_build 62 = .ok (.return_, 1) := by decide +kernel
theorem dX0_multiply_0 : decode cX0_multiply 0 = .ok (.iconst 0, 1) := by decide +kernel
theorem dX0_multiply_1 : decode cX0_multiply 1 = .ok (.istore 4, 2) := by decide +kernel
theorem dX0_multiply_3 : decode cX0_multiply 3 = .ok (.iload 4, 2) := by decide +kernel
theorem dX0_multiply_5 : decode cX0_multiply 5 = .ok (.iconst 3, 1) := by decide +kernel
theorem dX0_multiply_6 : decode cX0_multiply 6 = .ok (.if_icmp .ge 83, 3) := by decide +kernel
theorem dX0_multiply_9 : decode cX0_multiply 9 = .ok (.iload 4, 2) := by decide +kernel
theorem dX0_multiply_11 : decode cX0_multiply 11 = .ok (.iconst 1, 1) := by decide +kernel
theorem dX0_multiply_12 : decode cX0_multiply 12 = .ok (.iadd, 1) := by decide +kernel
theorem dX0_multiply_13 : decode cX0_multiply 13 = .ok (.iconst 3, 1) := by decide +kernel
theorem dX0_multiply_14 : decode cX0_multiply 14 = .ok (.irem, 1) := by decide +kernel
theorem dX0_multiply_15 : decode cX0_multiply 15 = .ok (.istore 5, 2) := by decide +kernel
theorem dX0_multiply_17 : decode cX0_multiply 17 = .ok (.iload 4, 2) := by decide +kernel
theorem dX0_multiply_19 : decode cX0_multiply 19 = .ok (.iconst 2, 1) := by decide +kernel
theorem dX0_multiply_20 : decode cX0_multiply 20 = .ok (.iadd, 1) := by decide +kernel
theorem dX0_multiply_21 : decode cX0_multiply 21 = .ok (.iconst 3, 1) := by decide +kernel
theorem dX0_multiply_22 : decode cX0_multiply 22 = .ok (.irem, 1) := by decide +kernel
theorem dX0_multiply_23 : decode cX0_multiply 23 = .ok (.istore 6, 2) := by decide +kernel
theorem dX0_multiply_25 : decode cX0_multiply 25 = .ok (.aload_n 0, 1) := by decide +kernel
theorem dX0_multiply_26 : decode cX0_multiply 26 = .ok (.getfield 7, 3) := by decide +kernel
theorem dX0_multiply_29 : decode cX0_multiply 29 = .ok (.iconst 3, 1) := by decide +kernel
theorem dX0_multiply_30 : decode cX0_multiply 30 = .ok (.iload_n 3, 1) := by decide +kernel
theorem dX0_multiply_31 : decode cX0_multiply 31 = .ok (.imul, 1) := by decide +kernel
theorem dX0_multiply_32 : decode cX0_multiply 32 = .ok (.iload 4, 2) := by decide +kernel
theorem dX0_multiply_34 : decode cX0_multiply 34 = .ok (.iadd, 1) := by decide +kernel
theorem dX0_multiply_35 : decode cX0_multiply 35 = .ok (.aload_n 0, 1) := by decide +kernel
theorem dX0_multiply_36 : decode cX0_multiply 36 = .ok (.getfield 7, 3) := by decide +kernel
theorem dX0_multiply_39 : decode cX0_multiply 39 = .ok (.iconst 3, 1) := by decide +kernel
theorem dX0_multiply_40 : decode cX0_multiply 40 = .ok (.iload_n 1, 1) := by decide +kernel
theorem dX0_multiply_41 : decode cX0_multiply 41 = .ok (.imul, 1) := by decide +kernel
theorem dX0_multiply_42 : decode cX0_multiply 42 = .ok (.iload 5, 2) := by decide +kernel
theorem dX0_multiply_44 : decode cX0_multiply 44 = .ok (.iadd, 1) := by decide +kernel
theorem dX0_multiply_45 : decode cX0_multiply 45 = .ok (.laload, 1) := by decide +kernel
theorem dX0_multiply_46 : decode cX0_multiply 46 = .ok (.aload_n 0, 1) := by decide +kernel
theorem dX0_multiply_47 : decode cX0_multiply 47 = .ok (.getfield 7, 3) := by decide +kernel
theorem dX0_multiply_50 : decode cX0_multiply 50 = .ok (.iconst 3, 1) := by decide +kernel
theorem dX0_multiply_51 : decode cX0_multiply 51 = .ok (.iload_n 2, 1) := by decide +kernel
theorem dX0_multiply_52 : decode cX0_multiply 52 = .ok (.imul, 1) := by decide +kernel
theorem dX0_multiply_53 : decode cX0_multiply 53 = .ok (.iload 6, 2) := by decide +kernel
theorem dX0_multiply_55 : decode cX0_multiply 55 = .ok (.iadd, 1) := by decide +kernel
theorem dX0_multiply_56 : decode cX0_multiply 56 = .ok (.laload, 1) := by decide +kernel
theorem dX0_multiply_57 : decode cX0_multiply 57 = .ok (.lmul, 1) := by decide +kernel
theorem dX0_multiply_58 : decode cX0_multiply 58 = .ok (.aload_n 0, 1) := by decide +kernel
theorem dX0_multiply_59 : decode cX0_multiply 59 = .ok (.getfield 7, 3) := by decide +kernel
theorem dX0_multiply_62 : decode cX0_multiply 62 = .ok (.iconst 3, 1) := by decide +kernel
theorem dX0_multiply_63 : decode cX0_multiply 63 = .ok (.iload_n 1, 1) := by decide +kernel
theorem dX0_multiply_64 : decode cX0_multiply 64 = .ok (.imul, 1) := by decide +kernel
theorem dX0_multiply_65 : decode cX0_multiply 65 = .ok (.iload 6, 2) := by decide +kernel
theorem dX0_multiply_67 : decode cX0_multiply 67 = .ok (.iadd, 1) := by decide +kernel
theorem dX0_multiply_68 : decode cX0_multiply 68 = .ok (.laload, 1) := by decide +kernel
theorem dX0_multiply_69 : decode cX0_multiply 69 = .ok (.aload_n 0, 1) := by decide +kernel
theorem dX0_multiply_70 : decode cX0_multiply 70 = .ok (.getfield 7, 3) := by decide +kernel
theorem dX0_multiply_73 : decode cX0_multiply 73 = .ok (.iconst 3, 1) := by decide +kernel
theorem dX0_multiply_74 : decode cX0_multiply 74 = .ok (.iload_n 2, 1) := by decide +kernel
theorem dX0_multiply_75 : decode cX0_multiply 75 = .ok (.imul, 1) := by decide +kernel
theorem dX0_multiply_76 : decode cX0_multiply 76 = .ok (.iload 5, 2) := by decide +kernel
theorem dX0_multiply_78 : decode cX0_multiply 78 = .ok (.iadd, 1) := by decide +kernel
theorem dX0_multiply_79 : decode cX0_multiply 79 = .ok (.laload, 1) := by decide +kernel
theorem dX0_multiply_80 : decode cX0_multiply 80 = .ok (.lmul, 1) := by decide +kernel
theorem dX0_multiply_81 : decode cX0_multiply 81 = .ok (.lsub, 1) := by decide +kernel
theorem dX0_multiply_82 : decode cX0_multiply 82 = .ok (.lastore, 1) := by decide +kernel
theorem dX0_multiply_83 : decode cX0_multiply 83 = .ok (.iinc 4 1, 3) := by decide +kernel
theorem dX0_multiply_86 : decode cX0_multiply 86 = .ok (.goto (-83), 3) := by decide +kernel
theorem dX0_multiply_89 : decode cX0_multiply 89 = .ok (.return_, 1) := by decide +kernel
theorem dX0_isFlat_0 : decode cX0_isFlat 0 = .ok (.aload_n 0, 1) := by decide +kernel
theorem dX0_isFlat_1 : decode cX0_isFlat 1 = .ok (.getfield 7, 3) := by decide +kernel
theorem dX0_isFlat_4 : decode cX0_isFlat 4 = .ok (.iconst 3, 1) := by decide +kernel
theorem dX0_isFlat_5 : decode cX0_isFlat 5 = .ok (.laload, 1) := by decide +kernel
theorem dX0_isFlat_6 : decode cX0_isFlat 6 = .ok (.lconst 0, 1) := by decide +kernel
theorem dX0_isFlat_7 : decode cX0_isFlat 7 = .ok (.lcmp, 1) := by decide +kernel
theorem dX0_isFlat_8 : decode cX0_isFlat 8 = .ok (.ifCond .ne 29, 3) := by decide +kernel
theorem dX0_isFlat_11 : decode cX0_isFlat 11 = .ok (.aload_n 0, 1) := by decide +kernel
theorem dX0_isFlat_12 : decode cX0_isFlat 12 = .ok (.getfield 7, 3) := by decide +kernel
theorem dX0_isFlat_15 : decode cX0_isFlat 15 = .ok (.iconst 4, 1) := by decide +kernel
theorem dX0_isFlat_16 : decode cX0_isFlat 16 = .ok (.laload, 1) := by decide +kernel
theorem dX0_isFlat_17 : decode cX0_isFlat 17 = .ok (.lconst 0, 1) := by decide +kernel
theorem dX0_isFlat_18 : decode cX0_isFlat 18 = .ok (.lcmp, 1) := by decide +kernel
theorem dX0_isFlat_19 : decode cX0_isFlat 19 = .ok (.ifCond .ne 18, 3) := by decide +kernel
theorem dX0_isFlat_22 : decode cX0_isFlat 22 = .ok (.aload_n 0, 1) := by decide +kernel
theorem dX0_isFlat_23 : decode cX0_isFlat 23 = .ok (.getfield 7, 3) := by decide +kernel
theorem dX0_isFlat_26 : decode cX0_isFlat 26 = .ok (.iconst 5, 1) := by decide +kernel
theorem dX0_isFlat_27 : decode cX0_isFlat 27 = .ok (.laload, 1) := by decide +kernel
theorem dX0_isFlat_28 : decode cX0_isFlat 28 = .ok (.lconst 0, 1) := by decide +kernel
theorem dX0_isFlat_29 : decode cX0_isFlat 29 = .ok (.lcmp, 1) := by decide +kernel
theorem dX0_isFlat_30 : decode cX0_isFlat 30 = .ok (.ifCond .ne 7, 3) := by decide +kernel
theorem dX0_isFlat_33 : decode cX0_isFlat 33 = .ok (.iconst 1, 1) := by decide +kernel
theorem dX0_isFlat_34 : decode cX0_isFlat 34 = .ok (.goto 4, 3) := by decide +kernel
theorem dX0_isFlat_37 : decode cX0_isFlat 37 = .ok (.iconst 0, 1) := by decide +kernel
theorem dX0_isFlat_38 : decode cX0_isFlat 38 = .ok (.ireturn, 1) := by decide +kernel
theorem dX0_part_0 : decode cX0_part 0 = .ok (.aload_n 0, 1) := by decide +kernel
theorem dX0_part_1 : decode cX0_part 1 = .ok (.getfield 7, 3) := by decide +kernel
theorem dX0_part_4 : decode cX0_part 4 = .ok (.iconst 3, 1) := by decide +kernel
theorem dX0_part_5 : decode cX0_part 5 = .ok (.iload_n 1, 1) := by decide +kernel
theorem dX0_part_6 : decode cX0_part 6 = .ok (.imul, 1) := by decide +kernel
theorem dX0_part_7 : decode cX0_part 7 = .ok (.iload_n 2, 1) := by decide +kernel
theorem dX0_part_8 : decode cX0_part 8 = .ok (.iadd, 1) := by decide +kernel
theorem dX0_part_9 : decode cX0_part 9 = .ok (.laload, 1) := by decide +kernel
theorem dX0_part_10 : decode cX0_part 10 = .ok (.lreturn, 1) := by decide +kernel
theorem dX0_square_0 : decode cX0_square 0 = .ok (.aload_n 0, 1) := by decide +kernel
theorem dX0_square_1 : decode cX0_square 1 = .ok (.getfield 7, 3) := by decide +kernel
theorem dX0_square_4 : decode cX0_square 4 = .ok (.iconst 3, 1) := by decide +kernel
theorem dX0_square_5 : decode cX0_square 5 = .ok (.iload_n 1, 1) := by decide +kernel
theorem dX0_square_6 : decode cX0_square 6 = .ok (.imul, 1) := by decide +kernel
theorem dX0_square_7 : decode cX0_square 7 = .ok (.laload, 1) := by decide +kernel
theorem dX0_square_8 : decode cX0_square 8 = .ok (.lstore_n 2, 1) := by decide +kernel
theorem dX0_square_9 : decode cX0_square 9 = .ok (.aload_n 0, 1) := by decide +kernel
theorem dX0_square_10 : decode cX0_square 10 = .ok (.getfield 7, 3) := by decide +kernel
theorem dX0_square_13 : decode cX0_square 13 = .ok (.iconst 3, 1) := by decide +kernel
theorem dX0_square_14 : decode cX0_square 14 = .ok (.iload_n 1, 1) := by decide +kernel
theorem dX0_square_15 : decode cX0_square 15 = .ok (.imul, 1) := by decide +kernel
theorem dX0_square_16 : decode cX0_square 16 = .ok (.iconst 1, 1) := by decide +kernel
theorem dX0_square_17 : decode cX0_square 17 = .ok (.iadd, 1) := by decide +kernel
theorem dX0_square_18 : decode cX0_square 18 = .ok (.laload, 1) := by decide +kernel
theorem dX0_square_19 : decode cX0_square 19 = .ok (.lstore 4, 2) := by decide +kernel
theorem dX0_square_21 : decode cX0_square 21 = .ok (.aload_n 0, 1) := by decide +kernel
theorem dX0_square_22 : decode cX0_square 22 = .ok (.getfield 7, 3) := by decide +kernel
theorem dX0_square_25 : decode cX0_square 25 = .ok (.iconst 3, 1) := by decide +kernel
theorem dX0_square_26 : decode cX0_square 26 = .ok (.iload_n 1, 1) := by decide +kernel
theorem dX0_square_27 : decode cX0_square 27 = .ok (.imul, 1) := by decide +kernel
theorem dX0_square_28 : decode cX0_square 28 = .ok (.iconst 2, 1) := by decide +kernel
theorem dX0_square_29 : decode cX0_square 29 = .ok (.iadd, 1) := by decide +kernel
theorem dX0_square_30 : decode cX0_square 30 = .ok (.laload, 1) := by decide +kernel
theorem dX0_square_31 : decode cX0_square 31 = .ok (.lstore 6, 2) := by decide +kernel
theorem dX0_square_33 : decode cX0_square 33 = .ok (.lload_n 2, 1) := by decide +kernel
theorem dX0_square_34 : decode cX0_square 34 = .ok (.lload_n 2, 1) := by decide +kernel
theorem dX0_square_35 : decode cX0_square 35 = .ok (.lmul, 1) := by decide +kernel
theorem dX0_square_36 : decode cX0_square 36 = .ok (.lload 4, 2) := by decide +kernel
theorem dX0_square_38 : decode cX0_square 38 = .ok (.lload 4, 2) := by decide +kernel
theorem dX0_square_40 : decode cX0_square 40 = .ok (.lmul, 1) := by decide +kernel
theorem dX0_square_41 : decode cX0_square 41 = .ok (.ladd, 1) := by decide +kernel
theorem dX0_square_42 : decode cX0_square 42 = .ok (.lload 6, 2) := by decide +kernel
theorem dX0_square_44 : decode cX0_square 44 = .ok (.lload 6, 2) := by decide +kernel
theorem dX0_square_46 : decode cX0_square 46 = .ok (.lmul, 1) := by decide +kernel
theorem dX0_square_47 : decode cX0_square 47 = .ok (.ladd, 1) := by decide +kernel
theorem dX0_square_48 : decode cX0_square 48 = .ok (.lreturn, 1) := by decide +kernel
theorem dX0_times_0 : decode cX0_times 0 = .ok (.aload_n 0, 1) := by decide +kernel
theorem dX0_times_1 : decode cX0_times 1 = .ok (.getfield 7, 3) := by decide +kernel
theorem dX0_times_4 : decode cX0_times 4 = .ok (.iconst 3, 1) := by decide +kernel
theorem dX0_times_5 : decode cX0_times 5 = .ok (.iload_n 1, 1) := by decide +kernel
theorem dX0_times_6 : decode cX0_times 6 = .ok (.imul, 1) := by decide +kernel
theorem dX0_times_7 : decode cX0_times 7 = .ok (.laload, 1) := by decide +kernel
theorem dX0_times_8 : decode cX0_times 8 = .ok (.iload_n 2, 1) := by decide +kernel
theorem dX0_times_9 : decode cX0_times 9 = .ok (.i2l, 1) := by decide +kernel
theorem dX0_times_10 : decode cX0_times 10 = .ok (.lmul, 1) := by decide +kernel
theorem dX0_times_11 : decode cX0_times 11 = .ok (.aload_n 0, 1) := by decide +kernel
theorem dX0_times_12 : decode cX0_times 12 = .ok (.getfield 7, 3) := by decide +kernel
theorem dX0_times_15 : decode cX0_times 15 = .ok (.iconst 3, 1) := by decide +kernel
theorem dX0_times_16 : decode cX0_times 16 = .ok (.iload_n 1, 1) := by decide +kernel
theorem dX0_times_17 : decode cX0_times 17 = .ok (.imul, 1) := by decide +kernel
theorem dX0_times_18 : decode cX0_times 18 = .ok (.iconst 1, 1) := by decide +kernel
theorem dX0_times_19 : decode cX0_times 19 = .ok (.iadd, 1) := by decide +kernel
theorem dX0_times_20 : decode cX0_times 20 = .ok (.laload, 1) := by decide +kernel
theorem dX0_times_21 : decode cX0_times 21 = .ok (.iload_n 3, 1) := by decide +kernel
theorem dX0_times_22 : decode cX0_times 22 = .ok (.i2l, 1) := by decide +kernel
theorem dX0_times_23 : decode cX0_times 23 = .ok (.lmul, 1) := by decide +kernel
theorem dX0_times_24 : decode cX0_times 24 = .ok (.ladd, 1) := by decide +kernel
theorem dX0_times_25 : decode cX0_times 25 = .ok (.aload_n 0, 1) := by decide +kernel
theorem dX0_times_26 : decode cX0_times 26 = .ok (.getfield 7, 3) := by decide +kernel
theorem dX0_times_29 : decode cX0_times 29 = .ok (.iconst 3, 1) := by decide +kernel
theorem dX0_times_30 : decode cX0_times 30 = .ok (.iload_n 1, 1) := by decide +kernel
theorem dX0_times_31 : decode cX0_times 31 = .ok (.imul, 1) := by decide +kernel
theorem dX0_times_32 : decode cX0_times 32 = .ok (.iconst 2, 1) := by decide +kernel
theorem dX0_times_33 : decode cX0_times 33 = .ok (.iadd, 1) := by decide +kernel
theorem dX0_times_34 : decode cX0_times 34 = .ok (.laload, 1) := by decide +kernel
theorem dX0_times_35 : decode cX0_times 35 = .ok (.iload 4, 2) := by decide +kernel
theorem dX0_times_37 : decode cX0_times 37 = .ok (.i2l, 1) := by decide +kernel
theorem dX0_times_38 : decode cX0_times 38 = .ok (.lmul, 1) := by decide +kernel
theorem dX0_times_39 : decode cX0_times 39 = .ok (.ladd, 1) := by decide +kernel
theorem dX0_times_40 : decode cX0_times 40 = .ok (.lreturn, 1) := by decide +kernel
theorem dX1_init_0 : decode cX1_init 0 = .ok (.aload_n 0, 1) := by decide +kernel
theorem dX1_init_1 : decode cX1_init 1 = .ok (.invokespecial 3, 3) := by decide +kernel
theorem dX1_init_4 : decode cX1_init 4 = .ok (.aload_n 0, 1) := by decide +kernel
theorem dX1_init_5 : decode cX1_init 5 = .ok (.iload_n 1, 1) := by decide +kernel
theorem dX1_init_6 : decode cX1_init 6 = .ok (.iconst 0, 1) := by decide +kernel
theorem dX1_init_7 : decode cX1_init 7 = .ok (.invokestatic 9, 3) := by decide +kernel
theorem dX1_init_10 : decode cX1_init 10 = .ok (.putfield 15, 3) := by decide +kernel
theorem dX1_init_13 : decode cX1_init 13 = .ok (.aload_n 0, 1) := by decide +kernel
theorem dX1_init_14 : decode cX1_init 14 = .ok (.iconst 3, 1) := by decide +kernel
theorem dX1_init_15 : decode cX1_init 15 = .ok (.aload_n 0, 1) := by decide +kernel
theorem dX1_init_16 : decode cX1_init 16 = .ok (.getfield 15, 3) := by decide +kernel
theorem dX1_init_19 : decode cX1_init 19 = .ok (.imul, 1) := by decide +kernel
theorem dX1_init_20 : decode cX1_init 20 = .ok (.newarray .int, 2) := by decide +kernel
theorem dX1_init_22 : decode cX1_init 22 = .ok (.putfield 21, 3) := by decide +kernel
theorem dX1_init_25 : decode cX1_init 25 = .ok (.return_, 1) := by decide +kernel
theorem dX1_size_0 : decode cX1_size 0 = .ok (.aload_n 0, 1) := by decide +kernel
theorem dX1_size_1 : decode cX1_size 1 = .ok (.getfield 25, 3) := by decide +kernel
theorem dX1_size_4 : decode cX1_size 4 = .ok (.ireturn, 1) := by decide +kernel
theorem dX1_isFull_0 : decode cX1_isFull 0 = .ok (.aload_n 0, 1) := by decide +kernel
theorem dX1_isFull_1 : decode cX1_isFull 1 = .ok (.getfield 25, 3) := by decide +kernel
theorem dX1_isFull_4 : decode cX1_isFull 4 = .ok (.aload_n 0, 1) := by decide +kernel
theorem dX1_isFull_5 : decode cX1_isFull 5 = .ok (.getfield 15, 3) := by decide +kernel
theorem dX1_isFull_8 : decode cX1_isFull 8 = .ok (.if_icmp .lt 7, 3) := by decide +kernel
theorem dX1_isFull_11 : decode cX1_isFull 11 = .ok (.iconst 1, 1) := by decide +kernel
theorem dX1_isFull_12 : decode cX1_isFull 12 = .ok (.goto 4, 3) := by decide +kernel
theorem dX1_isFull_15 : decode cX1_isFull 15 = .ok (.iconst 0, 1) := by decide +kernel
theorem dX1_isFull_16 : decode cX1_isFull 16 = .ok (.ireturn, 1) := by decide +kernel
theorem dX1_has_0 : decode cX1_has 0 = .ok (.iload_n 1, 1) := by decide +kernel
theorem dX1_has_1 : decode cX1_has 1 = .ok (.ifCond .lt 15, 3) := by decide +kernel
theorem dX1_has_4 : decode cX1_has 4 = .ok (.iload_n 1, 1) := by decide +kernel
theorem dX1_has_5 : decode cX1_has 5 = .ok (.aload_n 0, 1) := by decide +kernel
theorem dX1_has_6 : decode cX1_has 6 = .ok (.getfield 25, 3) := by decide +kernel
theorem dX1_has_9 : decode cX1_has 9 = .ok (.if_icmp .ge 7, 3) := by decide +kernel
theorem dX1_has_12 : decode cX1_has 12 = .ok (.iconst 1, 1) := by decide +kernel
theorem dX1_has_13 : decode cX1_has 13 = .ok (.goto 4, 3) := by decide +kernel
theorem dX1_has_16 : decode cX1_has 16 = .ok (.iconst 0, 1) := by decide +kernel
theorem dX1_has_17 : decode cX1_has 17 = .ok (.ireturn, 1) := by decide +kernel
theorem dX1_part_0 : decode cX1_part 0 = .ok (.aload_n 0, 1) := by decide +kernel
theorem dX1_part_1 : decode cX1_part 1 = .ok (.iload_n 1, 1) := by decide +kernel
theorem dX1_part_2 : decode cX1_part 2 = .ok (.invokevirtual 28, 3) := by decide +kernel
theorem dX1_part_5 : decode cX1_part 5 = .ok (.ifCond .eq 25, 3) := by decide +kernel
theorem dX1_part_8 : decode cX1_part 8 = .ok (.iload_n 2, 1) := by decide +kernel
theorem dX1_part_9 : decode cX1_part 9 = .ok (.iconst 0, 1) := by decide +kernel
theorem dX1_part_10 : decode cX1_part 10 = .ok (.iconst 2, 1) := by decide +kernel
theorem dX1_part_11 : decode cX1_part 11 = .ok (.invokestatic 32, 3) := by decide +kernel
theorem dX1_part_14 : decode cX1_part 14 = .ok (.ifCond .eq 16, 3) := by decide +kernel
theorem dX1_part_17 : decode cX1_part 17 = .ok (.aload_n 0, 1) := by decide +kernel
theorem dX1_part_18 : decode cX1_part 18 = .ok (.getfield 21, 3) := by decide +kernel
theorem dX1_part_21 : decode cX1_part 21 = .ok (.iconst 3, 1) := by decide +kernel
theorem dX1_part_22 : decode cX1_part 22 = .ok (.iload_n 1, 1) := by decide +kernel
theorem dX1_part_23 : decode cX1_part 23 = .ok (.imul, 1) := by decide +kernel
theorem dX1_part_24 : decode cX1_part 24 = .ok (.iload_n 2, 1) := by decide +kernel
theorem dX1_part_25 : decode cX1_part 25 = .ok (.iadd, 1) := by decide +kernel
theorem dX1_part_26 : decode cX1_part 26 = .ok (.iaload, 1) := by decide +kernel
theorem dX1_part_27 : decode cX1_part 27 = .ok (.goto 4, 3) := by decide +kernel
theorem dX1_part_30 : decode cX1_part 30 = .ok (.iconst 0, 1) := by decide +kernel
theorem dX1_part_31 : decode cX1_part 31 = .ok (.ireturn, 1) := by decide +kernel
theorem dX1_append_0 : decode cX1_append 0 = .ok (.aload_n 0, 1) := by decide +kernel
theorem dX1_append_1 : decode cX1_append 1 = .ok (.invokevirtual 36, 3) := by decide +kernel
theorem dX1_append_4 : decode cX1_append 4 = .ok (.ifCond .eq 4, 3) := by decide +kernel
theorem dX1_append_7 : decode cX1_append 7 = .ok (.return_, 1) := by decide +kernel
theorem dX1_append_8 : decode cX1_append 8 = .ok (.aload_n 0, 1) := by decide +kernel
theorem dX1_append_9 : decode cX1_append 9 = .ok (.getfield 21, 3) := by decide +kernel
theorem dX1_append_12 : decode cX1_append 12 = .ok (.iconst 3, 1) := by decide +kernel
theorem dX1_append_13 : decode cX1_append 13 = .ok (.aload_n 0, 1) := by decide +kernel
theorem dX1_append_14 : decode cX1_append 14 = .ok (.getfield 25, 3) := by decide +kernel
theorem dX1_append_17 : decode cX1_append 17 = .ok (.imul, 1) := by decide +kernel
theorem dX1_append_18 : decode cX1_append 18 = .ok (.iload_n 1, 1) := by decide +kernel
theorem dX1_append_19 : decode cX1_append 19 = .ok (.iastore, 1) := by decide +kernel
theorem dX1_append_20 : decode cX1_append 20 = .ok (.aload_n 0, 1) := by decide +kernel
theorem dX1_append_21 : decode cX1_append 21 = .ok (.getfield 21, 3) := by decide +kernel
theorem dX1_append_24 : decode cX1_append 24 = .ok (.iconst 3, 1) := by decide +kernel
theorem dX1_append_25 : decode cX1_append 25 = .ok (.aload_n 0, 1) := by decide +kernel
theorem dX1_append_26 : decode cX1_append 26 = .ok (.getfield 25, 3) := by decide +kernel
theorem dX1_append_29 : decode cX1_append 29 = .ok (.imul, 1) := by decide +kernel
theorem dX1_append_30 : decode cX1_append 30 = .ok (.iconst 1, 1) := by decide +kernel
theorem dX1_append_31 : decode cX1_append 31 = .ok (.iadd, 1) := by decide +kernel
theorem dX1_append_32 : decode cX1_append 32 = .ok (.iload_n 2, 1) := by decide +kernel
theorem dX1_append_33 : decode cX1_append 33 = .ok (.iastore, 1) := by decide +kernel
theorem dX1_append_34 : decode cX1_append 34 = .ok (.aload_n 0, 1) := by decide +kernel
theorem dX1_append_35 : decode cX1_append 35 = .ok (.getfield 21, 3) := by decide +kernel
theorem dX1_append_38 : decode cX1_append 38 = .ok (.iconst 3, 1) := by decide +kernel
theorem dX1_append_39 : decode cX1_append 39 = .ok (.aload_n 0, 1) := by decide +kernel
theorem dX1_append_40 : decode cX1_append 40 = .ok (.getfield 25, 3) := by decide +kernel
theorem dX1_append_43 : decode cX1_append 43 = .ok (.imul, 1) := by decide +kernel
theorem dX1_append_44 : decode cX1_append 44 = .ok (.iconst 2, 1) := by decide +kernel
theorem dX1_append_45 : decode cX1_append 45 = .ok (.iadd, 1) := by decide +kernel
theorem dX1_append_46 : decode cX1_append 46 = .ok (.iload_n 3, 1) := by decide +kernel
theorem dX1_append_47 : decode cX1_append 47 = .ok (.iastore, 1) := by decide +kernel
theorem dX1_append_48 : decode cX1_append 48 = .ok (.aload_n 0, 1) := by decide +kernel
theorem dX1_append_49 : decode cX1_append 49 = .ok (.dup, 1) := by decide +kernel
theorem dX1_append_50 : decode cX1_append 50 = .ok (.getfield 25, 3) := by decide +kernel
theorem dX1_append_53 : decode cX1_append 53 = .ok (.iconst 1, 1) := by decide +kernel
theorem dX1_append_54 : decode cX1_append 54 = .ok (.iadd, 1) := by decide +kernel
theorem dX1_append_55 : decode cX1_append 55 = .ok (.putfield 25, 3) := by decide +kernel
theorem dX1_append_58 : decode cX1_append 58 = .ok (.return_, 1) := by decide +kernel
theorem dX1_dropLast_0 : decode cX1_dropLast 0 = .ok (.aload_n 0, 1) := by decide +kernel
theorem dX1_dropLast_1 : decode cX1_dropLast 1 = .ok (.getfield 25, 3) := by decide +kernel
theorem dX1_dropLast_4 : decode cX1_dropLast 4 = .ok (.ifCond .le 13, 3) := by decide +kernel
theorem dX1_dropLast_7 : decode cX1_dropLast 7 = .ok (.aload_n 0, 1) := by decide +kernel
theorem dX1_dropLast_8 : decode cX1_dropLast 8 = .ok (.dup, 1) := by decide +kernel
theorem dX1_dropLast_9 : decode cX1_dropLast 9 = .ok (.getfield 25, 3) := by decide +kernel
theorem dX1_dropLast_12 : decode cX1_dropLast 12 = .ok (.iconst 1, 1) := by decide +kernel
theorem dX1_dropLast_13 : decode cX1_dropLast 13 = .ok (.isub, 1) := by decide +kernel
theorem dX1_dropLast_14 : decode cX1_dropLast 14 = .ok (.putfield 25, 3) := by decide +kernel
theorem dX1_dropLast_17 : decode cX1_dropLast 17 = .ok (.return_, 1) := by decide +kernel
theorem dX1_empty_0 : decode cX1_empty 0 = .ok (.aload_n 0, 1) := by decide +kernel
theorem dX1_empty_1 : decode cX1_empty 1 = .ok (.iconst 0, 1) := by decide +kernel
theorem dX1_empty_2 : decode cX1_empty 2 = .ok (.putfield 25, 3) := by decide +kernel
theorem dX1_empty_5 : decode cX1_empty 5 = .ok (.return_, 1) := by decide +kernel
theorem dX1_quarter_0 : decode cX1_quarter 0 = .ok (.aload_n 0, 1) := by decide +kernel
theorem dX1_quarter_1 : decode cX1_quarter 1 = .ok (.iload_n 1, 1) := by decide +kernel
theorem dX1_quarter_2 : decode cX1_quarter 2 = .ok (.invokevirtual 28, 3) := by decide +kernel
theorem dX1_quarter_5 : decode cX1_quarter 5 = .ok (.ifCond .eq 12, 3) := by decide +kernel
theorem dX1_quarter_8 : decode cX1_quarter 8 = .ok (.iload_n 2, 1) := by decide +kernel
theorem dX1_quarter_9 : decode cX1_quarter 9 = .ok (.iconst 0, 1) := by decide +kernel
theorem dX1_quarter_10 : decode cX1_quarter 10 = .ok (.iconst 2, 1) := by decide +kernel
theorem dX1_quarter_11 : decode cX1_quarter 11 = .ok (.invokestatic 32, 3) := by decide +kernel
theorem dX1_quarter_14 : decode cX1_quarter 14 = .ok (.ifCond .ne 4, 3) := by decide +kernel
theorem dX1_quarter_17 : decode cX1_quarter 17 = .ok (.return_, 1) := by decide +kernel
theorem dX1_quarter_18 : decode cX1_quarter 18 = .ok (.iconst 3, 1) := by decide +kernel
theorem dX1_quarter_19 : decode cX1_quarter 19 = .ok (.iload_n 1, 1) := by decide +kernel
theorem dX1_quarter_20 : decode cX1_quarter 20 = .ok (.imul, 1) := by decide +kernel
theorem dX1_quarter_21 : decode cX1_quarter 21 = .ok (.iload_n 2, 1) := by decide +kernel
theorem dX1_quarter_22 : decode cX1_quarter 22 = .ok (.iconst 1, 1) := by decide +kernel
theorem dX1_quarter_23 : decode cX1_quarter 23 = .ok (.iadd, 1) := by decide +kernel
theorem dX1_quarter_24 : decode cX1_quarter 24 = .ok (.iconst 3, 1) := by decide +kernel
theorem dX1_quarter_25 : decode cX1_quarter 25 = .ok (.irem, 1) := by decide +kernel
theorem dX1_quarter_26 : decode cX1_quarter 26 = .ok (.iadd, 1) := by decide +kernel
theorem dX1_quarter_27 : decode cX1_quarter 27 = .ok (.istore 4, 2) := by decide +kernel
theorem dX1_quarter_29 : decode cX1_quarter 29 = .ok (.iconst 3, 1) := by decide +kernel
theorem dX1_quarter_30 : decode cX1_quarter 30 = .ok (.iload_n 1, 1) := by decide +kernel
theorem dX1_quarter_31 : decode cX1_quarter 31 = .ok (.imul, 1) := by decide +kernel
theorem dX1_quarter_32 : decode cX1_quarter 32 = .ok (.iload_n 2, 1) := by decide +kernel
theorem dX1_quarter_33 : decode cX1_quarter 33 = .ok (.iconst 2, 1) := by decide +kernel
theorem dX1_quarter_34 : decode cX1_quarter 34 = .ok (.iadd, 1) := by decide +kernel
theorem dX1_quarter_35 : decode cX1_quarter 35 = .ok (.iconst 3, 1) := by decide +kernel
theorem dX1_quarter_36 : decode cX1_quarter 36 = .ok (.irem, 1) := by decide +kernel
theorem dX1_quarter_37 : decode cX1_quarter 37 = .ok (.iadd, 1) := by decide +kernel
theorem dX1_quarter_38 : decode cX1_quarter 38 = .ok (.istore 5, 2) := by decide +kernel
theorem dX1_quarter_40 : decode cX1_quarter 40 = .ok (.iconst 0, 1) := by decide +kernel
theorem dX1_quarter_41 : decode cX1_quarter 41 = .ok (.istore 6, 2) := by decide +kernel
theorem dX1_quarter_43 : decode cX1_quarter 43 = .ok (.iload 6, 2) := by decide +kernel
theorem dX1_quarter_45 : decode cX1_quarter 45 = .ok (.iload_n 3, 1) := by decide +kernel
theorem dX1_quarter_46 : decode cX1_quarter 46 = .ok (.if_icmp .ge 42, 3) := by decide +kernel
theorem dX1_quarter_49 : decode cX1_quarter 49 = .ok (.aload_n 0, 1) := by decide +kernel
theorem dX1_quarter_50 : decode cX1_quarter 50 = .ok (.getfield 21, 3) := by decide +kernel
theorem dX1_quarter_53 : decode cX1_quarter 53 = .ok (.iload 4, 2) := by decide +kernel
theorem dX1_quarter_55 : decode cX1_quarter 55 = .ok (.iaload, 1) := by decide +kernel
theorem dX1_quarter_56 : decode cX1_quarter 56 = .ok (.istore 7, 2) := by decide +kernel
theorem dX1_quarter_58 : decode cX1_quarter 58 = .ok (.aload_n 0, 1) := by decide +kernel
theorem dX1_quarter_59 : decode cX1_quarter 59 = .ok (.getfield 21, 3) := by decide +kernel
theorem dX1_quarter_62 : decode cX1_quarter 62 = .ok (.iload 4, 2) := by decide +kernel
theorem dX1_quarter_64 : decode cX1_quarter 64 = .ok (.aload_n 0, 1) := by decide +kernel
theorem dX1_quarter_65 : decode cX1_quarter 65 = .ok (.getfield 21, 3) := by decide +kernel
theorem dX1_quarter_68 : decode cX1_quarter 68 = .ok (.iload 5, 2) := by decide +kernel
theorem dX1_quarter_70 : decode cX1_quarter 70 = .ok (.iaload, 1) := by decide +kernel
theorem dX1_quarter_71 : decode cX1_quarter 71 = .ok (.ineg, 1) := by decide +kernel
theorem dX1_quarter_72 : decode cX1_quarter 72 = .ok (.iastore, 1) := by decide +kernel
theorem dX1_quarter_73 : decode cX1_quarter 73 = .ok (.aload_n 0, 1) := by decide +kernel
theorem dX1_quarter_74 : decode cX1_quarter 74 = .ok (.getfield 21, 3) := by decide +kernel
theorem dX1_quarter_77 : decode cX1_quarter 77 = .ok (.iload 5, 2) := by decide +kernel
theorem dX1_quarter_79 : decode cX1_quarter 79 = .ok (.iload 7, 2) := by decide +kernel
theorem dX1_quarter_81 : decode cX1_quarter 81 = .ok (.iastore, 1) := by decide +kernel
theorem dX1_quarter_82 : decode cX1_quarter 82 = .ok (.iinc 6 1, 3) := by decide +kernel
theorem dX1_quarter_85 : decode cX1_quarter 85 = .ok (.goto (-42), 3) := by decide +kernel
theorem dX1_quarter_88 : decode cX1_quarter 88 = .ok (.return_, 1) := by decide +kernel
theorem dX1_blur_0 : decode cX1_blur 0 = .ok (.aload_n 0, 1) := by decide +kernel
theorem dX1_blur_1 : decode cX1_blur 1 = .ok (.iload_n 1, 1) := by decide +kernel
theorem dX1_blur_2 : decode cX1_blur 2 = .ok (.invokevirtual 28, 3) := by decide +kernel
theorem dX1_blur_5 : decode cX1_blur 5 = .ok (.ifCond .eq 8, 3) := by decide +kernel
theorem dX1_blur_8 : decode cX1_blur 8 = .ok (.iload_n 2, 1) := by decide +kernel
theorem dX1_blur_9 : decode cX1_blur 9 = .ok (.iconst 1, 1) := by decide +kernel
theorem dX1_blur_10 : decode cX1_blur 10 = .ok (.if_icmp .ge 5, 3) := by decide +kernel
theorem dX1_blur_13 : decode cX1_blur 13 = .ok (.iload_n 3, 1) := by decide +kernel
theorem dX1_blur_14 : decode cX1_blur 14 = .ok (.ireturn, 1) := by decide +kernel
theorem dX1_blur_15 : decode cX1_blur 15 = .ok (.iload_n 3, 1) := by decide +kernel
theorem dX1_blur_16 : decode cX1_blur 16 = .ok (.istore 4, 2) := by decide +kernel
theorem dX1_blur_18 : decode cX1_blur 18 = .ok (.iconst 3, 1) := by decide +kernel
theorem dX1_blur_19 : decode cX1_blur 19 = .ok (.iload_n 1, 1) := by decide +kernel
theorem dX1_blur_20 : decode cX1_blur 20 = .ok (.imul, 1) := by decide +kernel
theorem dX1_blur_21 : decode cX1_blur 21 = .ok (.istore 5, 2) := by decide +kernel
theorem dX1_blur_23 : decode cX1_blur 23 = .ok (.iload 5, 2) := by decide +kernel
theorem dX1_blur_25 : decode cX1_blur 25 = .ok (.iconst 3, 1) := by decide +kernel
theorem dX1_blur_26 : decode cX1_blur 26 = .ok (.iload_n 1, 1) := by decide +kernel
theorem dX1_blur_27 : decode cX1_blur 27 = .ok (.imul, 1) := by decide +kernel
theorem dX1_blur_28 : decode cX1_blur 28 = .ok (.iconst 3, 1) := by decide +kernel
theorem dX1_blur_29 : decode cX1_blur 29 = .ok (.iadd, 1) := by decide +kernel
theorem dX1_blur_30 : decode cX1_blur 30 = .ok (.if_icmp .ge 62, 3) := by decide +kernel
theorem dX1_blur_33 : decode cX1_blur 33 = .ok (.ldc 40, 2) := by decide +kernel
theorem dX1_blur_35 : decode cX1_blur 35 = .ok (.iload 4, 2) := by decide +kernel
theorem dX1_blur_37 : decode cX1_blur 37 = .ok (.imul, 1) := by decide +kernel
theorem dX1_blur_38 : decode cX1_blur 38 = .ok (.sipush 12345, 3) := by decide +kernel
theorem dX1_blur_41 : decode cX1_blur 41 = .ok (.iadd, 1) := by decide +kernel
theorem dX1_blur_42 : decode cX1_blur 42 = .ok (.istore 4, 2) := by decide +kernel
theorem dX1_blur_44 : decode cX1_blur 44 = .ok (.aload_n 0, 1) := by decide +kernel
theorem dX1_blur_45 : decode cX1_blur 45 = .ok (.getfield 21, 3) := by decide +kernel
theorem dX1_blur_48 : decode cX1_blur 48 = .ok (.iload 5, 2) := by decide +kernel
theorem dX1_blur_50 : decode cX1_blur 50 = .ok (.iaload, 1) := by decide +kernel
theorem dX1_blur_51 : decode cX1_blur 51 = .ok (.iload 4, 2) := by decide +kernel
theorem dX1_blur_53 : decode cX1_blur 53 = .ok (.bipush 16, 2) := by decide +kernel
theorem dX1_blur_55 : decode cX1_blur 55 = .ok (.iushr, 1) := by decide +kernel
theorem dX1_blur_56 : decode cX1_blur 56 = .ok (.iconst 2, 1) := by decide +kernel
theorem dX1_blur_57 : decode cX1_blur 57 = .ok (.iload_n 2, 1) := by decide +kernel
theorem dX1_blur_58 : decode cX1_blur 58 = .ok (.imul, 1) := by decide +kernel
theorem dX1_blur_59 : decode cX1_blur 59 = .ok (.iconst 1, 1) := by decide +kernel
theorem dX1_blur_60 : decode cX1_blur 60 = .ok (.iadd, 1) := by decide +kernel
theorem dX1_blur_61 : decode cX1_blur 61 = .ok (.irem, 1) := by decide +kernel
theorem dX1_blur_62 : decode cX1_blur 62 = .ok (.iadd, 1) := by decide +kernel
theorem dX1_blur_63 : decode cX1_blur 63 = .ok (.iload_n 2, 1) := by decide +kernel
theorem dX1_blur_64 : decode cX1_blur 64 = .ok (.isub, 1) := by decide +kernel
theorem dX1_blur_65 : decode cX1_blur 65 = .ok (.istore 6, 2) := by decide +kernel
theorem dX1_blur_67 : decode cX1_blur 67 = .ok (.aload_n 0, 1) := by decide +kernel
theorem dX1_blur_68 : decode cX1_blur 68 = .ok (.getfield 21, 3) := by decide +kernel
theorem dX1_blur_71 : decode cX1_blur 71 = .ok (.iload 5, 2) := by decide +kernel
theorem dX1_blur_73 : decode cX1_blur 73 = .ok (.bipush (-100), 2) := by decide +kernel
theorem dX1_blur_75 : decode cX1_blur 75 = .ok (.bipush 100, 2) := by decide +kernel
theorem dX1_blur_77 : decode cX1_blur 77 = .ok (.iload 6, 2) := by decide +kernel
theorem dX1_blur_79 : decode cX1_blur 79 = .ok (.invokestatic 41, 3) := by decide +kernel
theorem dX1_blur_82 : decode cX1_blur 82 = .ok (.invokestatic 9, 3) := by decide +kernel
theorem dX1_blur_85 : decode cX1_blur 85 = .ok (.iastore, 1) := by decide +kernel
theorem dX1_blur_86 : decode cX1_blur 86 = .ok (.iinc 5 1, 3) := by decide +kernel
theorem dX1_blur_89 : decode cX1_blur 89 = .ok (.goto (-66), 3) := by decide +kernel
theorem dX1_blur_92 : decode cX1_blur 92 = .ok (.aload_n 0, 1) := by decide +kernel
theorem dX1_blur_93 : decode cX1_blur 93 = .ok (.getfield 21, 3) := by decide +kernel
theorem dX1_blur_96 : decode cX1_blur 96 = .ok (.iconst 3, 1) := by decide +kernel
theorem dX1_blur_97 : decode cX1_blur 97 = .ok (.iload_n 1, 1) := by decide +kernel
theorem dX1_blur_98 : decode cX1_blur 98 = .ok (.imul, 1) := by decide +kernel
theorem dX1_blur_99 : decode cX1_blur 99 = .ok (.iaload, 1) := by decide +kernel
theorem dX1_blur_100 : decode cX1_blur 100 = .ok (.ifCond .ne 40, 3) := by decide +kernel
theorem dX1_blur_103 : decode cX1_blur 103 = .ok (.aload_n 0, 1) := by decide +kernel
theorem dX1_blur_104 : decode cX1_blur 104 = .ok (.getfield 21, 3) := by decide +kernel
theorem dX1_blur_107 : decode cX1_blur 107 = .ok (.iconst 3, 1) := by decide +kernel
theorem dX1_blur_108 : decode cX1_blur 108 = .ok (.iload_n 1, 1) := by decide +kernel
theorem dX1_blur_109 : decode cX1_blur 109 = .ok (.imul, 1) := by decide +kernel
theorem dX1_blur_110 : decode cX1_blur 110 = .ok (.iconst 1, 1) := by decide +kernel
theorem dX1_blur_111 : decode cX1_blur 111 = .ok (.iadd, 1) := by decide +kernel
theorem dX1_blur_112 : decode cX1_blur 112 = .ok (.iaload, 1) := by decide +kernel
theorem dX1_blur_113 : decode cX1_blur 113 = .ok (.ifCond .ne 27, 3) := by decide +kernel
theorem dX1_blur_116 : decode cX1_blur 116 = .ok (.aload_n 0, 1) := by decide +kernel
theorem dX1_blur_117 : decode cX1_blur 117 = .ok (.getfield 21, 3) := by decide +kernel
theorem dX1_blur_120 : decode cX1_blur 120 = .ok (.iconst 3, 1) := by decide +kernel
theorem dX1_blur_121 : decode cX1_blur 121 = .ok (.iload_n 1, 1) := by decide +kernel
theorem dX1_blur_122 : decode cX1_blur 122 = .ok (.imul, 1) := by decide +kernel
theorem dX1_blur_123 : decode cX1_blur 123 = .ok (.iconst 2, 1) := by decide +kernel
theorem dX1_blur_124 : decode cX1_blur 124 = .ok (.iadd, 1) := by decide +kernel
theorem dX1_blur_125 : decode cX1_blur 125 = .ok (.iaload, 1) := by decide +kernel
theorem dX1_blur_126 : decode cX1_blur 126 = .ok (.ifCond .ne 14, 3) := by decide +kernel
theorem dX1_blur_129 : decode cX1_blur 129 = .ok (.aload_n 0, 1) := by decide +kernel
theorem dX1_blur_130 : decode cX1_blur 130 = .ok (.getfield 21, 3) := by decide +kernel
theorem dX1_blur_133 : decode cX1_blur 133 = .ok (.iconst 3, 1) := by decide +kernel
theorem dX1_blur_134 : decode cX1_blur 134 = .ok (.iload_n 1, 1) := by decide +kernel
theorem dX1_blur_135 : decode cX1_blur 135 = .ok (.imul, 1) := by decide +kernel
theorem dX1_blur_136 : decode cX1_blur 136 = .ok (.iconst 2, 1) := by decide +kernel
theorem dX1_blur_137 : decode cX1_blur 137 = .ok (.iadd, 1) := by decide +kernel
theorem dX1_blur_138 : decode cX1_blur 138 = .ok (.iconst 1, 1) := by decide +kernel
theorem dX1_blur_139 : decode cX1_blur 139 = .ok (.iastore, 1) := by decide +kernel
theorem dX1_blur_140 : decode cX1_blur 140 = .ok (.iload 4, 2) := by decide +kernel
theorem dX1_blur_142 : decode cX1_blur 142 = .ok (.ireturn, 1) := by decide +kernel
theorem dX1_sideOf_0 : decode cX1_sideOf 0 = .ok (.aload_n 0, 1) := by decide +kernel
theorem dX1_sideOf_1 : decode cX1_sideOf 1 = .ok (.iload_n 1, 1) := by decide +kernel
theorem dX1_sideOf_2 : decode cX1_sideOf 2 = .ok (.iconst 0, 1) := by decide +kernel
theorem dX1_sideOf_3 : decode cX1_sideOf 3 = .ok (.invokevirtual 44, 3) := by decide +kernel
theorem dX1_sideOf_6 : decode cX1_sideOf 6 = .ok (.aload_n 0, 1) := by decide +kernel
theorem dX1_sideOf_7 : decode cX1_sideOf 7 = .ok (.iload_n 2, 1) := by decide +kernel
theorem dX1_sideOf_8 : decode cX1_sideOf 8 = .ok (.iconst 0, 1) := by decide +kernel
theorem dX1_sideOf_9 : decode cX1_sideOf 9 = .ok (.invokevirtual 44, 3) := by decide +kernel
theorem dX1_sideOf_12 : decode cX1_sideOf 12 = .ok (.isub, 1) := by decide +kernel
theorem dX1_sideOf_13 : decode cX1_sideOf 13 = .ok (.istore_n 3, 1) := by decide +kernel
theorem dX1_sideOf_14 : decode cX1_sideOf 14 = .ok (.aload_n 0, 1) := by decide +kernel
theorem dX1_sideOf_15 : decode cX1_sideOf 15 = .ok (.iload_n 1, 1) := by decide +kernel
theorem dX1_sideOf_16 : decode cX1_sideOf 16 = .ok (.iconst 1, 1) := by decide +kernel
theorem dX1_sideOf_17 : decode cX1_sideOf 17 = .ok (.invokevirtual 44, 3) := by decide +kernel
theorem dX1_sideOf_20 : decode cX1_sideOf 20 = .ok (.aload_n 0, 1) := by decide +kernel
theorem dX1_sideOf_21 : decode cX1_sideOf 21 = .ok (.iload_n 2, 1) := by decide +kernel
theorem dX1_sideOf_22 : decode cX1_sideOf 22 = .ok (.iconst 1, 1) := by decide +kernel
theorem dX1_sideOf_23 : decode cX1_sideOf 23 = .ok (.invokevirtual 44, 3) := by decide +kernel
theorem dX1_sideOf_26 : decode cX1_sideOf 26 = .ok (.isub, 1) := by decide +kernel
theorem dX1_sideOf_27 : decode cX1_sideOf 27 = .ok (.istore 4, 2) := by decide +kernel
theorem dX1_sideOf_29 : decode cX1_sideOf 29 = .ok (.aload_n 0, 1) := by decide +kernel
theorem dX1_sideOf_30 : decode cX1_sideOf 30 = .ok (.iload_n 1, 1) := by decide +kernel
theorem dX1_sideOf_31 : decode cX1_sideOf 31 = .ok (.iconst 2, 1) := by decide +kernel
theorem dX1_sideOf_32 : decode cX1_sideOf 32 = .ok (.invokevirtual 44, 3) := by decide +kernel
theorem dX1_sideOf_35 : decode cX1_sideOf 35 = .ok (.aload_n 0, 1) := by decide +kernel
theorem dX1_sideOf_36 : decode cX1_sideOf 36 = .ok (.iload_n 2, 1) := by decide +kernel
theorem dX1_sideOf_37 : decode cX1_sideOf 37 = .ok (.iconst 2, 1) := by decide +kernel
theorem dX1_sideOf_38 : decode cX1_sideOf 38 = .ok (.invokevirtual 44, 3) := by decide +kernel
theorem dX1_sideOf_41 : decode cX1_sideOf 41 = .ok (.isub, 1) := by decide +kernel
theorem dX1_sideOf_42 : decode cX1_sideOf 42 = .ok (.istore 5, 2) := by decide +kernel
theorem dX1_sideOf_44 : decode cX1_sideOf 44 = .ok (.iload_n 3, 1) := by decide +kernel
theorem dX1_sideOf_45 : decode cX1_sideOf 45 = .ok (.iload_n 3, 1) := by decide +kernel
theorem dX1_sideOf_46 : decode cX1_sideOf 46 = .ok (.imul, 1) := by decide +kernel
theorem dX1_sideOf_47 : decode cX1_sideOf 47 = .ok (.iload 4, 2) := by decide +kernel
theorem dX1_sideOf_49 : decode cX1_sideOf 49 = .ok (.iload 4, 2) := by decide +kernel
theorem dX1_sideOf_51 : decode cX1_sideOf 51 = .ok (.imul, 1) := by decide +kernel
theorem dX1_sideOf_52 : decode cX1_sideOf 52 = .ok (.iadd, 1) := by decide +kernel
theorem dX1_sideOf_53 : decode cX1_sideOf 53 = .ok (.iload 5, 2) := by decide +kernel
theorem dX1_sideOf_55 : decode cX1_sideOf 55 = .ok (.iload 5, 2) := by decide +kernel
theorem dX1_sideOf_57 : decode cX1_sideOf 57 = .ok (.imul, 1) := by decide +kernel
theorem dX1_sideOf_58 : decode cX1_sideOf 58 = .ok (.iadd, 1) := by decide +kernel
theorem dX1_sideOf_59 : decode cX1_sideOf 59 = .ok (.ireturn, 1) := by decide +kernel
theorem dX1_fillSides_0 : decode cX1_fillSides 0 = .ok (.aload_n 1, 1) := by decide +kernel
theorem dX1_fillSides_1 : decode cX1_fillSides 1 = .ok (.arraylength, 1) := by decide +kernel
theorem dX1_fillSides_2 : decode cX1_fillSides 2 = .ok (.aload_n 0, 1) := by decide +kernel
theorem dX1_fillSides_3 : decode cX1_fillSides 3 = .ok (.getfield 15, 3) := by decide +kernel
theorem dX1_fillSides_6 : decode cX1_fillSides 6 = .ok (.aload_n 0, 1) := by decide +kernel
theorem dX1_fillSides_7 : decode cX1_fillSides 7 = .ok (.getfield 15, 3) := by decide +kernel
theorem dX1_fillSides_10 : decode cX1_fillSides 10 = .ok (.imul, 1) := by decide +kernel
theorem dX1_fillSides_11 : decode cX1_fillSides 11 = .ok (.if_icmp .ge 4, 3) := by decide +kernel
theorem dX1_fillSides_14 : decode cX1_fillSides 14 = .ok (.return_, 1) := by decide +kernel
theorem dX1_fillSides_15 : decode cX1_fillSides 15 = .ok (.iconst 0, 1) := by decide +kernel
theorem dX1_fillSides_16 : decode cX1_fillSides 16 = .ok (.istore_n 2, 1) := by decide +kernel
theorem dX1_fillSides_17 : decode cX1_fillSides 17 = .ok (.iload_n 2, 1) := by decide +kernel
theorem dX1_fillSides_18 : decode cX1_fillSides 18 = .ok (.aload_n 0, 1) := by decide +kernel
theorem dX1_fillSides_19 : decode cX1_fillSides 19 = .ok (.getfield 25, 3) := by decide +kernel
theorem dX1_fillSides_22 : decode cX1_fillSides 22 = .ok (.if_icmp .ge 41, 3) := by decide +kernel
theorem dX1_fillSides_25 : decode cX1_fillSides 25 = .ok (.iconst 0, 1) := by decide +kernel
theorem dX1_fillSides_26 : decode cX1_fillSides 26 = .ok (.istore_n 3, 1) := by decide +kernel
theorem dX1_fillSides_27 : decode cX1_fillSides 27 = .ok (.iload_n 3, 1) := by decide +kernel
theorem dX1_fillSides_28 : decode cX1_fillSides 28 = .ok (.aload_n 0, 1) := by decide +kernel
theorem dX1_fillSides_29 : decode cX1_fillSides 29 = .ok (.getfield 25, 3) := by decide +kernel
theorem dX1_fillSides_32 : decode cX1_fillSides 32 = .ok (.if_icmp .ge 25, 3) := by decide +kernel
theorem dX1_fillSides_35 : decode cX1_fillSides 35 = .ok (.aload_n 1, 1) := by decide +kernel
theorem dX1_fillSides_36 : decode cX1_fillSides 36 = .ok (.iload_n 2, 1) := by decide +kernel
theorem dX1_fillSides_37 : decode cX1_fillSides 37 = .ok (.aload_n 0, 1) := by decide +kernel
theorem dX1_fillSides_38 : decode cX1_fillSides 38 = .ok (.getfield 15, 3) := by decide +kernel
theorem dX1_fillSides_41 : decode cX1_fillSides 41 = .ok (.imul, 1) := by decide +kernel
theorem dX1_fillSides_42 : decode cX1_fillSides 42 = .ok (.iload_n 3, 1) := by decide +kernel
theorem dX1_fillSides_43 : decode cX1_fillSides 43 = .ok (.iadd, 1) := by decide +kernel
theorem dX1_fillSides_44 : decode cX1_fillSides 44 = .ok (.aload_n 0, 1) := by decide +kernel
theorem dX1_fillSides_45 : decode cX1_fillSides 45 = .ok (.iload_n 2, 1) := by decide +kernel
theorem dX1_fillSides_46 : decode cX1_fillSides 46 = .ok (.iload_n 3, 1) := by decide +kernel
theorem dX1_fillSides_47 : decode cX1_fillSides 47 = .ok (.invokevirtual 47, 3) := by decide +kernel
theorem dX1_fillSides_50 : decode cX1_fillSides 50 = .ok (.iastore, 1) := by decide +kernel
theorem dX1_fillSides_51 : decode cX1_fillSides 51 = .ok (.iinc 3 1, 3) := by decide +kernel
theorem dX1_fillSides_54 : decode cX1_fillSides 54 = .ok (.goto (-27), 3) := by decide +kernel
theorem dX1_fillSides_57 : decode cX1_fillSides 57 = .ok (.iinc 2 1, 3) := by decide +kernel
theorem dX1_fillSides_60 : decode cX1_fillSides 60 = .ok (.goto (-43), 3) := by decide +kernel
theorem dX1_fillSides_63 : decode cX1_fillSides 63 = .ok (.return_, 1) := by decide +kernel
theorem dX2_init_0 : decode cX2_init 0 = .ok (.aload_n 0, 1) := by decide +kernel
theorem dX2_init_1 : decode cX2_init 1 = .ok (.invokespecial 3, 3) := by decide +kernel
theorem dX2_init_4 : decode cX2_init 4 = .ok (.aload_n 0, 1) := by decide +kernel
theorem dX2_init_5 : decode cX2_init 5 = .ok (.bipush 8, 2) := by decide +kernel
theorem dX2_init_7 : decode cX2_init 7 = .ok (.newarray .int, 2) := by decide +kernel
theorem dX2_init_9 : decode cX2_init 9 = .ok (.putfield 9, 3) := by decide +kernel
theorem dX2_init_12 : decode cX2_init 12 = .ok (.aload_n 0, 1) := by decide +kernel
theorem dX2_init_13 : decode cX2_init 13 = .ok (.bipush 8, 2) := by decide +kernel
theorem dX2_init_15 : decode cX2_init 15 = .ok (.newarray .int, 2) := by decide +kernel
theorem dX2_init_17 : decode cX2_init 17 = .ok (.putfield 15, 3) := by decide +kernel
theorem dX2_init_20 : decode cX2_init 20 = .ok (.aload_n 0, 1) := by decide +kernel
theorem dX2_init_21 : decode cX2_init 21 = .ok (.bipush 8, 2) := by decide +kernel
theorem dX2_init_23 : decode cX2_init 23 = .ok (.newarray .int, 2) := by decide +kernel
theorem dX2_init_25 : decode cX2_init 25 = .ok (.putfield 18, 3) := by decide +kernel
theorem dX2_init_28 : decode cX2_init 28 = .ok (.aload_n 0, 1) := by decide +kernel
theorem dX2_init_29 : decode cX2_init 29 = .ok (.bipush 8, 2) := by decide +kernel
theorem dX2_init_31 : decode cX2_init 31 = .ok (.newarray .int, 2) := by decide +kernel
theorem dX2_init_33 : decode cX2_init 33 = .ok (.putfield 21, 3) := by decide +kernel
theorem dX2_init_36 : decode cX2_init 36 = .ok (.aload_n 0, 1) := by decide +kernel
theorem dX2_init_37 : decode cX2_init 37 = .ok (.bipush 8, 2) := by decide +kernel
theorem dX2_init_39 : decode cX2_init 39 = .ok (.newarray .int, 2) := by decide +kernel
theorem dX2_init_41 : decode cX2_init 41 = .ok (.putfield 24, 3) := by decide +kernel
theorem dX2_init_44 : decode cX2_init 44 = .ok (.aload_n 0, 1) := by decide +kernel
theorem dX2_init_45 : decode cX2_init 45 = .ok (.bipush 36, 2) := by decide +kernel
theorem dX2_init_47 : decode cX2_init 47 = .ok (.newarray .int, 2) := by decide +kernel
theorem dX2_init_49 : decode cX2_init 49 = .ok (.putfield 27, 3) := by decide +kernel
theorem dX2_init_52 : decode cX2_init 52 = .ok (.aload_n 0, 1) := by decide +kernel
theorem dX2_init_53 : decode cX2_init 53 = .ok (.new 30, 3) := by decide +kernel
theorem dX2_init_56 : decode cX2_init 56 = .ok (.dup, 1) := by decide +kernel
theorem dX2_init_57 : decode cX2_init 57 = .ok (.invokespecial 32, 3) := by decide +kernel
theorem dX2_init_60 : decode cX2_init 60 = .ok (.putfield 33, 3) := by decide +kernel
theorem dX2_init_63 : decode cX2_init 63 = .ok (.aload_n 0, 1) := by decide +kernel
theorem dX2_init_64 : decode cX2_init 64 = .ok (.new 30, 3) := by decide +kernel
theorem dX2_init_67 : decode cX2_init 67 = .ok (.dup, 1) := by decide +kernel
theorem dX2_init_68 : decode cX2_init 68 = .ok (.invokespecial 32, 3) := by decide +kernel
theorem dX2_init_71 : decode cX2_init 71 = .ok (.putfield 37, 3) := by decide +kernel
theorem dX2_init_74 : decode cX2_init 74 = .ok (.return_, 1) := by decide +kernel
theorem dX2_solve_0 : decode cX2_solve 0 = .ok (.aload_n 0, 1) := by decide +kernel
theorem dX2_solve_1 : decode cX2_solve 1 = .ok (.aload_n 1, 1) := by decide +kernel
theorem dX2_solve_2 : decode cX2_solve 2 = .ok (.invokevirtual 40, 3) := by decide +kernel
theorem dX2_solve_5 : decode cX2_solve 5 = .ok (.aload_n 2, 1) := by decide +kernel
theorem dX2_solve_6 : decode cX2_solve 6 = .ok (.invokevirtual 40, 3) := by decide +kernel
theorem dX2_solve_9 : decode cX2_solve 9 = .ok (.aload_n 3, 1) := by decide +kernel
theorem dX2_solve_10 : decode cX2_solve 10 = .ok (.aload 4, 2) := by decide +kernel
theorem dX2_solve_12 : decode cX2_solve 12 = .ok (.iconst 2, 1) := by decide +kernel
theorem dX2_solve_13 : decode cX2_solve 13 = .ok (.iaload, 1) := by decide +kernel
theorem dX2_solve_14 : decode cX2_solve 14 = .ok (.invokevirtual 46, 3) := by decide +kernel
theorem dX2_solve_17 : decode cX2_solve 17 = .ok (.aload_n 0, 1) := by decide +kernel
theorem dX2_solve_18 : decode cX2_solve 18 = .ok (.aload_n 1, 1) := by decide +kernel
theorem dX2_solve_19 : decode cX2_solve 19 = .ok (.aload_n 2, 1) := by decide +kernel
theorem dX2_solve_20 : decode cX2_solve 20 = .ok (.invokevirtual 50, 3) := by decide +kernel
theorem dX2_solve_23 : decode cX2_solve 23 = .ok (.aload_n 0, 1) := by decide +kernel
theorem dX2_solve_24 : decode cX2_solve 24 = .ok (.aload_n 1, 1) := by decide +kernel
theorem dX2_solve_25 : decode cX2_solve 25 = .ok (.invokevirtual 40, 3) := by decide +kernel
theorem dX2_solve_28 : decode cX2_solve 28 = .ok (.aload_n 2, 1) := by decide +kernel
theorem dX2_solve_29 : decode cX2_solve 29 = .ok (.aload 4, 2) := by decide +kernel
theorem dX2_solve_31 : decode cX2_solve 31 = .ok (.iconst 3, 1) := by decide +kernel
theorem dX2_solve_32 : decode cX2_solve 32 = .ok (.iaload, 1) := by decide +kernel
theorem dX2_solve_33 : decode cX2_solve 33 = .ok (.iload 5, 2) := by decide +kernel
theorem dX2_solve_35 : decode cX2_solve 35 = .ok (.invokevirtual 54, 3) := by decide +kernel
theorem dX2_solve_38 : decode cX2_solve 38 = .ok (.return_, 1) := by decide +kernel
theorem dX2_takePairs_0 : decode cX2_takePairs 0 = .ok (.aload_n 0, 1) := by decide +kernel
theorem dX2_takePairs_1 : decode cX2_takePairs 1 = .ok (.getfield 9, 3) := by decide +kernel
theorem dX2_takePairs_4 : decode cX2_takePairs 4 = .ok (.iconst (-1), 1) := by decide +kernel
theorem dX2_takePairs_5 : decode cX2_takePairs 5 = .ok (.invokestatic 58, 3) := by decide +kernel
theorem dX2_takePairs_8 : decode cX2_takePairs 8 = .ok (.aload_n 0, 1) := by decide +kernel
theorem dX2_takePairs_9 : decode cX2_takePairs 9 = .ok (.getfield 15, 3) := by decide +kernel
theorem dX2_takePairs_12 : decode cX2_takePairs 12 = .ok (.iconst (-1), 1) := by decide +kernel
theorem dX2_takePairs_13 : decode cX2_takePairs 13 = .ok (.invokestatic 58, 3) := by decide +kernel
theorem dX2_takePairs_16 : decode cX2_takePairs 16 = .ok (.aload_n 0, 1) := by decide +kernel
theorem dX2_takePairs_17 : decode cX2_takePairs 17 = .ok (.iconst 0, 1) := by decide +kernel
theorem dX2_takePairs_18 : decode cX2_takePairs 18 = .ok (.putfield 64, 3) := by decide +kernel
theorem dX2_takePairs_21 : decode cX2_takePairs 21 = .ok (.aload_n 0, 1) := by decide +kernel
theorem dX2_takePairs_22 : decode cX2_takePairs 22 = .ok (.iconst 0, 1) := by decide +kernel
theorem dX2_takePairs_23 : decode cX2_takePairs 23 = .ok (.putfield 68, 3) := by decide +kernel
theorem dX2_takePairs_26 : decode cX2_takePairs 26 = .ok (.iconst 0, 1) := by decide +kernel
theorem dX2_takePairs_27 : decode cX2_takePairs 27 = .ok (.istore 5, 2) := by decide +kernel
theorem dX2_takePairs_29 : decode cX2_takePairs 29 = .ok (.iload 5, 2) := by decide +kernel
theorem dX2_takePairs_31 : decode cX2_takePairs 31 = .ok (.iload_n 2, 1) := by decide +kernel
theorem dX2_takePairs_32 : decode cX2_takePairs 32 = .ok (.if_icmp .ge 93, 3) := by decide +kernel
theorem dX2_takePairs_35 : decode cX2_takePairs 35 = .ok (.aload_n 0, 1) := by decide +kernel
theorem dX2_takePairs_36 : decode cX2_takePairs 36 = .ok (.iload_n 1, 1) := by decide +kernel
theorem dX2_takePairs_37 : decode cX2_takePairs 37 = .ok (.iload_n 2, 1) := by decide +kernel
theorem dX2_takePairs_38 : decode cX2_takePairs 38 = .ok (.aload_n 3, 1) := by decide +kernel
theorem dX2_takePairs_39 : decode cX2_takePairs 39 = .ok (.iload 4, 2) := by decide +kernel
theorem dX2_takePairs_41 : decode cX2_takePairs 41 = .ok (.invokevirtual 71, 3) := by decide +kernel
theorem dX2_takePairs_44 : decode cX2_takePairs 44 = .ok (.istore 6, 2) := by decide +kernel
theorem dX2_takePairs_46 : decode cX2_takePairs 46 = .ok (.iload 6, 2) := by decide +kernel
theorem dX2_takePairs_48 : decode cX2_takePairs 48 = .ok (.iconst (-1), 1) := by decide +kernel
theorem dX2_takePairs_49 : decode cX2_takePairs 49 = .ok (.if_icmp .ne 6, 3) := by decide +kernel
theorem dX2_takePairs_52 : decode cX2_takePairs 52 = .ok (.goto 73, 3) := by decide +kernel
theorem dX2_takePairs_55 : decode cX2_takePairs 55 = .ok (.iload 6, 2) := by decide +kernel
theorem dX2_takePairs_57 : decode cX2_takePairs 57 = .ok (.bipush 12, 2) := by decide +kernel
theorem dX2_takePairs_59 : decode cX2_takePairs 59 = .ok (.idiv, 1) := by decide +kernel
theorem dX2_takePairs_60 : decode cX2_takePairs 60 = .ok (.istore 7, 2) := by decide +kernel
theorem dX2_takePairs_62 : decode cX2_takePairs 62 = .ok (.iload 6, 2) := by decide +kernel
theorem dX2_takePairs_64 : decode cX2_takePairs 64 = .ok (.bipush 12, 2) := by decide +kernel
theorem dX2_takePairs_66 : decode cX2_takePairs 66 = .ok (.irem, 1) := by decide +kernel
theorem dX2_takePairs_67 : decode cX2_takePairs 67 = .ok (.istore 8, 2) := by decide +kernel
theorem dX2_takePairs_69 : decode cX2_takePairs 69 = .ok (.aload_n 0, 1) := by decide +kernel
theorem dX2_takePairs_70 : decode cX2_takePairs 70 = .ok (.getfield 9, 3) := by decide +kernel
theorem dX2_takePairs_73 : decode cX2_takePairs 73 = .ok (.iload 7, 2) := by decide +kernel
theorem dX2_takePairs_75 : decode cX2_takePairs 75 = .ok (.iload 8, 2) := by decide +kernel
theorem dX2_takePairs_77 : decode cX2_takePairs 77 = .ok (.iastore, 1) := by decide +kernel
theorem dX2_takePairs_78 : decode cX2_takePairs 78 = .ok (.aload_n 0, 1) := by decide +kernel
theorem dX2_takePairs_79 : decode cX2_takePairs 79 = .ok (.getfield 15, 3) := by decide +kernel
theorem dX2_takePairs_82 : decode cX2_takePairs 82 = .ok (.iload 7, 2) := by decide +kernel
theorem dX2_takePairs_84 : decode cX2_takePairs 84 = .ok (.iload 5, 2) := by decide +kernel
theorem dX2_takePairs_86 : decode cX2_takePairs 86 = .ok (.iastore, 1) := by decide +kernel
theorem dX2_takePairs_87 : decode cX2_takePairs 87 = .ok (.aload_n 0, 1) := by decide +kernel
theorem dX2_takePairs_88 : decode cX2_takePairs 88 = .ok (.getfield 18, 3) := by decide +kernel
theorem dX2_takePairs_91 : decode cX2_takePairs 91 = .ok (.iload 5, 2) := by decide +kernel
theorem dX2_takePairs_93 : decode cX2_takePairs 93 = .ok (.iload 7, 2) := by decide +kernel
theorem dX2_takePairs_95 : decode cX2_takePairs 95 = .ok (.iastore, 1) := by decide +kernel
theorem dX2_takePairs_96 : decode cX2_takePairs 96 = .ok (.aload_n 0, 1) := by decide +kernel
theorem dX2_takePairs_97 : decode cX2_takePairs 97 = .ok (.dup, 1) := by decide +kernel
theorem dX2_takePairs_98 : decode cX2_takePairs 98 = .ok (.getfield 64, 3) := by decide +kernel
theorem dX2_takePairs_101 : decode cX2_takePairs 101 = .ok (.iconst 1, 1) := by decide +kernel
theorem dX2_takePairs_102 : decode cX2_takePairs 102 = .ok (.iload 8, 2) := by decide +kernel
theorem dX2_takePairs_104 : decode cX2_takePairs 104 = .ok (.ishl, 1) := by decide +kernel
theorem dX2_takePairs_105 : decode cX2_takePairs 105 = .ok (.ior, 1) := by decide +kernel
theorem dX2_takePairs_106 : decode cX2_takePairs 106 = .ok (.putfield 64, 3) := by decide +kernel
theorem dX2_takePairs_109 : decode cX2_takePairs 109 = .ok (.aload_n 0, 1) := by decide +kernel
theorem dX2_takePairs_110 : decode cX2_takePairs 110 = .ok (.dup, 1) := by decide +kernel
theorem dX2_takePairs_111 : decode cX2_takePairs 111 = .ok (.getfield 68, 3) := by decide +kernel
theorem dX2_takePairs_114 : decode cX2_takePairs 114 = .ok (.iconst 1, 1) := by decide +kernel
theorem dX2_takePairs_115 : decode cX2_takePairs 115 = .ok (.iadd, 1) := by decide +kernel
theorem dX2_takePairs_116 : decode cX2_takePairs 116 = .ok (.putfield 68, 3) := by decide +kernel
theorem dX2_takePairs_119 : decode cX2_takePairs 119 = .ok (.iinc 5 1, 3) := by decide +kernel
theorem dX2_takePairs_122 : decode cX2_takePairs 122 = .ok (.goto (-93), 3) := by decide +kernel
theorem dX2_takePairs_125 : decode cX2_takePairs 125 = .ok (.return_, 1) := by decide +kernel
theorem dX2_surestPair_0 : decode cX2_surestPair 0 = .ok (.iconst (-1), 1) := by decide +kernel
theorem dX2_surestPair_1 : decode cX2_surestPair 1 = .ok (.istore 5, 2) := by decide +kernel
theorem dX2_surestPair_3 : decode cX2_surestPair 3 = .ok (.iload 4, 2) := by decide +kernel
theorem dX2_surestPair_5 : decode cX2_surestPair 5 = .ok (.iconst 1, 1) := by decide +kernel
theorem dX2_surestPair_6 : decode cX2_surestPair 6 = .ok (.isub, 1) := by decide +kernel
theorem dX2_surestPair_7 : decode cX2_surestPair 7 = .ok (.istore 6, 2) := by decide +kernel
theorem dX2_surestPair_9 : decode cX2_surestPair 9 = .ok (.iconst 0, 1) := by decide +kernel
theorem dX2_surestPair_10 : decode cX2_surestPair 10 = .ok (.istore 7, 2) := by decide +kernel
theorem dX2_surestPair_12 : decode cX2_surestPair 12 = .ok (.iload 7, 2) := by decide +kernel
theorem dX2_surestPair_14 : decode cX2_surestPair 14 = .ok (.iload_n 2, 1) := by decide +kernel
theorem dX2_surestPair_15 : decode cX2_surestPair 15 = .ok (.if_icmp .ge 75, 3) := by decide +kernel
theorem dX2_surestPair_18 : decode cX2_surestPair 18 = .ok (.iconst 0, 1) := by decide +kernel
theorem dX2_surestPair_19 : decode cX2_surestPair 19 = .ok (.istore 8, 2) := by decide +kernel
theorem dX2_surestPair_21 : decode cX2_surestPair 21 = .ok (.iload 8, 2) := by decide +kernel
theorem dX2_surestPair_23 : decode cX2_surestPair 23 = .ok (.iload_n 1, 1) := by decide +kernel
theorem dX2_surestPair_24 : decode cX2_surestPair 24 = .ok (.if_icmp .ge 60, 3) := by decide +kernel
theorem dX2_surestPair_27 : decode cX2_surestPair 27 = .ok (.aload_n 0, 1) := by decide +kernel
theorem dX2_surestPair_28 : decode cX2_surestPair 28 = .ok (.getfield 9, 3) := by decide +kernel
theorem dX2_surestPair_31 : decode cX2_surestPair 31 = .ok (.iload 7, 2) := by decide +kernel
theorem dX2_surestPair_33 : decode cX2_surestPair 33 = .ok (.iaload, 1) := by decide +kernel
theorem dX2_surestPair_34 : decode cX2_surestPair 34 = .ok (.iconst (-1), 1) := by decide +kernel
theorem dX2_surestPair_35 : decode cX2_surestPair 35 = .ok (.if_icmp .ne 49, 3) := by decide +kernel
theorem dX2_surestPair_38 : decode cX2_surestPair 38 = .ok (.iload 7, 2) := by decide +kernel
theorem dX2_surestPair_40 : decode cX2_surestPair 40 = .ok (.iload 8, 2) := by decide +kernel
theorem dX2_surestPair_42 : decode cX2_surestPair 42 = .ok (.invokestatic 75, 3) := by decide +kernel
theorem dX2_surestPair_45 : decode cX2_surestPair 45 = .ok (.istore 9, 2) := by decide +kernel
theorem dX2_surestPair_47 : decode cX2_surestPair 47 = .ok (.aload_n 0, 1) := by decide +kernel
theorem dX2_surestPair_48 : decode cX2_surestPair 48 = .ok (.getfield 64, 3) := by decide +kernel
theorem dX2_surestPair_51 : decode cX2_surestPair 51 = .ok (.iload 8, 2) := by decide +kernel
theorem dX2_surestPair_53 : decode cX2_surestPair 53 = .ok (.ishr, 1) := by decide +kernel
theorem dX2_surestPair_54 : decode cX2_surestPair 54 = .ok (.iconst 1, 1) := by decide +kernel
theorem dX2_surestPair_55 : decode cX2_surestPair 55 = .ok (.iand, 1) := by decide +kernel
theorem dX2_surestPair_56 : decode cX2_surestPair 56 = .ok (.ifCond .ne 22, 3) := by decide +kernel
theorem dX2_surestPair_59 : decode cX2_surestPair 59 = .ok (.aload_n 3, 1) := by decide +kernel
theorem dX2_surestPair_60 : decode cX2_surestPair 60 = .ok (.iload 9, 2) := by decide +kernel
theorem dX2_surestPair_62 : decode cX2_surestPair 62 = .ok (.iaload, 1) := by decide +kernel
theorem dX2_surestPair_63 : decode cX2_surestPair 63 = .ok (.iload 6, 2) := by decide +kernel
theorem dX2_surestPair_65 : decode cX2_surestPair 65 = .ok (.if_icmp .le 13, 3) := by decide +kernel
theorem dX2_surestPair_68 : decode cX2_surestPair 68 = .ok (.iload 9, 2) := by decide +kernel
theorem dX2_surestPair_70 : decode cX2_surestPair 70 = .ok (.istore 5, 2) := by decide +kernel
theorem dX2_surestPair_72 : decode cX2_surestPair 72 = .ok (.aload_n 3, 1) := by decide +kernel
theorem dX2_surestPair_73 : decode cX2_surestPair 73 = .ok (.iload 9, 2) := by decide +kernel
theorem dX2_surestPair_75 : decode cX2_surestPair 75 = .ok (.iaload, 1) := by decide +kernel
theorem dX2_surestPair_76 : decode cX2_surestPair 76 = .ok (.istore 6, 2) := by decide +kernel
theorem dX2_surestPair_78 : decode cX2_surestPair 78 = .ok (.iinc 8 1, 3) := by decide +kernel
theorem dX2_surestPair_81 : decode cX2_surestPair 81 = .ok (.goto (-60), 3) := by decide +kernel
theorem dX2_surestPair_84 : decode cX2_surestPair 84 = .ok (.iinc 7 1, 3) := by decide +kernel
theorem dX2_surestPair_87 : decode cX2_surestPair 87 = .ok (.goto (-75), 3) := by decide +kernel
theorem dX2_surestPair_90 : decode cX2_surestPair 90 = .ok (.iload 5, 2) := by decide +kernel
theorem dX2_surestPair_92 : decode cX2_surestPair 92 = .ok (.ireturn, 1) := by decide +kernel
theorem dX2_findTurn_0 : decode cX2_findTurn 0 = .ok (.aload_n 0, 1) := by decide +kernel
theorem dX2_findTurn_1 : decode cX2_findTurn 1 = .ok (.iconst 0, 1) := by decide +kernel
theorem dX2_findTurn_2 : decode cX2_findTurn 2 = .ok (.putfield 79, 3) := by decide +kernel
theorem dX2_findTurn_5 : decode cX2_findTurn 5 = .ok (.aload_n 0, 1) := by decide +kernel
theorem dX2_findTurn_6 : decode cX2_findTurn 6 = .ok (.getfield 68, 3) := by decide +kernel
theorem dX2_findTurn_9 : decode cX2_findTurn 9 = .ok (.iconst 2, 1) := by decide +kernel
theorem dX2_findTurn_10 : decode cX2_findTurn 10 = .ok (.if_icmp .ge 4, 3) := by decide +kernel
theorem dX2_findTurn_13 : decode cX2_findTurn 13 = .ok (.return_, 1) := by decide +kernel
theorem dX2_findTurn_14 : decode cX2_findTurn 14 = .ok (.aload_n 0, 1) := by decide +kernel
theorem dX2_findTurn_15 : decode cX2_findTurn 15 = .ok (.getfield 18, 3) := by decide +kernel
theorem dX2_findTurn_18 : decode cX2_findTurn 18 = .ok (.iconst 0, 1) := by decide +kernel
theorem dX2_findTurn_19 : decode cX2_findTurn 19 = .ok (.iaload, 1) := by decide +kernel
theorem dX2_findTurn_20 : decode cX2_findTurn 20 = .ok (.istore_n 3, 1) := by decide +kernel
theorem dX2_findTurn_21 : decode cX2_findTurn 21 = .ok (.aload_n 0, 1) := by decide +kernel
theorem dX2_findTurn_22 : decode cX2_findTurn 22 = .ok (.getfield 18, 3) := by decide +kernel
theorem dX2_findTurn_25 : decode cX2_findTurn 25 = .ok (.iconst 1, 1) := by decide +kernel
theorem dX2_findTurn_26 : decode cX2_findTurn 26 = .ok (.iaload, 1) := by decide +kernel
theorem dX2_findTurn_27 : decode cX2_findTurn 27 = .ok (.istore 4, 2) := by decide +kernel
theorem dX2_findTurn_29 : decode cX2_findTurn 29 = .ok (.aload_n 0, 1) := by decide +kernel
theorem dX2_findTurn_30 : decode cX2_findTurn 30 = .ok (.getfield 37, 3) := by decide +kernel
theorem dX2_findTurn_33 : decode cX2_findTurn 33 = .ok (.aload_n 2, 1) := by decide +kernel
theorem dX2_findTurn_34 : decode cX2_findTurn 34 = .ok (.iload_n 3, 1) := by decide +kernel
theorem dX2_findTurn_35 : decode cX2_findTurn 35 = .ok (.iload 4, 2) := by decide +kernel
theorem dX2_findTurn_37 : decode cX2_findTurn 37 = .ok (.invokevirtual 83, 3) := by decide +kernel
theorem dX2_findTurn_40 : decode cX2_findTurn 40 = .ok (.aload_n 0, 1) := by decide +kernel
theorem dX2_findTurn_41 : decode cX2_findTurn 41 = .ok (.getfield 33, 3) := by decide +kernel
theorem dX2_findTurn_44 : decode cX2_findTurn 44 = .ok (.aload_n 1, 1) := by decide +kernel
theorem dX2_findTurn_45 : decode cX2_findTurn 45 = .ok (.aload_n 0, 1) := by decide +kernel
theorem dX2_findTurn_46 : decode cX2_findTurn 46 = .ok (.getfield 9, 3) := by decide +kernel
theorem dX2_findTurn_49 : decode cX2_findTurn 49 = .ok (.iload_n 3, 1) := by decide +kernel
theorem dX2_findTurn_50 : decode cX2_findTurn 50 = .ok (.iaload, 1) := by decide +kernel
theorem dX2_findTurn_51 : decode cX2_findTurn 51 = .ok (.aload_n 0, 1) := by decide +kernel
theorem dX2_findTurn_52 : decode cX2_findTurn 52 = .ok (.getfield 9, 3) := by decide +kernel
theorem dX2_findTurn_55 : decode cX2_findTurn 55 = .ok (.iload 4, 2) := by decide +kernel
theorem dX2_findTurn_57 : decode cX2_findTurn 57 = .ok (.iaload, 1) := by decide +kernel
theorem dX2_findTurn_58 : decode cX2_findTurn 58 = .ok (.invokevirtual 83, 3) := by decide +kernel
theorem dX2_findTurn_61 : decode cX2_findTurn 61 = .ok (.aload_n 0, 1) := by decide +kernel
theorem dX2_findTurn_62 : decode cX2_findTurn 62 = .ok (.aload_n 0, 1) := by decide +kernel
theorem dX2_findTurn_63 : decode cX2_findTurn 63 = .ok (.getfield 37, 3) := by decide +kernel
theorem dX2_findTurn_66 : decode cX2_findTurn 66 = .ok (.invokevirtual 87, 3) := by decide +kernel
theorem dX2_findTurn_69 : decode cX2_findTurn 69 = .ok (.ifCond .ne 17, 3) := by decide +kernel
theorem dX2_findTurn_72 : decode cX2_findTurn 72 = .ok (.aload_n 0, 1) := by decide +kernel
theorem dX2_findTurn_73 : decode cX2_findTurn 73 = .ok (.getfield 33, 3) := by decide +kernel
theorem dX2_findTurn_76 : decode cX2_findTurn 76 = .ok (.invokevirtual 87, 3) := by decide +kernel
theorem dX2_findTurn_79 : decode cX2_findTurn 79 = .ok (.ifCond .ne 7, 3) := by decide +kernel
theorem dX2_findTurn_82 : decode cX2_findTurn 82 = .ok (.iconst 1, 1) := by decide +kernel
theorem dX2_findTurn_83 : decode cX2_findTurn 83 = .ok (.goto 4, 3) := by decide +kernel
theorem dX2_findTurn_86 : decode cX2_findTurn 86 = .ok (.iconst 0, 1) := by decide +kernel
theorem dX2_findTurn_87 : decode cX2_findTurn 87 = .ok (.putfield 79, 3) := by decide +kernel
theorem dX2_findTurn_90 : decode cX2_findTurn 90 = .ok (.iconst 0, 1) := by decide +kernel
theorem dX2_findTurn_91 : decode cX2_findTurn 91 = .ok (.istore 5, 2) := by decide +kernel
theorem dX2_findTurn_93 : decode cX2_findTurn 93 = .ok (.aload_n 0, 1) := by decide +kernel
theorem dX2_findTurn_94 : decode cX2_findTurn 94 = .ok (.getfield 79, 3) := by decide +kernel
theorem dX2_findTurn_97 : decode cX2_findTurn 97 = .ok (.ifCond .eq 45, 3) := by decide +kernel
theorem dX2_findTurn_100 : decode cX2_findTurn 100 = .ok (.iload 5, 2) := by decide +kernel
theorem dX2_findTurn_102 : decode cX2_findTurn 102 = .ok (.aload_n 1, 1) := by decide +kernel
theorem dX2_findTurn_103 : decode cX2_findTurn 103 = .ok (.invokevirtual 40, 3) := by decide +kernel
theorem dX2_findTurn_106 : decode cX2_findTurn 106 = .ok (.if_icmp .ge 36, 3) := by decide +kernel
theorem dX2_findTurn_109 : decode cX2_findTurn 109 = .ok (.aload_n 0, 1) := by decide +kernel
theorem dX2_findTurn_110 : decode cX2_findTurn 110 = .ok (.iload 5, 2) := by decide +kernel
theorem dX2_findTurn_112 : decode cX2_findTurn 112 = .ok (.aload_n 1, 1) := by decide +kernel
theorem dX2_findTurn_113 : decode cX2_findTurn 113 = .ok (.iload 5, 2) := by decide +kernel
theorem dX2_findTurn_115 : decode cX2_findTurn 115 = .ok (.iconst 0, 1) := by decide +kernel
theorem dX2_findTurn_116 : decode cX2_findTurn 116 = .ok (.invokevirtual 91, 3) := by decide +kernel
theorem dX2_findTurn_119 : decode cX2_findTurn 119 = .ok (.aload_n 1, 1) := by decide +kernel
theorem dX2_findTurn_120 : decode cX2_findTurn 120 = .ok (.iload 5, 2) := by decide +kernel
theorem dX2_findTurn_122 : decode cX2_findTurn 122 = .ok (.iconst 1, 1) := by decide +kernel
theorem dX2_findTurn_123 : decode cX2_findTurn 123 = .ok (.invokevirtual 91, 3) := by decide +kernel
theorem dX2_findTurn_126 : decode cX2_findTurn 126 = .ok (.aload_n 1, 1) := by decide +kernel
theorem dX2_findTurn_127 : decode cX2_findTurn 127 = .ok (.iload 5, 2) := by decide +kernel
theorem dX2_findTurn_129 : decode cX2_findTurn 129 = .ok (.iconst 2, 1) := by decide +kernel
theorem dX2_findTurn_130 : decode cX2_findTurn 130 = .ok (.invokevirtual 91, 3) := by decide +kernel
theorem dX2_findTurn_133 : decode cX2_findTurn 133 = .ok (.invokevirtual 94, 3) := by decide +kernel
theorem dX2_findTurn_136 : decode cX2_findTurn 136 = .ok (.iinc 5 1, 3) := by decide +kernel
theorem dX2_findTurn_139 : decode cX2_findTurn 139 = .ok (.goto (-46), 3) := by decide +kernel
theorem dX2_findTurn_142 : decode cX2_findTurn 142 = .ok (.return_, 1) := by decide +kernel
theorem dX2_findPlace_0 : decode cX2_findPlace 0 = .ok (.aload_n 0, 1) := by decide +kernel
theorem dX2_findPlace_1 : decode cX2_findPlace 1 = .ok (.getfield 33, 3) := by decide +kernel
theorem dX2_findPlace_4 : decode cX2_findPlace 4 = .ok (.iconst 0, 1) := by decide +kernel
theorem dX2_findPlace_5 : decode cX2_findPlace 5 = .ok (.invokevirtual 98, 3) := by decide +kernel
theorem dX2_findPlace_8 : decode cX2_findPlace 8 = .ok (.lstore 5, 2) := by decide +kernel
theorem dX2_findPlace_10 : decode cX2_findPlace 10 = .ok (.aload_n 0, 1) := by decide +kernel
theorem dX2_findPlace_11 : decode cX2_findPlace 11 = .ok (.getfield 33, 3) := by decide +kernel
theorem dX2_findPlace_14 : decode cX2_findPlace 14 = .ok (.iconst 1, 1) := by decide +kernel
theorem dX2_findPlace_15 : decode cX2_findPlace 15 = .ok (.invokevirtual 98, 3) := by decide +kernel
theorem dX2_findPlace_18 : decode cX2_findPlace 18 = .ok (.lstore 7, 2) := by decide +kernel
theorem dX2_findPlace_20 : decode cX2_findPlace 20 = .ok (.lload 5, 2) := by decide +kernel
theorem dX2_findPlace_22 : decode cX2_findPlace 22 = .ok (.lload 7, 2) := by decide +kernel
theorem dX2_findPlace_24 : decode cX2_findPlace 24 = .ok (.lmul, 1) := by decide +kernel
theorem dX2_findPlace_25 : decode cX2_findPlace 25 = .ok (.lstore 9, 2) := by decide +kernel
theorem dX2_findPlace_27 : decode cX2_findPlace 27 = .ok (.aload_n 0, 1) := by decide +kernel
theorem dX2_findPlace_28 : decode cX2_findPlace 28 = .ok (.getfield 33, 3) := by decide +kernel
theorem dX2_findPlace_31 : decode cX2_findPlace 31 = .ok (.iconst 0, 1) := by decide +kernel
theorem dX2_findPlace_32 : decode cX2_findPlace 32 = .ok (.iload_n 2, 1) := by decide +kernel
theorem dX2_findPlace_33 : decode cX2_findPlace 33 = .ok (.iload_n 3, 1) := by decide +kernel
theorem dX2_findPlace_34 : decode cX2_findPlace 34 = .ok (.iload 4, 2) := by decide +kernel
theorem dX2_findPlace_36 : decode cX2_findPlace 36 = .ok (.invokevirtual 102, 3) := by decide +kernel
theorem dX2_findPlace_39 : decode cX2_findPlace 39 = .ok (.lload 7, 2) := by decide +kernel
theorem dX2_findPlace_41 : decode cX2_findPlace 41 = .ok (.lmul, 1) := by decide +kernel
theorem dX2_findPlace_42 : decode cX2_findPlace 42 = .ok (.lstore 11, 2) := by decide +kernel
theorem dX2_findPlace_44 : decode cX2_findPlace 44 = .ok (.aload_n 0, 1) := by decide +kernel
theorem dX2_findPlace_45 : decode cX2_findPlace 45 = .ok (.getfield 33, 3) := by decide +kernel
theorem dX2_findPlace_48 : decode cX2_findPlace 48 = .ok (.iconst 1, 1) := by decide +kernel
theorem dX2_findPlace_49 : decode cX2_findPlace 49 = .ok (.iload_n 2, 1) := by decide +kernel
theorem dX2_findPlace_50 : decode cX2_findPlace 50 = .ok (.iload_n 3, 1) := by decide +kernel
theorem dX2_findPlace_51 : decode cX2_findPlace 51 = .ok (.iload 4, 2) := by decide +kernel
theorem dX2_findPlace_53 : decode cX2_findPlace 53 = .ok (.invokevirtual 102, 3) := by decide +kernel
theorem dX2_findPlace_56 : decode cX2_findPlace 56 = .ok (.lload 5, 2) := by decide +kernel
theorem dX2_findPlace_58 : decode cX2_findPlace 58 = .ok (.lmul, 1) := by decide +kernel
theorem dX2_findPlace_59 : decode cX2_findPlace 59 = .ok (.lstore 13, 2) := by decide +kernel
theorem dX2_findPlace_61 : decode cX2_findPlace 61 = .ok (.aload_n 0, 1) := by decide +kernel
theorem dX2_findPlace_62 : decode cX2_findPlace 62 = .ok (.getfield 33, 3) := by decide +kernel
theorem dX2_findPlace_65 : decode cX2_findPlace 65 = .ok (.iconst 2, 1) := by decide +kernel
theorem dX2_findPlace_66 : decode cX2_findPlace 66 = .ok (.iload_n 2, 1) := by decide +kernel
theorem dX2_findPlace_67 : decode cX2_findPlace 67 = .ok (.iload_n 3, 1) := by decide +kernel
theorem dX2_findPlace_68 : decode cX2_findPlace 68 = .ok (.iload 4, 2) := by decide +kernel
theorem dX2_findPlace_70 : decode cX2_findPlace 70 = .ok (.invokevirtual 102, 3) := by decide +kernel
theorem dX2_findPlace_73 : decode cX2_findPlace 73 = .ok (.lstore 15, 2) := by decide +kernel
theorem dX2_findPlace_75 : decode cX2_findPlace 75 = .ok (.iconst 0, 1) := by decide +kernel
theorem dX2_findPlace_76 : decode cX2_findPlace 76 = .ok (.istore 17, 2) := by decide +kernel
theorem dX2_findPlace_78 : decode cX2_findPlace 78 = .ok (.iload 17, 2) := by decide +kernel
theorem dX2_findPlace_80 : decode cX2_findPlace 80 = .ok (.iconst 3, 1) := by decide +kernel
theorem dX2_findPlace_81 : decode cX2_findPlace 81 = .ok (.if_icmp .ge 93, 3) := by decide +kernel
theorem dX2_findPlace_84 : decode cX2_findPlace 84 = .ok (.lload 11, 2) := by decide +kernel
theorem dX2_findPlace_86 : decode cX2_findPlace 86 = .ok (.aload_n 0, 1) := by decide +kernel
theorem dX2_findPlace_87 : decode cX2_findPlace 87 = .ok (.getfield 37, 3) := by decide +kernel
theorem dX2_findPlace_90 : decode cX2_findPlace 90 = .ok (.iconst 0, 1) := by decide +kernel
theorem dX2_findPlace_91 : decode cX2_findPlace 91 = .ok (.iload 17, 2) := by decide +kernel
theorem dX2_findPlace_93 : decode cX2_findPlace 93 = .ok (.invokevirtual 106, 3) := by decide +kernel
theorem dX2_findPlace_96 : decode cX2_findPlace 96 = .ok (.lmul, 1) := by decide +kernel
theorem dX2_findPlace_97 : decode cX2_findPlace 97 = .ok (.lload 13, 2) := by decide +kernel
theorem dX2_findPlace_99 : decode cX2_findPlace 99 = .ok (.aload_n 0, 1) := by decide +kernel
theorem dX2_findPlace_100 : decode cX2_findPlace 100 = .ok (.getfield 37, 3) := by decide +kernel
theorem dX2_findPlace_103 : decode cX2_findPlace 103 = .ok (.iconst 1, 1) := by decide +kernel
theorem dX2_findPlace_104 : decode cX2_findPlace 104 = .ok (.iload 17, 2) := by decide +kernel
theorem dX2_findPlace_106 : decode cX2_findPlace 106 = .ok (.invokevirtual 106, 3) := by decide +kernel
theorem dX2_findPlace_109 : decode cX2_findPlace 109 = .ok (.lmul, 1) := by decide +kernel
theorem dX2_findPlace_110 : decode cX2_findPlace 110 = .ok (.ladd, 1) := by decide +kernel
theorem dX2_findPlace_111 : decode cX2_findPlace 111 = .ok (.lload 15, 2) := by decide +kernel
theorem dX2_findPlace_113 : decode cX2_findPlace 113 = .ok (.aload_n 0, 1) := by decide +kernel
theorem dX2_findPlace_114 : decode cX2_findPlace 114 = .ok (.getfield 37, 3) := by decide +kernel
theorem dX2_findPlace_117 : decode cX2_findPlace 117 = .ok (.iconst 2, 1) := by decide +kernel
theorem dX2_findPlace_118 : decode cX2_findPlace 118 = .ok (.iload 17, 2) := by decide +kernel
theorem dX2_findPlace_120 : decode cX2_findPlace 120 = .ok (.invokevirtual 106, 3) := by decide +kernel
theorem dX2_findPlace_123 : decode cX2_findPlace 123 = .ok (.lmul, 1) := by decide +kernel
theorem dX2_findPlace_124 : decode cX2_findPlace 124 = .ok (.ladd, 1) := by decide +kernel
theorem dX2_findPlace_125 : decode cX2_findPlace 125 = .ok (.lstore 18, 2) := by decide +kernel
theorem dX2_findPlace_127 : decode cX2_findPlace 127 = .ok (.aload_n 0, 1) := by decide +kernel
theorem dX2_findPlace_128 : decode cX2_findPlace 128 = .ok (.getfield 27, 3) := by decide +kernel
theorem dX2_findPlace_131 : decode cX2_findPlace 131 = .ok (.iconst 3, 1) := by decide +kernel
theorem dX2_findPlace_132 : decode cX2_findPlace 132 = .ok (.iload_n 1, 1) := by decide +kernel
theorem dX2_findPlace_133 : decode cX2_findPlace 133 = .ok (.imul, 1) := by decide +kernel
theorem dX2_findPlace_134 : decode cX2_findPlace 134 = .ok (.iload 17, 2) := by decide +kernel
theorem dX2_findPlace_136 : decode cX2_findPlace 136 = .ok (.iadd, 1) := by decide +kernel
theorem dX2_findPlace_137 : decode cX2_findPlace 137 = .ok (.lload 9, 2) := by decide +kernel
theorem dX2_findPlace_139 : decode cX2_findPlace 139 = .ok (.lconst 1, 1) := by decide +kernel
theorem dX2_findPlace_140 : decode cX2_findPlace 140 = .ok (.lcmp, 1) := by decide +kernel
theorem dX2_findPlace_141 : decode cX2_findPlace 141 = .ok (.ifCond .ge 7, 3) := by decide +kernel
theorem dX2_findPlace_144 : decode cX2_findPlace 144 = .ok (.iconst 0, 1) := by decide +kernel
theorem dX2_findPlace_145 : decode cX2_findPlace 145 = .ok (.goto 22, 3) := by decide +kernel
theorem dX2_findPlace_148 : decode cX2_findPlace 148 = .ok (.ldc2_w 109, 3) := by decide +kernel
theorem dX2_findPlace_151 : decode cX2_findPlace 151 = .ok (.lload 18, 2) := by decide +kernel
theorem dX2_findPlace_153 : decode cX2_findPlace 153 = .ok (.lmul, 1) := by decide +kernel
theorem dX2_findPlace_154 : decode cX2_findPlace 154 = .ok (.lload 9, 2) := by decide +kernel
theorem dX2_findPlace_156 : decode cX2_findPlace 156 = .ok (.ladd, 1) := by decide +kernel
theorem dX2_findPlace_157 : decode cX2_findPlace 157 = .ok (.ldc2_w 109, 3) := by decide +kernel
theorem dX2_findPlace_160 : decode cX2_findPlace 160 = .ok (.lload 9, 2) := by decide +kernel
theorem dX2_findPlace_162 : decode cX2_findPlace 162 = .ok (.lmul, 1) := by decide +kernel
theorem dX2_findPlace_163 : decode cX2_findPlace 163 = .ok (.invokestatic 111, 3) := by decide +kernel
theorem dX2_findPlace_166 : decode cX2_findPlace 166 = .ok (.l2i, 1) := by decide +kernel
theorem dX2_findPlace_167 : decode cX2_findPlace 167 = .ok (.iastore, 1) := by decide +kernel
theorem dX2_findPlace_168 : decode cX2_findPlace 168 = .ok (.iinc 17 1, 3) := by decide +kernel
theorem dX2_findPlace_171 : decode cX2_findPlace 171 = .ok (.goto (-93), 3) := by decide +kernel
theorem dX2_findPlace_174 : decode cX2_findPlace 174 = .ok (.return_, 1) := by decide +kernel
theorem dX2_confirmSpots_0 : decode cX2_confirmSpots 0 = .ok (.aload_n 0, 1) := by decide +kernel
theorem dX2_confirmSpots_1 : decode cX2_confirmSpots 1 = .ok (.getfield 21, 3) := by decide +kernel
theorem dX2_confirmSpots_4 : decode cX2_confirmSpots 4 = .ok (.iconst (-1), 1) := by decide +kernel
theorem dX2_confirmSpots_5 : decode cX2_confirmSpots 5 = .ok (.invokestatic 58, 3) := by decide +kernel
theorem dX2_confirmSpots_8 : decode cX2_confirmSpots 8 = .ok (.aload_n 0, 1) := by decide +kernel
theorem dX2_confirmSpots_9 : decode cX2_confirmSpots 9 = .ok (.getfield 24, 3) := by decide +kernel
theorem dX2_confirmSpots_12 : decode cX2_confirmSpots 12 = .ok (.iconst (-1), 1) := by decide +kernel
theorem dX2_confirmSpots_13 : decode cX2_confirmSpots 13 = .ok (.invokestatic 58, 3) := by decide +kernel
theorem dX2_confirmSpots_16 : decode cX2_confirmSpots 16 = .ok (.aload_n 0, 1) := by decide +kernel
theorem dX2_confirmSpots_17 : decode cX2_confirmSpots 17 = .ok (.iconst 0, 1) := by decide +kernel
theorem dX2_confirmSpots_18 : decode cX2_confirmSpots 18 = .ok (.putfield 64, 3) := by decide +kernel
theorem dX2_confirmSpots_21 : decode cX2_confirmSpots 21 = .ok (.aload_n 0, 1) := by decide +kernel
theorem dX2_confirmSpots_22 : decode cX2_confirmSpots 22 = .ok (.iconst 0, 1) := by decide +kernel
theorem dX2_confirmSpots_23 : decode cX2_confirmSpots 23 = .ok (.putfield 117, 3) := by decide +kernel
theorem dX2_confirmSpots_26 : decode cX2_confirmSpots 26 = .ok (.iconst 0, 1) := by decide +kernel
theorem dX2_confirmSpots_27 : decode cX2_confirmSpots 27 = .ok (.istore 5, 2) := by decide +kernel
theorem dX2_confirmSpots_29 : decode cX2_confirmSpots 29 = .ok (.aload_n 0, 1) := by decide +kernel
theorem dX2_confirmSpots_30 : decode cX2_confirmSpots 30 = .ok (.getfield 79, 3) := by decide +kernel
theorem dX2_confirmSpots_33 : decode cX2_confirmSpots 33 = .ok (.ifCond .eq 128, 3) := by decide +kernel
theorem dX2_confirmSpots_36 : decode cX2_confirmSpots 36 = .ok (.iload 5, 2) := by decide +kernel
theorem dX2_confirmSpots_38 : decode cX2_confirmSpots 38 = .ok (.aload_n 2, 1) := by decide +kernel
theorem dX2_confirmSpots_39 : decode cX2_confirmSpots 39 = .ok (.invokevirtual 40, 3) := by decide +kernel
theorem dX2_confirmSpots_42 : decode cX2_confirmSpots 42 = .ok (.if_icmp .ge 119, 3) := by decide +kernel
theorem dX2_confirmSpots_45 : decode cX2_confirmSpots 45 = .ok (.aload_n 2, 1) := by decide +kernel
theorem dX2_confirmSpots_46 : decode cX2_confirmSpots 46 = .ok (.iload 5, 2) := by decide +kernel
theorem dX2_confirmSpots_48 : decode cX2_confirmSpots 48 = .ok (.iconst 0, 1) := by decide +kernel
theorem dX2_confirmSpots_49 : decode cX2_confirmSpots 49 = .ok (.invokevirtual 91, 3) := by decide +kernel
theorem dX2_confirmSpots_52 : decode cX2_confirmSpots 52 = .ok (.istore 6, 2) := by decide +kernel
theorem dX2_confirmSpots_54 : decode cX2_confirmSpots 54 = .ok (.aload_n 2, 1) := by decide +kernel
theorem dX2_confirmSpots_55 : decode cX2_confirmSpots 55 = .ok (.iload 5, 2) := by decide +kernel
theorem dX2_confirmSpots_57 : decode cX2_confirmSpots 57 = .ok (.iconst 1, 1) := by decide +kernel
theorem dX2_confirmSpots_58 : decode cX2_confirmSpots 58 = .ok (.invokevirtual 91, 3) := by decide +kernel
theorem dX2_confirmSpots_61 : decode cX2_confirmSpots 61 = .ok (.istore 7, 2) := by decide +kernel
theorem dX2_confirmSpots_63 : decode cX2_confirmSpots 63 = .ok (.aload_n 2, 1) := by decide +kernel
theorem dX2_confirmSpots_64 : decode cX2_confirmSpots 64 = .ok (.iload 5, 2) := by decide +kernel
theorem dX2_confirmSpots_66 : decode cX2_confirmSpots 66 = .ok (.iconst 2, 1) := by decide +kernel
theorem dX2_confirmSpots_67 : decode cX2_confirmSpots 67 = .ok (.invokevirtual 91, 3) := by decide +kernel
theorem dX2_confirmSpots_70 : decode cX2_confirmSpots 70 = .ok (.istore 8, 2) := by decide +kernel
theorem dX2_confirmSpots_72 : decode cX2_confirmSpots 72 = .ok (.iload 5, 2) := by decide +kernel
theorem dX2_confirmSpots_74 : decode cX2_confirmSpots 74 = .ok (.iload 4, 2) := by decide +kernel
theorem dX2_confirmSpots_76 : decode cX2_confirmSpots 76 = .ok (.if_icmp .ne 7, 3) := by decide +kernel
theorem dX2_confirmSpots_79 : decode cX2_confirmSpots 79 = .ok (.iconst (-1), 1) := by decide +kernel
theorem dX2_confirmSpots_80 : decode cX2_confirmSpots 80 = .ok (.goto 15, 3) := by decide +kernel
theorem dX2_confirmSpots_83 : decode cX2_confirmSpots 83 = .ok (.aload_n 0, 1) := by decide +kernel
theorem dX2_confirmSpots_84 : decode cX2_confirmSpots 84 = .ok (.iload_n 1, 1) := by decide +kernel
theorem dX2_confirmSpots_85 : decode cX2_confirmSpots 85 = .ok (.iload_n 3, 1) := by decide +kernel
theorem dX2_confirmSpots_86 : decode cX2_confirmSpots 86 = .ok (.iload 6, 2) := by decide +kernel
theorem dX2_confirmSpots_88 : decode cX2_confirmSpots 88 = .ok (.iload 7, 2) := by decide +kernel
theorem dX2_confirmSpots_90 : decode cX2_confirmSpots 90 = .ok (.iload 8, 2) := by decide +kernel
theorem dX2_confirmSpots_92 : decode cX2_confirmSpots 92 = .ok (.invokevirtual 120, 3) := by decide +kernel
theorem dX2_confirmSpots_95 : decode cX2_confirmSpots 95 = .ok (.istore 9, 2) := by decide +kernel
theorem dX2_confirmSpots_97 : decode cX2_confirmSpots 97 = .ok (.iload 9, 2) := by decide +kernel
theorem dX2_confirmSpots_99 : decode cX2_confirmSpots 99 = .ok (.iconst (-1), 1) := by decide +kernel
theorem dX2_confirmSpots_100 : decode cX2_confirmSpots 100 = .ok (.if_icmp .eq 55, 3) := by decide +kernel
theorem dX2_confirmSpots_103 : decode cX2_confirmSpots 103 = .ok (.aload_n 0, 1) := by decide +kernel
theorem dX2_confirmSpots_104 : decode cX2_confirmSpots 104 = .ok (.dup, 1) := by decide +kernel
theorem dX2_confirmSpots_105 : decode cX2_confirmSpots 105 = .ok (.getfield 64, 3) := by decide +kernel
theorem dX2_confirmSpots_108 : decode cX2_confirmSpots 108 = .ok (.iconst 1, 1) := by decide +kernel
theorem dX2_confirmSpots_109 : decode cX2_confirmSpots 109 = .ok (.iload 9, 2) := by decide +kernel
theorem dX2_confirmSpots_111 : decode cX2_confirmSpots 111 = .ok (.ishl, 1) := by decide +kernel
theorem dX2_confirmSpots_112 : decode cX2_confirmSpots 112 = .ok (.ior, 1) := by decide +kernel
theorem dX2_confirmSpots_113 : decode cX2_confirmSpots 113 = .ok (.putfield 64, 3) := by decide +kernel
theorem dX2_confirmSpots_116 : decode cX2_confirmSpots 116 = .ok (.aload_n 0, 1) := by decide +kernel
theorem dX2_confirmSpots_117 : decode cX2_confirmSpots 117 = .ok (.getfield 21, 3) := by decide +kernel
theorem dX2_confirmSpots_120 : decode cX2_confirmSpots 120 = .ok (.iload 5, 2) := by decide +kernel
theorem dX2_confirmSpots_122 : decode cX2_confirmSpots 122 = .ok (.iload 9, 2) := by decide +kernel
theorem dX2_confirmSpots_124 : decode cX2_confirmSpots 124 = .ok (.iastore, 1) := by decide +kernel
theorem dX2_confirmSpots_125 : decode cX2_confirmSpots 125 = .ok (.aload_n 0, 1) := by decide +kernel
theorem dX2_confirmSpots_126 : decode cX2_confirmSpots 126 = .ok (.getfield 24, 3) := by decide +kernel
theorem dX2_confirmSpots_129 : decode cX2_confirmSpots 129 = .ok (.iload 5, 2) := by decide +kernel
theorem dX2_confirmSpots_131 : decode cX2_confirmSpots 131 = .ok (.aload_n 0, 1) := by decide +kernel
theorem dX2_confirmSpots_132 : decode cX2_confirmSpots 132 = .ok (.iload 9, 2) := by decide +kernel
theorem dX2_confirmSpots_134 : decode cX2_confirmSpots 134 = .ok (.iload 6, 2) := by decide +kernel
theorem dX2_confirmSpots_136 : decode cX2_confirmSpots 136 = .ok (.iload 7, 2) := by decide +kernel
theorem dX2_confirmSpots_138 : decode cX2_confirmSpots 138 = .ok (.iload 8, 2) := by decide +kernel
theorem dX2_confirmSpots_140 : decode cX2_confirmSpots 140 = .ok (.invokevirtual 124, 3) := by decide +kernel
theorem dX2_confirmSpots_143 : decode cX2_confirmSpots 143 = .ok (.l2i, 1) := by decide +kernel
theorem dX2_confirmSpots_144 : decode cX2_confirmSpots 144 = .ok (.iastore, 1) := by decide +kernel
theorem dX2_confirmSpots_145 : decode cX2_confirmSpots 145 = .ok (.aload_n 0, 1) := by decide +kernel
theorem dX2_confirmSpots_146 : decode cX2_confirmSpots 146 = .ok (.dup, 1) := by decide +kernel
theorem dX2_confirmSpots_147 : decode cX2_confirmSpots 147 = .ok (.getfield 117, 3) := by decide +kernel
theorem dX2_confirmSpots_150 : decode cX2_confirmSpots 150 = .ok (.iconst 1, 1) := by decide +kernel
theorem dX2_confirmSpots_151 : decode cX2_confirmSpots 151 = .ok (.iadd, 1) := by decide +kernel
theorem dX2_confirmSpots_152 : decode cX2_confirmSpots 152 = .ok (.putfield 117, 3) := by decide +kernel
theorem dX2_confirmSpots_155 : decode cX2_confirmSpots 155 = .ok (.iinc 5 1, 3) := by decide +kernel
theorem dX2_confirmSpots_158 : decode cX2_confirmSpots 158 = .ok (.goto (-129), 3) := by decide +kernel
theorem dX2_confirmSpots_161 : decode cX2_confirmSpots 161 = .ok (.return_, 1) := by decide +kernel
theorem dX2_nearestStar_0 : decode cX2_nearestStar 0 = .ok (.iconst (-1), 1) := by decide +kernel
theorem dX2_nearestStar_1 : decode cX2_nearestStar 1 = .ok (.istore 6, 2) := by decide +kernel
theorem dX2_nearestStar_3 : decode cX2_nearestStar 3 = .ok (.iload_n 2, 1) := by decide +kernel
theorem dX2_nearestStar_4 : decode cX2_nearestStar 4 = .ok (.i2l, 1) := by decide +kernel
theorem dX2_nearestStar_5 : decode cX2_nearestStar 5 = .ok (.lconst 1, 1) := by decide +kernel
theorem dX2_nearestStar_6 : decode cX2_nearestStar 6 = .ok (.ladd, 1) := by decide +kernel
theorem dX2_nearestStar_7 : decode cX2_nearestStar 7 = .ok (.lstore 7, 2) := by decide +kernel
theorem dX2_nearestStar_9 : decode cX2_nearestStar 9 = .ok (.iconst 0, 1) := by decide +kernel
theorem dX2_nearestStar_10 : decode cX2_nearestStar 10 = .ok (.istore 9, 2) := by decide +kernel
theorem dX2_nearestStar_12 : decode cX2_nearestStar 12 = .ok (.iload 9, 2) := by decide +kernel
theorem dX2_nearestStar_14 : decode cX2_nearestStar 14 = .ok (.iload_n 1, 1) := by decide +kernel
theorem dX2_nearestStar_15 : decode cX2_nearestStar 15 = .ok (.if_icmp .ge 50, 3) := by decide +kernel
theorem dX2_nearestStar_18 : decode cX2_nearestStar 18 = .ok (.aload_n 0, 1) := by decide +kernel
theorem dX2_nearestStar_19 : decode cX2_nearestStar 19 = .ok (.iload 9, 2) := by decide +kernel
theorem dX2_nearestStar_21 : decode cX2_nearestStar 21 = .ok (.iload_n 3, 1) := by decide +kernel
theorem dX2_nearestStar_22 : decode cX2_nearestStar 22 = .ok (.iload 4, 2) := by decide +kernel
theorem dX2_nearestStar_24 : decode cX2_nearestStar 24 = .ok (.iload 5, 2) := by decide +kernel
theorem dX2_nearestStar_26 : decode cX2_nearestStar 26 = .ok (.invokevirtual 124, 3) := by decide +kernel
theorem dX2_nearestStar_29 : decode cX2_nearestStar 29 = .ok (.lstore 10, 2) := by decide +kernel
theorem dX2_nearestStar_31 : decode cX2_nearestStar 31 = .ok (.aload_n 0, 1) := by decide +kernel
theorem dX2_nearestStar_32 : decode cX2_nearestStar 32 = .ok (.getfield 64, 3) := by decide +kernel
theorem dX2_nearestStar_35 : decode cX2_nearestStar 35 = .ok (.iload 9, 2) := by decide +kernel
theorem dX2_nearestStar_37 : decode cX2_nearestStar 37 = .ok (.ishr, 1) := by decide +kernel
theorem dX2_nearestStar_38 : decode cX2_nearestStar 38 = .ok (.iconst 1, 1) := by decide +kernel
theorem dX2_nearestStar_39 : decode cX2_nearestStar 39 = .ok (.iand, 1) := by decide +kernel
theorem dX2_nearestStar_40 : decode cX2_nearestStar 40 = .ok (.ifCond .ne 19, 3) := by decide +kernel
theorem dX2_nearestStar_43 : decode cX2_nearestStar 43 = .ok (.lload 10, 2) := by decide +kernel
theorem dX2_nearestStar_45 : decode cX2_nearestStar 45 = .ok (.lload 7, 2) := by decide +kernel
theorem dX2_nearestStar_47 : decode cX2_nearestStar 47 = .ok (.lcmp, 1) := by decide +kernel
theorem dX2_nearestStar_48 : decode cX2_nearestStar 48 = .ok (.ifCond .ge 11, 3) := by decide +kernel
theorem dX2_nearestStar_51 : decode cX2_nearestStar 51 = .ok (.iload 9, 2) := by decide +kernel
theorem dX2_nearestStar_53 : decode cX2_nearestStar 53 = .ok (.istore 6, 2) := by decide +kernel
theorem dX2_nearestStar_55 : decode cX2_nearestStar 55 = .ok (.lload 10, 2) := by decide +kernel
theorem dX2_nearestStar_57 : decode cX2_nearestStar 57 = .ok (.lstore 7, 2) := by decide +kernel
theorem dX2_nearestStar_59 : decode cX2_nearestStar 59 = .ok (.iinc 9 1, 3) := by decide +kernel
theorem dX2_nearestStar_62 : decode cX2_nearestStar 62 = .ok (.goto (-50), 3) := by decide +kernel
theorem dX2_nearestStar_65 : decode cX2_nearestStar 65 = .ok (.iload 6, 2) := by decide +kernel
theorem dX2_nearestStar_67 : decode cX2_nearestStar 67 = .ok (.ireturn, 1) := by decide +kernel
theorem dX2_farOf_0 : decode cX2_farOf 0 = .ok (.aload_n 0, 1) := by decide +kernel
theorem dX2_farOf_1 : decode cX2_farOf 1 = .ok (.getfield 27, 3) := by decide +kernel
theorem dX2_farOf_4 : decode cX2_farOf 4 = .ok (.iconst 3, 1) := by decide +kernel
theorem dX2_farOf_5 : decode cX2_farOf 5 = .ok (.iload_n 1, 1) := by decide +kernel
theorem dX2_farOf_6 : decode cX2_farOf 6 = .ok (.imul, 1) := by decide +kernel
theorem dX2_farOf_7 : decode cX2_farOf 7 = .ok (.iaload, 1) := by decide +kernel
theorem dX2_farOf_8 : decode cX2_farOf 8 = .ok (.i2l, 1) := by decide +kernel
theorem dX2_farOf_9 : decode cX2_farOf 9 = .ok (.iload_n 2, 1) := by decide +kernel
theorem dX2_farOf_10 : decode cX2_farOf 10 = .ok (.i2l, 1) := by decide +kernel
theorem dX2_farOf_11 : decode cX2_farOf 11 = .ok (.lsub, 1) := by decide +kernel
theorem dX2_farOf_12 : decode cX2_farOf 12 = .ok (.invokestatic 127, 3) := by decide +kernel
theorem dX2_farOf_15 : decode cX2_farOf 15 = .ok (.aload_n 0, 1) := by decide +kernel
theorem dX2_farOf_16 : decode cX2_farOf 16 = .ok (.getfield 27, 3) := by decide +kernel
theorem dX2_farOf_19 : decode cX2_farOf 19 = .ok (.iconst 3, 1) := by decide +kernel
theorem dX2_farOf_20 : decode cX2_farOf 20 = .ok (.iload_n 1, 1) := by decide +kernel
theorem dX2_farOf_21 : decode cX2_farOf 21 = .ok (.imul, 1) := by decide +kernel
theorem dX2_farOf_22 : decode cX2_farOf 22 = .ok (.iconst 1, 1) := by decide +kernel
theorem dX2_farOf_23 : decode cX2_farOf 23 = .ok (.iadd, 1) := by decide +kernel
theorem dX2_farOf_24 : decode cX2_farOf 24 = .ok (.iaload, 1) := by decide +kernel
theorem dX2_farOf_25 : decode cX2_farOf 25 = .ok (.i2l, 1) := by decide +kernel
theorem dX2_farOf_26 : decode cX2_farOf 26 = .ok (.iload_n 3, 1) := by decide +kernel
theorem dX2_farOf_27 : decode cX2_farOf 27 = .ok (.i2l, 1) := by decide +kernel
theorem dX2_farOf_28 : decode cX2_farOf 28 = .ok (.lsub, 1) := by decide +kernel
theorem dX2_farOf_29 : decode cX2_farOf 29 = .ok (.invokestatic 127, 3) := by decide +kernel
theorem dX2_farOf_32 : decode cX2_farOf 32 = .ok (.ladd, 1) := by decide +kernel
theorem dX2_farOf_33 : decode cX2_farOf 33 = .ok (.aload_n 0, 1) := by decide +kernel
theorem dX2_farOf_34 : decode cX2_farOf 34 = .ok (.getfield 27, 3) := by decide +kernel
theorem dX2_farOf_37 : decode cX2_farOf 37 = .ok (.iconst 3, 1) := by decide +kernel
theorem dX2_farOf_38 : decode cX2_farOf 38 = .ok (.iload_n 1, 1) := by decide +kernel
theorem dX2_farOf_39 : decode cX2_farOf 39 = .ok (.imul, 1) := by decide +kernel
theorem dX2_farOf_40 : decode cX2_farOf 40 = .ok (.iconst 2, 1) := by decide +kernel
theorem dX2_farOf_41 : decode cX2_farOf 41 = .ok (.iadd, 1) := by decide +kernel
theorem dX2_farOf_42 : decode cX2_farOf 42 = .ok (.iaload, 1) := by decide +kernel
theorem dX2_farOf_43 : decode cX2_farOf 43 = .ok (.i2l, 1) := by decide +kernel
theorem dX2_farOf_44 : decode cX2_farOf 44 = .ok (.iload 4, 2) := by decide +kernel
theorem dX2_farOf_46 : decode cX2_farOf 46 = .ok (.i2l, 1) := by decide +kernel
theorem dX2_farOf_47 : decode cX2_farOf 47 = .ok (.lsub, 1) := by decide +kernel
theorem dX2_farOf_48 : decode cX2_farOf 48 = .ok (.invokestatic 127, 3) := by decide +kernel
theorem dX2_farOf_51 : decode cX2_farOf 51 = .ok (.ladd, 1) := by decide +kernel
theorem dX2_farOf_52 : decode cX2_farOf 52 = .ok (.lreturn, 1) := by decide +kernel
theorem dX2_wrongBits_0 : decode cX2_wrongBits 0 = .ok (.iconst 0, 1) := by decide +kernel
theorem dX2_wrongBits_1 : decode cX2_wrongBits 1 = .ok (.istore_n 1, 1) := by decide +kernel
theorem dX2_wrongBits_2 : decode cX2_wrongBits 2 = .ok (.iconst 0, 1) := by decide +kernel
theorem dX2_wrongBits_3 : decode cX2_wrongBits 3 = .ok (.istore_n 2, 1) := by decide +kernel
theorem dX2_wrongBits_4 : decode cX2_wrongBits 4 = .ok (.iload_n 2, 1) := by decide +kernel
theorem dX2_wrongBits_5 : decode cX2_wrongBits 5 = .ok (.bipush 8, 2) := by decide +kernel
theorem dX2_wrongBits_7 : decode cX2_wrongBits 7 = .ok (.if_icmp .ge 40, 3) := by decide +kernel
theorem dX2_wrongBits_10 : decode cX2_wrongBits 10 = .ok (.aload_n 0, 1) := by decide +kernel
theorem dX2_wrongBits_11 : decode cX2_wrongBits 11 = .ok (.getfield 9, 3) := by decide +kernel
theorem dX2_wrongBits_14 : decode cX2_wrongBits 14 = .ok (.iload_n 2, 1) := by decide +kernel
theorem dX2_wrongBits_15 : decode cX2_wrongBits 15 = .ok (.iaload, 1) := by decide +kernel
theorem dX2_wrongBits_16 : decode cX2_wrongBits 16 = .ok (.iconst (-1), 1) := by decide +kernel
theorem dX2_wrongBits_17 : decode cX2_wrongBits 17 = .ok (.if_icmp .eq 24, 3) := by decide +kernel
theorem dX2_wrongBits_20 : decode cX2_wrongBits 20 = .ok (.aload_n 0, 1) := by decide +kernel
theorem dX2_wrongBits_21 : decode cX2_wrongBits 21 = .ok (.getfield 9, 3) := by decide +kernel
theorem dX2_wrongBits_24 : decode cX2_wrongBits 24 = .ok (.iload_n 2, 1) := by decide +kernel
theorem dX2_wrongBits_25 : decode cX2_wrongBits 25 = .ok (.iaload, 1) := by decide +kernel
theorem dX2_wrongBits_26 : decode cX2_wrongBits 26 = .ok (.aload_n 0, 1) := by decide +kernel
theorem dX2_wrongBits_27 : decode cX2_wrongBits 27 = .ok (.getfield 21, 3) := by decide +kernel
theorem dX2_wrongBits_30 : decode cX2_wrongBits 30 = .ok (.iload_n 2, 1) := by decide +kernel
theorem dX2_wrongBits_31 : decode cX2_wrongBits 31 = .ok (.iaload, 1) := by decide +kernel
theorem dX2_wrongBits_32 : decode cX2_wrongBits 32 = .ok (.if_icmp .eq 9, 3) := by decide +kernel
theorem dX2_wrongBits_35 : decode cX2_wrongBits 35 = .ok (.iload_n 1, 1) := by decide +kernel
theorem dX2_wrongBits_36 : decode cX2_wrongBits 36 = .ok (.iconst 1, 1) := by decide +kernel
theorem dX2_wrongBits_37 : decode cX2_wrongBits 37 = .ok (.iload_n 2, 1) := by decide +kernel
theorem dX2_wrongBits_38 : decode cX2_wrongBits 38 = .ok (.ishl, 1) := by decide +kernel
theorem dX2_wrongBits_39 : decode cX2_wrongBits 39 = .ok (.ior, 1) := by decide +kernel
theorem dX2_wrongBits_40 : decode cX2_wrongBits 40 = .ok (.istore_n 1, 1) := by decide +kernel
theorem dX2_wrongBits_41 : decode cX2_wrongBits 41 = .ok (.iinc 2 1, 3) := by decide +kernel
theorem dX2_wrongBits_44 : decode cX2_wrongBits 44 = .ok (.goto (-40), 3) := by decide +kernel
theorem dX2_wrongBits_47 : decode cX2_wrongBits 47 = .ok (.iload_n 1, 1) := by decide +kernel
theorem dX2_wrongBits_48 : decode cX2_wrongBits 48 = .ok (.ireturn, 1) := by decide +kernel
theorem dX3_init_0 : decode cX3_init 0 = .ok (.aload_n 0, 1) := by decide +kernel
theorem dX3_init_1 : decode cX3_init 1 = .ok (.invokespecial 3, 3) := by decide +kernel
theorem dX3_init_4 : decode cX3_init 4 = .ok (.aload_n 0, 1) := by decide +kernel
theorem dX3_init_5 : decode cX3_init 5 = .ok (.sipush 144, 3) := by decide +kernel
theorem dX3_init_8 : decode cX3_init 8 = .ok (.newarray .int, 2) := by decide +kernel
theorem dX3_init_10 : decode cX3_init 10 = .ok (.putfield 9, 3) := by decide +kernel
theorem dX3_init_13 : decode cX3_init 13 = .ok (.aload_n 0, 1) := by decide +kernel
theorem dX3_init_14 : decode cX3_init 14 = .ok (.bipush 64, 2) := by decide +kernel
theorem dX3_init_16 : decode cX3_init 16 = .ok (.newarray .int, 2) := by decide +kernel
theorem dX3_init_18 : decode cX3_init 18 = .ok (.putfield 15, 3) := by decide +kernel
theorem dX3_init_21 : decode cX3_init 21 = .ok (.aload_n 0, 1) := by decide +kernel
theorem dX3_init_22 : decode cX3_init 22 = .ok (.sipush 660, 3) := by decide +kernel
theorem dX3_init_25 : decode cX3_init 25 = .ok (.newarray .int, 2) := by decide +kernel
theorem dX3_init_27 : decode cX3_init 27 = .ok (.putfield 18, 3) := by decide +kernel
theorem dX3_init_30 : decode cX3_init 30 = .ok (.aload_n 0, 1) := by decide +kernel
theorem dX3_init_31 : decode cX3_init 31 = .ok (.sipush 660, 3) := by decide +kernel
theorem dX3_init_34 : decode cX3_init 34 = .ok (.newarray .int, 2) := by decide +kernel
theorem dX3_init_36 : decode cX3_init 36 = .ok (.putfield 21, 3) := by decide +kernel
theorem dX3_init_39 : decode cX3_init 39 = .ok (.return_, 1) := by decide +kernel
theorem dX3_walk_0 : decode cX3_walk 0 = .ok (.aload_n 0, 1) := by decide +kernel
theorem dX3_walk_1 : decode cX3_walk 1 = .ok (.iconst 0, 1) := by decide +kernel
theorem dX3_walk_2 : decode cX3_walk 2 = .ok (.putfield 24, 3) := by decide +kernel
theorem dX3_walk_5 : decode cX3_walk 5 = .ok (.aload_n 1, 1) := by decide +kernel
theorem dX3_walk_6 : decode cX3_walk 6 = .ok (.aload_n 0, 1) := by decide +kernel
theorem dX3_walk_7 : decode cX3_walk 7 = .ok (.getfield 9, 3) := by decide +kernel
theorem dX3_walk_10 : decode cX3_walk 10 = .ok (.invokevirtual 28, 3) := by decide +kernel
theorem dX3_walk_13 : decode cX3_walk 13 = .ok (.aload_n 2, 1) := by decide +kernel
theorem dX3_walk_14 : decode cX3_walk 14 = .ok (.aload_n 0, 1) := by decide +kernel
theorem dX3_walk_15 : decode cX3_walk 15 = .ok (.getfield 15, 3) := by decide +kernel
theorem dX3_walk_18 : decode cX3_walk 18 = .ok (.invokevirtual 28, 3) := by decide +kernel
theorem dX3_walk_21 : decode cX3_walk 21 = .ok (.aload_n 0, 1) := by decide +kernel
theorem dX3_walk_22 : decode cX3_walk 22 = .ok (.aload_n 1, 1) := by decide +kernel
theorem dX3_walk_23 : decode cX3_walk 23 = .ok (.invokevirtual 34, 3) := by decide +kernel
theorem dX3_walk_26 : decode cX3_walk 26 = .ok (.iload_n 3, 1) := by decide +kernel
theorem dX3_walk_27 : decode cX3_walk 27 = .ok (.invokevirtual 38, 3) := by decide +kernel
theorem dX3_walk_30 : decode cX3_walk 30 = .ok (.iconst 0, 1) := by decide +kernel
theorem dX3_walk_31 : decode cX3_walk 31 = .ok (.istore 5, 2) := by decide +kernel
theorem dX3_walk_33 : decode cX3_walk 33 = .ok (.iload 5, 2) := by decide +kernel
theorem dX3_walk_35 : decode cX3_walk 35 = .ok (.aload_n 2, 1) := by decide +kernel
theorem dX3_walk_36 : decode cX3_walk 36 = .ok (.invokevirtual 34, 3) := by decide +kernel
theorem dX3_walk_39 : decode cX3_walk 39 = .ok (.if_icmp .ge 64, 3) := by decide +kernel
theorem dX3_walk_42 : decode cX3_walk 42 = .ok (.iload 5, 2) := by decide +kernel
theorem dX3_walk_44 : decode cX3_walk 44 = .ok (.iconst 1, 1) := by decide +kernel
theorem dX3_walk_45 : decode cX3_walk 45 = .ok (.iadd, 1) := by decide +kernel
theorem dX3_walk_46 : decode cX3_walk 46 = .ok (.istore 6, 2) := by decide +kernel
theorem dX3_walk_48 : decode cX3_walk 48 = .ok (.iload 6, 2) := by decide +kernel
theorem dX3_walk_50 : decode cX3_walk 50 = .ok (.aload_n 2, 1) := by decide +kernel
theorem dX3_walk_51 : decode cX3_walk 51 = .ok (.invokevirtual 34, 3) := by decide +kernel
theorem dX3_walk_54 : decode cX3_walk 54 = .ok (.if_icmp .ge 43, 3) := by decide +kernel
theorem dX3_walk_57 : decode cX3_walk 57 = .ok (.iload 6, 2) := by decide +kernel
theorem dX3_walk_59 : decode cX3_walk 59 = .ok (.iconst 1, 1) := by decide +kernel
theorem dX3_walk_60 : decode cX3_walk 60 = .ok (.iadd, 1) := by decide +kernel
theorem dX3_walk_61 : decode cX3_walk 61 = .ok (.istore 7, 2) := by decide +kernel
theorem dX3_walk_63 : decode cX3_walk 63 = .ok (.iload 7, 2) := by decide +kernel
theorem dX3_walk_65 : decode cX3_walk 65 = .ok (.aload_n 2, 1) := by decide +kernel
theorem dX3_walk_66 : decode cX3_walk 66 = .ok (.invokevirtual 34, 3) := by decide +kernel
theorem dX3_walk_69 : decode cX3_walk 69 = .ok (.if_icmp .ge 22, 3) := by decide +kernel
theorem dX3_walk_72 : decode cX3_walk 72 = .ok (.aload_n 0, 1) := by decide +kernel
theorem dX3_walk_73 : decode cX3_walk 73 = .ok (.iload 5, 2) := by decide +kernel
theorem dX3_walk_75 : decode cX3_walk 75 = .ok (.iload 6, 2) := by decide +kernel
theorem dX3_walk_77 : decode cX3_walk 77 = .ok (.iload 7, 2) := by decide +kernel
theorem dX3_walk_79 : decode cX3_walk 79 = .ok (.iload_n 3, 1) := by decide +kernel
theorem dX3_walk_80 : decode cX3_walk 80 = .ok (.aload 4, 2) := by decide +kernel
theorem dX3_walk_82 : decode cX3_walk 82 = .ok (.invokevirtual 42, 3) := by decide +kernel
theorem dX3_walk_85 : decode cX3_walk 85 = .ok (.iinc 7 1, 3) := by decide +kernel
theorem dX3_walk_88 : decode cX3_walk 88 = .ok (.goto (-25), 3) := by decide +kernel
theorem dX3_walk_91 : decode cX3_walk 91 = .ok (.iinc 6 1, 3) := by decide +kernel
theorem dX3_walk_94 : decode cX3_walk 94 = .ok (.goto (-46), 3) := by decide +kernel
theorem dX3_walk_97 : decode cX3_walk 97 = .ok (.iinc 5 1, 3) := by decide +kernel
theorem dX3_walk_100 : decode cX3_walk 100 = .ok (.goto (-67), 3) := by decide +kernel
theorem dX3_walk_103 : decode cX3_walk 103 = .ok (.return_, 1) := by decide +kernel
theorem dX3_listStarTriangles_0 : decode cX3_listStarTriangles 0 = .ok (.aload_n 0, 1) := by decide +kernel
theorem dX3_listStarTriangles_1 : decode cX3_listStarTriangles 1 = .ok (.iconst 0, 1) := by decide +kernel
theorem dX3_listStarTriangles_2 : decode cX3_listStarTriangles 2 = .ok (.putfield 46, 3) := by decide +kernel
theorem dX3_listStarTriangles_5 : decode cX3_listStarTriangles 5 = .ok (.iconst 0, 1) := by decide +kernel
theorem dX3_listStarTriangles_6 : decode cX3_listStarTriangles 6 = .ok (.istore_n 3, 1) := by decide +kernel
theorem dX3_listStarTriangles_7 : decode cX3_listStarTriangles 7 = .ok (.iload_n 3, 1) := by decide +kernel
theorem dX3_listStarTriangles_8 : decode cX3_listStarTriangles 8 = .ok (.iload_n 1, 1) := by decide +kernel
theorem dX3_listStarTriangles_9 : decode cX3_listStarTriangles 9 = .ok (.if_icmp .ge 54, 3) := by decide +kernel
theorem dX3_listStarTriangles_12 : decode cX3_listStarTriangles 12 = .ok (.iload_n 3, 1) := by decide +kernel
theorem dX3_listStarTriangles_13 : decode cX3_listStarTriangles 13 = .ok (.iconst 1, 1) := by decide +kernel
theorem dX3_listStarTriangles_14 : decode cX3_listStarTriangles 14 = .ok (.iadd, 1) := by decide +kernel
theorem dX3_listStarTriangles_15 : decode cX3_listStarTriangles 15 = .ok (.istore 4, 2) := by decide +kernel
theorem dX3_listStarTriangles_17 : decode cX3_listStarTriangles 17 = .ok (.iload 4, 2) := by decide +kernel
theorem dX3_listStarTriangles_19 : decode cX3_listStarTriangles 19 = .ok (.iload_n 1, 1) := by decide +kernel
theorem dX3_listStarTriangles_20 : decode cX3_listStarTriangles 20 = .ok (.if_icmp .ge 37, 3) := by decide +kernel
theorem dX3_listStarTriangles_23 : decode cX3_listStarTriangles 23 = .ok (.iload 4, 2) := by decide +kernel
theorem dX3_listStarTriangles_25 : decode cX3_listStarTriangles 25 = .ok (.iconst 1, 1) := by decide +kernel
theorem dX3_listStarTriangles_26 : decode cX3_listStarTriangles 26 = .ok (.iadd, 1) := by decide +kernel
theorem dX3_listStarTriangles_27 : decode cX3_listStarTriangles 27 = .ok (.istore 5, 2) := by decide +kernel
theorem dX3_listStarTriangles_29 : decode cX3_listStarTriangles 29 = .ok (.iload 5, 2) := by decide +kernel
theorem dX3_listStarTriangles_31 : decode cX3_listStarTriangles 31 = .ok (.iload_n 1, 1) := by decide +kernel
theorem dX3_listStarTriangles_32 : decode cX3_listStarTriangles 32 = .ok (.if_icmp .ge 19, 3) := by decide +kernel
theorem dX3_listStarTriangles_35 : decode cX3_listStarTriangles 35 = .ok (.aload_n 0, 1) := by decide +kernel
theorem dX3_listStarTriangles_36 : decode cX3_listStarTriangles 36 = .ok (.iload_n 3, 1) := by decide +kernel
theorem dX3_listStarTriangles_37 : decode cX3_listStarTriangles 37 = .ok (.iload 4, 2) := by decide +kernel
theorem dX3_listStarTriangles_39 : decode cX3_listStarTriangles 39 = .ok (.iload 5, 2) := by decide +kernel
theorem dX3_listStarTriangles_41 : decode cX3_listStarTriangles 41 = .ok (.iload_n 2, 1) := by decide +kernel
theorem dX3_listStarTriangles_42 : decode cX3_listStarTriangles 42 = .ok (.invokevirtual 49, 3) := by decide +kernel
theorem dX3_listStarTriangles_45 : decode cX3_listStarTriangles 45 = .ok (.iinc 5 1, 3) := by decide +kernel
theorem dX3_listStarTriangles_48 : decode cX3_listStarTriangles 48 = .ok (.goto (-19), 3) := by decide +kernel
theorem dX3_listStarTriangles_51 : decode cX3_listStarTriangles 51 = .ok (.iinc 4 1, 3) := by decide +kernel
theorem dX3_listStarTriangles_54 : decode cX3_listStarTriangles 54 = .ok (.goto (-37), 3) := by decide +kernel
theorem dX3_listStarTriangles_57 : decode cX3_listStarTriangles 57 = .ok (.iinc 3 1, 3) := by decide +kernel
theorem dX3_listStarTriangles_60 : decode cX3_listStarTriangles 60 = .ok (.goto (-53), 3) := by decide +kernel
theorem dX3_listStarTriangles_63 : decode cX3_listStarTriangles 63 = .ok (.return_, 1) := by decide +kernel
theorem dX3_listStarTriangle_0 : decode cX3_listStarTriangle 0 = .ok (.aload_n 0, 1) := by decide +kernel
theorem dX3_listStarTriangle_1 : decode cX3_listStarTriangle 1 = .ok (.getfield 46, 3) := by decide +kernel
theorem dX3_listStarTriangle_4 : decode cX3_listStarTriangle 4 = .ok (.sipush 220, 3) := by decide +kernel
theorem dX3_listStarTriangle_7 : decode cX3_listStarTriangle 7 = .ok (.if_icmp .lt 4, 3) := by decide +kernel
theorem dX3_listStarTriangle_10 : decode cX3_listStarTriangle 10 = .ok (.return_, 1) := by decide +kernel
theorem dX3_listStarTriangle_11 : decode cX3_listStarTriangle 11 = .ok (.iconst 3, 1) := by decide +kernel
theorem dX3_listStarTriangle_12 : decode cX3_listStarTriangle 12 = .ok (.aload_n 0, 1) := by decide +kernel
theorem dX3_listStarTriangle_13 : decode cX3_listStarTriangle 13 = .ok (.getfield 46, 3) := by decide +kernel
theorem dX3_listStarTriangle_16 : decode cX3_listStarTriangle 16 = .ok (.imul, 1) := by decide +kernel
theorem dX3_listStarTriangle_17 : decode cX3_listStarTriangle 17 = .ok (.istore 5, 2) := by decide +kernel
theorem dX3_listStarTriangle_19 : decode cX3_listStarTriangle 19 = .ok (.aload_n 0, 1) := by decide +kernel
theorem dX3_listStarTriangle_20 : decode cX3_listStarTriangle 20 = .ok (.getfield 18, 3) := by decide +kernel
theorem dX3_listStarTriangle_23 : decode cX3_listStarTriangle 23 = .ok (.iload 5, 2) := by decide +kernel
theorem dX3_listStarTriangle_25 : decode cX3_listStarTriangle 25 = .ok (.iload_n 1, 1) := by decide +kernel
theorem dX3_listStarTriangle_26 : decode cX3_listStarTriangle 26 = .ok (.iastore, 1) := by decide +kernel
theorem dX3_listStarTriangle_27 : decode cX3_listStarTriangle 27 = .ok (.aload_n 0, 1) := by decide +kernel
theorem dX3_listStarTriangle_28 : decode cX3_listStarTriangle 28 = .ok (.getfield 18, 3) := by decide +kernel
theorem dX3_listStarTriangle_31 : decode cX3_listStarTriangle 31 = .ok (.iload 5, 2) := by decide +kernel
theorem dX3_listStarTriangle_33 : decode cX3_listStarTriangle 33 = .ok (.iconst 1, 1) := by decide +kernel
theorem dX3_listStarTriangle_34 : decode cX3_listStarTriangle 34 = .ok (.iadd, 1) := by decide +kernel
theorem dX3_listStarTriangle_35 : decode cX3_listStarTriangle 35 = .ok (.iload_n 2, 1) := by decide +kernel
theorem dX3_listStarTriangle_36 : decode cX3_listStarTriangle 36 = .ok (.iastore, 1) := by decide +kernel
theorem dX3_listStarTriangle_37 : decode cX3_listStarTriangle 37 = .ok (.aload_n 0, 1) := by decide +kernel
theorem dX3_listStarTriangle_38 : decode cX3_listStarTriangle 38 = .ok (.getfield 18, 3) := by decide +kernel
theorem dX3_listStarTriangle_41 : decode cX3_listStarTriangle 41 = .ok (.iload 5, 2) := by decide +kernel
theorem dX3_listStarTriangle_43 : decode cX3_listStarTriangle 43 = .ok (.iconst 2, 1) := by decide +kernel
theorem dX3_listStarTriangle_44 : decode cX3_listStarTriangle 44 = .ok (.iadd, 1) := by decide +kernel
theorem dX3_listStarTriangle_45 : decode cX3_listStarTriangle 45 = .ok (.iload_n 3, 1) := by decide +kernel
theorem dX3_listStarTriangle_46 : decode cX3_listStarTriangle 46 = .ok (.iastore, 1) := by decide +kernel
theorem dX3_listStarTriangle_47 : decode cX3_listStarTriangle 47 = .ok (.iconst 0, 1) := by decide +kernel
theorem dX3_listStarTriangle_48 : decode cX3_listStarTriangle 48 = .ok (.istore 6, 2) := by decide +kernel
theorem dX3_listStarTriangle_50 : decode cX3_listStarTriangle 50 = .ok (.iload 6, 2) := by decide +kernel
theorem dX3_listStarTriangle_52 : decode cX3_listStarTriangle 52 = .ok (.iconst 3, 1) := by decide +kernel
theorem dX3_listStarTriangle_53 : decode cX3_listStarTriangle 53 = .ok (.if_icmp .ge 44, 3) := by decide +kernel
theorem dX3_listStarTriangle_56 : decode cX3_listStarTriangle 56 = .ok (.aload_n 0, 1) := by decide +kernel
theorem dX3_listStarTriangle_57 : decode cX3_listStarTriangle 57 = .ok (.getfield 21, 3) := by decide +kernel
theorem dX3_listStarTriangle_60 : decode cX3_listStarTriangle 60 = .ok (.iload 5, 2) := by decide +kernel
theorem dX3_listStarTriangle_62 : decode cX3_listStarTriangle 62 = .ok (.iload 6, 2) := by decide +kernel
theorem dX3_listStarTriangle_64 : decode cX3_listStarTriangle 64 = .ok (.iadd, 1) := by decide +kernel
theorem dX3_listStarTriangle_65 : decode cX3_listStarTriangle 65 = .ok (.iload 6, 2) := by decide +kernel
theorem dX3_listStarTriangle_67 : decode cX3_listStarTriangle 67 = .ok (.aload_n 0, 1) := by decide +kernel
theorem dX3_listStarTriangle_68 : decode cX3_listStarTriangle 68 = .ok (.iload_n 1, 1) := by decide +kernel
theorem dX3_listStarTriangle_69 : decode cX3_listStarTriangle 69 = .ok (.iload_n 2, 1) := by decide +kernel
theorem dX3_listStarTriangle_70 : decode cX3_listStarTriangle 70 = .ok (.invokevirtual 53, 3) := by decide +kernel
theorem dX3_listStarTriangle_73 : decode cX3_listStarTriangle 73 = .ok (.aload_n 0, 1) := by decide +kernel
theorem dX3_listStarTriangle_74 : decode cX3_listStarTriangle 74 = .ok (.iload_n 2, 1) := by decide +kernel
theorem dX3_listStarTriangle_75 : decode cX3_listStarTriangle 75 = .ok (.iload_n 3, 1) := by decide +kernel
theorem dX3_listStarTriangle_76 : decode cX3_listStarTriangle 76 = .ok (.invokevirtual 53, 3) := by decide +kernel
theorem dX3_listStarTriangle_79 : decode cX3_listStarTriangle 79 = .ok (.aload_n 0, 1) := by decide +kernel
theorem dX3_listStarTriangle_80 : decode cX3_listStarTriangle 80 = .ok (.iload_n 1, 1) := by decide +kernel
theorem dX3_listStarTriangle_81 : decode cX3_listStarTriangle 81 = .ok (.iload_n 3, 1) := by decide +kernel
theorem dX3_listStarTriangle_82 : decode cX3_listStarTriangle 82 = .ok (.invokevirtual 53, 3) := by decide +kernel
theorem dX3_listStarTriangle_85 : decode cX3_listStarTriangle 85 = .ok (.iload 4, 2) := by decide +kernel
theorem dX3_listStarTriangle_87 : decode cX3_listStarTriangle 87 = .ok (.invokestatic 57, 3) := by decide +kernel
theorem dX3_listStarTriangle_90 : decode cX3_listStarTriangle 90 = .ok (.iastore, 1) := by decide +kernel
theorem dX3_listStarTriangle_91 : decode cX3_listStarTriangle 91 = .ok (.iinc 6 1, 3) := by decide +kernel
theorem dX3_listStarTriangle_94 : decode cX3_listStarTriangle 94 = .ok (.goto (-44), 3) := by decide +kernel
theorem dX3_listStarTriangle_97 : decode cX3_listStarTriangle 97 = .ok (.aload_n 0, 1) := by decide +kernel
theorem dX3_listStarTriangle_98 : decode cX3_listStarTriangle 98 = .ok (.dup, 1) := by decide +kernel
theorem dX3_listStarTriangle_99 : decode cX3_listStarTriangle 99 = .ok (.getfield 46, 3) := by decide +kernel
theorem dX3_listStarTriangle_102 : decode cX3_listStarTriangle 102 = .ok (.iconst 1, 1) := by decide +kernel
theorem dX3_listStarTriangle_103 : decode cX3_listStarTriangle 103 = .ok (.iadd, 1) := by decide +kernel
theorem dX3_listStarTriangle_104 : decode cX3_listStarTriangle 104 = .ok (.putfield 46, 3) := by decide +kernel
theorem dX3_listStarTriangle_107 : decode cX3_listStarTriangle 107 = .ok (.return_, 1) := by decide +kernel
theorem dX3_lookAround_0 : decode cX3_lookAround 0 = .ok (.aload_n 0, 1) := by decide +kernel
theorem dX3_lookAround_1 : decode cX3_lookAround 1 = .ok (.iload_n 1, 1) := by decide +kernel
theorem dX3_lookAround_2 : decode cX3_lookAround 2 = .ok (.iload_n 2, 1) := by decide +kernel
theorem dX3_lookAround_3 : decode cX3_lookAround 3 = .ok (.invokevirtual 61, 3) := by decide +kernel
theorem dX3_lookAround_6 : decode cX3_lookAround 6 = .ok (.istore 6, 2) := by decide +kernel
theorem dX3_lookAround_8 : decode cX3_lookAround 8 = .ok (.aload_n 0, 1) := by decide +kernel
theorem dX3_lookAround_9 : decode cX3_lookAround 9 = .ok (.iload_n 2, 1) := by decide +kernel
theorem dX3_lookAround_10 : decode cX3_lookAround 10 = .ok (.iload_n 3, 1) := by decide +kernel
theorem dX3_lookAround_11 : decode cX3_lookAround 11 = .ok (.invokevirtual 61, 3) := by decide +kernel
theorem dX3_lookAround_14 : decode cX3_lookAround 14 = .ok (.istore 7, 2) := by decide +kernel
theorem dX3_lookAround_16 : decode cX3_lookAround 16 = .ok (.aload_n 0, 1) := by decide +kernel
theorem dX3_lookAround_17 : decode cX3_lookAround 17 = .ok (.iload_n 1, 1) := by decide +kernel
theorem dX3_lookAround_18 : decode cX3_lookAround 18 = .ok (.iload_n 3, 1) := by decide +kernel
theorem dX3_lookAround_19 : decode cX3_lookAround 19 = .ok (.invokevirtual 61, 3) := by decide +kernel
theorem dX3_lookAround_22 : decode cX3_lookAround 22 = .ok (.istore 8, 2) := by decide +kernel
theorem dX3_lookAround_24 : decode cX3_lookAround 24 = .ok (.iconst 0, 1) := by decide +kernel
theorem dX3_lookAround_25 : decode cX3_lookAround 25 = .ok (.iload 6, 2) := by decide +kernel
theorem dX3_lookAround_27 : decode cX3_lookAround 27 = .ok (.iload 7, 2) := by decide +kernel
theorem dX3_lookAround_29 : decode cX3_lookAround 29 = .ok (.iload 8, 2) := by decide +kernel
theorem dX3_lookAround_31 : decode cX3_lookAround 31 = .ok (.iload 4, 2) := by decide +kernel
theorem dX3_lookAround_33 : decode cX3_lookAround 33 = .ok (.invokestatic 57, 3) := by decide +kernel
theorem dX3_lookAround_36 : decode cX3_lookAround 36 = .ok (.istore 9, 2) := by decide +kernel
theorem dX3_lookAround_38 : decode cX3_lookAround 38 = .ok (.iconst 1, 1) := by decide +kernel
theorem dX3_lookAround_39 : decode cX3_lookAround 39 = .ok (.iload 6, 2) := by decide +kernel
theorem dX3_lookAround_41 : decode cX3_lookAround 41 = .ok (.iload 7, 2) := by decide +kernel
theorem dX3_lookAround_43 : decode cX3_lookAround 43 = .ok (.iload 8, 2) := by decide +kernel
theorem dX3_lookAround_45 : decode cX3_lookAround 45 = .ok (.iload 4, 2) := by decide +kernel
theorem dX3_lookAround_47 : decode cX3_lookAround 47 = .ok (.invokestatic 57, 3) := by decide +kernel
theorem dX3_lookAround_50 : decode cX3_lookAround 50 = .ok (.istore 10, 2) := by decide +kernel
theorem dX3_lookAround_52 : decode cX3_lookAround 52 = .ok (.iconst 2, 1) := by decide +kernel
theorem dX3_lookAround_53 : decode cX3_lookAround 53 = .ok (.iload 6, 2) := by decide +kernel
theorem dX3_lookAround_55 : decode cX3_lookAround 55 = .ok (.iload 7, 2) := by decide +kernel
theorem dX3_lookAround_57 : decode cX3_lookAround 57 = .ok (.iload 8, 2) := by decide +kernel
theorem dX3_lookAround_59 : decode cX3_lookAround 59 = .ok (.iload 4, 2) := by decide +kernel
theorem dX3_lookAround_61 : decode cX3_lookAround 61 = .ok (.invokestatic 57, 3) := by decide +kernel
theorem dX3_lookAround_64 : decode cX3_lookAround 64 = .ok (.istore 11, 2) := by decide +kernel
theorem dX3_lookAround_66 : decode cX3_lookAround 66 = .ok (.iconst 0, 1) := by decide +kernel
theorem dX3_lookAround_67 : decode cX3_lookAround 67 = .ok (.istore 12, 2) := by decide +kernel
theorem dX3_lookAround_69 : decode cX3_lookAround 69 = .ok (.iload 12, 2) := by decide +kernel
theorem dX3_lookAround_71 : decode cX3_lookAround 71 = .ok (.iconst 3, 1) := by decide +kernel
theorem dX3_lookAround_72 : decode cX3_lookAround 72 = .ok (.aload_n 0, 1) := by decide +kernel
theorem dX3_lookAround_73 : decode cX3_lookAround 73 = .ok (.getfield 46, 3) := by decide +kernel
theorem dX3_lookAround_76 : decode cX3_lookAround 76 = .ok (.imul, 1) := by decide +kernel
theorem dX3_lookAround_77 : decode cX3_lookAround 77 = .ok (.if_icmp .ge 85, 3) := by decide +kernel
theorem dX3_lookAround_80 : decode cX3_lookAround 80 = .ok (.aload_n 0, 1) := by decide +kernel
theorem dX3_lookAround_81 : decode cX3_lookAround 81 = .ok (.getfield 21, 3) := by decide +kernel
theorem dX3_lookAround_84 : decode cX3_lookAround 84 = .ok (.iload 12, 2) := by decide +kernel
theorem dX3_lookAround_86 : decode cX3_lookAround 86 = .ok (.iaload, 1) := by decide +kernel
theorem dX3_lookAround_87 : decode cX3_lookAround 87 = .ok (.iload 9, 2) := by decide +kernel
theorem dX3_lookAround_89 : decode cX3_lookAround 89 = .ok (.isub, 1) := by decide +kernel
theorem dX3_lookAround_90 : decode cX3_lookAround 90 = .ok (.invokestatic 64, 3) := by decide +kernel
theorem dX3_lookAround_93 : decode cX3_lookAround 93 = .ok (.iconst 1, 1) := by decide +kernel
theorem dX3_lookAround_94 : decode cX3_lookAround 94 = .ok (.if_icmp .gt 62, 3) := by decide +kernel
theorem dX3_lookAround_97 : decode cX3_lookAround 97 = .ok (.aload_n 0, 1) := by decide +kernel
theorem dX3_lookAround_98 : decode cX3_lookAround 98 = .ok (.getfield 21, 3) := by decide +kernel
theorem dX3_lookAround_101 : decode cX3_lookAround 101 = .ok (.iload 12, 2) := by decide +kernel
theorem dX3_lookAround_103 : decode cX3_lookAround 103 = .ok (.iconst 1, 1) := by decide +kernel
theorem dX3_lookAround_104 : decode cX3_lookAround 104 = .ok (.iadd, 1) := by decide +kernel
theorem dX3_lookAround_105 : decode cX3_lookAround 105 = .ok (.iaload, 1) := by decide +kernel
theorem dX3_lookAround_106 : decode cX3_lookAround 106 = .ok (.iload 10, 2) := by decide +kernel
theorem dX3_lookAround_108 : decode cX3_lookAround 108 = .ok (.isub, 1) := by decide +kernel
theorem dX3_lookAround_109 : decode cX3_lookAround 109 = .ok (.invokestatic 64, 3) := by decide +kernel
theorem dX3_lookAround_112 : decode cX3_lookAround 112 = .ok (.iconst 1, 1) := by decide +kernel
theorem dX3_lookAround_113 : decode cX3_lookAround 113 = .ok (.if_icmp .gt 43, 3) := by decide +kernel
theorem dX3_lookAround_116 : decode cX3_lookAround 116 = .ok (.aload_n 0, 1) := by decide +kernel
theorem dX3_lookAround_117 : decode cX3_lookAround 117 = .ok (.getfield 21, 3) := by decide +kernel
theorem dX3_lookAround_120 : decode cX3_lookAround 120 = .ok (.iload 12, 2) := by decide +kernel
theorem dX3_lookAround_122 : decode cX3_lookAround 122 = .ok (.iconst 2, 1) := by decide +kernel
theorem dX3_lookAround_123 : decode cX3_lookAround 123 = .ok (.iadd, 1) := by decide +kernel
theorem dX3_lookAround_124 : decode cX3_lookAround 124 = .ok (.iaload, 1) := by decide +kernel
theorem dX3_lookAround_125 : decode cX3_lookAround 125 = .ok (.iload 11, 2) := by decide +kernel
theorem dX3_lookAround_127 : decode cX3_lookAround 127 = .ok (.isub, 1) := by decide +kernel
theorem dX3_lookAround_128 : decode cX3_lookAround 128 = .ok (.invokestatic 64, 3) := by decide +kernel
theorem dX3_lookAround_131 : decode cX3_lookAround 131 = .ok (.iconst 1, 1) := by decide +kernel
theorem dX3_lookAround_132 : decode cX3_lookAround 132 = .ok (.if_icmp .gt 24, 3) := by decide +kernel
theorem dX3_lookAround_135 : decode cX3_lookAround 135 = .ok (.aload_n 0, 1) := by decide +kernel
theorem dX3_lookAround_136 : decode cX3_lookAround 136 = .ok (.dup, 1) := by decide +kernel
theorem dX3_lookAround_137 : decode cX3_lookAround 137 = .ok (.getfield 24, 3) := by decide +kernel
theorem dX3_lookAround_140 : decode cX3_lookAround 140 = .ok (.iconst 1, 1) := by decide +kernel
theorem dX3_lookAround_141 : decode cX3_lookAround 141 = .ok (.iadd, 1) := by decide +kernel
theorem dX3_lookAround_142 : decode cX3_lookAround 142 = .ok (.putfield 24, 3) := by decide +kernel
theorem dX3_lookAround_145 : decode cX3_lookAround 145 = .ok (.aload_n 0, 1) := by decide +kernel
theorem dX3_lookAround_146 : decode cX3_lookAround 146 = .ok (.iload_n 1, 1) := by decide +kernel
theorem dX3_lookAround_147 : decode cX3_lookAround 147 = .ok (.iload_n 2, 1) := by decide +kernel
theorem dX3_lookAround_148 : decode cX3_lookAround 148 = .ok (.iload_n 3, 1) := by decide +kernel
theorem dX3_lookAround_149 : decode cX3_lookAround 149 = .ok (.iload 12, 2) := by decide +kernel
theorem dX3_lookAround_151 : decode cX3_lookAround 151 = .ok (.aload 5, 2) := by decide +kernel
theorem dX3_lookAround_153 : decode cX3_lookAround 153 = .ok (.invokevirtual 70, 3) := by decide +kernel
theorem dX3_lookAround_156 : decode cX3_lookAround 156 = .ok (.iinc 12 3, 3) := by decide +kernel
theorem dX3_lookAround_159 : decode cX3_lookAround 159 = .ok (.goto (-90), 3) := by decide +kernel
theorem dX3_lookAround_162 : decode cX3_lookAround 162 = .ok (.return_, 1) := by decide +kernel
theorem dX3_tellOrders_0 : decode cX3_tellOrders 0 = .ok (.aload_n 0, 1) := by decide +kernel
theorem dX3_tellOrders_1 : decode cX3_tellOrders 1 = .ok (.iload_n 1, 1) := by decide +kernel
theorem dX3_tellOrders_2 : decode cX3_tellOrders 2 = .ok (.iload_n 2, 1) := by decide +kernel
theorem dX3_tellOrders_3 : decode cX3_tellOrders 3 = .ok (.invokevirtual 61, 3) := by decide +kernel
theorem dX3_tellOrders_6 : decode cX3_tellOrders 6 = .ok (.istore 6, 2) := by decide +kernel
theorem dX3_tellOrders_8 : decode cX3_tellOrders 8 = .ok (.aload_n 0, 1) := by decide +kernel
theorem dX3_tellOrders_9 : decode cX3_tellOrders 9 = .ok (.iload_n 2, 1) := by decide +kernel
theorem dX3_tellOrders_10 : decode cX3_tellOrders 10 = .ok (.iload_n 3, 1) := by decide +kernel
theorem dX3_tellOrders_11 : decode cX3_tellOrders 11 = .ok (.invokevirtual 61, 3) := by decide +kernel
theorem dX3_tellOrders_14 : decode cX3_tellOrders 14 = .ok (.istore 7, 2) := by decide +kernel
theorem dX3_tellOrders_16 : decode cX3_tellOrders 16 = .ok (.aload_n 0, 1) := by decide +kernel
theorem dX3_tellOrders_17 : decode cX3_tellOrders 17 = .ok (.iload_n 1, 1) := by decide +kernel
theorem dX3_tellOrders_18 : decode cX3_tellOrders 18 = .ok (.iload_n 3, 1) := by decide +kernel
theorem dX3_tellOrders_19 : decode cX3_tellOrders 19 = .ok (.invokevirtual 61, 3) := by decide +kernel
theorem dX3_tellOrders_22 : decode cX3_tellOrders 22 = .ok (.istore 8, 2) := by decide +kernel
theorem dX3_tellOrders_24 : decode cX3_tellOrders 24 = .ok (.iload_n 1, 1) := by decide +kernel
theorem dX3_tellOrders_25 : decode cX3_tellOrders 25 = .ok (.iconst 0, 1) := by decide +kernel
theorem dX3_tellOrders_26 : decode cX3_tellOrders 26 = .ok (.invokestatic 73, 3) := by decide +kernel
theorem dX3_tellOrders_29 : decode cX3_tellOrders 29 = .ok (.istore 9, 2) := by decide +kernel
theorem dX3_tellOrders_31 : decode cX3_tellOrders 31 = .ok (.iload_n 2, 1) := by decide +kernel
theorem dX3_tellOrders_32 : decode cX3_tellOrders 32 = .ok (.iconst 0, 1) := by decide +kernel
theorem dX3_tellOrders_33 : decode cX3_tellOrders 33 = .ok (.invokestatic 73, 3) := by decide +kernel
theorem dX3_tellOrders_36 : decode cX3_tellOrders 36 = .ok (.istore 10, 2) := by decide +kernel
theorem dX3_tellOrders_38 : decode cX3_tellOrders 38 = .ok (.iload_n 3, 1) := by decide +kernel
theorem dX3_tellOrders_39 : decode cX3_tellOrders 39 = .ok (.iconst 0, 1) := by decide +kernel
theorem dX3_tellOrders_40 : decode cX3_tellOrders 40 = .ok (.invokestatic 73, 3) := by decide +kernel
theorem dX3_tellOrders_43 : decode cX3_tellOrders 43 = .ok (.istore 11, 2) := by decide +kernel
theorem dX3_tellOrders_45 : decode cX3_tellOrders 45 = .ok (.iconst 0, 1) := by decide +kernel
theorem dX3_tellOrders_46 : decode cX3_tellOrders 46 = .ok (.istore 12, 2) := by decide +kernel
theorem dX3_tellOrders_48 : decode cX3_tellOrders 48 = .ok (.iload 12, 2) := by decide +kernel
theorem dX3_tellOrders_50 : decode cX3_tellOrders 50 = .ok (.iconst 2, 1) := by decide +kernel
theorem dX3_tellOrders_51 : decode cX3_tellOrders 51 = .ok (.iadd, 1) := by decide +kernel
theorem dX3_tellOrders_52 : decode cX3_tellOrders 52 = .ok (.getstatic 76, 3) := by decide +kernel
theorem dX3_tellOrders_55 : decode cX3_tellOrders 55 = .ok (.arraylength, 1) := by decide +kernel
theorem dX3_tellOrders_56 : decode cX3_tellOrders 56 = .ok (.if_icmp .ge 156, 3) := by decide +kernel
theorem dX3_tellOrders_59 : decode cX3_tellOrders 59 = .ok (.aload_n 0, 1) := by decide +kernel
theorem dX3_tellOrders_60 : decode cX3_tellOrders 60 = .ok (.getfield 18, 3) := by decide +kernel
theorem dX3_tellOrders_63 : decode cX3_tellOrders 63 = .ok (.iload 4, 2) := by decide +kernel
theorem dX3_tellOrders_65 : decode cX3_tellOrders 65 = .ok (.getstatic 76, 3) := by decide +kernel
theorem dX3_tellOrders_68 : decode cX3_tellOrders 68 = .ok (.iload 12, 2) := by decide +kernel
theorem dX3_tellOrders_70 : decode cX3_tellOrders 70 = .ok (.iaload, 1) := by decide +kernel
theorem dX3_tellOrders_71 : decode cX3_tellOrders 71 = .ok (.iadd, 1) := by decide +kernel
theorem dX3_tellOrders_72 : decode cX3_tellOrders 72 = .ok (.iaload, 1) := by decide +kernel
theorem dX3_tellOrders_73 : decode cX3_tellOrders 73 = .ok (.istore 13, 2) := by decide +kernel
theorem dX3_tellOrders_75 : decode cX3_tellOrders 75 = .ok (.aload_n 0, 1) := by decide +kernel
theorem dX3_tellOrders_76 : decode cX3_tellOrders 76 = .ok (.getfield 18, 3) := by decide +kernel
theorem dX3_tellOrders_79 : decode cX3_tellOrders 79 = .ok (.iload 4, 2) := by decide +kernel
theorem dX3_tellOrders_81 : decode cX3_tellOrders 81 = .ok (.getstatic 76, 3) := by decide +kernel
theorem dX3_tellOrders_84 : decode cX3_tellOrders 84 = .ok (.iload 12, 2) := by decide +kernel
theorem dX3_tellOrders_86 : decode cX3_tellOrders 86 = .ok (.iconst 1, 1) := by decide +kernel
theorem dX3_tellOrders_87 : decode cX3_tellOrders 87 = .ok (.iadd, 1) := by decide +kernel
theorem dX3_tellOrders_88 : decode cX3_tellOrders 88 = .ok (.iaload, 1) := by decide +kernel
theorem dX3_tellOrders_89 : decode cX3_tellOrders 89 = .ok (.iadd, 1) := by decide +kernel
theorem dX3_tellOrders_90 : decode cX3_tellOrders 90 = .ok (.iaload, 1) := by decide +kernel
theorem dX3_tellOrders_91 : decode cX3_tellOrders 91 = .ok (.istore 14, 2) := by decide +kernel
theorem dX3_tellOrders_93 : decode cX3_tellOrders 93 = .ok (.aload_n 0, 1) := by decide +kernel
theorem dX3_tellOrders_94 : decode cX3_tellOrders 94 = .ok (.getfield 18, 3) := by decide +kernel
theorem dX3_tellOrders_97 : decode cX3_tellOrders 97 = .ok (.iload 4, 2) := by decide +kernel
theorem dX3_tellOrders_99 : decode cX3_tellOrders 99 = .ok (.getstatic 76, 3) := by decide +kernel
theorem dX3_tellOrders_102 : decode cX3_tellOrders 102 = .ok (.iload 12, 2) := by decide +kernel
theorem dX3_tellOrders_104 : decode cX3_tellOrders 104 = .ok (.iconst 2, 1) := by decide +kernel
theorem dX3_tellOrders_105 : decode cX3_tellOrders 105 = .ok (.iadd, 1) := by decide +kernel
theorem dX3_tellOrders_106 : decode cX3_tellOrders 106 = .ok (.iaload, 1) := by decide +kernel
theorem dX3_tellOrders_107 : decode cX3_tellOrders 107 = .ok (.iadd, 1) := by decide +kernel
theorem dX3_tellOrders_108 : decode cX3_tellOrders 108 = .ok (.iaload, 1) := by decide +kernel
theorem dX3_tellOrders_109 : decode cX3_tellOrders 109 = .ok (.istore 15, 2) := by decide +kernel
theorem dX3_tellOrders_111 : decode cX3_tellOrders 111 = .ok (.iload 6, 2) := by decide +kernel
theorem dX3_tellOrders_113 : decode cX3_tellOrders 113 = .ok (.aload_n 0, 1) := by decide +kernel
theorem dX3_tellOrders_114 : decode cX3_tellOrders 114 = .ok (.getfield 9, 3) := by decide +kernel
theorem dX3_tellOrders_117 : decode cX3_tellOrders 117 = .ok (.iload 13, 2) := by decide +kernel
theorem dX3_tellOrders_119 : decode cX3_tellOrders 119 = .ok (.bipush 12, 2) := by decide +kernel
theorem dX3_tellOrders_121 : decode cX3_tellOrders 121 = .ok (.imul, 1) := by decide +kernel
theorem dX3_tellOrders_122 : decode cX3_tellOrders 122 = .ok (.iload 14, 2) := by decide +kernel
theorem dX3_tellOrders_124 : decode cX3_tellOrders 124 = .ok (.iadd, 1) := by decide +kernel
theorem dX3_tellOrders_125 : decode cX3_tellOrders 125 = .ok (.iaload, 1) := by decide +kernel
theorem dX3_tellOrders_126 : decode cX3_tellOrders 126 = .ok (.isub, 1) := by decide +kernel
theorem dX3_tellOrders_127 : decode cX3_tellOrders 127 = .ok (.invokestatic 64, 3) := by decide +kernel
theorem dX3_tellOrders_130 : decode cX3_tellOrders 130 = .ok (.istore 16, 2) := by decide +kernel
theorem dX3_tellOrders_132 : decode cX3_tellOrders 132 = .ok (.iload 16, 2) := by decide +kernel
theorem dX3_tellOrders_134 : decode cX3_tellOrders 134 = .ok (.iload 7, 2) := by decide +kernel
theorem dX3_tellOrders_136 : decode cX3_tellOrders 136 = .ok (.aload_n 0, 1) := by decide +kernel
theorem dX3_tellOrders_137 : decode cX3_tellOrders 137 = .ok (.getfield 9, 3) := by decide +kernel
theorem dX3_tellOrders_140 : decode cX3_tellOrders 140 = .ok (.iload 14, 2) := by decide +kernel
theorem dX3_tellOrders_142 : decode cX3_tellOrders 142 = .ok (.bipush 12, 2) := by decide +kernel
theorem dX3_tellOrders_144 : decode cX3_tellOrders 144 = .ok (.imul, 1) := by decide +kernel
theorem dX3_tellOrders_145 : decode cX3_tellOrders 145 = .ok (.iload 15, 2) := by decide +kernel
theorem dX3_tellOrders_147 : decode cX3_tellOrders 147 = .ok (.iadd, 1) := by decide +kernel
theorem dX3_tellOrders_148 : decode cX3_tellOrders 148 = .ok (.iaload, 1) := by decide +kernel
theorem dX3_tellOrders_149 : decode cX3_tellOrders 149 = .ok (.isub, 1) := by decide +kernel
theorem dX3_tellOrders_150 : decode cX3_tellOrders 150 = .ok (.invokestatic 64, 3) := by decide +kernel
theorem dX3_tellOrders_153 : decode cX3_tellOrders 153 = .ok (.invokestatic 79, 3) := by decide +kernel
theorem dX3_tellOrders_156 : decode cX3_tellOrders 156 = .ok (.istore 16, 2) := by decide +kernel
theorem dX3_tellOrders_158 : decode cX3_tellOrders 158 = .ok (.iload 16, 2) := by decide +kernel
theorem dX3_tellOrders_160 : decode cX3_tellOrders 160 = .ok (.iload 8, 2) := by decide +kernel
theorem dX3_tellOrders_162 : decode cX3_tellOrders 162 = .ok (.aload_n 0, 1) := by decide +kernel
theorem dX3_tellOrders_163 : decode cX3_tellOrders 163 = .ok (.getfield 9, 3) := by decide +kernel
theorem dX3_tellOrders_166 : decode cX3_tellOrders 166 = .ok (.iload 13, 2) := by decide +kernel
theorem dX3_tellOrders_168 : decode cX3_tellOrders 168 = .ok (.bipush 12, 2) := by decide +kernel
theorem dX3_tellOrders_170 : decode cX3_tellOrders 170 = .ok (.imul, 1) := by decide +kernel
theorem dX3_tellOrders_171 : decode cX3_tellOrders 171 = .ok (.iload 15, 2) := by decide +kernel
theorem dX3_tellOrders_173 : decode cX3_tellOrders 173 = .ok (.iadd, 1) := by decide +kernel
theorem dX3_tellOrders_174 : decode cX3_tellOrders 174 = .ok (.iaload, 1) := by decide +kernel
theorem dX3_tellOrders_175 : decode cX3_tellOrders 175 = .ok (.isub, 1) := by decide +kernel
theorem dX3_tellOrders_176 : decode cX3_tellOrders 176 = .ok (.invokestatic 64, 3) := by decide +kernel
theorem dX3_tellOrders_179 : decode cX3_tellOrders 179 = .ok (.invokestatic 79, 3) := by decide +kernel
theorem dX3_tellOrders_182 : decode cX3_tellOrders 182 = .ok (.istore 16, 2) := by decide +kernel
theorem dX3_tellOrders_184 : decode cX3_tellOrders 184 = .ok (.aload 5, 2) := by decide +kernel
theorem dX3_tellOrders_186 : decode cX3_tellOrders 186 = .ok (.iload 9, 2) := by decide +kernel
theorem dX3_tellOrders_188 : decode cX3_tellOrders 188 = .ok (.iload 13, 2) := by decide +kernel
theorem dX3_tellOrders_190 : decode cX3_tellOrders 190 = .ok (.iadd, 1) := by decide +kernel
theorem dX3_tellOrders_191 : decode cX3_tellOrders 191 = .ok (.iload 10, 2) := by decide +kernel
theorem dX3_tellOrders_193 : decode cX3_tellOrders 193 = .ok (.iload 14, 2) := by decide +kernel
theorem dX3_tellOrders_195 : decode cX3_tellOrders 195 = .ok (.iadd, 1) := by decide +kernel
theorem dX3_tellOrders_196 : decode cX3_tellOrders 196 = .ok (.iload 11, 2) := by decide +kernel
theorem dX3_tellOrders_198 : decode cX3_tellOrders 198 = .ok (.iload 15, 2) := by decide +kernel
theorem dX3_tellOrders_200 : decode cX3_tellOrders 200 = .ok (.iadd, 1) := by decide +kernel
theorem dX3_tellOrders_201 : decode cX3_tellOrders 201 = .ok (.iload 16, 2) := by decide +kernel
theorem dX3_tellOrders_203 : decode cX3_tellOrders 203 = .ok (.invokevirtual 82, 3) := by decide +kernel
theorem dX3_tellOrders_206 : decode cX3_tellOrders 206 = .ok (.iinc 12 3, 3) := by decide +kernel
theorem dX3_tellOrders_209 : decode cX3_tellOrders 209 = .ok (.goto (-161), 3) := by decide +kernel
theorem dX3_tellOrders_212 : decode cX3_tellOrders 212 = .ok (.return_, 1) := by decide +kernel
theorem dX3_starSide_0 : decode cX3_starSide 0 = .ok (.aload_n 0, 1) := by decide +kernel
theorem dX3_starSide_1 : decode cX3_starSide 1 = .ok (.getfield 9, 3) := by decide +kernel
theorem dX3_starSide_4 : decode cX3_starSide 4 = .ok (.iload_n 1, 1) := by decide +kernel
theorem dX3_starSide_5 : decode cX3_starSide 5 = .ok (.bipush 12, 2) := by decide +kernel
theorem dX3_starSide_7 : decode cX3_starSide 7 = .ok (.imul, 1) := by decide +kernel
theorem dX3_starSide_8 : decode cX3_starSide 8 = .ok (.iload_n 2, 1) := by decide +kernel
theorem dX3_starSide_9 : decode cX3_starSide 9 = .ok (.iadd, 1) := by decide +kernel
theorem dX3_starSide_10 : decode cX3_starSide 10 = .ok (.iaload, 1) := by decide +kernel
theorem dX3_starSide_11 : decode cX3_starSide 11 = .ok (.ireturn, 1) := by decide +kernel
theorem dX3_spotSide_0 : decode cX3_spotSide 0 = .ok (.aload_n 0, 1) := by decide +kernel
theorem dX3_spotSide_1 : decode cX3_spotSide 1 = .ok (.getfield 15, 3) := by decide +kernel
theorem dX3_spotSide_4 : decode cX3_spotSide 4 = .ok (.iload_n 1, 1) := by decide +kernel
theorem dX3_spotSide_5 : decode cX3_spotSide 5 = .ok (.bipush 8, 2) := by decide +kernel
theorem dX3_spotSide_7 : decode cX3_spotSide 7 = .ok (.imul, 1) := by decide +kernel
theorem dX3_spotSide_8 : decode cX3_spotSide 8 = .ok (.iload_n 2, 1) := by decide +kernel
theorem dX3_spotSide_9 : decode cX3_spotSide 9 = .ok (.iadd, 1) := by decide +kernel
theorem dX3_spotSide_10 : decode cX3_spotSide 10 = .ok (.iaload, 1) := by decide +kernel
theorem dX3_spotSide_11 : decode cX3_spotSide 11 = .ok (.ireturn, 1) := by decide +kernel
theorem dX4_init_0 : decode cX4_init 0 = .ok (.aload_n 0, 1) := by decide +kernel
theorem dX4_init_1 : decode cX4_init 1 = .ok (.invokespecial 3, 3) := by decide +kernel
theorem dX4_init_4 : decode cX4_init 4 = .ok (.aload_n 0, 1) := by decide +kernel
theorem dX4_init_5 : decode cX4_init 5 = .ok (.bipush 96, 2) := by decide +kernel
theorem dX4_init_7 : decode cX4_init 7 = .ok (.newarray .int, 2) := by decide +kernel
theorem dX4_init_9 : decode cX4_init 9 = .ok (.putfield 9, 3) := by decide +kernel
theorem dX4_init_12 : decode cX4_init 12 = .ok (.return_, 1) := by decide +kernel
theorem dX4_begin_0 : decode cX4_begin 0 = .ok (.aload_n 0, 1) := by decide +kernel
theorem dX4_begin_1 : decode cX4_begin 1 = .ok (.getfield 9, 3) := by decide +kernel
theorem dX4_begin_4 : decode cX4_begin 4 = .ok (.iconst 0, 1) := by decide +kernel
theorem dX4_begin_5 : decode cX4_begin 5 = .ok (.invokestatic 15, 3) := by decide +kernel
theorem dX4_begin_8 : decode cX4_begin 8 = .ok (.aload_n 0, 1) := by decide +kernel
theorem dX4_begin_9 : decode cX4_begin 9 = .ok (.iload_n 1, 1) := by decide +kernel
theorem dX4_begin_10 : decode cX4_begin 10 = .ok (.putfield 21, 3) := by decide +kernel
theorem dX4_begin_13 : decode cX4_begin 13 = .ok (.aload_n 0, 1) := by decide +kernel
theorem dX4_begin_14 : decode cX4_begin 14 = .ok (.iconst 0, 1) := by decide +kernel
theorem dX4_begin_15 : decode cX4_begin 15 = .ok (.putfield 25, 3) := by decide +kernel
theorem dX4_begin_18 : decode cX4_begin 18 = .ok (.return_, 1) := by decide +kernel
theorem dX4_hear_0 : decode cX4_hear 0 = .ok (.iload 4, 2) := by decide +kernel
theorem dX4_hear_2 : decode cX4_hear 2 = .ok (.aload_n 0, 1) := by decide +kernel
theorem dX4_hear_3 : decode cX4_hear 3 = .ok (.getfield 21, 3) := by decide +kernel
theorem dX4_hear_6 : decode cX4_hear 6 = .ok (.if_icmp .gt 43, 3) := by decide +kernel
theorem dX4_hear_9 : decode cX4_hear 9 = .ok (.aload_n 0, 1) := by decide +kernel
theorem dX4_hear_10 : decode cX4_hear 10 = .ok (.getfield 9, 3) := by decide +kernel
theorem dX4_hear_13 : decode cX4_hear 13 = .ok (.iload_n 1, 1) := by decide +kernel
theorem dX4_hear_14 : decode cX4_hear 14 = .ok (.dup2, 1) := by decide +kernel
theorem dX4_hear_15 : decode cX4_hear 15 = .ok (.iaload, 1) := by decide +kernel
theorem dX4_hear_16 : decode cX4_hear 16 = .ok (.iconst 1, 1) := by decide +kernel
theorem dX4_hear_17 : decode cX4_hear 17 = .ok (.iadd, 1) := by decide +kernel
theorem dX4_hear_18 : decode cX4_hear 18 = .ok (.iastore, 1) := by decide +kernel
theorem dX4_hear_19 : decode cX4_hear 19 = .ok (.aload_n 0, 1) := by decide +kernel
theorem dX4_hear_20 : decode cX4_hear 20 = .ok (.getfield 9, 3) := by decide +kernel
theorem dX4_hear_23 : decode cX4_hear 23 = .ok (.iload_n 2, 1) := by decide +kernel
theorem dX4_hear_24 : decode cX4_hear 24 = .ok (.dup2, 1) := by decide +kernel
theorem dX4_hear_25 : decode cX4_hear 25 = .ok (.iaload, 1) := by decide +kernel
theorem dX4_hear_26 : decode cX4_hear 26 = .ok (.iconst 1, 1) := by decide +kernel
theorem dX4_hear_27 : decode cX4_hear 27 = .ok (.iadd, 1) := by decide +kernel
theorem dX4_hear_28 : decode cX4_hear 28 = .ok (.iastore, 1) := by decide +kernel
theorem dX4_hear_29 : decode cX4_hear 29 = .ok (.aload_n 0, 1) := by decide +kernel
theorem dX4_hear_30 : decode cX4_hear 30 = .ok (.getfield 9, 3) := by decide +kernel
theorem dX4_hear_33 : decode cX4_hear 33 = .ok (.iload_n 3, 1) := by decide +kernel
theorem dX4_hear_34 : decode cX4_hear 34 = .ok (.dup2, 1) := by decide +kernel
theorem dX4_hear_35 : decode cX4_hear 35 = .ok (.iaload, 1) := by decide +kernel
theorem dX4_hear_36 : decode cX4_hear 36 = .ok (.iconst 1, 1) := by decide +kernel
theorem dX4_hear_37 : decode cX4_hear 37 = .ok (.iadd, 1) := by decide +kernel
theorem dX4_hear_38 : decode cX4_hear 38 = .ok (.iastore, 1) := by decide +kernel
theorem dX4_hear_39 : decode cX4_hear 39 = .ok (.aload_n 0, 1) := by decide +kernel
theorem dX4_hear_40 : decode cX4_hear 40 = .ok (.dup, 1) := by decide +kernel
theorem dX4_hear_41 : decode cX4_hear 41 = .ok (.getfield 25, 3) := by decide +kernel
theorem dX4_hear_44 : decode cX4_hear 44 = .ok (.iconst 1, 1) := by decide +kernel
theorem dX4_hear_45 : decode cX4_hear 45 = .ok (.iadd, 1) := by decide +kernel
theorem dX4_hear_46 : decode cX4_hear 46 = .ok (.putfield 25, 3) := by decide +kernel
theorem dX4_hear_49 : decode cX4_hear 49 = .ok (.return_, 1) := by decide +kernel
theorem dX5_init_0 : decode cX5_init 0 = .ok (.aload_n 0, 1) := by decide +kernel
theorem dX5_init_1 : decode cX5_init 1 = .ok (.invokespecial 3, 3) := by decide +kernel
theorem dX5_init_4 : decode cX5_init 4 = .ok (.aload_n 0, 1) := by decide +kernel
theorem dX5_init_5 : decode cX5_init 5 = .ok (.bipush 60, 2) := by decide +kernel
theorem dX5_init_7 : decode cX5_init 7 = .ok (.newarray .int, 2) := by decide +kernel
theorem dX5_init_9 : decode cX5_init 9 = .ok (.putfield 9, 3) := by decide +kernel
theorem dX5_init_12 : decode cX5_init 12 = .ok (.aload_n 0, 1) := by decide +kernel
theorem dX5_init_13 : decode cX5_init 13 = .ok (.iconst (-1), 1) := by decide +kernel
theorem dX5_init_14 : decode cX5_init 14 = .ok (.putfield 15, 3) := by decide +kernel
theorem dX5_init_17 : decode cX5_init 17 = .ok (.return_, 1) := by decide +kernel
theorem dX5_isLost_0 : decode cX5_isLost 0 = .ok (.aload_n 0, 1) := by decide +kernel
theorem dX5_isLost_1 : decode cX5_isLost 1 = .ok (.getfield 15, 3) := by decide +kernel
theorem dX5_isLost_4 : decode cX5_isLost 4 = .ok (.iconst (-1), 1) := by decide +kernel
theorem dX5_isLost_5 : decode cX5_isLost 5 = .ok (.if_icmp .ne 7, 3) := by decide +kernel
theorem dX5_isLost_8 : decode cX5_isLost 8 = .ok (.iconst 1, 1) := by decide +kernel
theorem dX5_isLost_9 : decode cX5_isLost 9 = .ok (.goto 4, 3) := by decide +kernel
theorem dX5_isLost_12 : decode cX5_isLost 12 = .ok (.iconst 0, 1) := by decide +kernel
theorem dX5_isLost_13 : decode cX5_isLost 13 = .ok (.ireturn, 1) := by decide +kernel
theorem dX5_length_0 : decode cX5_length 0 = .ok (.aload_n 0, 1) := by decide +kernel
theorem dX5_length_1 : decode cX5_length 1 = .ok (.getfield 19, 3) := by decide +kernel
theorem dX5_length_4 : decode cX5_length 4 = .ok (.ireturn, 1) := by decide +kernel
theorem dX5_renew_0 : decode cX5_renew 0 = .ok (.aload_n 0, 1) := by decide +kernel
theorem dX5_renew_1 : decode cX5_renew 1 = .ok (.getfield 9, 3) := by decide +kernel
theorem dX5_renew_4 : decode cX5_renew 4 = .ok (.iconst 0, 1) := by decide +kernel
theorem dX5_renew_5 : decode cX5_renew 5 = .ok (.invokestatic 22, 3) := by decide +kernel
theorem dX5_renew_8 : decode cX5_renew 8 = .ok (.aload_n 0, 1) := by decide +kernel
theorem dX5_renew_9 : decode cX5_renew 9 = .ok (.iload_n 1, 1) := by decide +kernel
theorem dX5_renew_10 : decode cX5_renew 10 = .ok (.putfield 15, 3) := by decide +kernel
theorem dX5_renew_13 : decode cX5_renew 13 = .ok (.aload_n 0, 1) := by decide +kernel
theorem dX5_renew_14 : decode cX5_renew 14 = .ok (.iconst 0, 1) := by decide +kernel
theorem dX5_renew_15 : decode cX5_renew 15 = .ok (.bipush 60, 2) := by decide +kernel
theorem dX5_renew_17 : decode cX5_renew 17 = .ok (.iload_n 2, 1) := by decide +kernel
theorem dX5_renew_18 : decode cX5_renew 18 = .ok (.invokestatic 28, 3) := by decide +kernel
theorem dX5_renew_21 : decode cX5_renew 21 = .ok (.invokestatic 34, 3) := by decide +kernel
theorem dX5_renew_24 : decode cX5_renew 24 = .ok (.putfield 19, 3) := by decide +kernel
theorem dX5_renew_27 : decode cX5_renew 27 = .ok (.return_, 1) := by decide +kernel
theorem dX5_faultOf_0 : decode cX5_faultOf 0 = .ok (.aload_n 0, 1) := by decide +kernel
theorem dX5_faultOf_1 : decode cX5_faultOf 1 = .ok (.invokevirtual 37, 3) := by decide +kernel
theorem dX5_faultOf_4 : decode cX5_faultOf 4 = .ok (.ifCond .eq 5, 3) := by decide +kernel
theorem dX5_faultOf_7 : decode cX5_faultOf 7 = .ok (.iconst 1, 1) := by decide +kernel
theorem dX5_faultOf_8 : decode cX5_faultOf 8 = .ok (.ireturn, 1) := by decide +kernel
theorem dX5_faultOf_9 : decode cX5_faultOf 9 = .ok (.aload_n 0, 1) := by decide +kernel
theorem dX5_faultOf_10 : decode cX5_faultOf 10 = .ok (.getfield 15, 3) := by decide +kernel
theorem dX5_faultOf_13 : decode cX5_faultOf 13 = .ok (.iload_n 1, 1) := by decide +kernel
theorem dX5_faultOf_14 : decode cX5_faultOf 14 = .ok (.if_icmp .eq 5, 3) := by decide +kernel
theorem dX5_faultOf_17 : decode cX5_faultOf 17 = .ok (.iconst 3, 1) := by decide +kernel
theorem dX5_faultOf_18 : decode cX5_faultOf 18 = .ok (.ireturn, 1) := by decide +kernel
theorem dX5_faultOf_19 : decode cX5_faultOf 19 = .ok (.iload_n 2, 1) := by decide +kernel
theorem dX5_faultOf_20 : decode cX5_faultOf 20 = .ok (.ifCond .lt 11, 3) := by decide +kernel
theorem dX5_faultOf_23 : decode cX5_faultOf 23 = .ok (.iload_n 2, 1) := by decide +kernel
theorem dX5_faultOf_24 : decode cX5_faultOf 24 = .ok (.aload_n 0, 1) := by decide +kernel
theorem dX5_faultOf_25 : decode cX5_faultOf 25 = .ok (.getfield 19, 3) := by decide +kernel
theorem dX5_faultOf_28 : decode cX5_faultOf 28 = .ok (.if_icmp .lt 7, 3) := by decide +kernel
theorem dX5_faultOf_31 : decode cX5_faultOf 31 = .ok (.iconst 2, 1) := by decide +kernel
theorem dX5_faultOf_32 : decode cX5_faultOf 32 = .ok (.goto 4, 3) := by decide +kernel
theorem dX5_faultOf_35 : decode cX5_faultOf 35 = .ok (.iconst 0, 1) := by decide +kernel
theorem dX5_faultOf_36 : decode cX5_faultOf 36 = .ok (.ireturn, 1) := by decide +kernel
theorem dX5_item_0 : decode cX5_item 0 = .ok (.iload_n 1, 1) := by decide +kernel
theorem dX5_item_1 : decode cX5_item 1 = .ok (.ifCond .lt 20, 3) := by decide +kernel
theorem dX5_item_4 : decode cX5_item 4 = .ok (.iload_n 1, 1) := by decide +kernel
theorem dX5_item_5 : decode cX5_item 5 = .ok (.aload_n 0, 1) := by decide +kernel
theorem dX5_item_6 : decode cX5_item 6 = .ok (.getfield 19, 3) := by decide +kernel
theorem dX5_item_9 : decode cX5_item 9 = .ok (.if_icmp .ge 12, 3) := by decide +kernel
theorem dX5_item_12 : decode cX5_item 12 = .ok (.aload_n 0, 1) := by decide +kernel
theorem dX5_item_13 : decode cX5_item 13 = .ok (.getfield 9, 3) := by decide +kernel
theorem dX5_item_16 : decode cX5_item 16 = .ok (.iload_n 1, 1) := by decide +kernel
theorem dX5_item_17 : decode cX5_item 17 = .ok (.iaload, 1) := by decide +kernel
theorem dX5_item_18 : decode cX5_item 18 = .ok (.goto 4, 3) := by decide +kernel
theorem dX5_item_21 : decode cX5_item 21 = .ok (.iconst 0, 1) := by decide +kernel
theorem dX5_item_22 : decode cX5_item 22 = .ok (.ireturn, 1) := by decide +kernel
theorem dX5_store_0 : decode cX5_store 0 = .ok (.iload_n 1, 1) := by decide +kernel
theorem dX5_store_1 : decode cX5_store 1 = .ok (.ifCond .lt 43, 3) := by decide +kernel
theorem dX5_store_4 : decode cX5_store 4 = .ok (.iload_n 1, 1) := by decide +kernel
theorem dX5_store_5 : decode cX5_store 5 = .ok (.aload_n 0, 1) := by decide +kernel
theorem dX5_store_6 : decode cX5_store 6 = .ok (.getfield 19, 3) := by decide +kernel
theorem dX5_store_9 : decode cX5_store 9 = .ok (.if_icmp .ge 35, 3) := by decide +kernel
theorem dX5_store_12 : decode cX5_store 12 = .ok (.aload_n 0, 1) := by decide +kernel
theorem dX5_store_13 : decode cX5_store 13 = .ok (.getfield 9, 3) := by decide +kernel
theorem dX5_store_16 : decode cX5_store 16 = .ok (.iload_n 1, 1) := by decide +kernel
theorem dX5_store_17 : decode cX5_store 17 = .ok (.aload_n 0, 1) := by decide +kernel
theorem dX5_store_18 : decode cX5_store 18 = .ok (.getfield 15, 3) := by decide +kernel
theorem dX5_store_21 : decode cX5_store 21 = .ok (.ifCond .ne 8, 3) := by decide +kernel
theorem dX5_store_24 : decode cX5_store 24 = .ok (.iload_n 2, 1) := by decide +kernel
theorem dX5_store_25 : decode cX5_store 25 = .ok (.i2b, 1) := by decide +kernel
theorem dX5_store_26 : decode cX5_store 26 = .ok (.goto 17, 3) := by decide +kernel
theorem dX5_store_29 : decode cX5_store 29 = .ok (.aload_n 0, 1) := by decide +kernel
theorem dX5_store_30 : decode cX5_store 30 = .ok (.getfield 15, 3) := by decide +kernel
theorem dX5_store_33 : decode cX5_store 33 = .ok (.iconst 1, 1) := by decide +kernel
theorem dX5_store_34 : decode cX5_store 34 = .ok (.if_icmp .ne 8, 3) := by decide +kernel
theorem dX5_store_37 : decode cX5_store 37 = .ok (.iload_n 2, 1) := by decide +kernel
theorem dX5_store_38 : decode cX5_store 38 = .ok (.i2s, 1) := by decide +kernel
theorem dX5_store_39 : decode cX5_store 39 = .ok (.goto 4, 3) := by decide +kernel
theorem dX5_store_42 : decode cX5_store 42 = .ok (.iload_n 2, 1) := by decide +kernel
theorem dX5_store_43 : decode cX5_store 43 = .ok (.iastore, 1) := by decide +kernel
theorem dX5_store_44 : decode cX5_store 44 = .ok (.return_, 1) := by decide +kernel
theorem dX5_hasRun_0 : decode cX5_hasRun 0 = .ok (.iload_n 1, 1) := by decide +kernel
theorem dX5_hasRun_1 : decode cX5_hasRun 1 = .ok (.ifCond .lt 29, 3) := by decide +kernel
theorem dX5_hasRun_4 : decode cX5_hasRun 4 = .ok (.iload_n 2, 1) := by decide +kernel
theorem dX5_hasRun_5 : decode cX5_hasRun 5 = .ok (.ifCond .lt 25, 3) := by decide +kernel
theorem dX5_hasRun_8 : decode cX5_hasRun 8 = .ok (.iload_n 1, 1) := by decide +kernel
theorem dX5_hasRun_9 : decode cX5_hasRun 9 = .ok (.aload_n 0, 1) := by decide +kernel
theorem dX5_hasRun_10 : decode cX5_hasRun 10 = .ok (.getfield 19, 3) := by decide +kernel
theorem dX5_hasRun_13 : decode cX5_hasRun 13 = .ok (.if_icmp .gt 17, 3) := by decide +kernel
theorem dX5_hasRun_16 : decode cX5_hasRun 16 = .ok (.iload_n 2, 1) := by decide +kernel
theorem dX5_hasRun_17 : decode cX5_hasRun 17 = .ok (.aload_n 0, 1) := by decide +kernel
theorem dX5_hasRun_18 : decode cX5_hasRun 18 = .ok (.getfield 19, 3) := by decide +kernel
theorem dX5_hasRun_21 : decode cX5_hasRun 21 = .ok (.iload_n 1, 1) := by decide +kernel
theorem dX5_hasRun_22 : decode cX5_hasRun 22 = .ok (.isub, 1) := by decide +kernel
theorem dX5_hasRun_23 : decode cX5_hasRun 23 = .ok (.if_icmp .gt 7, 3) := by decide +kernel
theorem dX5_hasRun_26 : decode cX5_hasRun 26 = .ok (.iconst 1, 1) := by decide +kernel
theorem dX5_hasRun_27 : decode cX5_hasRun 27 = .ok (.goto 4, 3) := by decide +kernel
theorem dX5_hasRun_30 : decode cX5_hasRun 30 = .ok (.iconst 0, 1) := by decide +kernel
theorem dX5_hasRun_31 : decode cX5_hasRun 31 = .ok (.ireturn, 1) := by decide +kernel
theorem dX5_takeRun_0 : decode cX5_takeRun 0 = .ok (.aload_n 1, 1) := by decide +kernel
theorem dX5_takeRun_1 : decode cX5_takeRun 1 = .ok (.iload_n 2, 1) := by decide +kernel
theorem dX5_takeRun_2 : decode cX5_takeRun 2 = .ok (.iload 4, 2) := by decide +kernel
theorem dX5_takeRun_4 : decode cX5_takeRun 4 = .ok (.invokevirtual 41, 3) := by decide +kernel
theorem dX5_takeRun_7 : decode cX5_takeRun 7 = .ok (.ifCond .eq 28, 3) := by decide +kernel
theorem dX5_takeRun_10 : decode cX5_takeRun 10 = .ok (.aload_n 0, 1) := by decide +kernel
theorem dX5_takeRun_11 : decode cX5_takeRun 11 = .ok (.iload_n 3, 1) := by decide +kernel
theorem dX5_takeRun_12 : decode cX5_takeRun 12 = .ok (.iload 4, 2) := by decide +kernel
theorem dX5_takeRun_14 : decode cX5_takeRun 14 = .ok (.invokevirtual 41, 3) := by decide +kernel
theorem dX5_takeRun_17 : decode cX5_takeRun 17 = .ok (.ifCond .eq 18, 3) := by decide +kernel
theorem dX5_takeRun_20 : decode cX5_takeRun 20 = .ok (.aload_n 1, 1) := by decide +kernel
theorem dX5_takeRun_21 : decode cX5_takeRun 21 = .ok (.getfield 9, 3) := by decide +kernel
theorem dX5_takeRun_24 : decode cX5_takeRun 24 = .ok (.iload_n 2, 1) := by decide +kernel
theorem dX5_takeRun_25 : decode cX5_takeRun 25 = .ok (.aload_n 0, 1) := by decide +kernel
theorem dX5_takeRun_26 : decode cX5_takeRun 26 = .ok (.getfield 9, 3) := by decide +kernel
theorem dX5_takeRun_29 : decode cX5_takeRun 29 = .ok (.iload_n 3, 1) := by decide +kernel
theorem dX5_takeRun_30 : decode cX5_takeRun 30 = .ok (.iload 4, 2) := by decide +kernel
theorem dX5_takeRun_32 : decode cX5_takeRun 32 = .ok (.invokestatic 45, 3) := by decide +kernel
theorem dX5_takeRun_35 : decode cX5_takeRun 35 = .ok (.return_, 1) := by decide +kernel
theorem dX6_init_0 : decode cX6_init 0 = .ok (.aload_n 0, 1) := by decide +kernel
theorem dX6_init_1 : decode cX6_init 1 = .ok (.invokespecial 3, 3) := by decide +kernel
theorem dX6_init_4 : decode cX6_init 4 = .ok (.aload_n 0, 1) := by decide +kernel
theorem dX6_init_5 : decode cX6_init 5 = .ok (.new 9, 3) := by decide +kernel
theorem dX6_init_8 : decode cX6_init 8 = .ok (.dup, 1) := by decide +kernel
theorem dX6_init_9 : decode cX6_init 9 = .ok (.bipush 12, 2) := by decide +kernel
theorem dX6_init_11 : decode cX6_init 11 = .ok (.invokespecial 11, 3) := by decide +kernel
theorem dX6_init_14 : decode cX6_init 14 = .ok (.putfield 14, 3) := by decide +kernel
theorem dX6_init_17 : decode cX6_init 17 = .ok (.aload_n 0, 1) := by decide +kernel
theorem dX6_init_18 : decode cX6_init 18 = .ok (.new 9, 3) := by decide +kernel
theorem dX6_init_21 : decode cX6_init 21 = .ok (.dup, 1) := by decide +kernel
theorem dX6_init_22 : decode cX6_init 22 = .ok (.bipush 8, 2) := by decide +kernel
theorem dX6_init_24 : decode cX6_init 24 = .ok (.invokespecial 11, 3) := by decide +kernel
theorem dX6_init_27 : decode cX6_init 27 = .ok (.putfield 20, 3) := by decide +kernel
theorem dX6_init_30 : decode cX6_init 30 = .ok (.aload_n 0, 1) := by decide +kernel
theorem dX6_init_31 : decode cX6_init 31 = .ok (.getstatic 23, 3) := by decide +kernel
theorem dX6_init_34 : decode cX6_init 34 = .ok (.invokevirtual 27, 3) := by decide +kernel
theorem dX6_init_37 : decode cX6_init 37 = .ok (.checkcast 28, 3) := by decide +kernel
theorem dX6_init_40 : decode cX6_init 40 = .ok (.putfield 32, 3) := by decide +kernel
theorem dX6_init_43 : decode cX6_init 43 = .ok (.aload_n 0, 1) := by decide +kernel
theorem dX6_init_44 : decode cX6_init 44 = .ok (.new 35, 3) := by decide +kernel
theorem dX6_init_47 : decode cX6_init 47 = .ok (.dup, 1) := by decide +kernel
theorem dX6_init_48 : decode cX6_init 48 = .ok (.invokespecial 37, 3) := by decide +kernel
theorem dX6_init_51 : decode cX6_init 51 = .ok (.putfield 38, 3) := by decide +kernel
theorem dX6_init_54 : decode cX6_init 54 = .ok (.aload_n 0, 1) := by decide +kernel
theorem dX6_init_55 : decode cX6_init 55 = .ok (.new 42, 3) := by decide +kernel
theorem dX6_init_58 : decode cX6_init 58 = .ok (.dup, 1) := by decide +kernel
theorem dX6_init_59 : decode cX6_init 59 = .ok (.invokespecial 44, 3) := by decide +kernel
theorem dX6_init_62 : decode cX6_init 62 = .ok (.putfield 45, 3) := by decide +kernel
theorem dX6_init_65 : decode cX6_init 65 = .ok (.aload_n 0, 1) := by decide +kernel
theorem dX6_init_66 : decode cX6_init 66 = .ok (.new 49, 3) := by decide +kernel
theorem dX6_init_69 : decode cX6_init 69 = .ok (.dup, 1) := by decide +kernel
theorem dX6_init_70 : decode cX6_init 70 = .ok (.invokespecial 51, 3) := by decide +kernel
theorem dX6_init_73 : decode cX6_init 73 = .ok (.putfield 52, 3) := by decide +kernel
theorem dX6_init_76 : decode cX6_init 76 = .ok (.aload_n 0, 1) := by decide +kernel
theorem dX6_init_77 : decode cX6_init 77 = .ok (.new 56, 3) := by decide +kernel
theorem dX6_init_80 : decode cX6_init 80 = .ok (.dup, 1) := by decide +kernel
theorem dX6_init_81 : decode cX6_init 81 = .ok (.invokespecial 58, 3) := by decide +kernel
theorem dX6_init_84 : decode cX6_init 84 = .ok (.putfield 59, 3) := by decide +kernel
theorem dX6_init_87 : decode cX6_init 87 = .ok (.aload_n 0, 1) := by decide +kernel
theorem dX6_init_88 : decode cX6_init 88 = .ok (.new 63, 3) := by decide +kernel
theorem dX6_init_91 : decode cX6_init 91 = .ok (.dup, 1) := by decide +kernel
theorem dX6_init_92 : decode cX6_init 92 = .ok (.invokespecial 65, 3) := by decide +kernel
theorem dX6_init_95 : decode cX6_init 95 = .ok (.putfield 66, 3) := by decide +kernel
theorem dX6_init_98 : decode cX6_init 98 = .ok (.aload_n 0, 1) := by decide +kernel
theorem dX6_init_99 : decode cX6_init 99 = .ok (.new 63, 3) := by decide +kernel
theorem dX6_init_102 : decode cX6_init 102 = .ok (.dup, 1) := by decide +kernel
theorem dX6_init_103 : decode cX6_init 103 = .ok (.invokespecial 65, 3) := by decide +kernel
theorem dX6_init_106 : decode cX6_init 106 = .ok (.putfield 70, 3) := by decide +kernel
theorem dX6_init_109 : decode cX6_init 109 = .ok (.return_, 1) := by decide +kernel
theorem dX6_rowOf_0 : decode cX6_rowOf 0 = .ok (.iload_n 1, 1) := by decide +kernel
theorem dX6_rowOf_1 : decode cX6_rowOf 1 = .ok (.ifCond .ne 10, 3) := by decide +kernel
theorem dX6_rowOf_4 : decode cX6_rowOf 4 = .ok (.aload_n 0, 1) := by decide +kernel
theorem dX6_rowOf_5 : decode cX6_rowOf 5 = .ok (.getfield 14, 3) := by decide +kernel
theorem dX6_rowOf_8 : decode cX6_rowOf 8 = .ok (.goto 7, 3) := by decide +kernel
theorem dX6_rowOf_11 : decode cX6_rowOf 11 = .ok (.aload_n 0, 1) := by decide +kernel
theorem dX6_rowOf_12 : decode cX6_rowOf 12 = .ok (.getfield 20, 3) := by decide +kernel
theorem dX6_rowOf_15 : decode cX6_rowOf 15 = .ok (.areturn, 1) := by decide +kernel
theorem dX6_forget_0 : decode cX6_forget 0 = .ok (.aload_n 0, 1) := by decide +kernel
theorem dX6_forget_1 : decode cX6_forget 1 = .ok (.iconst 0, 1) := by decide +kernel
theorem dX6_forget_2 : decode cX6_forget 2 = .ok (.putfield 73, 3) := by decide +kernel
theorem dX6_forget_5 : decode cX6_forget 5 = .ok (.aload_n 0, 1) := by decide +kernel
theorem dX6_forget_6 : decode cX6_forget 6 = .ok (.iconst 0, 1) := by decide +kernel
theorem dX6_forget_7 : decode cX6_forget 7 = .ok (.putfield 77, 3) := by decide +kernel
theorem dX6_forget_10 : decode cX6_forget 10 = .ok (.aload_n 0, 1) := by decide +kernel
theorem dX6_forget_11 : decode cX6_forget 11 = .ok (.iconst 0, 1) := by decide +kernel
theorem dX6_forget_12 : decode cX6_forget 12 = .ok (.putfield 80, 3) := by decide +kernel
theorem dX6_forget_15 : decode cX6_forget 15 = .ok (.return_, 1) := by decide +kernel
theorem dX6_known_0 : decode cX6_known 0 = .ok (.aload_n 0, 1) := by decide +kernel
theorem dX6_known_1 : decode cX6_known 1 = .ok (.getfield 73, 3) := by decide +kernel
theorem dX6_known_4 : decode cX6_known 4 = .ok (.ifCond .ne 95, 3) := by decide +kernel
theorem dX6_known_7 : decode cX6_known 7 = .ok (.aload_n 0, 1) := by decide +kernel
theorem dX6_known_8 : decode cX6_known 8 = .ok (.getfield 45, 3) := by decide +kernel
theorem dX6_known_11 : decode cX6_known 11 = .ok (.aload_n 0, 1) := by decide +kernel
theorem dX6_known_12 : decode cX6_known 12 = .ok (.getfield 32, 3) := by decide +kernel
theorem dX6_known_15 : decode cX6_known 15 = .ok (.iconst 1, 1) := by decide +kernel
theorem dX6_known_16 : decode cX6_known 16 = .ok (.iaload, 1) := by decide +kernel
theorem dX6_known_17 : decode cX6_known 17 = .ok (.invokevirtual 83, 3) := by decide +kernel
theorem dX6_known_20 : decode cX6_known 20 = .ok (.aload_n 0, 1) := by decide +kernel
theorem dX6_known_21 : decode cX6_known 21 = .ok (.getfield 38, 3) := by decide +kernel
theorem dX6_known_24 : decode cX6_known 24 = .ok (.aload_n 0, 1) := by decide +kernel
theorem dX6_known_25 : decode cX6_known 25 = .ok (.getfield 14, 3) := by decide +kernel
theorem dX6_known_28 : decode cX6_known 28 = .ok (.aload_n 0, 1) := by decide +kernel
theorem dX6_known_29 : decode cX6_known 29 = .ok (.getfield 20, 3) := by decide +kernel
theorem dX6_known_32 : decode cX6_known 32 = .ok (.aload_n 0, 1) := by decide +kernel
theorem dX6_known_33 : decode cX6_known 33 = .ok (.getfield 32, 3) := by decide +kernel
theorem dX6_known_36 : decode cX6_known 36 = .ok (.iconst 0, 1) := by decide +kernel
theorem dX6_known_37 : decode cX6_known 37 = .ok (.iaload, 1) := by decide +kernel
theorem dX6_known_38 : decode cX6_known 38 = .ok (.aload_n 0, 1) := by decide +kernel
theorem dX6_known_39 : decode cX6_known 39 = .ok (.getfield 45, 3) := by decide +kernel
theorem dX6_known_42 : decode cX6_known 42 = .ok (.invokevirtual 86, 3) := by decide +kernel
theorem dX6_known_45 : decode cX6_known 45 = .ok (.aload_n 0, 1) := by decide +kernel
theorem dX6_known_46 : decode cX6_known 46 = .ok (.aload_n 0, 1) := by decide +kernel
theorem dX6_known_47 : decode cX6_known 47 = .ok (.getfield 38, 3) := by decide +kernel
theorem dX6_known_50 : decode cX6_known 50 = .ok (.getfield 90, 3) := by decide +kernel
theorem dX6_known_53 : decode cX6_known 53 = .ok (.putfield 94, 3) := by decide +kernel
theorem dX6_known_56 : decode cX6_known 56 = .ok (.aload_n 0, 1) := by decide +kernel
theorem dX6_known_57 : decode cX6_known 57 = .ok (.aload_n 0, 1) := by decide +kernel
theorem dX6_known_58 : decode cX6_known 58 = .ok (.getfield 45, 3) := by decide +kernel
theorem dX6_known_61 : decode cX6_known 61 = .ok (.getfield 95, 3) := by decide +kernel
theorem dX6_known_64 : decode cX6_known 64 = .ok (.putfield 98, 3) := by decide +kernel
theorem dX6_known_67 : decode cX6_known 67 = .ok (.aload_n 0, 1) := by decide +kernel
theorem dX6_known_68 : decode cX6_known 68 = .ok (.getfield 66, 3) := by decide +kernel
theorem dX6_known_71 : decode cX6_known 71 = .ok (.aload_n 0, 1) := by decide +kernel
theorem dX6_known_72 : decode cX6_known 72 = .ok (.getfield 14, 3) := by decide +kernel
theorem dX6_known_75 : decode cX6_known 75 = .ok (.aload_n 0, 1) := by decide +kernel
theorem dX6_known_76 : decode cX6_known 76 = .ok (.getfield 20, 3) := by decide +kernel
theorem dX6_known_79 : decode cX6_known 79 = .ok (.aload_n 0, 1) := by decide +kernel
theorem dX6_known_80 : decode cX6_known 80 = .ok (.getfield 45, 3) := by decide +kernel
theorem dX6_known_83 : decode cX6_known 83 = .ok (.getfield 99, 3) := by decide +kernel
theorem dX6_known_86 : decode cX6_known 86 = .ok (.aload_n 0, 1) := by decide +kernel
theorem dX6_known_87 : decode cX6_known 87 = .ok (.getfield 32, 3) := by decide +kernel
theorem dX6_known_90 : decode cX6_known 90 = .ok (.iconst (-1), 1) := by decide +kernel
theorem dX6_known_91 : decode cX6_known 91 = .ok (.invokevirtual 102, 3) := by decide +kernel
theorem dX6_known_94 : decode cX6_known 94 = .ok (.aload_n 0, 1) := by decide +kernel
theorem dX6_known_95 : decode cX6_known 95 = .ok (.iconst 1, 1) := by decide +kernel
theorem dX6_known_96 : decode cX6_known 96 = .ok (.putfield 73, 3) := by decide +kernel
theorem dX6_known_99 : decode cX6_known 99 = .ok (.aload_n 0, 1) := by decide +kernel
theorem dX6_known_100 : decode cX6_known 100 = .ok (.areturn, 1) := by decide +kernel
theorem dX6_findBetter_0 : decode cX6_findBetter 0 = .ok (.aload_n 0, 1) := by decide +kernel
theorem dX6_findBetter_1 : decode cX6_findBetter 1 = .ok (.getfield 77, 3) := by decide +kernel
theorem dX6_findBetter_4 : decode cX6_findBetter 4 = .ok (.ifCond .eq 4, 3) := by decide +kernel
theorem dX6_findBetter_7 : decode cX6_findBetter 7 = .ok (.return_, 1) := by decide +kernel
theorem dX6_findBetter_8 : decode cX6_findBetter 8 = .ok (.aload_n 0, 1) := by decide +kernel
theorem dX6_findBetter_9 : decode cX6_findBetter 9 = .ok (.getfield 52, 3) := by decide +kernel
theorem dX6_findBetter_12 : decode cX6_findBetter 12 = .ok (.invokevirtual 106, 3) := by decide +kernel
theorem dX6_findBetter_15 : decode cX6_findBetter 15 = .ok (.aload_n 0, 1) := by decide +kernel
theorem dX6_findBetter_16 : decode cX6_findBetter 16 = .ok (.getfield 38, 3) := by decide +kernel
theorem dX6_findBetter_19 : decode cX6_findBetter 19 = .ok (.aload_n 0, 1) := by decide +kernel
theorem dX6_findBetter_20 : decode cX6_findBetter 20 = .ok (.getfield 14, 3) := by decide +kernel
theorem dX6_findBetter_23 : decode cX6_findBetter 23 = .ok (.aload_n 0, 1) := by decide +kernel
theorem dX6_findBetter_24 : decode cX6_findBetter 24 = .ok (.getfield 20, 3) := by decide +kernel
theorem dX6_findBetter_27 : decode cX6_findBetter 27 = .ok (.aload_n 0, 1) := by decide +kernel
theorem dX6_findBetter_28 : decode cX6_findBetter 28 = .ok (.getfield 32, 3) := by decide +kernel
theorem dX6_findBetter_31 : decode cX6_findBetter 31 = .ok (.iconst 0, 1) := by decide +kernel
theorem dX6_findBetter_32 : decode cX6_findBetter 32 = .ok (.iaload, 1) := by decide +kernel
theorem dX6_findBetter_33 : decode cX6_findBetter 33 = .ok (.aload_n 0, 1) := by decide +kernel
theorem dX6_findBetter_34 : decode cX6_findBetter 34 = .ok (.getfield 52, 3) := by decide +kernel
theorem dX6_findBetter_37 : decode cX6_findBetter 37 = .ok (.invokevirtual 86, 3) := by decide +kernel
theorem dX6_findBetter_40 : decode cX6_findBetter 40 = .ok (.aload_n 0, 1) := by decide +kernel
theorem dX6_findBetter_41 : decode cX6_findBetter 41 = .ok (.iconst (-1), 1) := by decide +kernel
theorem dX6_findBetter_42 : decode cX6_findBetter 42 = .ok (.putfield 108, 3) := by decide +kernel
theorem dX6_findBetter_45 : decode cX6_findBetter 45 = .ok (.iconst 0, 1) := by decide +kernel
theorem dX6_findBetter_46 : decode cX6_findBetter 46 = .ok (.istore_n 1, 1) := by decide +kernel
theorem dX6_findBetter_47 : decode cX6_findBetter 47 = .ok (.iload_n 1, 1) := by decide +kernel
theorem dX6_findBetter_48 : decode cX6_findBetter 48 = .ok (.bipush 21, 2) := by decide +kernel
theorem dX6_findBetter_50 : decode cX6_findBetter 50 = .ok (.if_icmp .ge 70, 3) := by decide +kernel
theorem dX6_findBetter_53 : decode cX6_findBetter 53 = .ok (.aload_n 0, 1) := by decide +kernel
theorem dX6_findBetter_54 : decode cX6_findBetter 54 = .ok (.getfield 70, 3) := by decide +kernel
theorem dX6_findBetter_57 : decode cX6_findBetter 57 = .ok (.aload_n 0, 1) := by decide +kernel
theorem dX6_findBetter_58 : decode cX6_findBetter 58 = .ok (.getfield 14, 3) := by decide +kernel
theorem dX6_findBetter_61 : decode cX6_findBetter 61 = .ok (.aload_n 0, 1) := by decide +kernel
theorem dX6_findBetter_62 : decode cX6_findBetter 62 = .ok (.getfield 20, 3) := by decide +kernel
theorem dX6_findBetter_65 : decode cX6_findBetter 65 = .ok (.aload_n 0, 1) := by decide +kernel
theorem dX6_findBetter_66 : decode cX6_findBetter 66 = .ok (.getfield 52, 3) := by decide +kernel
theorem dX6_findBetter_69 : decode cX6_findBetter 69 = .ok (.iload_n 1, 1) := by decide +kernel
theorem dX6_findBetter_70 : decode cX6_findBetter 70 = .ok (.invokevirtual 111, 3) := by decide +kernel
theorem dX6_findBetter_73 : decode cX6_findBetter 73 = .ok (.aload_n 0, 1) := by decide +kernel
theorem dX6_findBetter_74 : decode cX6_findBetter 74 = .ok (.getfield 32, 3) := by decide +kernel
theorem dX6_findBetter_77 : decode cX6_findBetter 77 = .ok (.iconst (-1), 1) := by decide +kernel
theorem dX6_findBetter_78 : decode cX6_findBetter 78 = .ok (.invokevirtual 102, 3) := by decide +kernel
theorem dX6_findBetter_81 : decode cX6_findBetter 81 = .ok (.aload_n 0, 1) := by decide +kernel
theorem dX6_findBetter_82 : decode cX6_findBetter 82 = .ok (.getfield 70, 3) := by decide +kernel
theorem dX6_findBetter_85 : decode cX6_findBetter 85 = .ok (.getfield 115, 3) := by decide +kernel
theorem dX6_findBetter_88 : decode cX6_findBetter 88 = .ok (.aload_n 0, 1) := by decide +kernel
theorem dX6_findBetter_89 : decode cX6_findBetter 89 = .ok (.getfield 108, 3) := by decide +kernel
theorem dX6_findBetter_92 : decode cX6_findBetter 92 = .ok (.if_icmp .le 22, 3) := by decide +kernel
theorem dX6_findBetter_95 : decode cX6_findBetter 95 = .ok (.aload_n 0, 1) := by decide +kernel
theorem dX6_findBetter_96 : decode cX6_findBetter 96 = .ok (.aload_n 0, 1) := by decide +kernel
theorem dX6_findBetter_97 : decode cX6_findBetter 97 = .ok (.getfield 70, 3) := by decide +kernel
theorem dX6_findBetter_100 : decode cX6_findBetter 100 = .ok (.getfield 115, 3) := by decide +kernel
theorem dX6_findBetter_103 : decode cX6_findBetter 103 = .ok (.putfield 108, 3) := by decide +kernel
theorem dX6_findBetter_106 : decode cX6_findBetter 106 = .ok (.aload_n 0, 1) := by decide +kernel
theorem dX6_findBetter_107 : decode cX6_findBetter 107 = .ok (.iload_n 1, 1) := by decide +kernel
theorem dX6_findBetter_108 : decode cX6_findBetter 108 = .ok (.bipush 50, 2) := by decide +kernel
theorem dX6_findBetter_110 : decode cX6_findBetter 110 = .ok (.imul, 1) := by decide +kernel
theorem dX6_findBetter_111 : decode cX6_findBetter 111 = .ok (.putfield 118, 3) := by decide +kernel
theorem dX6_findBetter_114 : decode cX6_findBetter 114 = .ok (.iinc 1 1, 3) := by decide +kernel
theorem dX6_findBetter_117 : decode cX6_findBetter 117 = .ok (.goto (-70), 3) := by decide +kernel
theorem dX6_findBetter_120 : decode cX6_findBetter 120 = .ok (.aload_n 0, 1) := by decide +kernel
theorem dX6_findBetter_121 : decode cX6_findBetter 121 = .ok (.iconst 1, 1) := by decide +kernel
theorem dX6_findBetter_122 : decode cX6_findBetter 122 = .ok (.putfield 77, 3) := by decide +kernel
theorem dX6_findBetter_125 : decode cX6_findBetter 125 = .ok (.return_, 1) := by decide +kernel
theorem dX6_findSpare_0 : decode cX6_findSpare 0 = .ok (.aload_n 0, 1) := by decide +kernel
theorem dX6_findSpare_1 : decode cX6_findSpare 1 = .ok (.getfield 80, 3) := by decide +kernel
theorem dX6_findSpare_4 : decode cX6_findSpare 4 = .ok (.ifCond .eq 4, 3) := by decide +kernel
theorem dX6_findSpare_7 : decode cX6_findSpare 7 = .ok (.return_, 1) := by decide +kernel
theorem dX6_findSpare_8 : decode cX6_findSpare 8 = .ok (.aload_n 0, 1) := by decide +kernel
theorem dX6_findSpare_9 : decode cX6_findSpare 9 = .ok (.getfield 59, 3) := by decide +kernel
theorem dX6_findSpare_12 : decode cX6_findSpare 12 = .ok (.aload_n 0, 1) := by decide +kernel
theorem dX6_findSpare_13 : decode cX6_findSpare 13 = .ok (.getfield 32, 3) := by decide +kernel
theorem dX6_findSpare_16 : decode cX6_findSpare 16 = .ok (.iconst 1, 1) := by decide +kernel
theorem dX6_findSpare_17 : decode cX6_findSpare 17 = .ok (.iaload, 1) := by decide +kernel
theorem dX6_findSpare_18 : decode cX6_findSpare 18 = .ok (.invokevirtual 121, 3) := by decide +kernel
theorem dX6_findSpare_21 : decode cX6_findSpare 21 = .ok (.aload_n 0, 1) := by decide +kernel
theorem dX6_findSpare_22 : decode cX6_findSpare 22 = .ok (.getfield 38, 3) := by decide +kernel
theorem dX6_findSpare_25 : decode cX6_findSpare 25 = .ok (.aload_n 0, 1) := by decide +kernel
theorem dX6_findSpare_26 : decode cX6_findSpare 26 = .ok (.getfield 14, 3) := by decide +kernel
theorem dX6_findSpare_29 : decode cX6_findSpare 29 = .ok (.aload_n 0, 1) := by decide +kernel
theorem dX6_findSpare_30 : decode cX6_findSpare 30 = .ok (.getfield 20, 3) := by decide +kernel
theorem dX6_findSpare_33 : decode cX6_findSpare 33 = .ok (.aload_n 0, 1) := by decide +kernel
theorem dX6_findSpare_34 : decode cX6_findSpare 34 = .ok (.getfield 32, 3) := by decide +kernel
theorem dX6_findSpare_37 : decode cX6_findSpare 37 = .ok (.iconst 0, 1) := by decide +kernel
theorem dX6_findSpare_38 : decode cX6_findSpare 38 = .ok (.iaload, 1) := by decide +kernel
theorem dX6_findSpare_39 : decode cX6_findSpare 39 = .ok (.aload_n 0, 1) := by decide +kernel
theorem dX6_findSpare_40 : decode cX6_findSpare 40 = .ok (.getfield 59, 3) := by decide +kernel
theorem dX6_findSpare_43 : decode cX6_findSpare 43 = .ok (.invokevirtual 86, 3) := by decide +kernel
theorem dX6_findSpare_46 : decode cX6_findSpare 46 = .ok (.aload_n 0, 1) := by decide +kernel
theorem dX6_findSpare_47 : decode cX6_findSpare 47 = .ok (.iconst (-1), 1) := by decide +kernel
theorem dX6_findSpare_48 : decode cX6_findSpare 48 = .ok (.putfield 122, 3) := by decide +kernel
theorem dX6_findSpare_51 : decode cX6_findSpare 51 = .ok (.aload_n 0, 1) := by decide +kernel
theorem dX6_findSpare_52 : decode cX6_findSpare 52 = .ok (.iconst (-1), 1) := by decide +kernel
theorem dX6_findSpare_53 : decode cX6_findSpare 53 = .ok (.putfield 125, 3) := by decide +kernel
theorem dX6_findSpare_56 : decode cX6_findSpare 56 = .ok (.iconst 0, 1) := by decide +kernel
theorem dX6_findSpare_57 : decode cX6_findSpare 57 = .ok (.istore_n 1, 1) := by decide +kernel
theorem dX6_findSpare_58 : decode cX6_findSpare 58 = .ok (.iload_n 1, 1) := by decide +kernel
theorem dX6_findSpare_59 : decode cX6_findSpare 59 = .ok (.aload_n 0, 1) := by decide +kernel
theorem dX6_findSpare_60 : decode cX6_findSpare 60 = .ok (.getfield 20, 3) := by decide +kernel
theorem dX6_findSpare_63 : decode cX6_findSpare 63 = .ok (.invokevirtual 128, 3) := by decide +kernel
theorem dX6_findSpare_66 : decode cX6_findSpare 66 = .ok (.if_icmp .ge 68, 3) := by decide +kernel
theorem dX6_findSpare_69 : decode cX6_findSpare 69 = .ok (.aload_n 0, 1) := by decide +kernel
theorem dX6_findSpare_70 : decode cX6_findSpare 70 = .ok (.getfield 70, 3) := by decide +kernel
theorem dX6_findSpare_73 : decode cX6_findSpare 73 = .ok (.aload_n 0, 1) := by decide +kernel
theorem dX6_findSpare_74 : decode cX6_findSpare 74 = .ok (.getfield 14, 3) := by decide +kernel
theorem dX6_findSpare_77 : decode cX6_findSpare 77 = .ok (.aload_n 0, 1) := by decide +kernel
theorem dX6_findSpare_78 : decode cX6_findSpare 78 = .ok (.getfield 20, 3) := by decide +kernel
theorem dX6_findSpare_81 : decode cX6_findSpare 81 = .ok (.aload_n 0, 1) := by decide +kernel
theorem dX6_findSpare_82 : decode cX6_findSpare 82 = .ok (.getfield 59, 3) := by decide +kernel
theorem dX6_findSpare_85 : decode cX6_findSpare 85 = .ok (.getfield 132, 3) := by decide +kernel
theorem dX6_findSpare_88 : decode cX6_findSpare 88 = .ok (.iload_n 1, 1) := by decide +kernel
theorem dX6_findSpare_89 : decode cX6_findSpare 89 = .ok (.aaload, 1) := by decide +kernel
theorem dX6_findSpare_90 : decode cX6_findSpare 90 = .ok (.aload_n 0, 1) := by decide +kernel
theorem dX6_findSpare_91 : decode cX6_findSpare 91 = .ok (.getfield 32, 3) := by decide +kernel
theorem dX6_findSpare_94 : decode cX6_findSpare 94 = .ok (.iload_n 1, 1) := by decide +kernel
theorem dX6_findSpare_95 : decode cX6_findSpare 95 = .ok (.invokevirtual 102, 3) := by decide +kernel
theorem dX6_findSpare_98 : decode cX6_findSpare 98 = .ok (.aload_n 0, 1) := by decide +kernel
theorem dX6_findSpare_99 : decode cX6_findSpare 99 = .ok (.getfield 70, 3) := by decide +kernel
theorem dX6_findSpare_102 : decode cX6_findSpare 102 = .ok (.getfield 115, 3) := by decide +kernel
theorem dX6_findSpare_105 : decode cX6_findSpare 105 = .ok (.aload_n 0, 1) := by decide +kernel
theorem dX6_findSpare_106 : decode cX6_findSpare 106 = .ok (.getfield 125, 3) := by decide +kernel
theorem dX6_findSpare_109 : decode cX6_findSpare 109 = .ok (.if_icmp .le 19, 3) := by decide +kernel
theorem dX6_findSpare_112 : decode cX6_findSpare 112 = .ok (.aload_n 0, 1) := by decide +kernel
theorem dX6_findSpare_113 : decode cX6_findSpare 113 = .ok (.aload_n 0, 1) := by decide +kernel
theorem dX6_findSpare_114 : decode cX6_findSpare 114 = .ok (.getfield 70, 3) := by decide +kernel
theorem dX6_findSpare_117 : decode cX6_findSpare 117 = .ok (.getfield 115, 3) := by decide +kernel
theorem dX6_findSpare_120 : decode cX6_findSpare 120 = .ok (.putfield 125, 3) := by decide +kernel
theorem dX6_findSpare_123 : decode cX6_findSpare 123 = .ok (.aload_n 0, 1) := by decide +kernel
theorem dX6_findSpare_124 : decode cX6_findSpare 124 = .ok (.iload_n 1, 1) := by decide +kernel
theorem dX6_findSpare_125 : decode cX6_findSpare 125 = .ok (.putfield 122, 3) := by decide +kernel
theorem dX6_findSpare_128 : decode cX6_findSpare 128 = .ok (.iinc 1 1, 3) := by decide +kernel
theorem dX6_findSpare_131 : decode cX6_findSpare 131 = .ok (.goto (-73), 3) := by decide +kernel
theorem dX6_findSpare_134 : decode cX6_findSpare 134 = .ok (.aload_n 0, 1) := by decide +kernel
theorem dX6_findSpare_135 : decode cX6_findSpare 135 = .ok (.iconst 1, 1) := by decide +kernel
theorem dX6_findSpare_136 : decode cX6_findSpare 136 = .ok (.putfield 80, 3) := by decide +kernel
theorem dX6_findSpare_139 : decode cX6_findSpare 139 = .ok (.return_, 1) := by decide +kernel
theorem dX7_init_0 : decode cX7_init 0 = .ok (.aload_n 0, 1) := by decide +kernel
theorem dX7_init_1 : decode cX7_init 1 = .ok (.invokespecial 3, 3) := by decide +kernel
theorem dX7_init_4 : decode cX7_init 4 = .ok (.aload_n 0, 1) := by decide +kernel
theorem dX7_init_5 : decode cX7_init 5 = .ok (.bipush 8, 2) := by decide +kernel
theorem dX7_init_7 : decode cX7_init 7 = .ok (.bipush 96, 2) := by decide +kernel
theorem dX7_init_9 : decode cX7_init 9 = .ok (.multianewarray 9 2, 4) := by decide +kernel
theorem dX7_init_13 : decode cX7_init 13 = .ok (.putfield 11, 3) := by decide +kernel
theorem dX7_init_16 : decode cX7_init 16 = .ok (.return_, 1) := by decide +kernel
theorem dX7_begin_0 : decode cX7_begin 0 = .ok (.iconst 0, 1) := by decide +kernel
theorem dX7_begin_1 : decode cX7_begin 1 = .ok (.istore_n 2, 1) := by decide +kernel
theorem dX7_begin_2 : decode cX7_begin 2 = .ok (.iload_n 2, 1) := by decide +kernel
theorem dX7_begin_3 : decode cX7_begin 3 = .ok (.bipush 8, 2) := by decide +kernel
theorem dX7_begin_5 : decode cX7_begin 5 = .ok (.if_icmp .ge 19, 3) := by decide +kernel
theorem dX7_begin_8 : decode cX7_begin 8 = .ok (.aload_n 0, 1) := by decide +kernel
theorem dX7_begin_9 : decode cX7_begin 9 = .ok (.getfield 11, 3) := by decide +kernel
theorem dX7_begin_12 : decode cX7_begin 12 = .ok (.iload_n 2, 1) := by decide +kernel
theorem dX7_begin_13 : decode cX7_begin 13 = .ok (.aaload, 1) := by decide +kernel
theorem dX7_begin_14 : decode cX7_begin 14 = .ok (.iconst 0, 1) := by decide +kernel
theorem dX7_begin_15 : decode cX7_begin 15 = .ok (.invokestatic 16, 3) := by decide +kernel
theorem dX7_begin_18 : decode cX7_begin 18 = .ok (.iinc 2 1, 3) := by decide +kernel
theorem dX7_begin_21 : decode cX7_begin 21 = .ok (.goto (-19), 3) := by decide +kernel
theorem dX7_begin_24 : decode cX7_begin 24 = .ok (.aload_n 0, 1) := by decide +kernel
theorem dX7_begin_25 : decode cX7_begin 25 = .ok (.iload_n 1, 1) := by decide +kernel
theorem dX7_begin_26 : decode cX7_begin 26 = .ok (.putfield 22, 3) := by decide +kernel
theorem dX7_begin_29 : decode cX7_begin 29 = .ok (.return_, 1) := by decide +kernel
theorem dX7_hear_0 : decode cX7_hear 0 = .ok (.iload 4, 2) := by decide +kernel
theorem dX7_hear_2 : decode cX7_hear 2 = .ok (.aload_n 0, 1) := by decide +kernel
theorem dX7_hear_3 : decode cX7_hear 3 = .ok (.getfield 22, 3) := by decide +kernel
theorem dX7_hear_6 : decode cX7_hear 6 = .ok (.if_icmp .le 4, 3) := by decide +kernel
theorem dX7_hear_9 : decode cX7_hear 9 = .ok (.return_, 1) := by decide +kernel
theorem dX7_hear_10 : decode cX7_hear 10 = .ok (.iload_n 1, 1) := by decide +kernel
theorem dX7_hear_11 : decode cX7_hear 11 = .ok (.bipush 12, 2) := by decide +kernel
theorem dX7_hear_13 : decode cX7_hear 13 = .ok (.idiv, 1) := by decide +kernel
theorem dX7_hear_14 : decode cX7_hear 14 = .ok (.istore 5, 2) := by decide +kernel
theorem dX7_hear_16 : decode cX7_hear 16 = .ok (.iload_n 2, 1) := by decide +kernel
theorem dX7_hear_17 : decode cX7_hear 17 = .ok (.bipush 12, 2) := by decide +kernel
theorem dX7_hear_19 : decode cX7_hear 19 = .ok (.idiv, 1) := by decide +kernel
theorem dX7_hear_20 : decode cX7_hear 20 = .ok (.istore 6, 2) := by decide +kernel
theorem dX7_hear_22 : decode cX7_hear 22 = .ok (.iload_n 3, 1) := by decide +kernel
theorem dX7_hear_23 : decode cX7_hear 23 = .ok (.bipush 12, 2) := by decide +kernel
theorem dX7_hear_25 : decode cX7_hear 25 = .ok (.idiv, 1) := by decide +kernel
theorem dX7_hear_26 : decode cX7_hear 26 = .ok (.istore 7, 2) := by decide +kernel
theorem dX7_hear_28 : decode cX7_hear 28 = .ok (.iconst 0, 1) := by decide +kernel
theorem dX7_hear_29 : decode cX7_hear 29 = .ok (.istore 8, 2) := by decide +kernel
theorem dX7_hear_31 : decode cX7_hear 31 = .ok (.iload 8, 2) := by decide +kernel
theorem dX7_hear_33 : decode cX7_hear 33 = .ok (.bipush 8, 2) := by decide +kernel
theorem dX7_hear_35 : decode cX7_hear 35 = .ok (.if_icmp .ge 69, 3) := by decide +kernel
theorem dX7_hear_38 : decode cX7_hear 38 = .ok (.iload 8, 2) := by decide +kernel
theorem dX7_hear_40 : decode cX7_hear 40 = .ok (.iload 5, 2) := by decide +kernel
theorem dX7_hear_42 : decode cX7_hear 42 = .ok (.if_icmp .eq 56, 3) := by decide +kernel
theorem dX7_hear_45 : decode cX7_hear 45 = .ok (.iload 8, 2) := by decide +kernel
theorem dX7_hear_47 : decode cX7_hear 47 = .ok (.iload 6, 2) := by decide +kernel
theorem dX7_hear_49 : decode cX7_hear 49 = .ok (.if_icmp .eq 49, 3) := by decide +kernel
theorem dX7_hear_52 : decode cX7_hear 52 = .ok (.iload 8, 2) := by decide +kernel
theorem dX7_hear_54 : decode cX7_hear 54 = .ok (.iload 7, 2) := by decide +kernel
theorem dX7_hear_56 : decode cX7_hear 56 = .ok (.if_icmp .eq 42, 3) := by decide +kernel
theorem dX7_hear_59 : decode cX7_hear 59 = .ok (.aload_n 0, 1) := by decide +kernel
theorem dX7_hear_60 : decode cX7_hear 60 = .ok (.getfield 11, 3) := by decide +kernel
theorem dX7_hear_63 : decode cX7_hear 63 = .ok (.iload 8, 2) := by decide +kernel
theorem dX7_hear_65 : decode cX7_hear 65 = .ok (.aaload, 1) := by decide +kernel
theorem dX7_hear_66 : decode cX7_hear 66 = .ok (.iload_n 1, 1) := by decide +kernel
theorem dX7_hear_67 : decode cX7_hear 67 = .ok (.dup2, 1) := by decide +kernel
theorem dX7_hear_68 : decode cX7_hear 68 = .ok (.iaload, 1) := by decide +kernel
theorem dX7_hear_69 : decode cX7_hear 69 = .ok (.iconst 1, 1) := by decide +kernel
theorem dX7_hear_70 : decode cX7_hear 70 = .ok (.iadd, 1) := by decide +kernel
theorem dX7_hear_71 : decode cX7_hear 71 = .ok (.iastore, 1) := by decide +kernel
theorem dX7_hear_72 : decode cX7_hear 72 = .ok (.aload_n 0, 1) := by decide +kernel
theorem dX7_hear_73 : decode cX7_hear 73 = .ok (.getfield 11, 3) := by decide +kernel
theorem dX7_hear_76 : decode cX7_hear 76 = .ok (.iload 8, 2) := by decide +kernel
theorem dX7_hear_78 : decode cX7_hear 78 = .ok (.aaload, 1) := by decide +kernel
theorem dX7_hear_79 : decode cX7_hear 79 = .ok (.iload_n 2, 1) := by decide +kernel
theorem dX7_hear_80 : decode cX7_hear 80 = .ok (.dup2, 1) := by decide +kernel
theorem dX7_hear_81 : decode cX7_hear 81 = .ok (.iaload, 1) := by decide +kernel
theorem dX7_hear_82 : decode cX7_hear 82 = .ok (.iconst 1, 1) := by decide +kernel
theorem dX7_hear_83 : decode cX7_hear 83 = .ok (.iadd, 1) := by decide +kernel
theorem dX7_hear_84 : decode cX7_hear 84 = .ok (.iastore, 1) := by decide +kernel
theorem dX7_hear_85 : decode cX7_hear 85 = .ok (.aload_n 0, 1) := by decide +kernel
theorem dX7_hear_86 : decode cX7_hear 86 = .ok (.getfield 11, 3) := by decide +kernel
theorem dX7_hear_89 : decode cX7_hear 89 = .ok (.iload 8, 2) := by decide +kernel
theorem dX7_hear_91 : decode cX7_hear 91 = .ok (.aaload, 1) := by decide +kernel
theorem dX7_hear_92 : decode cX7_hear 92 = .ok (.iload_n 3, 1) := by decide +kernel
theorem dX7_hear_93 : decode cX7_hear 93 = .ok (.dup2, 1) := by decide +kernel
theorem dX7_hear_94 : decode cX7_hear 94 = .ok (.iaload, 1) := by decide +kernel
theorem dX7_hear_95 : decode cX7_hear 95 = .ok (.iconst 1, 1) := by decide +kernel
theorem dX7_hear_96 : decode cX7_hear 96 = .ok (.iadd, 1) := by decide +kernel
theorem dX7_hear_97 : decode cX7_hear 97 = .ok (.iastore, 1) := by decide +kernel
theorem dX7_hear_98 : decode cX7_hear 98 = .ok (.iinc 8 1, 3) := by decide +kernel
theorem dX7_hear_101 : decode cX7_hear 101 = .ok (.goto (-70), 3) := by decide +kernel
theorem dX7_hear_104 : decode cX7_hear 104 = .ok (.return_, 1) := by decide +kernel
theorem dX8_init_0 : decode cX8_init 0 = .ok (.aload_n 0, 1) := by decide +kernel
theorem dX8_init_1 : decode cX8_init 1 = .ok (.invokespecial 3, 3) := by decide +kernel
theorem dX8_init_4 : decode cX8_init 4 = .ok (.aload_n 0, 1) := by decide +kernel
theorem dX8_init_5 : decode cX8_init 5 = .ok (.bipush 21, 2) := by decide +kernel
theorem dX8_init_7 : decode cX8_init 7 = .ok (.bipush 96, 2) := by decide +kernel
theorem dX8_init_9 : decode cX8_init 9 = .ok (.multianewarray 9 2, 4) := by decide +kernel
theorem dX8_init_13 : decode cX8_init 13 = .ok (.putfield 11, 3) := by decide +kernel
theorem dX8_init_16 : decode cX8_init 16 = .ok (.return_, 1) := by decide +kernel
theorem dX8_begin_0 : decode cX8_begin 0 = .ok (.iconst 0, 1) := by decide +kernel
theorem dX8_begin_1 : decode cX8_begin 1 = .ok (.istore_n 1, 1) := by decide +kernel
theorem dX8_begin_2 : decode cX8_begin 2 = .ok (.iload_n 1, 1) := by decide +kernel
theorem dX8_begin_3 : decode cX8_begin 3 = .ok (.bipush 21, 2) := by decide +kernel
theorem dX8_begin_5 : decode cX8_begin 5 = .ok (.if_icmp .ge 19, 3) := by decide +kernel
theorem dX8_begin_8 : decode cX8_begin 8 = .ok (.aload_n 0, 1) := by decide +kernel
theorem dX8_begin_9 : decode cX8_begin 9 = .ok (.getfield 11, 3) := by decide +kernel
theorem dX8_begin_12 : decode cX8_begin 12 = .ok (.iload_n 1, 1) := by decide +kernel
theorem dX8_begin_13 : decode cX8_begin 13 = .ok (.aaload, 1) := by decide +kernel
theorem dX8_begin_14 : decode cX8_begin 14 = .ok (.iconst 0, 1) := by decide +kernel
theorem dX8_begin_15 : decode cX8_begin 15 = .ok (.invokestatic 16, 3) := by decide +kernel
theorem dX8_begin_18 : decode cX8_begin 18 = .ok (.iinc 1 1, 3) := by decide +kernel
theorem dX8_begin_21 : decode cX8_begin 21 = .ok (.goto (-19), 3) := by decide +kernel
theorem dX8_begin_24 : decode cX8_begin 24 = .ok (.return_, 1) := by decide +kernel
theorem dX8_hear_0 : decode cX8_hear 0 = .ok (.iload 4, 2) := by decide +kernel
theorem dX8_hear_2 : decode cX8_hear 2 = .ok (.bipush 50, 2) := by decide +kernel
theorem dX8_hear_4 : decode cX8_hear 4 = .ok (.iadd, 1) := by decide +kernel
theorem dX8_hear_5 : decode cX8_hear 5 = .ok (.iconst 1, 1) := by decide +kernel
theorem dX8_hear_6 : decode cX8_hear 6 = .ok (.isub, 1) := by decide +kernel
theorem dX8_hear_7 : decode cX8_hear 7 = .ok (.bipush 50, 2) := by decide +kernel
theorem dX8_hear_9 : decode cX8_hear 9 = .ok (.idiv, 1) := by decide +kernel
theorem dX8_hear_10 : decode cX8_hear 10 = .ok (.istore 5, 2) := by decide +kernel
theorem dX8_hear_12 : decode cX8_hear 12 = .ok (.iload 5, 2) := by decide +kernel
theorem dX8_hear_14 : decode cX8_hear 14 = .ok (.ifCond .lt 49, 3) := by decide +kernel
theorem dX8_hear_17 : decode cX8_hear 17 = .ok (.iload 5, 2) := by decide +kernel
theorem dX8_hear_19 : decode cX8_hear 19 = .ok (.bipush 21, 2) := by decide +kernel
theorem dX8_hear_21 : decode cX8_hear 21 = .ok (.if_icmp .ge 42, 3) := by decide +kernel
theorem dX8_hear_24 : decode cX8_hear 24 = .ok (.aload_n 0, 1) := by decide +kernel
theorem dX8_hear_25 : decode cX8_hear 25 = .ok (.getfield 11, 3) := by decide +kernel
theorem dX8_hear_28 : decode cX8_hear 28 = .ok (.iload 5, 2) := by decide +kernel
theorem dX8_hear_30 : decode cX8_hear 30 = .ok (.aaload, 1) := by decide +kernel
theorem dX8_hear_31 : decode cX8_hear 31 = .ok (.iload_n 1, 1) := by decide +kernel
theorem dX8_hear_32 : decode cX8_hear 32 = .ok (.dup2, 1) := by decide +kernel
theorem dX8_hear_33 : decode cX8_hear 33 = .ok (.iaload, 1) := by decide +kernel
theorem dX8_hear_34 : decode cX8_hear 34 = .ok (.iconst 1, 1) := by decide +kernel
theorem dX8_hear_35 : decode cX8_hear 35 = .ok (.iadd, 1) := by decide +kernel
theorem dX8_hear_36 : decode cX8_hear 36 = .ok (.iastore, 1) := by decide +kernel
theorem dX8_hear_37 : decode cX8_hear 37 = .ok (.aload_n 0, 1) := by decide +kernel
theorem dX8_hear_38 : decode cX8_hear 38 = .ok (.getfield 11, 3) := by decide +kernel
theorem dX8_hear_41 : decode cX8_hear 41 = .ok (.iload 5, 2) := by decide +kernel
theorem dX8_hear_43 : decode cX8_hear 43 = .ok (.aaload, 1) := by decide +kernel
theorem dX8_hear_44 : decode cX8_hear 44 = .ok (.iload_n 2, 1) := by decide +kernel
theorem dX8_hear_45 : decode cX8_hear 45 = .ok (.dup2, 1) := by decide +kernel
theorem dX8_hear_46 : decode cX8_hear 46 = .ok (.iaload, 1) := by decide +kernel
theorem dX8_hear_47 : decode cX8_hear 47 = .ok (.iconst 1, 1) := by decide +kernel
theorem dX8_hear_48 : decode cX8_hear 48 = .ok (.iadd, 1) := by decide +kernel
theorem dX8_hear_49 : decode cX8_hear 49 = .ok (.iastore, 1) := by decide +kernel
theorem dX8_hear_50 : decode cX8_hear 50 = .ok (.aload_n 0, 1) := by decide +kernel
theorem dX8_hear_51 : decode cX8_hear 51 = .ok (.getfield 11, 3) := by decide +kernel
theorem dX8_hear_54 : decode cX8_hear 54 = .ok (.iload 5, 2) := by decide +kernel
theorem dX8_hear_56 : decode cX8_hear 56 = .ok (.aaload, 1) := by decide +kernel
theorem dX8_hear_57 : decode cX8_hear 57 = .ok (.iload_n 3, 1) := by decide +kernel
theorem dX8_hear_58 : decode cX8_hear 58 = .ok (.dup2, 1) := by decide +kernel
theorem dX8_hear_59 : decode cX8_hear 59 = .ok (.iaload, 1) := by decide +kernel
theorem dX8_hear_60 : decode cX8_hear 60 = .ok (.iconst 1, 1) := by decide +kernel
theorem dX8_hear_61 : decode cX8_hear 61 = .ok (.iadd, 1) := by decide +kernel
theorem dX8_hear_62 : decode cX8_hear 62 = .ok (.iastore, 1) := by decide +kernel
theorem dX8_hear_63 : decode cX8_hear 63 = .ok (.return_, 1) := by decide +kernel
theorem dX8_sumUpTo_0 : decode cX8_sumUpTo 0 = .ok (.iconst 0, 1) := by decide +kernel
theorem dX8_sumUpTo_1 : decode cX8_sumUpTo 1 = .ok (.istore_n 2, 1) := by decide +kernel
theorem dX8_sumUpTo_2 : decode cX8_sumUpTo 2 = .ok (.iload_n 1, 1) := by decide +kernel
theorem dX8_sumUpTo_3 : decode cX8_sumUpTo 3 = .ok (.ifCond .le 36, 3) := by decide +kernel
theorem dX8_sumUpTo_6 : decode cX8_sumUpTo 6 = .ok (.iload_n 2, 1) := by decide +kernel
theorem dX8_sumUpTo_7 : decode cX8_sumUpTo 7 = .ok (.bipush 96, 2) := by decide +kernel
theorem dX8_sumUpTo_9 : decode cX8_sumUpTo 9 = .ok (.if_icmp .ge 30, 3) := by decide +kernel
theorem dX8_sumUpTo_12 : decode cX8_sumUpTo 12 = .ok (.aload_n 0, 1) := by decide +kernel
theorem dX8_sumUpTo_13 : decode cX8_sumUpTo 13 = .ok (.getfield 11, 3) := by decide +kernel
theorem dX8_sumUpTo_16 : decode cX8_sumUpTo 16 = .ok (.iload_n 1, 1) := by decide +kernel
theorem dX8_sumUpTo_17 : decode cX8_sumUpTo 17 = .ok (.aaload, 1) := by decide +kernel
theorem dX8_sumUpTo_18 : decode cX8_sumUpTo 18 = .ok (.iload_n 2, 1) := by decide +kernel
theorem dX8_sumUpTo_19 : decode cX8_sumUpTo 19 = .ok (.dup2, 1) := by decide +kernel
theorem dX8_sumUpTo_20 : decode cX8_sumUpTo 20 = .ok (.iaload, 1) := by decide +kernel
theorem dX8_sumUpTo_21 : decode cX8_sumUpTo 21 = .ok (.aload_n 0, 1) := by decide +kernel
theorem dX8_sumUpTo_22 : decode cX8_sumUpTo 22 = .ok (.getfield 11, 3) := by decide +kernel
theorem dX8_sumUpTo_25 : decode cX8_sumUpTo 25 = .ok (.iload_n 1, 1) := by decide +kernel
theorem dX8_sumUpTo_26 : decode cX8_sumUpTo 26 = .ok (.iconst 1, 1) := by decide +kernel
theorem dX8_sumUpTo_27 : decode cX8_sumUpTo 27 = .ok (.isub, 1) := by decide +kernel
theorem dX8_sumUpTo_28 : decode cX8_sumUpTo 28 = .ok (.aaload, 1) := by decide +kernel
theorem dX8_sumUpTo_29 : decode cX8_sumUpTo 29 = .ok (.iload_n 2, 1) := by decide +kernel
theorem dX8_sumUpTo_30 : decode cX8_sumUpTo 30 = .ok (.iaload, 1) := by decide +kernel
theorem dX8_sumUpTo_31 : decode cX8_sumUpTo 31 = .ok (.iadd, 1) := by decide +kernel
theorem dX8_sumUpTo_32 : decode cX8_sumUpTo 32 = .ok (.iastore, 1) := by decide +kernel
theorem dX8_sumUpTo_33 : decode cX8_sumUpTo 33 = .ok (.iinc 2 1, 3) := by decide +kernel
theorem dX8_sumUpTo_36 : decode cX8_sumUpTo 36 = .ok (.goto (-34), 3) := by decide +kernel
theorem dX8_sumUpTo_39 : decode cX8_sumUpTo 39 = .ok (.aload_n 0, 1) := by decide +kernel
theorem dX8_sumUpTo_40 : decode cX8_sumUpTo 40 = .ok (.getfield 11, 3) := by decide +kernel
theorem dX8_sumUpTo_43 : decode cX8_sumUpTo 43 = .ok (.iload_n 1, 1) := by decide +kernel
theorem dX8_sumUpTo_44 : decode cX8_sumUpTo 44 = .ok (.aaload, 1) := by decide +kernel
theorem dX8_sumUpTo_45 : decode cX8_sumUpTo 45 = .ok (.areturn, 1) := by decide +kernel
theorem dX10_init_0 : decode cX10_init 0 = .ok (.aload_n 0, 1) := by decide +kernel
theorem dX10_init_1 : decode cX10_init 1 = .ok (.invokespecial 3, 3) := by decide +kernel
theorem dX10_init_4 : decode cX10_init 4 = .ok (.aload_n 0, 1) := by decide +kernel
theorem dX10_init_5 : decode cX10_init 5 = .ok (.bipush 32, 2) := by decide +kernel
theorem dX10_init_7 : decode cX10_init 7 = .ok (.newarray .int, 2) := by decide +kernel
theorem dX10_init_9 : decode cX10_init 9 = .ok (.putfield 9, 3) := by decide +kernel
theorem dX10_init_12 : decode cX10_init 12 = .ok (.aload_n 0, 1) := by decide +kernel
theorem dX10_init_13 : decode cX10_init 13 = .ok (.iload_n 1, 1) := by decide +kernel
theorem dX10_init_14 : decode cX10_init 14 = .ok (.putfield 15, 3) := by decide +kernel
theorem dX10_init_17 : decode cX10_init 17 = .ok (.aload_n 0, 1) := by decide +kernel
theorem dX10_init_18 : decode cX10_init 18 = .ok (.iload_n 2, 1) := by decide +kernel
theorem dX10_init_19 : decode cX10_init 19 = .ok (.putfield 19, 3) := by decide +kernel
theorem dX10_init_22 : decode cX10_init 22 = .ok (.return_, 1) := by decide +kernel
theorem dX10_holds_0 : decode cX10_holds 0 = .ok (.iload_n 1, 1) := by decide +kernel
theorem dX10_holds_1 : decode cX10_holds 1 = .ok (.ifCond .ne 10, 3) := by decide +kernel
theorem dX10_holds_4 : decode cX10_holds 4 = .ok (.aload_n 0, 1) := by decide +kernel
theorem dX10_holds_5 : decode cX10_holds 5 = .ok (.getfield 15, 3) := by decide +kernel
theorem dX10_holds_8 : decode cX10_holds 8 = .ok (.goto 7, 3) := by decide +kernel
theorem dX10_holds_11 : decode cX10_holds 11 = .ok (.aload_n 0, 1) := by decide +kernel
theorem dX10_holds_12 : decode cX10_holds 12 = .ok (.getfield 19, 3) := by decide +kernel
theorem dX10_holds_15 : decode cX10_holds 15 = .ok (.ireturn, 1) := by decide +kernel
theorem dX10_has_0 : decode cX10_has 0 = .ok (.iload_n 1, 1) := by decide +kernel
theorem dX10_has_1 : decode cX10_has 1 = .ok (.ifCond .lt 15, 3) := by decide +kernel
theorem dX10_has_4 : decode cX10_has 4 = .ok (.iload_n 1, 1) := by decide +kernel
theorem dX10_has_5 : decode cX10_has 5 = .ok (.aload_n 0, 1) := by decide +kernel
theorem dX10_has_6 : decode cX10_has 6 = .ok (.getfield 22, 3) := by decide +kernel
theorem dX10_has_9 : decode cX10_has 9 = .ok (.if_icmp .ge 7, 3) := by decide +kernel
theorem dX10_has_12 : decode cX10_has 12 = .ok (.iconst 1, 1) := by decide +kernel
theorem dX10_has_13 : decode cX10_has 13 = .ok (.goto 4, 3) := by decide +kernel
theorem dX10_has_16 : decode cX10_has 16 = .ok (.iconst 0, 1) := by decide +kernel
theorem dX10_has_17 : decode cX10_has 17 = .ok (.ireturn, 1) := by decide +kernel
theorem dX10_append_0 : decode cX10_append 0 = .ok (.aload_n 0, 1) := by decide +kernel
theorem dX10_append_1 : decode cX10_append 1 = .ok (.getfield 22, 3) := by decide +kernel
theorem dX10_append_4 : decode cX10_append 4 = .ok (.bipush 8, 2) := by decide +kernel
theorem dX10_append_6 : decode cX10_append 6 = .ok (.if_icmp .lt 4, 3) := by decide +kernel
theorem dX10_append_9 : decode cX10_append 9 = .ok (.return_, 1) := by decide +kernel
theorem dX10_append_10 : decode cX10_append 10 = .ok (.aload_n 0, 1) := by decide +kernel
theorem dX10_append_11 : decode cX10_append 11 = .ok (.getfield 9, 3) := by decide +kernel
theorem dX10_append_14 : decode cX10_append 14 = .ok (.iconst 4, 1) := by decide +kernel
theorem dX10_append_15 : decode cX10_append 15 = .ok (.aload_n 0, 1) := by decide +kernel
theorem dX10_append_16 : decode cX10_append 16 = .ok (.getfield 22, 3) := by decide +kernel
theorem dX10_append_19 : decode cX10_append 19 = .ok (.imul, 1) := by decide +kernel
theorem dX10_append_20 : decode cX10_append 20 = .ok (.iload_n 1, 1) := by decide +kernel
theorem dX10_append_21 : decode cX10_append 21 = .ok (.iastore, 1) := by decide +kernel
theorem dX10_append_22 : decode cX10_append 22 = .ok (.aload_n 0, 1) := by decide +kernel
theorem dX10_append_23 : decode cX10_append 23 = .ok (.getfield 9, 3) := by decide +kernel
theorem dX10_append_26 : decode cX10_append 26 = .ok (.iconst 4, 1) := by decide +kernel
theorem dX10_append_27 : decode cX10_append 27 = .ok (.aload_n 0, 1) := by decide +kernel
theorem dX10_append_28 : decode cX10_append 28 = .ok (.getfield 22, 3) := by decide +kernel
theorem dX10_append_31 : decode cX10_append 31 = .ok (.imul, 1) := by decide +kernel
theorem dX10_append_32 : decode cX10_append 32 = .ok (.iconst 1, 1) := by decide +kernel
theorem dX10_append_33 : decode cX10_append 33 = .ok (.iadd, 1) := by decide +kernel
theorem dX10_append_34 : decode cX10_append 34 = .ok (.iload_n 2, 1) := by decide +kernel
theorem dX10_append_35 : decode cX10_append 35 = .ok (.iastore, 1) := by decide +kernel
theorem dX10_append_36 : decode cX10_append 36 = .ok (.aload_n 0, 1) := by decide +kernel
theorem dX10_append_37 : decode cX10_append 37 = .ok (.getfield 9, 3) := by decide +kernel
theorem dX10_append_40 : decode cX10_append 40 = .ok (.iconst 4, 1) := by decide +kernel
theorem dX10_append_41 : decode cX10_append 41 = .ok (.aload_n 0, 1) := by decide +kernel
theorem dX10_append_42 : decode cX10_append 42 = .ok (.getfield 22, 3) := by decide +kernel
theorem dX10_append_45 : decode cX10_append 45 = .ok (.imul, 1) := by decide +kernel
theorem dX10_append_46 : decode cX10_append 46 = .ok (.iconst 2, 1) := by decide +kernel
theorem dX10_append_47 : decode cX10_append 47 = .ok (.iadd, 1) := by decide +kernel
theorem dX10_append_48 : decode cX10_append 48 = .ok (.iload_n 3, 1) := by decide +kernel
theorem dX10_append_49 : decode cX10_append 49 = .ok (.iastore, 1) := by decide +kernel
theorem dX10_append_50 : decode cX10_append 50 = .ok (.aload_n 0, 1) := by decide +kernel
theorem dX10_append_51 : decode cX10_append 51 = .ok (.getfield 9, 3) := by decide +kernel
theorem dX10_append_54 : decode cX10_append 54 = .ok (.iconst 4, 1) := by decide +kernel
theorem dX10_append_55 : decode cX10_append 55 = .ok (.aload_n 0, 1) := by decide +kernel
theorem dX10_append_56 : decode cX10_append 56 = .ok (.getfield 22, 3) := by decide +kernel
theorem dX10_append_59 : decode cX10_append 59 = .ok (.imul, 1) := by decide +kernel
theorem dX10_append_60 : decode cX10_append 60 = .ok (.iconst 3, 1) := by decide +kernel
theorem dX10_append_61 : decode cX10_append 61 = .ok (.iadd, 1) := by decide +kernel
theorem dX10_append_62 : decode cX10_append 62 = .ok (.iload 4, 2) := by decide +kernel
theorem dX10_append_64 : decode cX10_append 64 = .ok (.iastore, 1) := by decide +kernel
theorem dX10_append_65 : decode cX10_append 65 = .ok (.aload_n 0, 1) := by decide +kernel
theorem dX10_append_66 : decode cX10_append 66 = .ok (.dup, 1) := by decide +kernel
theorem dX10_append_67 : decode cX10_append 67 = .ok (.getfield 22, 3) := by decide +kernel
theorem dX10_append_70 : decode cX10_append 70 = .ok (.iconst 1, 1) := by decide +kernel
theorem dX10_append_71 : decode cX10_append 71 = .ok (.iadd, 1) := by decide +kernel
theorem dX10_append_72 : decode cX10_append 72 = .ok (.putfield 22, 3) := by decide +kernel
theorem dX10_append_75 : decode cX10_append 75 = .ok (.return_, 1) := by decide +kernel
theorem dX10_become_0 : decode cX10_become 0 = .ok (.aload_n 1, 1) := by decide +kernel
theorem dX10_become_1 : decode cX10_become 1 = .ok (.getfield 9, 3) := by decide +kernel
theorem dX10_become_4 : decode cX10_become 4 = .ok (.iconst 0, 1) := by decide +kernel
theorem dX10_become_5 : decode cX10_become 5 = .ok (.aload_n 0, 1) := by decide +kernel
theorem dX10_become_6 : decode cX10_become 6 = .ok (.getfield 9, 3) := by decide +kernel
theorem dX10_become_9 : decode cX10_become 9 = .ok (.iconst 0, 1) := by decide +kernel
theorem dX10_become_10 : decode cX10_become 10 = .ok (.aload_n 0, 1) := by decide +kernel
theorem dX10_become_11 : decode cX10_become 11 = .ok (.getfield 9, 3) := by decide +kernel
theorem dX10_become_14 : decode cX10_become 14 = .ok (.arraylength, 1) := by decide +kernel
theorem dX10_become_15 : decode cX10_become 15 = .ok (.invokestatic 26, 3) := by decide +kernel
theorem dX10_become_18 : decode cX10_become 18 = .ok (.aload_n 0, 1) := by decide +kernel
theorem dX10_become_19 : decode cX10_become 19 = .ok (.aload_n 1, 1) := by decide +kernel
theorem dX10_become_20 : decode cX10_become 20 = .ok (.getfield 15, 3) := by decide +kernel
theorem dX10_become_23 : decode cX10_become 23 = .ok (.putfield 15, 3) := by decide +kernel
theorem dX10_become_26 : decode cX10_become 26 = .ok (.aload_n 0, 1) := by decide +kernel
theorem dX10_become_27 : decode cX10_become 27 = .ok (.aload_n 1, 1) := by decide +kernel
theorem dX10_become_28 : decode cX10_become 28 = .ok (.getfield 19, 3) := by decide +kernel
theorem dX10_become_31 : decode cX10_become 31 = .ok (.putfield 19, 3) := by decide +kernel
theorem dX10_become_34 : decode cX10_become 34 = .ok (.aload_n 0, 1) := by decide +kernel
theorem dX10_become_35 : decode cX10_become 35 = .ok (.aload_n 1, 1) := by decide +kernel
theorem dX10_become_36 : decode cX10_become 36 = .ok (.getfield 22, 3) := by decide +kernel
theorem dX10_become_39 : decode cX10_become 39 = .ok (.putfield 22, 3) := by decide +kernel
theorem dX10_become_42 : decode cX10_become 42 = .ok (.return_, 1) := by decide +kernel
theorem dX10_column_0 : decode cX10_column 0 = .ok (.aload_n 0, 1) := by decide +kernel
theorem dX10_column_1 : decode cX10_column 1 = .ok (.iload_n 1, 1) := by decide +kernel
theorem dX10_column_2 : decode cX10_column 2 = .ok (.invokevirtual 32, 3) := by decide +kernel
theorem dX10_column_5 : decode cX10_column 5 = .ok (.ifCond .eq 25, 3) := by decide +kernel
theorem dX10_column_8 : decode cX10_column 8 = .ok (.iload_n 2, 1) := by decide +kernel
theorem dX10_column_9 : decode cX10_column 9 = .ok (.iconst 0, 1) := by decide +kernel
theorem dX10_column_10 : decode cX10_column 10 = .ok (.iconst 3, 1) := by decide +kernel
theorem dX10_column_11 : decode cX10_column 11 = .ok (.invokestatic 36, 3) := by decide +kernel
theorem dX10_column_14 : decode cX10_column 14 = .ok (.ifCond .eq 16, 3) := by decide +kernel
theorem dX10_column_17 : decode cX10_column 17 = .ok (.aload_n 0, 1) := by decide +kernel
theorem dX10_column_18 : decode cX10_column 18 = .ok (.getfield 9, 3) := by decide +kernel
theorem dX10_column_21 : decode cX10_column 21 = .ok (.iconst 4, 1) := by decide +kernel
theorem dX10_column_22 : decode cX10_column 22 = .ok (.iload_n 1, 1) := by decide +kernel
theorem dX10_column_23 : decode cX10_column 23 = .ok (.imul, 1) := by decide +kernel
theorem dX10_column_24 : decode cX10_column 24 = .ok (.iload_n 2, 1) := by decide +kernel
theorem dX10_column_25 : decode cX10_column 25 = .ok (.iadd, 1) := by decide +kernel
theorem dX10_column_26 : decode cX10_column 26 = .ok (.iaload, 1) := by decide +kernel
theorem dX10_column_27 : decode cX10_column 27 = .ok (.goto 4, 3) := by decide +kernel
theorem dX10_column_30 : decode cX10_column 30 = .ok (.iconst 0, 1) := by decide +kernel
theorem dX10_column_31 : decode cX10_column 31 = .ok (.ireturn, 1) := by decide +kernel
theorem dX10_product_0 : decode cX10_product 0 = .ok (.aload_n 0, 1) := by decide +kernel
theorem dX10_product_1 : decode cX10_product 1 = .ok (.iload_n 1, 1) := by decide +kernel
theorem dX10_product_2 : decode cX10_product 2 = .ok (.iconst 1, 1) := by decide +kernel
theorem dX10_product_3 : decode cX10_product 3 = .ok (.invokevirtual 40, 3) := by decide +kernel
theorem dX10_product_6 : decode cX10_product 6 = .ok (.aload_n 0, 1) := by decide +kernel
theorem dX10_product_7 : decode cX10_product 7 = .ok (.iload_n 2, 1) := by decide +kernel
theorem dX10_product_8 : decode cX10_product 8 = .ok (.iconst 1, 1) := by decide +kernel
theorem dX10_product_9 : decode cX10_product 9 = .ok (.invokevirtual 40, 3) := by decide +kernel
theorem dX10_product_12 : decode cX10_product 12 = .ok (.imul, 1) := by decide +kernel
theorem dX10_product_13 : decode cX10_product 13 = .ok (.aload_n 0, 1) := by decide +kernel
theorem dX10_product_14 : decode cX10_product 14 = .ok (.iload_n 1, 1) := by decide +kernel
theorem dX10_product_15 : decode cX10_product 15 = .ok (.iconst 2, 1) := by decide +kernel
theorem dX10_product_16 : decode cX10_product 16 = .ok (.invokevirtual 40, 3) := by decide +kernel
theorem dX10_product_19 : decode cX10_product 19 = .ok (.aload_n 0, 1) := by decide +kernel
theorem dX10_product_20 : decode cX10_product 20 = .ok (.iload_n 2, 1) := by decide +kernel
theorem dX10_product_21 : decode cX10_product 21 = .ok (.iconst 2, 1) := by decide +kernel
theorem dX10_product_22 : decode cX10_product 22 = .ok (.invokevirtual 40, 3) := by decide +kernel
theorem dX10_product_25 : decode cX10_product 25 = .ok (.imul, 1) := by decide +kernel
theorem dX10_product_26 : decode cX10_product 26 = .ok (.iadd, 1) := by decide +kernel
theorem dX10_product_27 : decode cX10_product 27 = .ok (.aload_n 0, 1) := by decide +kernel
theorem dX10_product_28 : decode cX10_product 28 = .ok (.iload_n 1, 1) := by decide +kernel
theorem dX10_product_29 : decode cX10_product 29 = .ok (.iconst 3, 1) := by decide +kernel
theorem dX10_product_30 : decode cX10_product 30 = .ok (.invokevirtual 40, 3) := by decide +kernel
theorem dX10_product_33 : decode cX10_product 33 = .ok (.aload_n 0, 1) := by decide +kernel
theorem dX10_product_34 : decode cX10_product 34 = .ok (.iload_n 2, 1) := by decide +kernel
theorem dX10_product_35 : decode cX10_product 35 = .ok (.iconst 3, 1) := by decide +kernel
theorem dX10_product_36 : decode cX10_product 36 = .ok (.invokevirtual 40, 3) := by decide +kernel
theorem dX10_product_39 : decode cX10_product 39 = .ok (.imul, 1) := by decide +kernel
theorem dX10_product_40 : decode cX10_product 40 = .ok (.iadd, 1) := by decide +kernel
theorem dX10_product_41 : decode cX10_product 41 = .ok (.ireturn, 1) := by decide +kernel
