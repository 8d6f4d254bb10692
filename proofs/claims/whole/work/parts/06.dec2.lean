theorem dX11_init_0 : decode cX11_init 0 = .ok (.aload_n 0, 1) := by decide +kernel
theorem dX11_init_1 : decode cX11_init 1 = .ok (.invokespecial 3, 3) := by decide +kernel
theorem dX11_init_4 : decode cX11_init 4 = .ok (.aload_n 0, 1) := by decide +kernel
theorem dX11_init_5 : decode cX11_init 5 = .ok (.new 9, 3) := by decide +kernel
theorem dX11_init_8 : decode cX11_init 8 = .ok (.dup, 1) := by decide +kernel
theorem dX11_init_9 : decode cX11_init 9 = .ok (.invokespecial 11, 3) := by decide +kernel
theorem dX11_init_12 : decode cX11_init 12 = .ok (.putfield 12, 3) := by decide +kernel
theorem dX11_init_15 : decode cX11_init 15 = .ok (.aload_n 0, 1) := by decide +kernel
theorem dX11_init_16 : decode cX11_init 16 = .ok (.iconst 4, 1) := by decide +kernel
theorem dX11_init_17 : decode cX11_init 17 = .ok (.anewarray 16, 3) := by decide +kernel
theorem dX11_init_20 : decode cX11_init 20 = .ok (.putfield 18, 3) := by decide +kernel
theorem dX11_init_23 : decode cX11_init 23 = .ok (.aload_n 0, 1) := by decide +kernel
theorem dX11_init_24 : decode cX11_init 24 = .ok (.iconst 4, 1) := by decide +kernel
theorem dX11_init_25 : decode cX11_init 25 = .ok (.anewarray 22, 3) := by decide +kernel
theorem dX11_init_28 : decode cX11_init 28 = .ok (.putfield 24, 3) := by decide +kernel
theorem dX11_init_31 : decode cX11_init 31 = .ok (.iconst 0, 1) := by decide +kernel
theorem dX11_init_32 : decode cX11_init 32 = .ok (.istore_n 1, 1) := by decide +kernel
theorem dX11_init_33 : decode cX11_init 33 = .ok (.iload_n 1, 1) := by decide +kernel
theorem dX11_init_34 : decode cX11_init 34 = .ok (.iconst 4, 1) := by decide +kernel
theorem dX11_init_35 : decode cX11_init 35 = .ok (.if_icmp .ge 41, 3) := by decide +kernel
theorem dX11_init_38 : decode cX11_init 38 = .ok (.aload_n 0, 1) := by decide +kernel
theorem dX11_init_39 : decode cX11_init 39 = .ok (.getfield 18, 3) := by decide +kernel
theorem dX11_init_42 : decode cX11_init 42 = .ok (.iload_n 1, 1) := by decide +kernel
theorem dX11_init_43 : decode cX11_init 43 = .ok (.new 16, 3) := by decide +kernel
theorem dX11_init_46 : decode cX11_init 46 = .ok (.dup, 1) := by decide +kernel
theorem dX11_init_47 : decode cX11_init 47 = .ok (.iload_n 1, 1) := by decide +kernel
theorem dX11_init_48 : decode cX11_init 48 = .ok (.iconst 1, 1) := by decide +kernel
theorem dX11_init_49 : decode cX11_init 49 = .ok (.if_icmp .eq 7, 3) := by decide +kernel
theorem dX11_init_52 : decode cX11_init 52 = .ok (.iconst 1, 1) := by decide +kernel
theorem dX11_init_53 : decode cX11_init 53 = .ok (.goto 4, 3) := by decide +kernel
theorem dX11_init_56 : decode cX11_init 56 = .ok (.iconst 0, 1) := by decide +kernel
theorem dX11_init_57 : decode cX11_init 57 = .ok (.iload_n 1, 1) := by decide +kernel
theorem dX11_init_58 : decode cX11_init 58 = .ok (.ifCond .eq 7, 3) := by decide +kernel
theorem dX11_init_61 : decode cX11_init 61 = .ok (.iconst 1, 1) := by decide +kernel
theorem dX11_init_62 : decode cX11_init 62 = .ok (.goto 4, 3) := by decide +kernel
theorem dX11_init_65 : decode cX11_init 65 = .ok (.iconst 0, 1) := by decide +kernel
theorem dX11_init_66 : decode cX11_init 66 = .ok (.invokespecial 28, 3) := by decide +kernel
theorem dX11_init_69 : decode cX11_init 69 = .ok (.aastore, 1) := by decide +kernel
theorem dX11_init_70 : decode cX11_init 70 = .ok (.iinc 1 1, 3) := by decide +kernel
theorem dX11_init_73 : decode cX11_init 73 = .ok (.goto (-40), 3) := by decide +kernel
theorem dX11_init_76 : decode cX11_init 76 = .ok (.iconst 0, 1) := by decide +kernel
theorem dX11_init_77 : decode cX11_init 77 = .ok (.istore_n 1, 1) := by decide +kernel
theorem dX11_init_78 : decode cX11_init 78 = .ok (.iload_n 1, 1) := by decide +kernel
theorem dX11_init_79 : decode cX11_init 79 = .ok (.iconst 4, 1) := by decide +kernel
theorem dX11_init_80 : decode cX11_init 80 = .ok (.if_icmp .ge 22, 3) := by decide +kernel
theorem dX11_init_83 : decode cX11_init 83 = .ok (.aload_n 0, 1) := by decide +kernel
theorem dX11_init_84 : decode cX11_init 84 = .ok (.getfield 24, 3) := by decide +kernel
theorem dX11_init_87 : decode cX11_init 87 = .ok (.iload_n 1, 1) := by decide +kernel
theorem dX11_init_88 : decode cX11_init 88 = .ok (.new 22, 3) := by decide +kernel
theorem dX11_init_91 : decode cX11_init 91 = .ok (.dup, 1) := by decide +kernel
theorem dX11_init_92 : decode cX11_init 92 = .ok (.invokespecial 31, 3) := by decide +kernel
theorem dX11_init_95 : decode cX11_init 95 = .ok (.aastore, 1) := by decide +kernel
theorem dX11_init_96 : decode cX11_init 96 = .ok (.iinc 1 1, 3) := by decide +kernel
theorem dX11_init_99 : decode cX11_init 99 = .ok (.goto (-21), 3) := by decide +kernel
theorem dX11_init_102 : decode cX11_init 102 = .ok (.return_, 1) := by decide +kernel
theorem dX11_add_0 : decode cX11_add 0 = .ok (.iload_n 1, 1) := by decide +kernel
theorem dX11_add_1 : decode cX11_add 1 = .ok (.invokestatic 32, 3) := by decide +kernel
theorem dX11_add_4 : decode cX11_add 4 = .ok (.ifCond .eq 13, 3) := by decide +kernel
theorem dX11_add_7 : decode cX11_add 7 = .ok (.iload_n 2, 1) := by decide +kernel
theorem dX11_add_8 : decode cX11_add 8 = .ok (.iload_n 3, 1) := by decide +kernel
theorem dX11_add_9 : decode cX11_add 9 = .ok (.iload 4, 2) := by decide +kernel
theorem dX11_add_11 : decode cX11_add 11 = .ok (.invokestatic 36, 3) := by decide +kernel
theorem dX11_add_14 : decode cX11_add 14 = .ok (.ifCond .ne 6, 3) := by decide +kernel
theorem dX11_add_17 : decode cX11_add 17 = .ok (.bipush (-2), 2) := by decide +kernel
theorem dX11_add_19 : decode cX11_add 19 = .ok (.ireturn, 1) := by decide +kernel
theorem dX11_add_20 : decode cX11_add 20 = .ok (.aload_n 0, 1) := by decide +kernel
theorem dX11_add_21 : decode cX11_add 21 = .ok (.getfield 12, 3) := by decide +kernel
theorem dX11_add_24 : decode cX11_add 24 = .ok (.iload_n 1, 1) := by decide +kernel
theorem dX11_add_25 : decode cX11_add 25 = .ok (.invokevirtual 40, 3) := by decide +kernel
theorem dX11_add_28 : decode cX11_add 28 = .ok (.astore 5, 2) := by decide +kernel
theorem dX11_add_30 : decode cX11_add 30 = .ok (.aload 5, 2) := by decide +kernel
theorem dX11_add_32 : decode cX11_add 32 = .ok (.invokevirtual 44, 3) := by decide +kernel
theorem dX11_add_35 : decode cX11_add 35 = .ok (.ifCond .eq 6, 3) := by decide +kernel
theorem dX11_add_38 : decode cX11_add 38 = .ok (.bipush (-4), 2) := by decide +kernel
theorem dX11_add_40 : decode cX11_add 40 = .ok (.ireturn, 1) := by decide +kernel
theorem dX11_add_41 : decode cX11_add 41 = .ok (.aload 5, 2) := by decide +kernel
theorem dX11_add_43 : decode cX11_add 43 = .ok (.iload_n 2, 1) := by decide +kernel
theorem dX11_add_44 : decode cX11_add 44 = .ok (.iload_n 3, 1) := by decide +kernel
theorem dX11_add_45 : decode cX11_add 45 = .ok (.iload 4, 2) := by decide +kernel
theorem dX11_add_47 : decode cX11_add 47 = .ok (.invokevirtual 50, 3) := by decide +kernel
theorem dX11_add_50 : decode cX11_add 50 = .ok (.aload_n 0, 1) := by decide +kernel
theorem dX11_add_51 : decode cX11_add 51 = .ok (.getfield 12, 3) := by decide +kernel
theorem dX11_add_54 : decode cX11_add 54 = .ok (.invokevirtual 54, 3) := by decide +kernel
theorem dX11_add_57 : decode cX11_add 57 = .ok (.aload 5, 2) := by decide +kernel
theorem dX11_add_59 : decode cX11_add 59 = .ok (.invokevirtual 57, 3) := by decide +kernel
theorem dX11_add_62 : decode cX11_add 62 = .ok (.ireturn, 1) := by decide +kernel
theorem dX11_back_0 : decode cX11_back 0 = .ok (.iload_n 1, 1) := by decide +kernel
theorem dX11_back_1 : decode cX11_back 1 = .ok (.invokestatic 32, 3) := by decide +kernel
theorem dX11_back_4 : decode cX11_back 4 = .ok (.ifCond .ne 6, 3) := by decide +kernel
theorem dX11_back_7 : decode cX11_back 7 = .ok (.bipush (-2), 2) := by decide +kernel
theorem dX11_back_9 : decode cX11_back 9 = .ok (.ireturn, 1) := by decide +kernel
theorem dX11_back_10 : decode cX11_back 10 = .ok (.aload_n 0, 1) := by decide +kernel
theorem dX11_back_11 : decode cX11_back 11 = .ok (.getfield 12, 3) := by decide +kernel
theorem dX11_back_14 : decode cX11_back 14 = .ok (.iload_n 1, 1) := by decide +kernel
theorem dX11_back_15 : decode cX11_back 15 = .ok (.invokevirtual 40, 3) := by decide +kernel
theorem dX11_back_18 : decode cX11_back 18 = .ok (.astore_n 2, 1) := by decide +kernel
theorem dX11_back_19 : decode cX11_back 19 = .ok (.aload_n 2, 1) := by decide +kernel
theorem dX11_back_20 : decode cX11_back 20 = .ok (.invokevirtual 57, 3) := by decide +kernel
theorem dX11_back_23 : decode cX11_back 23 = .ok (.ifCond .ne 6, 3) := by decide +kernel
theorem dX11_back_26 : decode cX11_back 26 = .ok (.bipush (-3), 2) := by decide +kernel
theorem dX11_back_28 : decode cX11_back 28 = .ok (.ireturn, 1) := by decide +kernel
theorem dX11_back_29 : decode cX11_back 29 = .ok (.aload_n 2, 1) := by decide +kernel
theorem dX11_back_30 : decode cX11_back 30 = .ok (.invokevirtual 61, 3) := by decide +kernel
theorem dX11_back_33 : decode cX11_back 33 = .ok (.aload_n 0, 1) := by decide +kernel
theorem dX11_back_34 : decode cX11_back 34 = .ok (.getfield 12, 3) := by decide +kernel
theorem dX11_back_37 : decode cX11_back 37 = .ok (.invokevirtual 54, 3) := by decide +kernel
theorem dX11_back_40 : decode cX11_back 40 = .ok (.aload_n 2, 1) := by decide +kernel
theorem dX11_back_41 : decode cX11_back 41 = .ok (.invokevirtual 57, 3) := by decide +kernel
theorem dX11_back_44 : decode cX11_back 44 = .ok (.ireturn, 1) := by decide +kernel
theorem dX11_at_0 : decode cX11_at 0 = .ok (.aload_n 0, 1) := by decide +kernel
theorem dX11_at_1 : decode cX11_at 1 = .ok (.iload_n 1, 1) := by decide +kernel
theorem dX11_at_2 : decode cX11_at 2 = .ok (.iload_n 2, 1) := by decide +kernel
theorem dX11_at_3 : decode cX11_at 3 = .ok (.invokevirtual 64, 3) := by decide +kernel
theorem dX11_at_6 : decode cX11_at 6 = .ok (.ifCond .eq 12, 3) := by decide +kernel
theorem dX11_at_9 : decode cX11_at 9 = .ok (.iload_n 3, 1) := by decide +kernel
theorem dX11_at_10 : decode cX11_at 10 = .ok (.iconst 0, 1) := by decide +kernel
theorem dX11_at_11 : decode cX11_at 11 = .ok (.iconst 2, 1) := by decide +kernel
theorem dX11_at_12 : decode cX11_at 12 = .ok (.invokestatic 68, 3) := by decide +kernel
theorem dX11_at_15 : decode cX11_at 15 = .ok (.ifCond .ne 6, 3) := by decide +kernel
theorem dX11_at_18 : decode cX11_at 18 = .ok (.ldc 71, 2) := by decide +kernel
theorem dX11_at_20 : decode cX11_at 20 = .ok (.ireturn, 1) := by decide +kernel
theorem dX11_at_21 : decode cX11_at 21 = .ok (.aload_n 0, 1) := by decide +kernel
theorem dX11_at_22 : decode cX11_at 22 = .ok (.getfield 12, 3) := by decide +kernel
theorem dX11_at_25 : decode cX11_at 25 = .ok (.iload_n 1, 1) := by decide +kernel
theorem dX11_at_26 : decode cX11_at 26 = .ok (.invokevirtual 40, 3) := by decide +kernel
theorem dX11_at_29 : decode cX11_at 29 = .ok (.iload_n 2, 1) := by decide +kernel
theorem dX11_at_30 : decode cX11_at 30 = .ok (.iload_n 3, 1) := by decide +kernel
theorem dX11_at_31 : decode cX11_at 31 = .ok (.invokevirtual 72, 3) := by decide +kernel
theorem dX11_at_34 : decode cX11_at 34 = .ok (.ireturn, 1) := by decide +kernel
theorem dX11_read_0 : decode cX11_read 0 = .ok (.iload_n 1, 1) := by decide +kernel
theorem dX11_read_1 : decode cX11_read 1 = .ok (.invokestatic 32, 3) := by decide +kernel
theorem dX11_read_4 : decode cX11_read 4 = .ok (.ifCond .eq 10, 3) := by decide +kernel
theorem dX11_read_7 : decode cX11_read 7 = .ok (.iload_n 2, 1) := by decide +kernel
theorem dX11_read_8 : decode cX11_read 8 = .ok (.invokestatic 76, 3) := by decide +kernel
theorem dX11_read_11 : decode cX11_read 11 = .ok (.ifCond .ne 6, 3) := by decide +kernel
theorem dX11_read_14 : decode cX11_read 14 = .ok (.bipush (-2), 2) := by decide +kernel
theorem dX11_read_16 : decode cX11_read 16 = .ok (.ireturn, 1) := by decide +kernel
theorem dX11_read_17 : decode cX11_read 17 = .ok (.aload_n 0, 1) := by decide +kernel
theorem dX11_read_18 : decode cX11_read 18 = .ok (.getfield 24, 3) := by decide +kernel
theorem dX11_read_21 : decode cX11_read 21 = .ok (.iload_n 2, 1) := by decide +kernel
theorem dX11_read_22 : decode cX11_read 22 = .ok (.aaload, 1) := by decide +kernel
theorem dX11_read_23 : decode cX11_read 23 = .ok (.astore_n 3, 1) := by decide +kernel
theorem dX11_read_24 : decode cX11_read 24 = .ok (.aload_n 3, 1) := by decide +kernel
theorem dX11_read_25 : decode cX11_read 25 = .ok (.invokevirtual 79, 3) := by decide +kernel
theorem dX11_read_28 : decode cX11_read 28 = .ok (.ifCond .eq 9, 3) := by decide +kernel
theorem dX11_read_31 : decode cX11_read 31 = .ok (.aload_n 0, 1) := by decide +kernel
theorem dX11_read_32 : decode cX11_read 32 = .ok (.iconst 1, 1) := by decide +kernel
theorem dX11_read_33 : decode cX11_read 33 = .ok (.invokevirtual 82, 3) := by decide +kernel
theorem dX11_read_36 : decode cX11_read 36 = .ok (.ireturn, 1) := by decide +kernel
theorem dX11_read_37 : decode cX11_read 37 = .ok (.aload_n 0, 1) := by decide +kernel
theorem dX11_read_38 : decode cX11_read 38 = .ok (.getfield 12, 3) := by decide +kernel
theorem dX11_read_41 : decode cX11_read 41 = .ok (.iload_n 1, 1) := by decide +kernel
theorem dX11_read_42 : decode cX11_read 42 = .ok (.invokevirtual 40, 3) := by decide +kernel
theorem dX11_read_45 : decode cX11_read 45 = .ok (.astore 4, 2) := by decide +kernel
theorem dX11_read_47 : decode cX11_read 47 = .ok (.aload 4, 2) := by decide +kernel
theorem dX11_read_49 : decode cX11_read 49 = .ok (.invokevirtual 57, 3) := by decide +kernel
theorem dX11_read_52 : decode cX11_read 52 = .ok (.istore 5, 2) := by decide +kernel
theorem dX11_read_54 : decode cX11_read 54 = .ok (.aload_n 0, 1) := by decide +kernel
theorem dX11_read_55 : decode cX11_read 55 = .ok (.getfield 12, 3) := by decide +kernel
theorem dX11_read_58 : decode cX11_read 58 = .ok (.invokevirtual 54, 3) := by decide +kernel
theorem dX11_read_61 : decode cX11_read 61 = .ok (.iconst 0, 1) := by decide +kernel
theorem dX11_read_62 : decode cX11_read 62 = .ok (.istore 6, 2) := by decide +kernel
theorem dX11_read_64 : decode cX11_read 64 = .ok (.iload 6, 2) := by decide +kernel
theorem dX11_read_66 : decode cX11_read 66 = .ok (.iconst 2, 1) := by decide +kernel
theorem dX11_read_67 : decode cX11_read 67 = .ok (.iadd, 1) := by decide +kernel
theorem dX11_read_68 : decode cX11_read 68 = .ok (.aload_n 3, 1) := by decide +kernel
theorem dX11_read_69 : decode cX11_read 69 = .ok (.invokevirtual 86, 3) := by decide +kernel
theorem dX11_read_72 : decode cX11_read 72 = .ok (.if_icmp .ge 71, 3) := by decide +kernel
theorem dX11_read_75 : decode cX11_read 75 = .ok (.aload 4, 2) := by decide +kernel
theorem dX11_read_77 : decode cX11_read 77 = .ok (.invokevirtual 44, 3) := by decide +kernel
theorem dX11_read_80 : decode cX11_read 80 = .ok (.ifCond .ne 63, 3) := by decide +kernel
theorem dX11_read_83 : decode cX11_read 83 = .ok (.aload_n 3, 1) := by decide +kernel
theorem dX11_read_84 : decode cX11_read 84 = .ok (.iload 6, 2) := by decide +kernel
theorem dX11_read_86 : decode cX11_read 86 = .ok (.invokevirtual 89, 3) := by decide +kernel
theorem dX11_read_89 : decode cX11_read 89 = .ok (.istore 7, 2) := by decide +kernel
theorem dX11_read_91 : decode cX11_read 91 = .ok (.aload_n 3, 1) := by decide +kernel
theorem dX11_read_92 : decode cX11_read 92 = .ok (.iload 6, 2) := by decide +kernel
theorem dX11_read_94 : decode cX11_read 94 = .ok (.iconst 1, 1) := by decide +kernel
theorem dX11_read_95 : decode cX11_read 95 = .ok (.iadd, 1) := by decide +kernel
theorem dX11_read_96 : decode cX11_read 96 = .ok (.invokevirtual 89, 3) := by decide +kernel
theorem dX11_read_99 : decode cX11_read 99 = .ok (.istore 8, 2) := by decide +kernel
theorem dX11_read_101 : decode cX11_read 101 = .ok (.aload_n 3, 1) := by decide +kernel
theorem dX11_read_102 : decode cX11_read 102 = .ok (.iload 6, 2) := by decide +kernel
theorem dX11_read_104 : decode cX11_read 104 = .ok (.iconst 2, 1) := by decide +kernel
theorem dX11_read_105 : decode cX11_read 105 = .ok (.iadd, 1) := by decide +kernel
theorem dX11_read_106 : decode cX11_read 106 = .ok (.invokevirtual 89, 3) := by decide +kernel
theorem dX11_read_109 : decode cX11_read 109 = .ok (.istore 9, 2) := by decide +kernel
theorem dX11_read_111 : decode cX11_read 111 = .ok (.iload 7, 2) := by decide +kernel
theorem dX11_read_113 : decode cX11_read 113 = .ok (.iload 8, 2) := by decide +kernel
theorem dX11_read_115 : decode cX11_read 115 = .ok (.iload 9, 2) := by decide +kernel
theorem dX11_read_117 : decode cX11_read 117 = .ok (.invokestatic 36, 3) := by decide +kernel
theorem dX11_read_120 : decode cX11_read 120 = .ok (.ifCond .ne 6, 3) := by decide +kernel
theorem dX11_read_123 : decode cX11_read 123 = .ok (.goto 20, 3) := by decide +kernel
theorem dX11_read_126 : decode cX11_read 126 = .ok (.aload 4, 2) := by decide +kernel
theorem dX11_read_128 : decode cX11_read 128 = .ok (.iload 7, 2) := by decide +kernel
theorem dX11_read_130 : decode cX11_read 130 = .ok (.iload 8, 2) := by decide +kernel
theorem dX11_read_132 : decode cX11_read 132 = .ok (.iload 9, 2) := by decide +kernel
theorem dX11_read_134 : decode cX11_read 134 = .ok (.invokevirtual 50, 3) := by decide +kernel
theorem dX11_read_137 : decode cX11_read 137 = .ok (.iinc 6 3, 3) := by decide +kernel
theorem dX11_read_140 : decode cX11_read 140 = .ok (.goto (-76), 3) := by decide +kernel
theorem dX11_read_143 : decode cX11_read 143 = .ok (.aload 4, 2) := by decide +kernel
theorem dX11_read_145 : decode cX11_read 145 = .ok (.invokevirtual 57, 3) := by decide +kernel
theorem dX11_read_148 : decode cX11_read 148 = .ok (.iload 5, 2) := by decide +kernel
theorem dX11_read_150 : decode cX11_read 150 = .ok (.isub, 1) := by decide +kernel
theorem dX11_read_151 : decode cX11_read 151 = .ok (.ireturn, 1) := by decide +kernel
theorem dX11_see_0 : decode cX11_see 0 = .ok (.iload_n 1, 1) := by decide +kernel
theorem dX11_see_1 : decode cX11_see 1 = .ok (.iconst 0, 1) := by decide +kernel
theorem dX11_see_2 : decode cX11_see 2 = .ok (.bipush 8, 2) := by decide +kernel
theorem dX11_see_4 : decode cX11_see 4 = .ok (.invokestatic 68, 3) := by decide +kernel
theorem dX11_see_7 : decode cX11_see 7 = .ok (.ifCond .eq 27, 3) := by decide +kernel
theorem dX11_see_10 : decode cX11_see 10 = .ok (.iload_n 1, 1) := by decide +kernel
theorem dX11_see_11 : decode cX11_see 11 = .ok (.aload_n 0, 1) := by decide +kernel
theorem dX11_see_12 : decode cX11_see 12 = .ok (.getfield 12, 3) := by decide +kernel
theorem dX11_see_15 : decode cX11_see 15 = .ok (.getfield 92, 3) := by decide +kernel
theorem dX11_see_18 : decode cX11_see 18 = .ok (.invokevirtual 57, 3) := by decide +kernel
theorem dX11_see_21 : decode cX11_see 21 = .ok (.if_icmp .gt 13, 3) := by decide +kernel
theorem dX11_see_24 : decode cX11_see 24 = .ok (.iload 6, 2) := by decide +kernel
theorem dX11_see_26 : decode cX11_see 26 = .ok (.iconst 0, 1) := by decide +kernel
theorem dX11_see_27 : decode cX11_see 27 = .ok (.iconst 3, 1) := by decide +kernel
theorem dX11_see_28 : decode cX11_see 28 = .ok (.invokestatic 68, 3) := by decide +kernel
theorem dX11_see_31 : decode cX11_see 31 = .ok (.ifCond .ne 6, 3) := by decide +kernel
theorem dX11_see_34 : decode cX11_see 34 = .ok (.bipush (-2), 2) := by decide +kernel
theorem dX11_see_36 : decode cX11_see 36 = .ok (.ireturn, 1) := by decide +kernel
theorem dX11_see_37 : decode cX11_see 37 = .ok (.iload_n 2, 1) := by decide +kernel
theorem dX11_see_38 : decode cX11_see 38 = .ok (.iconst 0, 1) := by decide +kernel
theorem dX11_see_39 : decode cX11_see 39 = .ok (.iconst 3, 1) := by decide +kernel
theorem dX11_see_40 : decode cX11_see 40 = .ok (.invokestatic 68, 3) := by decide +kernel
theorem dX11_see_43 : decode cX11_see 43 = .ok (.ifCond .eq 22, 3) := by decide +kernel
theorem dX11_see_46 : decode cX11_see 46 = .ok (.iload_n 3, 1) := by decide +kernel
theorem dX11_see_47 : decode cX11_see 47 = .ok (.iconst 0, 1) := by decide +kernel
theorem dX11_see_48 : decode cX11_see 48 = .ok (.iconst 3, 1) := by decide +kernel
theorem dX11_see_49 : decode cX11_see 49 = .ok (.invokestatic 68, 3) := by decide +kernel
theorem dX11_see_52 : decode cX11_see 52 = .ok (.ifCond .eq 13, 3) := by decide +kernel
theorem dX11_see_55 : decode cX11_see 55 = .ok (.iload 4, 2) := by decide +kernel
theorem dX11_see_57 : decode cX11_see 57 = .ok (.iconst 0, 1) := by decide +kernel
theorem dX11_see_58 : decode cX11_see 58 = .ok (.iconst 3, 1) := by decide +kernel
theorem dX11_see_59 : decode cX11_see 59 = .ok (.invokestatic 68, 3) := by decide +kernel
theorem dX11_see_62 : decode cX11_see 62 = .ok (.ifCond .ne 6, 3) := by decide +kernel
theorem dX11_see_65 : decode cX11_see 65 = .ok (.bipush (-2), 2) := by decide +kernel
theorem dX11_see_67 : decode cX11_see 67 = .ok (.ireturn, 1) := by decide +kernel
theorem dX11_see_68 : decode cX11_see 68 = .ok (.aload_n 0, 1) := by decide +kernel
theorem dX11_see_69 : decode cX11_see 69 = .ok (.getfield 12, 3) := by decide +kernel
theorem dX11_see_72 : decode cX11_see 72 = .ok (.getfield 96, 3) := by decide +kernel
theorem dX11_see_75 : decode cX11_see 75 = .ok (.invokevirtual 99, 3) := by decide +kernel
theorem dX11_see_78 : decode cX11_see 78 = .ok (.aload_n 0, 1) := by decide +kernel
theorem dX11_see_79 : decode cX11_see 79 = .ok (.getfield 12, 3) := by decide +kernel
theorem dX11_see_82 : decode cX11_see 82 = .ok (.invokevirtual 54, 3) := by decide +kernel
theorem dX11_see_85 : decode cX11_see 85 = .ok (.iload 5, 2) := by decide +kernel
theorem dX11_see_87 : decode cX11_see 87 = .ok (.istore 7, 2) := by decide +kernel
theorem dX11_see_89 : decode cX11_see 89 = .ok (.iconst 0, 1) := by decide +kernel
theorem dX11_see_90 : decode cX11_see 90 = .ok (.istore 8, 2) := by decide +kernel
theorem dX11_see_92 : decode cX11_see 92 = .ok (.iload 8, 2) := by decide +kernel
theorem dX11_see_94 : decode cX11_see 94 = .ok (.iload_n 1, 1) := by decide +kernel
theorem dX11_see_95 : decode cX11_see 95 = .ok (.if_icmp .ge 119, 3) := by decide +kernel
theorem dX11_see_98 : decode cX11_see 98 = .ok (.aload_n 0, 1) := by decide +kernel
theorem dX11_see_99 : decode cX11_see 99 = .ok (.getfield 12, 3) := by decide +kernel
theorem dX11_see_102 : decode cX11_see 102 = .ok (.getfield 96, 3) := by decide +kernel
theorem dX11_see_105 : decode cX11_see 105 = .ok (.aload_n 0, 1) := by decide +kernel
theorem dX11_see_106 : decode cX11_see 106 = .ok (.getfield 12, 3) := by decide +kernel
theorem dX11_see_109 : decode cX11_see 109 = .ok (.getfield 92, 3) := by decide +kernel
theorem dX11_see_112 : decode cX11_see 112 = .ok (.iload 8, 2) := by decide +kernel
theorem dX11_see_114 : decode cX11_see 114 = .ok (.iconst 0, 1) := by decide +kernel
theorem dX11_see_115 : decode cX11_see 115 = .ok (.invokevirtual 72, 3) := by decide +kernel
theorem dX11_see_118 : decode cX11_see 118 = .ok (.aload_n 0, 1) := by decide +kernel
theorem dX11_see_119 : decode cX11_see 119 = .ok (.getfield 12, 3) := by decide +kernel
theorem dX11_see_122 : decode cX11_see 122 = .ok (.getfield 92, 3) := by decide +kernel
theorem dX11_see_125 : decode cX11_see 125 = .ok (.iload 8, 2) := by decide +kernel
theorem dX11_see_127 : decode cX11_see 127 = .ok (.iconst 1, 1) := by decide +kernel
theorem dX11_see_128 : decode cX11_see 128 = .ok (.invokevirtual 72, 3) := by decide +kernel
theorem dX11_see_131 : decode cX11_see 131 = .ok (.aload_n 0, 1) := by decide +kernel
theorem dX11_see_132 : decode cX11_see 132 = .ok (.getfield 12, 3) := by decide +kernel
theorem dX11_see_135 : decode cX11_see 135 = .ok (.getfield 92, 3) := by decide +kernel
theorem dX11_see_138 : decode cX11_see 138 = .ok (.iload 8, 2) := by decide +kernel
theorem dX11_see_140 : decode cX11_see 140 = .ok (.iconst 2, 1) := by decide +kernel
theorem dX11_see_141 : decode cX11_see 141 = .ok (.invokevirtual 72, 3) := by decide +kernel
theorem dX11_see_144 : decode cX11_see 144 = .ok (.invokevirtual 50, 3) := by decide +kernel
theorem dX11_see_147 : decode cX11_see 147 = .ok (.aload_n 0, 1) := by decide +kernel
theorem dX11_see_148 : decode cX11_see 148 = .ok (.getfield 12, 3) := by decide +kernel
theorem dX11_see_151 : decode cX11_see 151 = .ok (.getfield 96, 3) := by decide +kernel
theorem dX11_see_154 : decode cX11_see 154 = .ok (.iload 8, 2) := by decide +kernel
theorem dX11_see_156 : decode cX11_see 156 = .ok (.iconst 0, 1) := by decide +kernel
theorem dX11_see_157 : decode cX11_see 157 = .ok (.iload_n 2, 1) := by decide +kernel
theorem dX11_see_158 : decode cX11_see 158 = .ok (.invokevirtual 102, 3) := by decide +kernel
theorem dX11_see_161 : decode cX11_see 161 = .ok (.aload_n 0, 1) := by decide +kernel
theorem dX11_see_162 : decode cX11_see 162 = .ok (.getfield 12, 3) := by decide +kernel
theorem dX11_see_165 : decode cX11_see 165 = .ok (.getfield 96, 3) := by decide +kernel
theorem dX11_see_168 : decode cX11_see 168 = .ok (.iload 8, 2) := by decide +kernel
theorem dX11_see_170 : decode cX11_see 170 = .ok (.iconst 1, 1) := by decide +kernel
theorem dX11_see_171 : decode cX11_see 171 = .ok (.iload_n 3, 1) := by decide +kernel
theorem dX11_see_172 : decode cX11_see 172 = .ok (.invokevirtual 102, 3) := by decide +kernel
theorem dX11_see_175 : decode cX11_see 175 = .ok (.aload_n 0, 1) := by decide +kernel
theorem dX11_see_176 : decode cX11_see 176 = .ok (.getfield 12, 3) := by decide +kernel
theorem dX11_see_179 : decode cX11_see 179 = .ok (.getfield 96, 3) := by decide +kernel
theorem dX11_see_182 : decode cX11_see 182 = .ok (.iload 8, 2) := by decide +kernel
theorem dX11_see_184 : decode cX11_see 184 = .ok (.iconst 2, 1) := by decide +kernel
theorem dX11_see_185 : decode cX11_see 185 = .ok (.iload 4, 2) := by decide +kernel
theorem dX11_see_187 : decode cX11_see 187 = .ok (.invokevirtual 102, 3) := by decide +kernel
theorem dX11_see_190 : decode cX11_see 190 = .ok (.aload_n 0, 1) := by decide +kernel
theorem dX11_see_191 : decode cX11_see 191 = .ok (.getfield 12, 3) := by decide +kernel
theorem dX11_see_194 : decode cX11_see 194 = .ok (.getfield 96, 3) := by decide +kernel
theorem dX11_see_197 : decode cX11_see 197 = .ok (.iload 8, 2) := by decide +kernel
theorem dX11_see_199 : decode cX11_see 199 = .ok (.iload 6, 2) := by decide +kernel
theorem dX11_see_201 : decode cX11_see 201 = .ok (.iload 7, 2) := by decide +kernel
theorem dX11_see_203 : decode cX11_see 203 = .ok (.invokevirtual 105, 3) := by decide +kernel
theorem dX11_see_206 : decode cX11_see 206 = .ok (.istore 7, 2) := by decide +kernel
theorem dX11_see_208 : decode cX11_see 208 = .ok (.iinc 8 1, 3) := by decide +kernel
theorem dX11_see_211 : decode cX11_see 211 = .ok (.goto (-119), 3) := by decide +kernel
theorem dX11_see_214 : decode cX11_see 214 = .ok (.iload_n 1, 1) := by decide +kernel
theorem dX11_see_215 : decode cX11_see 215 = .ok (.ireturn, 1) := by decide +kernel
theorem dX11_set_0 : decode cX11_set 0 = .ok (.iload_n 1, 1) := by decide +kernel
theorem dX11_set_1 : decode cX11_set 1 = .ok (.iconst 0, 1) := by decide +kernel
theorem dX11_set_2 : decode cX11_set 2 = .ok (.iconst 3, 1) := by decide +kernel
theorem dX11_set_3 : decode cX11_set 3 = .ok (.invokestatic 68, 3) := by decide +kernel
theorem dX11_set_6 : decode cX11_set 6 = .ok (.ifCond .eq 20, 3) := by decide +kernel
theorem dX11_set_9 : decode cX11_set 9 = .ok (.iload_n 2, 1) := by decide +kernel
theorem dX11_set_10 : decode cX11_set 10 = .ok (.getstatic 109, 3) := by decide +kernel
theorem dX11_set_13 : decode cX11_set 13 = .ok (.iload_n 1, 1) := by decide +kernel
theorem dX11_set_14 : decode cX11_set 14 = .ok (.iaload, 1) := by decide +kernel
theorem dX11_set_15 : decode cX11_set 15 = .ok (.getstatic 113, 3) := by decide +kernel
theorem dX11_set_18 : decode cX11_set 18 = .ok (.iload_n 1, 1) := by decide +kernel
theorem dX11_set_19 : decode cX11_set 19 = .ok (.iaload, 1) := by decide +kernel
theorem dX11_set_20 : decode cX11_set 20 = .ok (.invokestatic 68, 3) := by decide +kernel
theorem dX11_set_23 : decode cX11_set 23 = .ok (.ifCond .ne 6, 3) := by decide +kernel
theorem dX11_set_26 : decode cX11_set 26 = .ok (.bipush (-2), 2) := by decide +kernel
theorem dX11_set_28 : decode cX11_set 28 = .ok (.ireturn, 1) := by decide +kernel
theorem dX11_set_29 : decode cX11_set 29 = .ok (.aload_n 0, 1) := by decide +kernel
theorem dX11_set_30 : decode cX11_set 30 = .ok (.getfield 12, 3) := by decide +kernel
theorem dX11_set_33 : decode cX11_set 33 = .ok (.getfield 116, 3) := by decide +kernel
theorem dX11_set_36 : decode cX11_set 36 = .ok (.iload_n 1, 1) := by decide +kernel
theorem dX11_set_37 : decode cX11_set 37 = .ok (.iaload, 1) := by decide +kernel
theorem dX11_set_38 : decode cX11_set 38 = .ok (.istore_n 3, 1) := by decide +kernel
theorem dX11_set_39 : decode cX11_set 39 = .ok (.aload_n 0, 1) := by decide +kernel
theorem dX11_set_40 : decode cX11_set 40 = .ok (.getfield 12, 3) := by decide +kernel
theorem dX11_set_43 : decode cX11_set 43 = .ok (.getfield 116, 3) := by decide +kernel
theorem dX11_set_46 : decode cX11_set 46 = .ok (.iload_n 1, 1) := by decide +kernel
theorem dX11_set_47 : decode cX11_set 47 = .ok (.iload_n 2, 1) := by decide +kernel
theorem dX11_set_48 : decode cX11_set 48 = .ok (.iastore, 1) := by decide +kernel
theorem dX11_set_49 : decode cX11_set 49 = .ok (.aload_n 0, 1) := by decide +kernel
theorem dX11_set_50 : decode cX11_set 50 = .ok (.getfield 12, 3) := by decide +kernel
theorem dX11_set_53 : decode cX11_set 53 = .ok (.invokevirtual 54, 3) := by decide +kernel
theorem dX11_set_56 : decode cX11_set 56 = .ok (.iload_n 3, 1) := by decide +kernel
theorem dX11_set_57 : decode cX11_set 57 = .ok (.ireturn, 1) := by decide +kernel
theorem dX11_side_0 : decode cX11_side 0 = .ok (.aload_n 0, 1) := by decide +kernel
theorem dX11_side_1 : decode cX11_side 1 = .ok (.iload_n 1, 1) := by decide +kernel
theorem dX11_side_2 : decode cX11_side 2 = .ok (.iload_n 2, 1) := by decide +kernel
theorem dX11_side_3 : decode cX11_side 3 = .ok (.invokevirtual 64, 3) := by decide +kernel
theorem dX11_side_6 : decode cX11_side 6 = .ok (.ifCond .eq 12, 3) := by decide +kernel
theorem dX11_side_9 : decode cX11_side 9 = .ok (.aload_n 0, 1) := by decide +kernel
theorem dX11_side_10 : decode cX11_side 10 = .ok (.iload_n 1, 1) := by decide +kernel
theorem dX11_side_11 : decode cX11_side 11 = .ok (.iload_n 3, 1) := by decide +kernel
theorem dX11_side_12 : decode cX11_side 12 = .ok (.invokevirtual 64, 3) := by decide +kernel
theorem dX11_side_15 : decode cX11_side 15 = .ok (.ifCond .ne 6, 3) := by decide +kernel
theorem dX11_side_18 : decode cX11_side 18 = .ok (.bipush (-2), 2) := by decide +kernel
theorem dX11_side_20 : decode cX11_side 20 = .ok (.ireturn, 1) := by decide +kernel
theorem dX11_side_21 : decode cX11_side 21 = .ok (.aload_n 0, 1) := by decide +kernel
theorem dX11_side_22 : decode cX11_side 22 = .ok (.getfield 12, 3) := by decide +kernel
theorem dX11_side_25 : decode cX11_side 25 = .ok (.iload_n 1, 1) := by decide +kernel
theorem dX11_side_26 : decode cX11_side 26 = .ok (.invokevirtual 40, 3) := by decide +kernel
theorem dX11_side_29 : decode cX11_side 29 = .ok (.iload_n 2, 1) := by decide +kernel
theorem dX11_side_30 : decode cX11_side 30 = .ok (.iload_n 3, 1) := by decide +kernel
theorem dX11_side_31 : decode cX11_side 31 = .ok (.invokevirtual 119, 3) := by decide +kernel
theorem dX11_side_34 : decode cX11_side 34 = .ok (.ireturn, 1) := by decide +kernel
theorem dX11_key_0 : decode cX11_key 0 = .ok (.aload_n 0, 1) := by decide +kernel
theorem dX11_key_1 : decode cX11_key 1 = .ok (.iload_n 1, 1) := by decide +kernel
theorem dX11_key_2 : decode cX11_key 2 = .ok (.iload_n 2, 1) := by decide +kernel
theorem dX11_key_3 : decode cX11_key 3 = .ok (.invokevirtual 64, 3) := by decide +kernel
theorem dX11_key_6 : decode cX11_key 6 = .ok (.ifCond .eq 32, 3) := by decide +kernel
theorem dX11_key_9 : decode cX11_key 9 = .ok (.aload_n 0, 1) := by decide +kernel
theorem dX11_key_10 : decode cX11_key 10 = .ok (.iload_n 1, 1) := by decide +kernel
theorem dX11_key_11 : decode cX11_key 11 = .ok (.iload_n 3, 1) := by decide +kernel
theorem dX11_key_12 : decode cX11_key 12 = .ok (.invokevirtual 64, 3) := by decide +kernel
theorem dX11_key_15 : decode cX11_key 15 = .ok (.ifCond .eq 23, 3) := by decide +kernel
theorem dX11_key_18 : decode cX11_key 18 = .ok (.aload_n 0, 1) := by decide +kernel
theorem dX11_key_19 : decode cX11_key 19 = .ok (.iload_n 1, 1) := by decide +kernel
theorem dX11_key_20 : decode cX11_key 20 = .ok (.iload 4, 2) := by decide +kernel
theorem dX11_key_22 : decode cX11_key 22 = .ok (.invokevirtual 64, 3) := by decide +kernel
theorem dX11_key_25 : decode cX11_key 25 = .ok (.ifCond .eq 13, 3) := by decide +kernel
theorem dX11_key_28 : decode cX11_key 28 = .ok (.iload 5, 2) := by decide +kernel
theorem dX11_key_30 : decode cX11_key 30 = .ok (.iconst 0, 1) := by decide +kernel
theorem dX11_key_31 : decode cX11_key 31 = .ok (.iconst 2, 1) := by decide +kernel
theorem dX11_key_32 : decode cX11_key 32 = .ok (.invokestatic 68, 3) := by decide +kernel
theorem dX11_key_35 : decode cX11_key 35 = .ok (.ifCond .ne 6, 3) := by decide +kernel
theorem dX11_key_38 : decode cX11_key 38 = .ok (.bipush (-2), 2) := by decide +kernel
theorem dX11_key_40 : decode cX11_key 40 = .ok (.ireturn, 1) := by decide +kernel
theorem dX11_key_41 : decode cX11_key 41 = .ok (.iload_n 2, 1) := by decide +kernel
theorem dX11_key_42 : decode cX11_key 42 = .ok (.iload_n 3, 1) := by decide +kernel
theorem dX11_key_43 : decode cX11_key 43 = .ok (.if_icmp .eq 15, 3) := by decide +kernel
theorem dX11_key_46 : decode cX11_key 46 = .ok (.iload_n 3, 1) := by decide +kernel
theorem dX11_key_47 : decode cX11_key 47 = .ok (.iload 4, 2) := by decide +kernel
theorem dX11_key_49 : decode cX11_key 49 = .ok (.if_icmp .eq 9, 3) := by decide +kernel
theorem dX11_key_52 : decode cX11_key 52 = .ok (.iload_n 2, 1) := by decide +kernel
theorem dX11_key_53 : decode cX11_key 53 = .ok (.iload 4, 2) := by decide +kernel
theorem dX11_key_55 : decode cX11_key 55 = .ok (.if_icmp .ne 6, 3) := by decide +kernel
theorem dX11_key_58 : decode cX11_key 58 = .ok (.bipush (-2), 2) := by decide +kernel
theorem dX11_key_60 : decode cX11_key 60 = .ok (.ireturn, 1) := by decide +kernel
theorem dX11_key_61 : decode cX11_key 61 = .ok (.aload_n 0, 1) := by decide +kernel
theorem dX11_key_62 : decode cX11_key 62 = .ok (.getfield 12, 3) := by decide +kernel
theorem dX11_key_65 : decode cX11_key 65 = .ok (.iload_n 1, 1) := by decide +kernel
theorem dX11_key_66 : decode cX11_key 66 = .ok (.invokevirtual 40, 3) := by decide +kernel
theorem dX11_key_69 : decode cX11_key 69 = .ok (.astore 6, 2) := by decide +kernel
theorem dX11_key_71 : decode cX11_key 71 = .ok (.iload 5, 2) := by decide +kernel
theorem dX11_key_73 : decode cX11_key 73 = .ok (.aload 6, 2) := by decide +kernel
theorem dX11_key_75 : decode cX11_key 75 = .ok (.iload_n 2, 1) := by decide +kernel
theorem dX11_key_76 : decode cX11_key 76 = .ok (.iload_n 3, 1) := by decide +kernel
theorem dX11_key_77 : decode cX11_key 77 = .ok (.invokevirtual 119, 3) := by decide +kernel
theorem dX11_key_80 : decode cX11_key 80 = .ok (.aload 6, 2) := by decide +kernel
theorem dX11_key_82 : decode cX11_key 82 = .ok (.iload_n 3, 1) := by decide +kernel
theorem dX11_key_83 : decode cX11_key 83 = .ok (.iload 4, 2) := by decide +kernel
theorem dX11_key_85 : decode cX11_key 85 = .ok (.invokevirtual 119, 3) := by decide +kernel
theorem dX11_key_88 : decode cX11_key 88 = .ok (.aload 6, 2) := by decide +kernel
theorem dX11_key_90 : decode cX11_key 90 = .ok (.iload_n 2, 1) := by decide +kernel
theorem dX11_key_91 : decode cX11_key 91 = .ok (.iload 4, 2) := by decide +kernel
theorem dX11_key_93 : decode cX11_key 93 = .ok (.invokevirtual 119, 3) := by decide +kernel
theorem dX11_key_96 : decode cX11_key 96 = .ok (.aload_n 0, 1) := by decide +kernel
theorem dX11_key_97 : decode cX11_key 97 = .ok (.getfield 12, 3) := by decide +kernel
theorem dX11_key_100 : decode cX11_key 100 = .ok (.getfield 116, 3) := by decide +kernel
theorem dX11_key_103 : decode cX11_key 103 = .ok (.iconst 0, 1) := by decide +kernel
theorem dX11_key_104 : decode cX11_key 104 = .ok (.iaload, 1) := by decide +kernel
theorem dX11_key_105 : decode cX11_key 105 = .ok (.invokestatic 122, 3) := by decide +kernel
theorem dX11_key_108 : decode cX11_key 108 = .ok (.ireturn, 1) := by decide +kernel
theorem dX11_looks_0 : decode cX11_looks 0 = .ok (.iload_n 1, 1) := by decide +kernel
theorem dX11_looks_1 : decode cX11_looks 1 = .ok (.tableswitch 81 0 3 #[31, 45, 59, 70], 31) := by decide +kernel
theorem dX11_looks_32 : decode cX11_looks 32 = .ok (.aload_n 0, 1) := by decide +kernel
theorem dX11_looks_33 : decode cX11_looks 33 = .ok (.getfield 12, 3) := by decide +kernel
theorem dX11_looks_36 : decode cX11_looks 36 = .ok (.getfield 92, 3) := by decide +kernel
theorem dX11_looks_39 : decode cX11_looks 39 = .ok (.invokevirtual 57, 3) := by decide +kernel
theorem dX11_looks_42 : decode cX11_looks 42 = .ok (.invokestatic 126, 3) := by decide +kernel
theorem dX11_looks_45 : decode cX11_looks 45 = .ok (.ireturn, 1) := by decide +kernel
theorem dX11_looks_46 : decode cX11_looks 46 = .ok (.aload_n 0, 1) := by decide +kernel
theorem dX11_looks_47 : decode cX11_looks 47 = .ok (.getfield 12, 3) := by decide +kernel
theorem dX11_looks_50 : decode cX11_looks 50 = .ok (.getfield 96, 3) := by decide +kernel
theorem dX11_looks_53 : decode cX11_looks 53 = .ok (.invokevirtual 57, 3) := by decide +kernel
theorem dX11_looks_56 : decode cX11_looks 56 = .ok (.invokestatic 126, 3) := by decide +kernel
theorem dX11_looks_59 : decode cX11_looks 59 = .ok (.ireturn, 1) := by decide +kernel
theorem dX11_looks_60 : decode cX11_looks 60 = .ok (.aload_n 0, 1) := by decide +kernel
theorem dX11_looks_61 : decode cX11_looks 61 = .ok (.getfield 12, 3) := by decide +kernel
theorem dX11_looks_64 : decode cX11_looks 64 = .ok (.invokevirtual 129, 3) := by decide +kernel
theorem dX11_looks_67 : decode cX11_looks 67 = .ok (.getfield 133, 3) := by decide +kernel
theorem dX11_looks_70 : decode cX11_looks 70 = .ok (.ireturn, 1) := by decide +kernel
theorem dX11_looks_71 : decode cX11_looks 71 = .ok (.aload_n 0, 1) := by decide +kernel
theorem dX11_looks_72 : decode cX11_looks 72 = .ok (.getfield 12, 3) := by decide +kernel
theorem dX11_looks_75 : decode cX11_looks 75 = .ok (.invokevirtual 129, 3) := by decide +kernel
theorem dX11_looks_78 : decode cX11_looks 78 = .ok (.getfield 137, 3) := by decide +kernel
theorem dX11_looks_81 : decode cX11_looks 81 = .ok (.ireturn, 1) := by decide +kernel
theorem dX11_looks_82 : decode cX11_looks 82 = .ok (.bipush (-2), 2) := by decide +kernel
theorem dX11_looks_84 : decode cX11_looks 84 = .ok (.ireturn, 1) := by decide +kernel
theorem dX11_votes_0 : decode cX11_votes 0 = .ok (.aload_n 0, 1) := by decide +kernel
theorem dX11_votes_1 : decode cX11_votes 1 = .ok (.iconst 1, 1) := by decide +kernel
theorem dX11_votes_2 : decode cX11_votes 2 = .ok (.iload_n 1, 1) := by decide +kernel
theorem dX11_votes_3 : decode cX11_votes 3 = .ok (.invokevirtual 64, 3) := by decide +kernel
theorem dX11_votes_6 : decode cX11_votes 6 = .ok (.ifCond .eq 12, 3) := by decide +kernel
theorem dX11_votes_9 : decode cX11_votes 9 = .ok (.aload_n 0, 1) := by decide +kernel
theorem dX11_votes_10 : decode cX11_votes 10 = .ok (.iconst 0, 1) := by decide +kernel
theorem dX11_votes_11 : decode cX11_votes 11 = .ok (.iload_n 2, 1) := by decide +kernel
theorem dX11_votes_12 : decode cX11_votes 12 = .ok (.invokevirtual 64, 3) := by decide +kernel
theorem dX11_votes_15 : decode cX11_votes 15 = .ok (.ifCond .ne 6, 3) := by decide +kernel
theorem dX11_votes_18 : decode cX11_votes 18 = .ok (.bipush (-2), 2) := by decide +kernel
theorem dX11_votes_20 : decode cX11_votes 20 = .ok (.ireturn, 1) := by decide +kernel
theorem dX11_votes_21 : decode cX11_votes 21 = .ok (.aload_n 0, 1) := by decide +kernel
theorem dX11_votes_22 : decode cX11_votes 22 = .ok (.getfield 12, 3) := by decide +kernel
theorem dX11_votes_25 : decode cX11_votes 25 = .ok (.invokevirtual 129, 3) := by decide +kernel
theorem dX11_votes_28 : decode cX11_votes 28 = .ok (.getfield 140, 3) := by decide +kernel
theorem dX11_votes_31 : decode cX11_votes 31 = .ok (.getfield 144, 3) := by decide +kernel
theorem dX11_votes_34 : decode cX11_votes 34 = .ok (.iload_n 1, 1) := by decide +kernel
theorem dX11_votes_35 : decode cX11_votes 35 = .ok (.iload_n 2, 1) := by decide +kernel
theorem dX11_votes_36 : decode cX11_votes 36 = .ok (.invokestatic 149, 3) := by decide +kernel
theorem dX11_votes_39 : decode cX11_votes 39 = .ok (.iaload, 1) := by decide +kernel
theorem dX11_votes_40 : decode cX11_votes 40 = .ok (.ireturn, 1) := by decide +kernel
theorem dX11_taken_0 : decode cX11_taken 0 = .ok (.aload_n 0, 1) := by decide +kernel
theorem dX11_taken_1 : decode cX11_taken 1 = .ok (.iconst 1, 1) := by decide +kernel
theorem dX11_taken_2 : decode cX11_taken 2 = .ok (.iload_n 1, 1) := by decide +kernel
theorem dX11_taken_3 : decode cX11_taken 3 = .ok (.invokevirtual 64, 3) := by decide +kernel
theorem dX11_taken_6 : decode cX11_taken 6 = .ok (.ifCond .eq 12, 3) := by decide +kernel
theorem dX11_taken_9 : decode cX11_taken 9 = .ok (.iload_n 2, 1) := by decide +kernel
theorem dX11_taken_10 : decode cX11_taken 10 = .ok (.iconst 0, 1) := by decide +kernel
theorem dX11_taken_11 : decode cX11_taken 11 = .ok (.iconst 1, 1) := by decide +kernel
theorem dX11_taken_12 : decode cX11_taken 12 = .ok (.invokestatic 68, 3) := by decide +kernel
theorem dX11_taken_15 : decode cX11_taken 15 = .ok (.ifCond .ne 6, 3) := by decide +kernel
theorem dX11_taken_18 : decode cX11_taken 18 = .ok (.bipush (-2), 2) := by decide +kernel
theorem dX11_taken_20 : decode cX11_taken 20 = .ok (.ireturn, 1) := by decide +kernel
theorem dX11_taken_21 : decode cX11_taken 21 = .ok (.aload_n 0, 1) := by decide +kernel
theorem dX11_taken_22 : decode cX11_taken 22 = .ok (.getfield 12, 3) := by decide +kernel
theorem dX11_taken_25 : decode cX11_taken 25 = .ok (.invokevirtual 129, 3) := by decide +kernel
theorem dX11_taken_28 : decode cX11_taken 28 = .ok (.getfield 152, 3) := by decide +kernel
theorem dX11_taken_31 : decode cX11_taken 31 = .ok (.astore_n 3, 1) := by decide +kernel
theorem dX11_taken_32 : decode cX11_taken 32 = .ok (.iload_n 2, 1) := by decide +kernel
theorem dX11_taken_33 : decode cX11_taken 33 = .ok (.ifCond .ne 12, 3) := by decide +kernel
theorem dX11_taken_36 : decode cX11_taken 36 = .ok (.aload_n 3, 1) := by decide +kernel
theorem dX11_taken_37 : decode cX11_taken 37 = .ok (.getfield 156, 3) := by decide +kernel
theorem dX11_taken_40 : decode cX11_taken 40 = .ok (.iload_n 1, 1) := by decide +kernel
theorem dX11_taken_41 : decode cX11_taken 41 = .ok (.iaload, 1) := by decide +kernel
theorem dX11_taken_42 : decode cX11_taken 42 = .ok (.goto 9, 3) := by decide +kernel
theorem dX11_taken_45 : decode cX11_taken 45 = .ok (.aload_n 3, 1) := by decide +kernel
theorem dX11_taken_46 : decode cX11_taken 46 = .ok (.getfield 161, 3) := by decide +kernel
theorem dX11_taken_49 : decode cX11_taken 49 = .ok (.iload_n 1, 1) := by decide +kernel
theorem dX11_taken_50 : decode cX11_taken 50 = .ok (.iaload, 1) := by decide +kernel
theorem dX11_taken_51 : decode cX11_taken 51 = .ok (.ireturn, 1) := by decide +kernel
theorem dX11_turn_0 : decode cX11_turn 0 = .ok (.aload_n 0, 1) := by decide +kernel
theorem dX11_turn_1 : decode cX11_turn 1 = .ok (.getfield 12, 3) := by decide +kernel
theorem dX11_turn_4 : decode cX11_turn 4 = .ok (.invokevirtual 129, 3) := by decide +kernel
theorem dX11_turn_7 : decode cX11_turn 7 = .ok (.getfield 152, 3) := by decide +kernel
theorem dX11_turn_10 : decode cX11_turn 10 = .ok (.getfield 164, 3) := by decide +kernel
theorem dX11_turn_13 : decode cX11_turn 13 = .ok (.ifCond .eq 7, 3) := by decide +kernel
theorem dX11_turn_16 : decode cX11_turn 16 = .ok (.iconst 1, 1) := by decide +kernel
theorem dX11_turn_17 : decode cX11_turn 17 = .ok (.goto 4, 3) := by decide +kernel
theorem dX11_turn_20 : decode cX11_turn 20 = .ok (.iconst 0, 1) := by decide +kernel
theorem dX11_turn_21 : decode cX11_turn 21 = .ok (.ireturn, 1) := by decide +kernel
theorem dX11_place_0 : decode cX11_place 0 = .ok (.aload_n 0, 1) := by decide +kernel
theorem dX11_place_1 : decode cX11_place 1 = .ok (.iconst 0, 1) := by decide +kernel
theorem dX11_place_2 : decode cX11_place 2 = .ok (.iload_n 1, 1) := by decide +kernel
theorem dX11_place_3 : decode cX11_place 3 = .ok (.invokevirtual 64, 3) := by decide +kernel
theorem dX11_place_6 : decode cX11_place 6 = .ok (.ifCond .eq 12, 3) := by decide +kernel
theorem dX11_place_9 : decode cX11_place 9 = .ok (.iload_n 2, 1) := by decide +kernel
theorem dX11_place_10 : decode cX11_place 10 = .ok (.iconst 0, 1) := by decide +kernel
theorem dX11_place_11 : decode cX11_place 11 = .ok (.iconst 2, 1) := by decide +kernel
theorem dX11_place_12 : decode cX11_place 12 = .ok (.invokestatic 68, 3) := by decide +kernel
theorem dX11_place_15 : decode cX11_place 15 = .ok (.ifCond .ne 6, 3) := by decide +kernel
theorem dX11_place_18 : decode cX11_place 18 = .ok (.ldc 71, 2) := by decide +kernel
theorem dX11_place_20 : decode cX11_place 20 = .ok (.ireturn, 1) := by decide +kernel
theorem dX11_place_21 : decode cX11_place 21 = .ok (.aload_n 0, 1) := by decide +kernel
theorem dX11_place_22 : decode cX11_place 22 = .ok (.getfield 12, 3) := by decide +kernel
theorem dX11_place_25 : decode cX11_place 25 = .ok (.invokevirtual 129, 3) := by decide +kernel
theorem dX11_place_28 : decode cX11_place 28 = .ok (.getfield 152, 3) := by decide +kernel
theorem dX11_place_31 : decode cX11_place 31 = .ok (.astore_n 3, 1) := by decide +kernel
theorem dX11_place_32 : decode cX11_place 32 = .ok (.aload_n 3, 1) := by decide +kernel
theorem dX11_place_33 : decode cX11_place 33 = .ok (.getfield 164, 3) := by decide +kernel
theorem dX11_place_36 : decode cX11_place 36 = .ok (.ifCond .eq 16, 3) := by decide +kernel
theorem dX11_place_39 : decode cX11_place 39 = .ok (.aload_n 3, 1) := by decide +kernel
theorem dX11_place_40 : decode cX11_place 40 = .ok (.getfield 168, 3) := by decide +kernel
theorem dX11_place_43 : decode cX11_place 43 = .ok (.iconst 3, 1) := by decide +kernel
theorem dX11_place_44 : decode cX11_place 44 = .ok (.iload_n 1, 1) := by decide +kernel
theorem dX11_place_45 : decode cX11_place 45 = .ok (.imul, 1) := by decide +kernel
theorem dX11_place_46 : decode cX11_place 46 = .ok (.iload_n 2, 1) := by decide +kernel
theorem dX11_place_47 : decode cX11_place 47 = .ok (.iadd, 1) := by decide +kernel
theorem dX11_place_48 : decode cX11_place 48 = .ok (.iaload, 1) := by decide +kernel
theorem dX11_place_49 : decode cX11_place 49 = .ok (.goto 5, 3) := by decide +kernel
theorem dX11_place_52 : decode cX11_place 52 = .ok (.ldc 71, 2) := by decide +kernel
theorem dX11_place_54 : decode cX11_place 54 = .ok (.ireturn, 1) := by decide +kernel
theorem dX11_confirmed_0 : decode cX11_confirmed 0 = .ok (.aload_n 0, 1) := by decide +kernel
theorem dX11_confirmed_1 : decode cX11_confirmed 1 = .ok (.iconst 1, 1) := by decide +kernel
theorem dX11_confirmed_2 : decode cX11_confirmed 2 = .ok (.iload_n 1, 1) := by decide +kernel
theorem dX11_confirmed_3 : decode cX11_confirmed 3 = .ok (.invokevirtual 64, 3) := by decide +kernel
theorem dX11_confirmed_6 : decode cX11_confirmed 6 = .ok (.ifCond .eq 12, 3) := by decide +kernel
theorem dX11_confirmed_9 : decode cX11_confirmed 9 = .ok (.iload_n 2, 1) := by decide +kernel
theorem dX11_confirmed_10 : decode cX11_confirmed 10 = .ok (.iconst 0, 1) := by decide +kernel
theorem dX11_confirmed_11 : decode cX11_confirmed 11 = .ok (.iconst 1, 1) := by decide +kernel
theorem dX11_confirmed_12 : decode cX11_confirmed 12 = .ok (.invokestatic 68, 3) := by decide +kernel
theorem dX11_confirmed_15 : decode cX11_confirmed 15 = .ok (.ifCond .ne 6, 3) := by decide +kernel
theorem dX11_confirmed_18 : decode cX11_confirmed 18 = .ok (.bipush (-2), 2) := by decide +kernel
theorem dX11_confirmed_20 : decode cX11_confirmed 20 = .ok (.ireturn, 1) := by decide +kernel
theorem dX11_confirmed_21 : decode cX11_confirmed 21 = .ok (.aload_n 0, 1) := by decide +kernel
theorem dX11_confirmed_22 : decode cX11_confirmed 22 = .ok (.getfield 12, 3) := by decide +kernel
theorem dX11_confirmed_25 : decode cX11_confirmed 25 = .ok (.invokevirtual 129, 3) := by decide +kernel
theorem dX11_confirmed_28 : decode cX11_confirmed 28 = .ok (.getfield 152, 3) := by decide +kernel
theorem dX11_confirmed_31 : decode cX11_confirmed 31 = .ok (.astore_n 3, 1) := by decide +kernel
theorem dX11_confirmed_32 : decode cX11_confirmed 32 = .ok (.iload_n 2, 1) := by decide +kernel
theorem dX11_confirmed_33 : decode cX11_confirmed 33 = .ok (.ifCond .ne 12, 3) := by decide +kernel
theorem dX11_confirmed_36 : decode cX11_confirmed 36 = .ok (.aload_n 3, 1) := by decide +kernel
theorem dX11_confirmed_37 : decode cX11_confirmed 37 = .ok (.getfield 171, 3) := by decide +kernel
theorem dX11_confirmed_40 : decode cX11_confirmed 40 = .ok (.iload_n 1, 1) := by decide +kernel
theorem dX11_confirmed_41 : decode cX11_confirmed 41 = .ok (.iaload, 1) := by decide +kernel
theorem dX11_confirmed_42 : decode cX11_confirmed 42 = .ok (.goto 9, 3) := by decide +kernel
theorem dX11_confirmed_45 : decode cX11_confirmed 45 = .ok (.aload_n 3, 1) := by decide +kernel
theorem dX11_confirmed_46 : decode cX11_confirmed 46 = .ok (.getfield 174, 3) := by decide +kernel
theorem dX11_confirmed_49 : decode cX11_confirmed 49 = .ok (.iload_n 1, 1) := by decide +kernel
theorem dX11_confirmed_50 : decode cX11_confirmed 50 = .ok (.iaload, 1) := by decide +kernel
theorem dX11_confirmed_51 : decode cX11_confirmed 51 = .ok (.ireturn, 1) := by decide +kernel
theorem dX11_wrong_0 : decode cX11_wrong 0 = .ok (.aload_n 0, 1) := by decide +kernel
theorem dX11_wrong_1 : decode cX11_wrong 1 = .ok (.getfield 12, 3) := by decide +kernel
theorem dX11_wrong_4 : decode cX11_wrong 4 = .ok (.invokevirtual 129, 3) := by decide +kernel
theorem dX11_wrong_7 : decode cX11_wrong 7 = .ok (.getfield 152, 3) := by decide +kernel
theorem dX11_wrong_10 : decode cX11_wrong 10 = .ok (.invokevirtual 177, 3) := by decide +kernel
theorem dX11_wrong_13 : decode cX11_wrong 13 = .ok (.ireturn, 1) := by decide +kernel
theorem dX11_better_0 : decode cX11_better 0 = .ok (.iload_n 1, 1) := by decide +kernel
theorem dX11_better_1 : decode cX11_better 1 = .ok (.iconst 0, 1) := by decide +kernel
theorem dX11_better_2 : decode cX11_better 2 = .ok (.iconst 1, 1) := by decide +kernel
theorem dX11_better_3 : decode cX11_better 3 = .ok (.invokestatic 68, 3) := by decide +kernel
theorem dX11_better_6 : decode cX11_better 6 = .ok (.ifCond .ne 6, 3) := by decide +kernel
theorem dX11_better_9 : decode cX11_better 9 = .ok (.bipush (-2), 2) := by decide +kernel
theorem dX11_better_11 : decode cX11_better 11 = .ok (.ireturn, 1) := by decide +kernel
theorem dX11_better_12 : decode cX11_better 12 = .ok (.aload_n 0, 1) := by decide +kernel
theorem dX11_better_13 : decode cX11_better 13 = .ok (.getfield 12, 3) := by decide +kernel
theorem dX11_better_16 : decode cX11_better 16 = .ok (.invokevirtual 180, 3) := by decide +kernel
theorem dX11_better_19 : decode cX11_better 19 = .ok (.iload_n 1, 1) := by decide +kernel
theorem dX11_better_20 : decode cX11_better 20 = .ok (.ifCond .ne 13, 3) := by decide +kernel
theorem dX11_better_23 : decode cX11_better 23 = .ok (.aload_n 0, 1) := by decide +kernel
theorem dX11_better_24 : decode cX11_better 24 = .ok (.getfield 12, 3) := by decide +kernel
theorem dX11_better_27 : decode cX11_better 27 = .ok (.getfield 183, 3) := by decide +kernel
theorem dX11_better_30 : decode cX11_better 30 = .ok (.goto 10, 3) := by decide +kernel
theorem dX11_better_33 : decode cX11_better 33 = .ok (.aload_n 0, 1) := by decide +kernel
theorem dX11_better_34 : decode cX11_better 34 = .ok (.getfield 12, 3) := by decide +kernel
theorem dX11_better_37 : decode cX11_better 37 = .ok (.getfield 186, 3) := by decide +kernel
theorem dX11_better_40 : decode cX11_better 40 = .ok (.ireturn, 1) := by decide +kernel
theorem dX11_spare_0 : decode cX11_spare 0 = .ok (.iload_n 1, 1) := by decide +kernel
theorem dX11_spare_1 : decode cX11_spare 1 = .ok (.iconst 0, 1) := by decide +kernel
theorem dX11_spare_2 : decode cX11_spare 2 = .ok (.iconst 1, 1) := by decide +kernel
theorem dX11_spare_3 : decode cX11_spare 3 = .ok (.invokestatic 68, 3) := by decide +kernel
theorem dX11_spare_6 : decode cX11_spare 6 = .ok (.ifCond .ne 6, 3) := by decide +kernel
theorem dX11_spare_9 : decode cX11_spare 9 = .ok (.bipush (-2), 2) := by decide +kernel
theorem dX11_spare_11 : decode cX11_spare 11 = .ok (.ireturn, 1) := by decide +kernel
theorem dX11_spare_12 : decode cX11_spare 12 = .ok (.aload_n 0, 1) := by decide +kernel
theorem dX11_spare_13 : decode cX11_spare 13 = .ok (.getfield 12, 3) := by decide +kernel
theorem dX11_spare_16 : decode cX11_spare 16 = .ok (.invokevirtual 189, 3) := by decide +kernel
theorem dX11_spare_19 : decode cX11_spare 19 = .ok (.iload_n 1, 1) := by decide +kernel
theorem dX11_spare_20 : decode cX11_spare 20 = .ok (.ifCond .ne 13, 3) := by decide +kernel
theorem dX11_spare_23 : decode cX11_spare 23 = .ok (.aload_n 0, 1) := by decide +kernel
theorem dX11_spare_24 : decode cX11_spare 24 = .ok (.getfield 12, 3) := by decide +kernel
theorem dX11_spare_27 : decode cX11_spare 27 = .ok (.getfield 192, 3) := by decide +kernel
theorem dX11_spare_30 : decode cX11_spare 30 = .ok (.goto 10, 3) := by decide +kernel
theorem dX11_spare_33 : decode cX11_spare 33 = .ok (.aload_n 0, 1) := by decide +kernel
theorem dX11_spare_34 : decode cX11_spare 34 = .ok (.getfield 12, 3) := by decide +kernel
theorem dX11_spare_37 : decode cX11_spare 37 = .ok (.getfield 195, 3) := by decide +kernel
theorem dX11_spare_40 : decode cX11_spare 40 = .ok (.ireturn, 1) := by decide +kernel
theorem dX11_put_0 : decode cX11_put 0 = .ok (.iload_n 1, 1) := by decide +kernel
theorem dX11_put_1 : decode cX11_put 1 = .ok (.invokestatic 198, 3) := by decide +kernel
theorem dX11_put_4 : decode cX11_put 4 = .ok (.ifCond .eq 12, 3) := by decide +kernel
theorem dX11_put_7 : decode cX11_put 7 = .ok (.aload_n 0, 1) := by decide +kernel
theorem dX11_put_8 : decode cX11_put 8 = .ok (.iload_n 2, 1) := by decide +kernel
theorem dX11_put_9 : decode cX11_put 9 = .ok (.iload_n 3, 1) := by decide +kernel
theorem dX11_put_10 : decode cX11_put 10 = .ok (.invokevirtual 64, 3) := by decide +kernel
theorem dX11_put_13 : decode cX11_put 13 = .ok (.ifCond .ne 6, 3) := by decide +kernel
theorem dX11_put_16 : decode cX11_put 16 = .ok (.bipush (-2), 2) := by decide +kernel
theorem dX11_put_18 : decode cX11_put 18 = .ok (.ireturn, 1) := by decide +kernel
theorem dX11_put_19 : decode cX11_put 19 = .ok (.aload_n 0, 1) := by decide +kernel
theorem dX11_put_20 : decode cX11_put 20 = .ok (.getfield 18, 3) := by decide +kernel
theorem dX11_put_23 : decode cX11_put 23 = .ok (.iload_n 1, 1) := by decide +kernel
theorem dX11_put_24 : decode cX11_put 24 = .ok (.aaload, 1) := by decide +kernel
theorem dX11_put_25 : decode cX11_put 25 = .ok (.astore 4, 2) := by decide +kernel
theorem dX11_put_27 : decode cX11_put 27 = .ok (.aload 4, 2) := by decide +kernel
theorem dX11_put_29 : decode cX11_put 29 = .ok (.getfield 201, 3) := by decide +kernel
theorem dX11_put_32 : decode cX11_put 32 = .ok (.bipush 8, 2) := by decide +kernel
theorem dX11_put_34 : decode cX11_put 34 = .ok (.if_icmp .ne 6, 3) := by decide +kernel
theorem dX11_put_37 : decode cX11_put 37 = .ok (.bipush (-4), 2) := by decide +kernel
theorem dX11_put_39 : decode cX11_put 39 = .ok (.ireturn, 1) := by decide +kernel
theorem dX11_put_40 : decode cX11_put 40 = .ok (.aload 4, 2) := by decide +kernel
theorem dX11_put_42 : decode cX11_put 42 = .ok (.iload_n 2, 1) := by decide +kernel
theorem dX11_put_43 : decode cX11_put 43 = .ok (.invokevirtual 203, 3) := by decide +kernel
theorem dX11_put_46 : decode cX11_put 46 = .ok (.ifCond .ne 9, 3) := by decide +kernel
theorem dX11_put_49 : decode cX11_put 49 = .ok (.aload_n 0, 1) := by decide +kernel
theorem dX11_put_50 : decode cX11_put 50 = .ok (.iconst 4, 1) := by decide +kernel
theorem dX11_put_51 : decode cX11_put 51 = .ok (.invokevirtual 82, 3) := by decide +kernel
theorem dX11_put_54 : decode cX11_put 54 = .ok (.ireturn, 1) := by decide +kernel
theorem dX11_put_55 : decode cX11_put 55 = .ok (.aload_n 0, 1) := by decide +kernel
theorem dX11_put_56 : decode cX11_put 56 = .ok (.getfield 12, 3) := by decide +kernel
theorem dX11_put_59 : decode cX11_put 59 = .ok (.iload_n 2, 1) := by decide +kernel
theorem dX11_put_60 : decode cX11_put 60 = .ok (.invokevirtual 40, 3) := by decide +kernel
theorem dX11_put_63 : decode cX11_put 63 = .ok (.astore 5, 2) := by decide +kernel
theorem dX11_put_65 : decode cX11_put 65 = .ok (.aload 4, 2) := by decide +kernel
theorem dX11_put_67 : decode cX11_put 67 = .ok (.iload_n 2, 1) := by decide +kernel
theorem dX11_put_68 : decode cX11_put 68 = .ok (.aload 5, 2) := by decide +kernel
theorem dX11_put_70 : decode cX11_put 70 = .ok (.iload_n 3, 1) := by decide +kernel
theorem dX11_put_71 : decode cX11_put 71 = .ok (.iconst 0, 1) := by decide +kernel
theorem dX11_put_72 : decode cX11_put 72 = .ok (.invokevirtual 72, 3) := by decide +kernel
theorem dX11_put_75 : decode cX11_put 75 = .ok (.aload 5, 2) := by decide +kernel
theorem dX11_put_77 : decode cX11_put 77 = .ok (.iload_n 3, 1) := by decide +kernel
theorem dX11_put_78 : decode cX11_put 78 = .ok (.iconst 1, 1) := by decide +kernel
theorem dX11_put_79 : decode cX11_put 79 = .ok (.invokevirtual 72, 3) := by decide +kernel
theorem dX11_put_82 : decode cX11_put 82 = .ok (.aload 5, 2) := by decide +kernel
theorem dX11_put_84 : decode cX11_put 84 = .ok (.iload_n 3, 1) := by decide +kernel
theorem dX11_put_85 : decode cX11_put 85 = .ok (.iconst 2, 1) := by decide +kernel
theorem dX11_put_86 : decode cX11_put 86 = .ok (.invokevirtual 72, 3) := by decide +kernel
theorem dX11_put_89 : decode cX11_put 89 = .ok (.invokevirtual 206, 3) := by decide +kernel
theorem dX11_put_92 : decode cX11_put 92 = .ok (.aload 4, 2) := by decide +kernel
theorem dX11_put_94 : decode cX11_put 94 = .ok (.getfield 201, 3) := by decide +kernel
theorem dX11_put_97 : decode cX11_put 97 = .ok (.ireturn, 1) := by decide +kernel
theorem dX11_fork_0 : decode cX11_fork 0 = .ok (.iload_n 1, 1) := by decide +kernel
theorem dX11_fork_1 : decode cX11_fork 1 = .ok (.invokestatic 198, 3) := by decide +kernel
theorem dX11_fork_4 : decode cX11_fork 4 = .ok (.ifCond .eq 10, 3) := by decide +kernel
theorem dX11_fork_7 : decode cX11_fork 7 = .ok (.iload_n 2, 1) := by decide +kernel
theorem dX11_fork_8 : decode cX11_fork 8 = .ok (.invokestatic 198, 3) := by decide +kernel
theorem dX11_fork_11 : decode cX11_fork 11 = .ok (.ifCond .ne 6, 3) := by decide +kernel
theorem dX11_fork_14 : decode cX11_fork 14 = .ok (.bipush (-2), 2) := by decide +kernel
theorem dX11_fork_16 : decode cX11_fork 16 = .ok (.ireturn, 1) := by decide +kernel
theorem dX11_fork_17 : decode cX11_fork 17 = .ok (.aload_n 0, 1) := by decide +kernel
theorem dX11_fork_18 : decode cX11_fork 18 = .ok (.getfield 18, 3) := by decide +kernel
theorem dX11_fork_21 : decode cX11_fork 21 = .ok (.iload_n 2, 1) := by decide +kernel
theorem dX11_fork_22 : decode cX11_fork 22 = .ok (.aaload, 1) := by decide +kernel
theorem dX11_fork_23 : decode cX11_fork 23 = .ok (.aload_n 0, 1) := by decide +kernel
theorem dX11_fork_24 : decode cX11_fork 24 = .ok (.getfield 18, 3) := by decide +kernel
theorem dX11_fork_27 : decode cX11_fork 27 = .ok (.iload_n 1, 1) := by decide +kernel
theorem dX11_fork_28 : decode cX11_fork 28 = .ok (.aaload, 1) := by decide +kernel
theorem dX11_fork_29 : decode cX11_fork 29 = .ok (.invokevirtual 209, 3) := by decide +kernel
theorem dX11_fork_32 : decode cX11_fork 32 = .ok (.aload_n 0, 1) := by decide +kernel
theorem dX11_fork_33 : decode cX11_fork 33 = .ok (.getfield 18, 3) := by decide +kernel
theorem dX11_fork_36 : decode cX11_fork 36 = .ok (.iload_n 2, 1) := by decide +kernel
theorem dX11_fork_37 : decode cX11_fork 37 = .ok (.aaload, 1) := by decide +kernel
theorem dX11_fork_38 : decode cX11_fork 38 = .ok (.getfield 201, 3) := by decide +kernel
theorem dX11_fork_41 : decode cX11_fork 41 = .ok (.ireturn, 1) := by decide +kernel
theorem dX11_take_0 : decode cX11_take 0 = .ok (.iload_n 1, 1) := by decide +kernel
theorem dX11_take_1 : decode cX11_take 1 = .ok (.invokestatic 198, 3) := by decide +kernel
theorem dX11_take_4 : decode cX11_take 4 = .ok (.ifCond .ne 6, 3) := by decide +kernel
theorem dX11_take_7 : decode cX11_take 7 = .ok (.bipush (-2), 2) := by decide +kernel
theorem dX11_take_9 : decode cX11_take 9 = .ok (.ireturn, 1) := by decide +kernel
theorem dX11_take_10 : decode cX11_take 10 = .ok (.aload_n 0, 1) := by decide +kernel
theorem dX11_take_11 : decode cX11_take 11 = .ok (.getfield 18, 3) := by decide +kernel
theorem dX11_take_14 : decode cX11_take 14 = .ok (.iload_n 1, 1) := by decide +kernel
theorem dX11_take_15 : decode cX11_take 15 = .ok (.aaload, 1) := by decide +kernel
theorem dX11_take_16 : decode cX11_take 16 = .ok (.getfield 201, 3) := by decide +kernel
theorem dX11_take_19 : decode cX11_take 19 = .ok (.ifCond .ne 6, 3) := by decide +kernel
theorem dX11_take_22 : decode cX11_take 22 = .ok (.bipush (-3), 2) := by decide +kernel
theorem dX11_take_24 : decode cX11_take 24 = .ok (.ireturn, 1) := by decide +kernel
theorem dX11_take_25 : decode cX11_take 25 = .ok (.aload_n 0, 1) := by decide +kernel
theorem dX11_take_26 : decode cX11_take 26 = .ok (.getfield 18, 3) := by decide +kernel
theorem dX11_take_29 : decode cX11_take 29 = .ok (.iload_n 1, 1) := by decide +kernel
theorem dX11_take_30 : decode cX11_take 30 = .ok (.aaload, 1) := by decide +kernel
theorem dX11_take_31 : decode cX11_take 31 = .ok (.dup, 1) := by decide +kernel
theorem dX11_take_32 : decode cX11_take 32 = .ok (.getfield 201, 3) := by decide +kernel
theorem dX11_take_35 : decode cX11_take 35 = .ok (.iconst 1, 1) := by decide +kernel
theorem dX11_take_36 : decode cX11_take 36 = .ok (.isub, 1) := by decide +kernel
theorem dX11_take_37 : decode cX11_take 37 = .ok (.putfield 201, 3) := by decide +kernel
theorem dX11_take_40 : decode cX11_take 40 = .ok (.aload_n 0, 1) := by decide +kernel
theorem dX11_take_41 : decode cX11_take 41 = .ok (.getfield 18, 3) := by decide +kernel
theorem dX11_take_44 : decode cX11_take 44 = .ok (.iload_n 1, 1) := by decide +kernel
theorem dX11_take_45 : decode cX11_take 45 = .ok (.aaload, 1) := by decide +kernel
theorem dX11_take_46 : decode cX11_take 46 = .ok (.getfield 201, 3) := by decide +kernel
theorem dX11_take_49 : decode cX11_take 49 = .ok (.ireturn, 1) := by decide +kernel
theorem dX11_thing_0 : decode cX11_thing 0 = .ok (.iload_n 1, 1) := by decide +kernel
theorem dX11_thing_1 : decode cX11_thing 1 = .ok (.invokestatic 198, 3) := by decide +kernel
theorem dX11_thing_4 : decode cX11_thing 4 = .ok (.ifCond .eq 25, 3) := by decide +kernel
theorem dX11_thing_7 : decode cX11_thing 7 = .ok (.aload_n 0, 1) := by decide +kernel
theorem dX11_thing_8 : decode cX11_thing 8 = .ok (.getfield 18, 3) := by decide +kernel
theorem dX11_thing_11 : decode cX11_thing 11 = .ok (.iload_n 1, 1) := by decide +kernel
theorem dX11_thing_12 : decode cX11_thing 12 = .ok (.aaload, 1) := by decide +kernel
theorem dX11_thing_13 : decode cX11_thing 13 = .ok (.iload_n 2, 1) := by decide +kernel
theorem dX11_thing_14 : decode cX11_thing 14 = .ok (.invokevirtual 213, 3) := by decide +kernel
theorem dX11_thing_17 : decode cX11_thing 17 = .ok (.ifCond .eq 12, 3) := by decide +kernel
theorem dX11_thing_20 : decode cX11_thing 20 = .ok (.iload_n 3, 1) := by decide +kernel
theorem dX11_thing_21 : decode cX11_thing 21 = .ok (.iconst 0, 1) := by decide +kernel
theorem dX11_thing_22 : decode cX11_thing 22 = .ok (.iconst 3, 1) := by decide +kernel
theorem dX11_thing_23 : decode cX11_thing 23 = .ok (.invokestatic 68, 3) := by decide +kernel
theorem dX11_thing_26 : decode cX11_thing 26 = .ok (.ifCond .ne 6, 3) := by decide +kernel
theorem dX11_thing_29 : decode cX11_thing 29 = .ok (.ldc 71, 2) := by decide +kernel
theorem dX11_thing_31 : decode cX11_thing 31 = .ok (.ireturn, 1) := by decide +kernel
theorem dX11_thing_32 : decode cX11_thing 32 = .ok (.aload_n 0, 1) := by decide +kernel
theorem dX11_thing_33 : decode cX11_thing 33 = .ok (.getfield 18, 3) := by decide +kernel
theorem dX11_thing_36 : decode cX11_thing 36 = .ok (.iload_n 1, 1) := by decide +kernel
theorem dX11_thing_37 : decode cX11_thing 37 = .ok (.aaload, 1) := by decide +kernel
theorem dX11_thing_38 : decode cX11_thing 38 = .ok (.iload_n 2, 1) := by decide +kernel
theorem dX11_thing_39 : decode cX11_thing 39 = .ok (.iload_n 3, 1) := by decide +kernel
theorem dX11_thing_40 : decode cX11_thing 40 = .ok (.invokevirtual 216, 3) := by decide +kernel
theorem dX11_thing_43 : decode cX11_thing 43 = .ok (.ireturn, 1) := by decide +kernel
theorem dX11_share_0 : decode cX11_share 0 = .ok (.iload_n 1, 1) := by decide +kernel
theorem dX11_share_1 : decode cX11_share 1 = .ok (.invokestatic 198, 3) := by decide +kernel
theorem dX11_share_4 : decode cX11_share 4 = .ok (.ifCond .eq 29, 3) := by decide +kernel
theorem dX11_share_7 : decode cX11_share 7 = .ok (.aload_n 0, 1) := by decide +kernel
theorem dX11_share_8 : decode cX11_share 8 = .ok (.getfield 18, 3) := by decide +kernel
theorem dX11_share_11 : decode cX11_share 11 = .ok (.iload_n 1, 1) := by decide +kernel
theorem dX11_share_12 : decode cX11_share 12 = .ok (.aaload, 1) := by decide +kernel
theorem dX11_share_13 : decode cX11_share 13 = .ok (.iload_n 2, 1) := by decide +kernel
theorem dX11_share_14 : decode cX11_share 14 = .ok (.invokevirtual 213, 3) := by decide +kernel
theorem dX11_share_17 : decode cX11_share 17 = .ok (.ifCond .eq 16, 3) := by decide +kernel
theorem dX11_share_20 : decode cX11_share 20 = .ok (.aload_n 0, 1) := by decide +kernel
theorem dX11_share_21 : decode cX11_share 21 = .ok (.getfield 18, 3) := by decide +kernel
theorem dX11_share_24 : decode cX11_share 24 = .ok (.iload_n 1, 1) := by decide +kernel
theorem dX11_share_25 : decode cX11_share 25 = .ok (.aaload, 1) := by decide +kernel
theorem dX11_share_26 : decode cX11_share 26 = .ok (.iload_n 3, 1) := by decide +kernel
theorem dX11_share_27 : decode cX11_share 27 = .ok (.invokevirtual 213, 3) := by decide +kernel
theorem dX11_share_30 : decode cX11_share 30 = .ok (.ifCond .ne 6, 3) := by decide +kernel
theorem dX11_share_33 : decode cX11_share 33 = .ok (.ldc 71, 2) := by decide +kernel
theorem dX11_share_35 : decode cX11_share 35 = .ok (.ireturn, 1) := by decide +kernel
theorem dX11_share_36 : decode cX11_share 36 = .ok (.aload_n 0, 1) := by decide +kernel
theorem dX11_share_37 : decode cX11_share 37 = .ok (.getfield 18, 3) := by decide +kernel
theorem dX11_share_40 : decode cX11_share 40 = .ok (.iload_n 1, 1) := by decide +kernel
theorem dX11_share_41 : decode cX11_share 41 = .ok (.aaload, 1) := by decide +kernel
theorem dX11_share_42 : decode cX11_share 42 = .ok (.iload_n 2, 1) := by decide +kernel
theorem dX11_share_43 : decode cX11_share 43 = .ok (.iload_n 3, 1) := by decide +kernel
theorem dX11_share_44 : decode cX11_share 44 = .ok (.invokevirtual 219, 3) := by decide +kernel
theorem dX11_share_47 : decode cX11_share 47 = .ok (.aload_n 0, 1) := by decide +kernel
theorem dX11_share_48 : decode cX11_share 48 = .ok (.getfield 18, 3) := by decide +kernel
theorem dX11_share_51 : decode cX11_share 51 = .ok (.iload_n 1, 1) := by decide +kernel
theorem dX11_share_52 : decode cX11_share 52 = .ok (.aaload, 1) := by decide +kernel
theorem dX11_share_53 : decode cX11_share 53 = .ok (.iload_n 2, 1) := by decide +kernel
theorem dX11_share_54 : decode cX11_share 54 = .ok (.iload_n 2, 1) := by decide +kernel
theorem dX11_share_55 : decode cX11_share 55 = .ok (.invokevirtual 219, 3) := by decide +kernel
theorem dX11_share_58 : decode cX11_share 58 = .ok (.invokestatic 222, 3) := by decide +kernel
theorem dX11_share_61 : decode cX11_share 61 = .ok (.ireturn, 1) := by decide +kernel
theorem dX11_sheet_0 : decode cX11_sheet 0 = .ok (.iload_n 1, 1) := by decide +kernel
theorem dX11_sheet_1 : decode cX11_sheet 1 = .ok (.invokestatic 76, 3) := by decide +kernel
theorem dX11_sheet_4 : decode cX11_sheet 4 = .ok (.ifCond .eq 16, 3) := by decide +kernel
theorem dX11_sheet_7 : decode cX11_sheet 7 = .ok (.iload_n 2, 1) := by decide +kernel
theorem dX11_sheet_8 : decode cX11_sheet 8 = .ok (.invokestatic 225, 3) := by decide +kernel
theorem dX11_sheet_11 : decode cX11_sheet 11 = .ok (.ifCond .eq 9, 3) := by decide +kernel
theorem dX11_sheet_14 : decode cX11_sheet 14 = .ok (.iload_n 3, 1) := by decide +kernel
theorem dX11_sheet_15 : decode cX11_sheet 15 = .ok (.bipush 60, 2) := by decide +kernel
theorem dX11_sheet_17 : decode cX11_sheet 17 = .ok (.if_icmp .le 6, 3) := by decide +kernel
theorem dX11_sheet_20 : decode cX11_sheet 20 = .ok (.bipush (-2), 2) := by decide +kernel
theorem dX11_sheet_22 : decode cX11_sheet 22 = .ok (.ireturn, 1) := by decide +kernel
theorem dX11_sheet_23 : decode cX11_sheet 23 = .ok (.iload_n 3, 1) := by decide +kernel
theorem dX11_sheet_24 : decode cX11_sheet 24 = .ok (.ifCond .ge 9, 3) := by decide +kernel
theorem dX11_sheet_27 : decode cX11_sheet 27 = .ok (.aload_n 0, 1) := by decide +kernel
theorem dX11_sheet_28 : decode cX11_sheet 28 = .ok (.iconst 5, 1) := by decide +kernel
theorem dX11_sheet_29 : decode cX11_sheet 29 = .ok (.invokevirtual 82, 3) := by decide +kernel
theorem dX11_sheet_32 : decode cX11_sheet 32 = .ok (.ireturn, 1) := by decide +kernel
theorem dX11_sheet_33 : decode cX11_sheet 33 = .ok (.aload_n 0, 1) := by decide +kernel
theorem dX11_sheet_34 : decode cX11_sheet 34 = .ok (.getfield 24, 3) := by decide +kernel
theorem dX11_sheet_37 : decode cX11_sheet 37 = .ok (.iload_n 1, 1) := by decide +kernel
theorem dX11_sheet_38 : decode cX11_sheet 38 = .ok (.aaload, 1) := by decide +kernel
theorem dX11_sheet_39 : decode cX11_sheet 39 = .ok (.iload_n 2, 1) := by decide +kernel
theorem dX11_sheet_40 : decode cX11_sheet 40 = .ok (.iload_n 3, 1) := by decide +kernel
theorem dX11_sheet_41 : decode cX11_sheet 41 = .ok (.invokevirtual 228, 3) := by decide +kernel
theorem dX11_sheet_44 : decode cX11_sheet 44 = .ok (.iload_n 3, 1) := by decide +kernel
theorem dX11_sheet_45 : decode cX11_sheet 45 = .ok (.ireturn, 1) := by decide +kernel
theorem dX11_lose_0 : decode cX11_lose 0 = .ok (.iload_n 1, 1) := by decide +kernel
theorem dX11_lose_1 : decode cX11_lose 1 = .ok (.invokestatic 76, 3) := by decide +kernel
theorem dX11_lose_4 : decode cX11_lose 4 = .ok (.ifCond .ne 6, 3) := by decide +kernel
theorem dX11_lose_7 : decode cX11_lose 7 = .ok (.bipush (-2), 2) := by decide +kernel
theorem dX11_lose_9 : decode cX11_lose 9 = .ok (.ireturn, 1) := by decide +kernel
theorem dX11_lose_10 : decode cX11_lose 10 = .ok (.aload_n 0, 1) := by decide +kernel
theorem dX11_lose_11 : decode cX11_lose 11 = .ok (.getfield 24, 3) := by decide +kernel
theorem dX11_lose_14 : decode cX11_lose 14 = .ok (.iload_n 1, 1) := by decide +kernel
theorem dX11_lose_15 : decode cX11_lose 15 = .ok (.aaload, 1) := by decide +kernel
theorem dX11_lose_16 : decode cX11_lose 16 = .ok (.invokevirtual 79, 3) := by decide +kernel
theorem dX11_lose_19 : decode cX11_lose 19 = .ok (.ifCond .eq 9, 3) := by decide +kernel
theorem dX11_lose_22 : decode cX11_lose 22 = .ok (.aload_n 0, 1) := by decide +kernel
theorem dX11_lose_23 : decode cX11_lose 23 = .ok (.iconst 1, 1) := by decide +kernel
theorem dX11_lose_24 : decode cX11_lose 24 = .ok (.invokevirtual 82, 3) := by decide +kernel
theorem dX11_lose_27 : decode cX11_lose 27 = .ok (.ireturn, 1) := by decide +kernel
theorem dX11_lose_28 : decode cX11_lose 28 = .ok (.aload_n 0, 1) := by decide +kernel
theorem dX11_lose_29 : decode cX11_lose 29 = .ok (.getfield 24, 3) := by decide +kernel
theorem dX11_lose_32 : decode cX11_lose 32 = .ok (.iload_n 1, 1) := by decide +kernel
theorem dX11_lose_33 : decode cX11_lose 33 = .ok (.aaload, 1) := by decide +kernel
theorem dX11_lose_34 : decode cX11_lose 34 = .ok (.invokevirtual 86, 3) := by decide +kernel
theorem dX11_lose_37 : decode cX11_lose 37 = .ok (.istore_n 2, 1) := by decide +kernel
theorem dX11_lose_38 : decode cX11_lose 38 = .ok (.aload_n 0, 1) := by decide +kernel
theorem dX11_lose_39 : decode cX11_lose 39 = .ok (.getfield 24, 3) := by decide +kernel
theorem dX11_lose_42 : decode cX11_lose 42 = .ok (.iload_n 1, 1) := by decide +kernel
theorem dX11_lose_43 : decode cX11_lose 43 = .ok (.aaload, 1) := by decide +kernel
theorem dX11_lose_44 : decode cX11_lose 44 = .ok (.iconst (-1), 1) := by decide +kernel
theorem dX11_lose_45 : decode cX11_lose 45 = .ok (.iconst 0, 1) := by decide +kernel
theorem dX11_lose_46 : decode cX11_lose 46 = .ok (.invokevirtual 228, 3) := by decide +kernel
theorem dX11_lose_49 : decode cX11_lose 49 = .ok (.iload_n 2, 1) := by decide +kernel
theorem dX11_lose_50 : decode cX11_lose 50 = .ok (.ireturn, 1) := by decide +kernel
theorem dX11_lay_0 : decode cX11_lay 0 = .ok (.iload_n 1, 1) := by decide +kernel
theorem dX11_lay_1 : decode cX11_lay 1 = .ok (.invokestatic 76, 3) := by decide +kernel
theorem dX11_lay_4 : decode cX11_lay 4 = .ok (.ifCond .eq 10, 3) := by decide +kernel
theorem dX11_lay_7 : decode cX11_lay 7 = .ok (.iload_n 2, 1) := by decide +kernel
theorem dX11_lay_8 : decode cX11_lay 8 = .ok (.invokestatic 225, 3) := by decide +kernel
theorem dX11_lay_11 : decode cX11_lay 11 = .ok (.ifCond .ne 6, 3) := by decide +kernel
theorem dX11_lay_14 : decode cX11_lay 14 = .ok (.bipush (-2), 2) := by decide +kernel
theorem dX11_lay_16 : decode cX11_lay 16 = .ok (.ireturn, 1) := by decide +kernel
theorem dX11_lay_17 : decode cX11_lay 17 = .ok (.aload_n 0, 1) := by decide +kernel
theorem dX11_lay_18 : decode cX11_lay 18 = .ok (.getfield 24, 3) := by decide +kernel
theorem dX11_lay_21 : decode cX11_lay 21 = .ok (.iload_n 1, 1) := by decide +kernel
theorem dX11_lay_22 : decode cX11_lay 22 = .ok (.aaload, 1) := by decide +kernel
theorem dX11_lay_23 : decode cX11_lay 23 = .ok (.iload_n 2, 1) := by decide +kernel
theorem dX11_lay_24 : decode cX11_lay 24 = .ok (.iload_n 3, 1) := by decide +kernel
theorem dX11_lay_25 : decode cX11_lay 25 = .ok (.invokevirtual 232, 3) := by decide +kernel
theorem dX11_lay_28 : decode cX11_lay 28 = .ok (.istore 5, 2) := by decide +kernel
theorem dX11_lay_30 : decode cX11_lay 30 = .ok (.iload 5, 2) := by decide +kernel
theorem dX11_lay_32 : decode cX11_lay 32 = .ok (.ifCond .eq 10, 3) := by decide +kernel
theorem dX11_lay_35 : decode cX11_lay 35 = .ok (.aload_n 0, 1) := by decide +kernel
theorem dX11_lay_36 : decode cX11_lay 36 = .ok (.iload 5, 2) := by decide +kernel
theorem dX11_lay_38 : decode cX11_lay 38 = .ok (.invokevirtual 82, 3) := by decide +kernel
theorem dX11_lay_41 : decode cX11_lay 41 = .ok (.ireturn, 1) := by decide +kernel
theorem dX11_lay_42 : decode cX11_lay 42 = .ok (.aload_n 0, 1) := by decide +kernel
theorem dX11_lay_43 : decode cX11_lay 43 = .ok (.getfield 24, 3) := by decide +kernel
theorem dX11_lay_46 : decode cX11_lay 46 = .ok (.iload_n 1, 1) := by decide +kernel
theorem dX11_lay_47 : decode cX11_lay 47 = .ok (.aaload, 1) := by decide +kernel
theorem dX11_lay_48 : decode cX11_lay 48 = .ok (.iload_n 3, 1) := by decide +kernel
theorem dX11_lay_49 : decode cX11_lay 49 = .ok (.iload 4, 2) := by decide +kernel
theorem dX11_lay_51 : decode cX11_lay 51 = .ok (.invokevirtual 235, 3) := by decide +kernel
theorem dX11_lay_54 : decode cX11_lay 54 = .ok (.iconst 1, 1) := by decide +kernel
theorem dX11_lay_55 : decode cX11_lay 55 = .ok (.ireturn, 1) := by decide +kernel
theorem dX11_get_0 : decode cX11_get 0 = .ok (.iload_n 1, 1) := by decide +kernel
theorem dX11_get_1 : decode cX11_get 1 = .ok (.invokestatic 76, 3) := by decide +kernel
theorem dX11_get_4 : decode cX11_get 4 = .ok (.ifCond .eq 10, 3) := by decide +kernel
theorem dX11_get_7 : decode cX11_get 7 = .ok (.iload_n 2, 1) := by decide +kernel
theorem dX11_get_8 : decode cX11_get 8 = .ok (.invokestatic 225, 3) := by decide +kernel
theorem dX11_get_11 : decode cX11_get 11 = .ok (.ifCond .ne 6, 3) := by decide +kernel
theorem dX11_get_14 : decode cX11_get 14 = .ok (.ldc 71, 2) := by decide +kernel
theorem dX11_get_16 : decode cX11_get 16 = .ok (.ireturn, 1) := by decide +kernel
theorem dX11_get_17 : decode cX11_get 17 = .ok (.aload_n 0, 1) := by decide +kernel
theorem dX11_get_18 : decode cX11_get 18 = .ok (.getfield 24, 3) := by decide +kernel
theorem dX11_get_21 : decode cX11_get 21 = .ok (.iload_n 1, 1) := by decide +kernel
theorem dX11_get_22 : decode cX11_get 22 = .ok (.aaload, 1) := by decide +kernel
theorem dX11_get_23 : decode cX11_get 23 = .ok (.iload_n 2, 1) := by decide +kernel
theorem dX11_get_24 : decode cX11_get 24 = .ok (.iload_n 3, 1) := by decide +kernel
theorem dX11_get_25 : decode cX11_get 25 = .ok (.invokevirtual 232, 3) := by decide +kernel
theorem dX11_get_28 : decode cX11_get 28 = .ok (.istore 4, 2) := by decide +kernel
theorem dX11_get_30 : decode cX11_get 30 = .ok (.iload 4, 2) := by decide +kernel
theorem dX11_get_32 : decode cX11_get 32 = .ok (.ifCond .eq 13, 3) := by decide +kernel
theorem dX11_get_35 : decode cX11_get 35 = .ok (.aload_n 0, 1) := by decide +kernel
theorem dX11_get_36 : decode cX11_get 36 = .ok (.iload 4, 2) := by decide +kernel
theorem dX11_get_38 : decode cX11_get 38 = .ok (.invokevirtual 82, 3) := by decide +kernel
theorem dX11_get_41 : decode cX11_get 41 = .ok (.pop, 1) := by decide +kernel
theorem dX11_get_42 : decode cX11_get 42 = .ok (.ldc 71, 2) := by decide +kernel
theorem dX11_get_44 : decode cX11_get 44 = .ok (.ireturn, 1) := by decide +kernel
theorem dX11_get_45 : decode cX11_get 45 = .ok (.aload_n 0, 1) := by decide +kernel
theorem dX11_get_46 : decode cX11_get 46 = .ok (.getfield 24, 3) := by decide +kernel
theorem dX11_get_49 : decode cX11_get 49 = .ok (.iload_n 1, 1) := by decide +kernel
theorem dX11_get_50 : decode cX11_get 50 = .ok (.aaload, 1) := by decide +kernel
theorem dX11_get_51 : decode cX11_get 51 = .ok (.iload_n 3, 1) := by decide +kernel
theorem dX11_get_52 : decode cX11_get 52 = .ok (.invokevirtual 89, 3) := by decide +kernel
theorem dX11_get_55 : decode cX11_get 55 = .ok (.ireturn, 1) := by decide +kernel
theorem dX11_copy_0 : decode cX11_copy 0 = .ok (.iload_n 1, 1) := by decide +kernel
theorem dX11_copy_1 : decode cX11_copy 1 = .ok (.invokestatic 76, 3) := by decide +kernel
theorem dX11_copy_4 : decode cX11_copy 4 = .ok (.ifCond .eq 10, 3) := by decide +kernel
theorem dX11_copy_7 : decode cX11_copy 7 = .ok (.iload_n 3, 1) := by decide +kernel
theorem dX11_copy_8 : decode cX11_copy 8 = .ok (.invokestatic 76, 3) := by decide +kernel
theorem dX11_copy_11 : decode cX11_copy 11 = .ok (.ifCond .ne 6, 3) := by decide +kernel
theorem dX11_copy_14 : decode cX11_copy 14 = .ok (.bipush (-2), 2) := by decide +kernel
theorem dX11_copy_16 : decode cX11_copy 16 = .ok (.ireturn, 1) := by decide +kernel
theorem dX11_copy_17 : decode cX11_copy 17 = .ok (.aload_n 0, 1) := by decide +kernel
theorem dX11_copy_18 : decode cX11_copy 18 = .ok (.getfield 24, 3) := by decide +kernel
theorem dX11_copy_21 : decode cX11_copy 21 = .ok (.iload_n 1, 1) := by decide +kernel
theorem dX11_copy_22 : decode cX11_copy 22 = .ok (.aaload, 1) := by decide +kernel
theorem dX11_copy_23 : decode cX11_copy 23 = .ok (.astore 6, 2) := by decide +kernel
theorem dX11_copy_25 : decode cX11_copy 25 = .ok (.aload_n 0, 1) := by decide +kernel
theorem dX11_copy_26 : decode cX11_copy 26 = .ok (.getfield 24, 3) := by decide +kernel
theorem dX11_copy_29 : decode cX11_copy 29 = .ok (.iload_n 3, 1) := by decide +kernel
theorem dX11_copy_30 : decode cX11_copy 30 = .ok (.aaload, 1) := by decide +kernel
theorem dX11_copy_31 : decode cX11_copy 31 = .ok (.astore 7, 2) := by decide +kernel
theorem dX11_copy_33 : decode cX11_copy 33 = .ok (.aload 6, 2) := by decide +kernel
theorem dX11_copy_35 : decode cX11_copy 35 = .ok (.invokevirtual 79, 3) := by decide +kernel
theorem dX11_copy_38 : decode cX11_copy 38 = .ok (.ifCond .ne 11, 3) := by decide +kernel
theorem dX11_copy_41 : decode cX11_copy 41 = .ok (.aload 7, 2) := by decide +kernel
theorem dX11_copy_43 : decode cX11_copy 43 = .ok (.invokevirtual 79, 3) := by decide +kernel
theorem dX11_copy_46 : decode cX11_copy 46 = .ok (.ifCond .eq 9, 3) := by decide +kernel
theorem dX11_copy_49 : decode cX11_copy 49 = .ok (.aload_n 0, 1) := by decide +kernel
theorem dX11_copy_50 : decode cX11_copy 50 = .ok (.iconst 1, 1) := by decide +kernel
theorem dX11_copy_51 : decode cX11_copy 51 = .ok (.invokevirtual 82, 3) := by decide +kernel
theorem dX11_copy_54 : decode cX11_copy 54 = .ok (.ireturn, 1) := by decide +kernel
theorem dX11_copy_55 : decode cX11_copy 55 = .ok (.aload 6, 2) := by decide +kernel
theorem dX11_copy_57 : decode cX11_copy 57 = .ok (.getfield 238, 3) := by decide +kernel
theorem dX11_copy_60 : decode cX11_copy 60 = .ok (.aload 7, 2) := by decide +kernel
theorem dX11_copy_62 : decode cX11_copy 62 = .ok (.getfield 238, 3) := by decide +kernel
theorem dX11_copy_65 : decode cX11_copy 65 = .ok (.if_icmp .eq 9, 3) := by decide +kernel
theorem dX11_copy_68 : decode cX11_copy 68 = .ok (.aload_n 0, 1) := by decide +kernel
theorem dX11_copy_69 : decode cX11_copy 69 = .ok (.iconst 4, 1) := by decide +kernel
theorem dX11_copy_70 : decode cX11_copy 70 = .ok (.invokevirtual 82, 3) := by decide +kernel
theorem dX11_copy_73 : decode cX11_copy 73 = .ok (.ireturn, 1) := by decide +kernel
theorem dX11_copy_74 : decode cX11_copy 74 = .ok (.aload 6, 2) := by decide +kernel
theorem dX11_copy_76 : decode cX11_copy 76 = .ok (.iload_n 2, 1) := by decide +kernel
theorem dX11_copy_77 : decode cX11_copy 77 = .ok (.iload 5, 2) := by decide +kernel
theorem dX11_copy_79 : decode cX11_copy 79 = .ok (.invokevirtual 241, 3) := by decide +kernel
theorem dX11_copy_82 : decode cX11_copy 82 = .ok (.ifCond .eq 15, 3) := by decide +kernel
theorem dX11_copy_85 : decode cX11_copy 85 = .ok (.aload 7, 2) := by decide +kernel
theorem dX11_copy_87 : decode cX11_copy 87 = .ok (.iload 4, 2) := by decide +kernel
theorem dX11_copy_89 : decode cX11_copy 89 = .ok (.iload 5, 2) := by decide +kernel
theorem dX11_copy_91 : decode cX11_copy 91 = .ok (.invokevirtual 241, 3) := by decide +kernel
theorem dX11_copy_94 : decode cX11_copy 94 = .ok (.ifCond .ne 9, 3) := by decide +kernel
theorem dX11_copy_97 : decode cX11_copy 97 = .ok (.aload_n 0, 1) := by decide +kernel
theorem dX11_copy_98 : decode cX11_copy 98 = .ok (.iconst 2, 1) := by decide +kernel
theorem dX11_copy_99 : decode cX11_copy 99 = .ok (.invokevirtual 82, 3) := by decide +kernel
theorem dX11_copy_102 : decode cX11_copy 102 = .ok (.ireturn, 1) := by decide +kernel
theorem dX11_copy_103 : decode cX11_copy 103 = .ok (.aload 7, 2) := by decide +kernel
theorem dX11_copy_105 : decode cX11_copy 105 = .ok (.aload 6, 2) := by decide +kernel
theorem dX11_copy_107 : decode cX11_copy 107 = .ok (.iload_n 2, 1) := by decide +kernel
theorem dX11_copy_108 : decode cX11_copy 108 = .ok (.iload 4, 2) := by decide +kernel
theorem dX11_copy_110 : decode cX11_copy 110 = .ok (.iload 5, 2) := by decide +kernel
theorem dX11_copy_112 : decode cX11_copy 112 = .ok (.invokevirtual 244, 3) := by decide +kernel
theorem dX11_copy_115 : decode cX11_copy 115 = .ok (.iconst 1, 1) := by decide +kernel
theorem dX11_copy_116 : decode cX11_copy 116 = .ok (.ireturn, 1) := by decide +kernel
theorem dX11_write_0 : decode cX11_write 0 = .ok (.iload_n 1, 1) := by decide +kernel
theorem dX11_write_1 : decode cX11_write 1 = .ok (.invokestatic 76, 3) := by decide +kernel
theorem dX11_write_4 : decode cX11_write 4 = .ok (.ifCond .ne 6, 3) := by decide +kernel
theorem dX11_write_7 : decode cX11_write 7 = .ok (.bipush (-2), 2) := by decide +kernel
theorem dX11_write_9 : decode cX11_write 9 = .ok (.ireturn, 1) := by decide +kernel
theorem dX11_write_10 : decode cX11_write 10 = .ok (.aload_n 0, 1) := by decide +kernel
theorem dX11_write_11 : decode cX11_write 11 = .ok (.getfield 24, 3) := by decide +kernel
theorem dX11_write_14 : decode cX11_write 14 = .ok (.iload_n 1, 1) := by decide +kernel
theorem dX11_write_15 : decode cX11_write 15 = .ok (.aaload, 1) := by decide +kernel
theorem dX11_write_16 : decode cX11_write 16 = .ok (.astore_n 2, 1) := by decide +kernel
theorem dX11_write_17 : decode cX11_write 17 = .ok (.aload_n 2, 1) := by decide +kernel
theorem dX11_write_18 : decode cX11_write 18 = .ok (.invokevirtual 79, 3) := by decide +kernel
theorem dX11_write_21 : decode cX11_write 21 = .ok (.ifCond .eq 9, 3) := by decide +kernel
theorem dX11_write_24 : decode cX11_write 24 = .ok (.aload_n 0, 1) := by decide +kernel
theorem dX11_write_25 : decode cX11_write 25 = .ok (.iconst 1, 1) := by decide +kernel
theorem dX11_write_26 : decode cX11_write 26 = .ok (.invokevirtual 82, 3) := by decide +kernel
theorem dX11_write_29 : decode cX11_write 29 = .ok (.ireturn, 1) := by decide +kernel
theorem dX11_write_30 : decode cX11_write 30 = .ok (.aload_n 0, 1) := by decide +kernel
theorem dX11_write_31 : decode cX11_write 31 = .ok (.getfield 12, 3) := by decide +kernel
theorem dX11_write_34 : decode cX11_write 34 = .ok (.invokevirtual 129, 3) := by decide +kernel
theorem dX11_write_37 : decode cX11_write 37 = .ok (.getfield 152, 3) := by decide +kernel
theorem dX11_write_40 : decode cX11_write 40 = .ok (.astore_n 3, 1) := by decide +kernel
theorem dX11_write_41 : decode cX11_write 41 = .ok (.aload_n 2, 1) := by decide +kernel
theorem dX11_write_42 : decode cX11_write 42 = .ok (.invokevirtual 86, 3) := by decide +kernel
theorem dX11_write_45 : decode cX11_write 45 = .ok (.aload_n 0, 1) := by decide +kernel
theorem dX11_write_46 : decode cX11_write 46 = .ok (.getfield 12, 3) := by decide +kernel
theorem dX11_write_49 : decode cX11_write 49 = .ok (.getfield 96, 3) := by decide +kernel
theorem dX11_write_52 : decode cX11_write 52 = .ok (.invokevirtual 57, 3) := by decide +kernel
theorem dX11_write_55 : decode cX11_write 55 = .ok (.invokestatic 248, 3) := by decide +kernel
theorem dX11_write_58 : decode cX11_write 58 = .ok (.istore 4, 2) := by decide +kernel
theorem dX11_write_60 : decode cX11_write 60 = .ok (.iconst 0, 1) := by decide +kernel
theorem dX11_write_61 : decode cX11_write 61 = .ok (.istore 5, 2) := by decide +kernel
theorem dX11_write_63 : decode cX11_write 63 = .ok (.iload 5, 2) := by decide +kernel
theorem dX11_write_65 : decode cX11_write 65 = .ok (.iload 4, 2) := by decide +kernel
theorem dX11_write_67 : decode cX11_write 67 = .ok (.if_icmp .ge 22, 3) := by decide +kernel
theorem dX11_write_70 : decode cX11_write 70 = .ok (.aload_n 2, 1) := by decide +kernel
theorem dX11_write_71 : decode cX11_write 71 = .ok (.iload 5, 2) := by decide +kernel
theorem dX11_write_73 : decode cX11_write 73 = .ok (.aload_n 3, 1) := by decide +kernel
theorem dX11_write_74 : decode cX11_write 74 = .ok (.getfield 171, 3) := by decide +kernel
theorem dX11_write_77 : decode cX11_write 77 = .ok (.iload 5, 2) := by decide +kernel
theorem dX11_write_79 : decode cX11_write 79 = .ok (.iaload, 1) := by decide +kernel
theorem dX11_write_80 : decode cX11_write 80 = .ok (.invokevirtual 235, 3) := by decide +kernel
theorem dX11_write_83 : decode cX11_write 83 = .ok (.iinc 5 1, 3) := by decide +kernel
theorem dX11_write_86 : decode cX11_write 86 = .ok (.goto (-23), 3) := by decide +kernel
theorem dX11_write_89 : decode cX11_write 89 = .ok (.iload 4, 2) := by decide +kernel
theorem dX11_write_91 : decode cX11_write 91 = .ok (.ireturn, 1) := by decide +kernel
theorem dX11_count_0 : decode cX11_count 0 = .ok (.iload_n 1, 1) := by decide +kernel
theorem dX11_count_1 : decode cX11_count 1 = .ok (.tableswitch 186 0 8 #[51, 62, 73, 87, 101, 114, 124, 164, 181], 51) := by decide +kernel
theorem dX11_count_52 : decode cX11_count 52 = .ok (.aload_n 0, 1) := by decide +kernel
theorem dX11_count_53 : decode cX11_count 53 = .ok (.getfield 12, 3) := by decide +kernel
theorem dX11_count_56 : decode cX11_count 56 = .ok (.getfield 92, 3) := by decide +kernel
theorem dX11_count_59 : decode cX11_count 59 = .ok (.invokevirtual 57, 3) := by decide +kernel
theorem dX11_count_62 : decode cX11_count 62 = .ok (.ireturn, 1) := by decide +kernel
theorem dX11_count_63 : decode cX11_count 63 = .ok (.aload_n 0, 1) := by decide +kernel
theorem dX11_count_64 : decode cX11_count 64 = .ok (.getfield 12, 3) := by decide +kernel
theorem dX11_count_67 : decode cX11_count 67 = .ok (.getfield 96, 3) := by decide +kernel
theorem dX11_count_70 : decode cX11_count 70 = .ok (.invokevirtual 57, 3) := by decide +kernel
theorem dX11_count_73 : decode cX11_count 73 = .ok (.ireturn, 1) := by decide +kernel
theorem dX11_count_74 : decode cX11_count 74 = .ok (.aload_n 0, 1) := by decide +kernel
theorem dX11_count_75 : decode cX11_count 75 = .ok (.getfield 12, 3) := by decide +kernel
theorem dX11_count_78 : decode cX11_count 78 = .ok (.invokevirtual 129, 3) := by decide +kernel
theorem dX11_count_81 : decode cX11_count 81 = .ok (.getfield 152, 3) := by decide +kernel
theorem dX11_count_84 : decode cX11_count 84 = .ok (.getfield 253, 3) := by decide +kernel
theorem dX11_count_87 : decode cX11_count 87 = .ok (.ireturn, 1) := by decide +kernel
theorem dX11_count_88 : decode cX11_count 88 = .ok (.aload_n 0, 1) := by decide +kernel
theorem dX11_count_89 : decode cX11_count 89 = .ok (.getfield 12, 3) := by decide +kernel
theorem dX11_count_92 : decode cX11_count 92 = .ok (.invokevirtual 129, 3) := by decide +kernel
theorem dX11_count_95 : decode cX11_count 95 = .ok (.getfield 152, 3) := by decide +kernel
theorem dX11_count_98 : decode cX11_count 98 = .ok (.getfield 256, 3) := by decide +kernel
theorem dX11_count_101 : decode cX11_count 101 = .ok (.ireturn, 1) := by decide +kernel
theorem dX11_count_102 : decode cX11_count 102 = .ok (.iconst 3, 1) := by decide +kernel
theorem dX11_count_103 : decode cX11_count 103 = .ok (.aload_n 0, 1) := by decide +kernel
theorem dX11_count_104 : decode cX11_count 104 = .ok (.getfield 12, 3) := by decide +kernel
theorem dX11_count_107 : decode cX11_count 107 = .ok (.invokevirtual 129, 3) := by decide +kernel
theorem dX11_count_110 : decode cX11_count 110 = .ok (.getfield 137, 3) := by decide +kernel
theorem dX11_count_113 : decode cX11_count 113 = .ok (.imul, 1) := by decide +kernel
theorem dX11_count_114 : decode cX11_count 114 = .ok (.ireturn, 1) := by decide +kernel
theorem dX11_count_115 : decode cX11_count 115 = .ok (.aload_n 0, 1) := by decide +kernel
theorem dX11_count_116 : decode cX11_count 116 = .ok (.getfield 12, 3) := by decide +kernel
theorem dX11_count_119 : decode cX11_count 119 = .ok (.getfield 116, 3) := by decide +kernel
theorem dX11_count_122 : decode cX11_count 122 = .ok (.iconst 1, 1) := by decide +kernel
theorem dX11_count_123 : decode cX11_count 123 = .ok (.iaload, 1) := by decide +kernel
theorem dX11_count_124 : decode cX11_count 124 = .ok (.ireturn, 1) := by decide +kernel
theorem dX11_count_125 : decode cX11_count 125 = .ok (.aload_n 0, 1) := by decide +kernel
theorem dX11_count_126 : decode cX11_count 126 = .ok (.getfield 18, 3) := by decide +kernel
theorem dX11_count_129 : decode cX11_count 129 = .ok (.iconst 0, 1) := by decide +kernel
theorem dX11_count_130 : decode cX11_count 130 = .ok (.aaload, 1) := by decide +kernel
theorem dX11_count_131 : decode cX11_count 131 = .ok (.getfield 201, 3) := by decide +kernel
theorem dX11_count_134 : decode cX11_count 134 = .ok (.aload_n 0, 1) := by decide +kernel
theorem dX11_count_135 : decode cX11_count 135 = .ok (.getfield 18, 3) := by decide +kernel
theorem dX11_count_138 : decode cX11_count 138 = .ok (.iconst 1, 1) := by decide +kernel
theorem dX11_count_139 : decode cX11_count 139 = .ok (.aaload, 1) := by decide +kernel
theorem dX11_count_140 : decode cX11_count 140 = .ok (.getfield 201, 3) := by decide +kernel
theorem dX11_count_143 : decode cX11_count 143 = .ok (.iadd, 1) := by decide +kernel
theorem dX11_count_144 : decode cX11_count 144 = .ok (.aload_n 0, 1) := by decide +kernel
theorem dX11_count_145 : decode cX11_count 145 = .ok (.getfield 18, 3) := by decide +kernel
theorem dX11_count_148 : decode cX11_count 148 = .ok (.iconst 2, 1) := by decide +kernel
theorem dX11_count_149 : decode cX11_count 149 = .ok (.aaload, 1) := by decide +kernel
theorem dX11_count_150 : decode cX11_count 150 = .ok (.getfield 201, 3) := by decide +kernel
theorem dX11_count_153 : decode cX11_count 153 = .ok (.iadd, 1) := by decide +kernel
theorem dX11_count_154 : decode cX11_count 154 = .ok (.aload_n 0, 1) := by decide +kernel
theorem dX11_count_155 : decode cX11_count 155 = .ok (.getfield 18, 3) := by decide +kernel
theorem dX11_count_158 : decode cX11_count 158 = .ok (.iconst 3, 1) := by decide +kernel
theorem dX11_count_159 : decode cX11_count 159 = .ok (.aaload, 1) := by decide +kernel
theorem dX11_count_160 : decode cX11_count 160 = .ok (.getfield 201, 3) := by decide +kernel
theorem dX11_count_163 : decode cX11_count 163 = .ok (.iadd, 1) := by decide +kernel
theorem dX11_count_164 : decode cX11_count 164 = .ok (.ireturn, 1) := by decide +kernel
theorem dX11_count_165 : decode cX11_count 165 = .ok (.aload_n 0, 1) := by decide +kernel
theorem dX11_count_166 : decode cX11_count 166 = .ok (.getfield 12, 3) := by decide +kernel
theorem dX11_count_169 : decode cX11_count 169 = .ok (.invokevirtual 129, 3) := by decide +kernel
theorem dX11_count_172 : decode cX11_count 172 = .ok (.getfield 152, 3) := by decide +kernel
theorem dX11_count_175 : decode cX11_count 175 = .ok (.invokevirtual 177, 3) := by decide +kernel
theorem dX11_count_178 : decode cX11_count 178 = .ok (.invokestatic 259, 3) := by decide +kernel
theorem dX11_count_181 : decode cX11_count 181 = .ok (.ireturn, 1) := by decide +kernel
theorem dX11_count_182 : decode cX11_count 182 = .ok (.aload_n 0, 1) := by decide +kernel
theorem dX11_count_183 : decode cX11_count 183 = .ok (.getfield 264, 3) := by decide +kernel
theorem dX11_count_186 : decode cX11_count 186 = .ok (.ireturn, 1) := by decide +kernel
theorem dX11_count_187 : decode cX11_count 187 = .ok (.bipush (-2), 2) := by decide +kernel
theorem dX11_count_189 : decode cX11_count 189 = .ok (.ireturn, 1) := by decide +kernel
theorem dX11_digest_0 : decode cX11_digest 0 = .ok (.ldc2_w 267, 3) := by decide +kernel
theorem dX11_digest_3 : decode cX11_digest 3 = .ok (.lstore_n 1, 1) := by decide +kernel
theorem dX11_digest_4 : decode cX11_digest 4 = .ok (.iconst 0, 1) := by decide +kernel
theorem dX11_digest_5 : decode cX11_digest 5 = .ok (.istore_n 3, 1) := by decide +kernel
theorem dX11_digest_6 : decode cX11_digest 6 = .ok (.iload_n 3, 1) := by decide +kernel
theorem dX11_digest_7 : decode cX11_digest 7 = .ok (.bipush 7, 2) := by decide +kernel
theorem dX11_digest_9 : decode cX11_digest 9 = .ok (.if_icmp .gt 22, 3) := by decide +kernel
theorem dX11_digest_12 : decode cX11_digest 12 = .ok (.ldc2_w 269, 3) := by decide +kernel
theorem dX11_digest_15 : decode cX11_digest 15 = .ok (.lload_n 1, 1) := by decide +kernel
theorem dX11_digest_16 : decode cX11_digest 16 = .ok (.lmul, 1) := by decide +kernel
theorem dX11_digest_17 : decode cX11_digest 17 = .ok (.aload_n 0, 1) := by decide +kernel
theorem dX11_digest_18 : decode cX11_digest 18 = .ok (.iload_n 3, 1) := by decide +kernel
theorem dX11_digest_19 : decode cX11_digest 19 = .ok (.invokevirtual 271, 3) := by decide +kernel
theorem dX11_digest_22 : decode cX11_digest 22 = .ok (.i2l, 1) := by decide +kernel
theorem dX11_digest_23 : decode cX11_digest 23 = .ok (.ladd, 1) := by decide +kernel
theorem dX11_digest_24 : decode cX11_digest 24 = .ok (.lstore_n 1, 1) := by decide +kernel
theorem dX11_digest_25 : decode cX11_digest 25 = .ok (.iinc 3 1, 3) := by decide +kernel
theorem dX11_digest_28 : decode cX11_digest 28 = .ok (.goto (-22), 3) := by decide +kernel
theorem dX11_digest_31 : decode cX11_digest 31 = .ok (.iconst 0, 1) := by decide +kernel
theorem dX11_digest_32 : decode cX11_digest 32 = .ok (.istore_n 3, 1) := by decide +kernel
theorem dX11_digest_33 : decode cX11_digest 33 = .ok (.iload_n 3, 1) := by decide +kernel
theorem dX11_digest_34 : decode cX11_digest 34 = .ok (.iconst 3, 1) := by decide +kernel
theorem dX11_digest_35 : decode cX11_digest 35 = .ok (.if_icmp .gt 22, 3) := by decide +kernel
theorem dX11_digest_38 : decode cX11_digest 38 = .ok (.ldc2_w 269, 3) := by decide +kernel
theorem dX11_digest_41 : decode cX11_digest 41 = .ok (.lload_n 1, 1) := by decide +kernel
theorem dX11_digest_42 : decode cX11_digest 42 = .ok (.lmul, 1) := by decide +kernel
theorem dX11_digest_43 : decode cX11_digest 43 = .ok (.aload_n 0, 1) := by decide +kernel
theorem dX11_digest_44 : decode cX11_digest 44 = .ok (.iload_n 3, 1) := by decide +kernel
theorem dX11_digest_45 : decode cX11_digest 45 = .ok (.invokevirtual 274, 3) := by decide +kernel
theorem dX11_digest_48 : decode cX11_digest 48 = .ok (.i2l, 1) := by decide +kernel
theorem dX11_digest_49 : decode cX11_digest 49 = .ok (.ladd, 1) := by decide +kernel
theorem dX11_digest_50 : decode cX11_digest 50 = .ok (.lstore_n 1, 1) := by decide +kernel
theorem dX11_digest_51 : decode cX11_digest 51 = .ok (.iinc 3 1, 3) := by decide +kernel
theorem dX11_digest_54 : decode cX11_digest 54 = .ok (.goto (-21), 3) := by decide +kernel
theorem dX11_digest_57 : decode cX11_digest 57 = .ok (.iconst 0, 1) := by decide +kernel
theorem dX11_digest_58 : decode cX11_digest 58 = .ok (.istore_n 3, 1) := by decide +kernel
theorem dX11_digest_59 : decode cX11_digest 59 = .ok (.iload_n 3, 1) := by decide +kernel
theorem dX11_digest_60 : decode cX11_digest 60 = .ok (.aload_n 0, 1) := by decide +kernel
theorem dX11_digest_61 : decode cX11_digest 61 = .ok (.getfield 12, 3) := by decide +kernel
theorem dX11_digest_64 : decode cX11_digest 64 = .ok (.getfield 96, 3) := by decide +kernel
theorem dX11_digest_67 : decode cX11_digest 67 = .ok (.invokevirtual 57, 3) := by decide +kernel
theorem dX11_digest_70 : decode cX11_digest 70 = .ok (.if_icmp .ge 104, 3) := by decide +kernel
theorem dX11_digest_73 : decode cX11_digest 73 = .ok (.ldc2_w 269, 3) := by decide +kernel
theorem dX11_digest_76 : decode cX11_digest 76 = .ok (.lload_n 1, 1) := by decide +kernel
theorem dX11_digest_77 : decode cX11_digest 77 = .ok (.lmul, 1) := by decide +kernel
theorem dX11_digest_78 : decode cX11_digest 78 = .ok (.aload_n 0, 1) := by decide +kernel
theorem dX11_digest_79 : decode cX11_digest 79 = .ok (.iload_n 3, 1) := by decide +kernel
theorem dX11_digest_80 : decode cX11_digest 80 = .ok (.iconst 0, 1) := by decide +kernel
theorem dX11_digest_81 : decode cX11_digest 81 = .ok (.invokevirtual 277, 3) := by decide +kernel
theorem dX11_digest_84 : decode cX11_digest 84 = .ok (.i2l, 1) := by decide +kernel
theorem dX11_digest_85 : decode cX11_digest 85 = .ok (.ladd, 1) := by decide +kernel
theorem dX11_digest_86 : decode cX11_digest 86 = .ok (.lstore_n 1, 1) := by decide +kernel
theorem dX11_digest_87 : decode cX11_digest 87 = .ok (.ldc2_w 269, 3) := by decide +kernel
theorem dX11_digest_90 : decode cX11_digest 90 = .ok (.lload_n 1, 1) := by decide +kernel
theorem dX11_digest_91 : decode cX11_digest 91 = .ok (.lmul, 1) := by decide +kernel
theorem dX11_digest_92 : decode cX11_digest 92 = .ok (.aload_n 0, 1) := by decide +kernel
theorem dX11_digest_93 : decode cX11_digest 93 = .ok (.iload_n 3, 1) := by decide +kernel
theorem dX11_digest_94 : decode cX11_digest 94 = .ok (.iconst 1, 1) := by decide +kernel
theorem dX11_digest_95 : decode cX11_digest 95 = .ok (.invokevirtual 277, 3) := by decide +kernel
theorem dX11_digest_98 : decode cX11_digest 98 = .ok (.i2l, 1) := by decide +kernel
theorem dX11_digest_99 : decode cX11_digest 99 = .ok (.ladd, 1) := by decide +kernel
theorem dX11_digest_100 : decode cX11_digest 100 = .ok (.lstore_n 1, 1) := by decide +kernel
theorem dX11_digest_101 : decode cX11_digest 101 = .ok (.ldc2_w 269, 3) := by decide +kernel
theorem dX11_digest_104 : decode cX11_digest 104 = .ok (.lload_n 1, 1) := by decide +kernel
theorem dX11_digest_105 : decode cX11_digest 105 = .ok (.lmul, 1) := by decide +kernel
theorem dX11_digest_106 : decode cX11_digest 106 = .ok (.aload_n 0, 1) := by decide +kernel
theorem dX11_digest_107 : decode cX11_digest 107 = .ok (.iload_n 3, 1) := by decide +kernel
theorem dX11_digest_108 : decode cX11_digest 108 = .ok (.iconst 0, 1) := by decide +kernel
theorem dX11_digest_109 : decode cX11_digest 109 = .ok (.invokevirtual 280, 3) := by decide +kernel
theorem dX11_digest_112 : decode cX11_digest 112 = .ok (.i2l, 1) := by decide +kernel
theorem dX11_digest_113 : decode cX11_digest 113 = .ok (.ladd, 1) := by decide +kernel
theorem dX11_digest_114 : decode cX11_digest 114 = .ok (.lstore_n 1, 1) := by decide +kernel
theorem dX11_digest_115 : decode cX11_digest 115 = .ok (.ldc2_w 269, 3) := by decide +kernel
theorem dX11_digest_118 : decode cX11_digest 118 = .ok (.lload_n 1, 1) := by decide +kernel
theorem dX11_digest_119 : decode cX11_digest 119 = .ok (.lmul, 1) := by decide +kernel
theorem dX11_digest_120 : decode cX11_digest 120 = .ok (.aload_n 0, 1) := by decide +kernel
theorem dX11_digest_121 : decode cX11_digest 121 = .ok (.iload_n 3, 1) := by decide +kernel
theorem dX11_digest_122 : decode cX11_digest 122 = .ok (.iconst 1, 1) := by decide +kernel
theorem dX11_digest_123 : decode cX11_digest 123 = .ok (.invokevirtual 280, 3) := by decide +kernel
theorem dX11_digest_126 : decode cX11_digest 126 = .ok (.i2l, 1) := by decide +kernel
theorem dX11_digest_127 : decode cX11_digest 127 = .ok (.ladd, 1) := by decide +kernel
theorem dX11_digest_128 : decode cX11_digest 128 = .ok (.lstore_n 1, 1) := by decide +kernel
theorem dX11_digest_129 : decode cX11_digest 129 = .ok (.iconst 0, 1) := by decide +kernel
theorem dX11_digest_130 : decode cX11_digest 130 = .ok (.istore 4, 2) := by decide +kernel
theorem dX11_digest_132 : decode cX11_digest 132 = .ok (.iload 4, 2) := by decide +kernel
theorem dX11_digest_134 : decode cX11_digest 134 = .ok (.aload_n 0, 1) := by decide +kernel
theorem dX11_digest_135 : decode cX11_digest 135 = .ok (.getfield 12, 3) := by decide +kernel
theorem dX11_digest_138 : decode cX11_digest 138 = .ok (.getfield 92, 3) := by decide +kernel
theorem dX11_digest_141 : decode cX11_digest 141 = .ok (.invokevirtual 57, 3) := by decide +kernel
theorem dX11_digest_144 : decode cX11_digest 144 = .ok (.if_icmp .ge 24, 3) := by decide +kernel
theorem dX11_digest_147 : decode cX11_digest 147 = .ok (.ldc2_w 269, 3) := by decide +kernel
theorem dX11_digest_150 : decode cX11_digest 150 = .ok (.lload_n 1, 1) := by decide +kernel
theorem dX11_digest_151 : decode cX11_digest 151 = .ok (.lmul, 1) := by decide +kernel
theorem dX11_digest_152 : decode cX11_digest 152 = .ok (.aload_n 0, 1) := by decide +kernel
theorem dX11_digest_153 : decode cX11_digest 153 = .ok (.iload_n 3, 1) := by decide +kernel
theorem dX11_digest_154 : decode cX11_digest 154 = .ok (.iload 4, 2) := by decide +kernel
theorem dX11_digest_156 : decode cX11_digest 156 = .ok (.invokevirtual 283, 3) := by decide +kernel
theorem dX11_digest_159 : decode cX11_digest 159 = .ok (.i2l, 1) := by decide +kernel
theorem dX11_digest_160 : decode cX11_digest 160 = .ok (.ladd, 1) := by decide +kernel
theorem dX11_digest_161 : decode cX11_digest 161 = .ok (.lstore_n 1, 1) := by decide +kernel
theorem dX11_digest_162 : decode cX11_digest 162 = .ok (.iinc 4 1, 3) := by decide +kernel
theorem dX11_digest_165 : decode cX11_digest 165 = .ok (.goto (-33), 3) := by decide +kernel
theorem dX11_digest_168 : decode cX11_digest 168 = .ok (.iinc 3 1, 3) := by decide +kernel
theorem dX11_digest_171 : decode cX11_digest 171 = .ok (.goto (-112), 3) := by decide +kernel
theorem dX11_digest_174 : decode cX11_digest 174 = .ok (.iconst 0, 1) := by decide +kernel
theorem dX11_digest_175 : decode cX11_digest 175 = .ok (.istore_n 3, 1) := by decide +kernel
theorem dX11_digest_176 : decode cX11_digest 176 = .ok (.iload_n 3, 1) := by decide +kernel
theorem dX11_digest_177 : decode cX11_digest 177 = .ok (.aload_n 0, 1) := by decide +kernel
theorem dX11_digest_178 : decode cX11_digest 178 = .ok (.getfield 12, 3) := by decide +kernel
theorem dX11_digest_181 : decode cX11_digest 181 = .ok (.getfield 92, 3) := by decide +kernel
theorem dX11_digest_184 : decode cX11_digest 184 = .ok (.invokevirtual 57, 3) := by decide +kernel
theorem dX11_digest_187 : decode cX11_digest 187 = .ok (.if_icmp .ge 72, 3) := by decide +kernel
theorem dX11_digest_190 : decode cX11_digest 190 = .ok (.iconst 0, 1) := by decide +kernel
theorem dX11_digest_191 : decode cX11_digest 191 = .ok (.istore 4, 2) := by decide +kernel
theorem dX11_digest_193 : decode cX11_digest 193 = .ok (.iload 4, 2) := by decide +kernel
theorem dX11_digest_195 : decode cX11_digest 195 = .ok (.iconst 2, 1) := by decide +kernel
theorem dX11_digest_196 : decode cX11_digest 196 = .ok (.if_icmp .gt 24, 3) := by decide +kernel
theorem dX11_digest_199 : decode cX11_digest 199 = .ok (.ldc2_w 269, 3) := by decide +kernel
theorem dX11_digest_202 : decode cX11_digest 202 = .ok (.lload_n 1, 1) := by decide +kernel
theorem dX11_digest_203 : decode cX11_digest 203 = .ok (.lmul, 1) := by decide +kernel
theorem dX11_digest_204 : decode cX11_digest 204 = .ok (.aload_n 0, 1) := by decide +kernel
theorem dX11_digest_205 : decode cX11_digest 205 = .ok (.iload_n 3, 1) := by decide +kernel
theorem dX11_digest_206 : decode cX11_digest 206 = .ok (.iload 4, 2) := by decide +kernel
theorem dX11_digest_208 : decode cX11_digest 208 = .ok (.invokevirtual 286, 3) := by decide +kernel
theorem dX11_digest_211 : decode cX11_digest 211 = .ok (.i2l, 1) := by decide +kernel
theorem dX11_digest_212 : decode cX11_digest 212 = .ok (.ladd, 1) := by decide +kernel
theorem dX11_digest_213 : decode cX11_digest 213 = .ok (.lstore_n 1, 1) := by decide +kernel
theorem dX11_digest_214 : decode cX11_digest 214 = .ok (.iinc 4 1, 3) := by decide +kernel
theorem dX11_digest_217 : decode cX11_digest 217 = .ok (.goto (-24), 3) := by decide +kernel
theorem dX11_digest_220 : decode cX11_digest 220 = .ok (.iconst 0, 1) := by decide +kernel
theorem dX11_digest_221 : decode cX11_digest 221 = .ok (.istore 4, 2) := by decide +kernel
theorem dX11_digest_223 : decode cX11_digest 223 = .ok (.iload 4, 2) := by decide +kernel
theorem dX11_digest_225 : decode cX11_digest 225 = .ok (.iconst 2, 1) := by decide +kernel
theorem dX11_digest_226 : decode cX11_digest 226 = .ok (.if_icmp .gt 27, 3) := by decide +kernel
theorem dX11_digest_229 : decode cX11_digest 229 = .ok (.ldc2_w 269, 3) := by decide +kernel
theorem dX11_digest_232 : decode cX11_digest 232 = .ok (.lload_n 1, 1) := by decide +kernel
theorem dX11_digest_233 : decode cX11_digest 233 = .ok (.lmul, 1) := by decide +kernel
theorem dX11_digest_234 : decode cX11_digest 234 = .ok (.aload_n 0, 1) := by decide +kernel
theorem dX11_digest_235 : decode cX11_digest 235 = .ok (.iconst 0, 1) := by decide +kernel
theorem dX11_digest_236 : decode cX11_digest 236 = .ok (.iconst 0, 1) := by decide +kernel
theorem dX11_digest_237 : decode cX11_digest 237 = .ok (.iconst 1, 1) := by decide +kernel
theorem dX11_digest_238 : decode cX11_digest 238 = .ok (.iload_n 3, 1) := by decide +kernel
theorem dX11_digest_239 : decode cX11_digest 239 = .ok (.iload 4, 2) := by decide +kernel
theorem dX11_digest_241 : decode cX11_digest 241 = .ok (.invokevirtual 289, 3) := by decide +kernel
theorem dX11_digest_244 : decode cX11_digest 244 = .ok (.i2l, 1) := by decide +kernel
theorem dX11_digest_245 : decode cX11_digest 245 = .ok (.ladd, 1) := by decide +kernel
theorem dX11_digest_246 : decode cX11_digest 246 = .ok (.lstore_n 1, 1) := by decide +kernel
theorem dX11_digest_247 : decode cX11_digest 247 = .ok (.iinc 4 1, 3) := by decide +kernel
theorem dX11_digest_250 : decode cX11_digest 250 = .ok (.goto (-27), 3) := by decide +kernel
theorem dX11_digest_253 : decode cX11_digest 253 = .ok (.iinc 3 1, 3) := by decide +kernel
theorem dX11_digest_256 : decode cX11_digest 256 = .ok (.goto (-80), 3) := by decide +kernel
theorem dX11_digest_259 : decode cX11_digest 259 = .ok (.ldc2_w 269, 3) := by decide +kernel
theorem dX11_digest_262 : decode cX11_digest 262 = .ok (.lload_n 1, 1) := by decide +kernel
theorem dX11_digest_263 : decode cX11_digest 263 = .ok (.lmul, 1) := by decide +kernel
theorem dX11_digest_264 : decode cX11_digest 264 = .ok (.aload_n 0, 1) := by decide +kernel
theorem dX11_digest_265 : decode cX11_digest 265 = .ok (.invokevirtual 292, 3) := by decide +kernel
theorem dX11_digest_268 : decode cX11_digest 268 = .ok (.i2l, 1) := by decide +kernel
theorem dX11_digest_269 : decode cX11_digest 269 = .ok (.ladd, 1) := by decide +kernel
theorem dX11_digest_270 : decode cX11_digest 270 = .ok (.lstore_n 1, 1) := by decide +kernel
theorem dX11_digest_271 : decode cX11_digest 271 = .ok (.ldc2_w 269, 3) := by decide +kernel
theorem dX11_digest_274 : decode cX11_digest 274 = .ok (.lload_n 1, 1) := by decide +kernel
theorem dX11_digest_275 : decode cX11_digest 275 = .ok (.lmul, 1) := by decide +kernel
theorem dX11_digest_276 : decode cX11_digest 276 = .ok (.aload_n 0, 1) := by decide +kernel
theorem dX11_digest_277 : decode cX11_digest 277 = .ok (.invokevirtual 295, 3) := by decide +kernel
theorem dX11_digest_280 : decode cX11_digest 280 = .ok (.i2l, 1) := by decide +kernel
theorem dX11_digest_281 : decode cX11_digest 281 = .ok (.ladd, 1) := by decide +kernel
theorem dX11_digest_282 : decode cX11_digest 282 = .ok (.lstore_n 1, 1) := by decide +kernel
theorem dX11_digest_283 : decode cX11_digest 283 = .ok (.ldc2_w 269, 3) := by decide +kernel
theorem dX11_digest_286 : decode cX11_digest 286 = .ok (.lload_n 1, 1) := by decide +kernel
theorem dX11_digest_287 : decode cX11_digest 287 = .ok (.lmul, 1) := by decide +kernel
theorem dX11_digest_288 : decode cX11_digest 288 = .ok (.aload_n 0, 1) := by decide +kernel
theorem dX11_digest_289 : decode cX11_digest 289 = .ok (.iconst 0, 1) := by decide +kernel
theorem dX11_digest_290 : decode cX11_digest 290 = .ok (.invokevirtual 298, 3) := by decide +kernel
theorem dX11_digest_293 : decode cX11_digest 293 = .ok (.i2l, 1) := by decide +kernel
theorem dX11_digest_294 : decode cX11_digest 294 = .ok (.ladd, 1) := by decide +kernel
theorem dX11_digest_295 : decode cX11_digest 295 = .ok (.lstore_n 1, 1) := by decide +kernel
theorem dX11_digest_296 : decode cX11_digest 296 = .ok (.ldc2_w 269, 3) := by decide +kernel
theorem dX11_digest_299 : decode cX11_digest 299 = .ok (.lload_n 1, 1) := by decide +kernel
theorem dX11_digest_300 : decode cX11_digest 300 = .ok (.lmul, 1) := by decide +kernel
theorem dX11_digest_301 : decode cX11_digest 301 = .ok (.aload_n 0, 1) := by decide +kernel
theorem dX11_digest_302 : decode cX11_digest 302 = .ok (.iconst 1, 1) := by decide +kernel
theorem dX11_digest_303 : decode cX11_digest 303 = .ok (.invokevirtual 298, 3) := by decide +kernel
theorem dX11_digest_306 : decode cX11_digest 306 = .ok (.i2l, 1) := by decide +kernel
theorem dX11_digest_307 : decode cX11_digest 307 = .ok (.ladd, 1) := by decide +kernel
theorem dX11_digest_308 : decode cX11_digest 308 = .ok (.lstore_n 1, 1) := by decide +kernel
theorem dX11_digest_309 : decode cX11_digest 309 = .ok (.ldc2_w 269, 3) := by decide +kernel
theorem dX11_digest_312 : decode cX11_digest 312 = .ok (.lload_n 1, 1) := by decide +kernel
theorem dX11_digest_313 : decode cX11_digest 313 = .ok (.lmul, 1) := by decide +kernel
theorem dX11_digest_314 : decode cX11_digest 314 = .ok (.aload_n 0, 1) := by decide +kernel
theorem dX11_digest_315 : decode cX11_digest 315 = .ok (.iconst 0, 1) := by decide +kernel
theorem dX11_digest_316 : decode cX11_digest 316 = .ok (.invokevirtual 301, 3) := by decide +kernel
theorem dX11_digest_319 : decode cX11_digest 319 = .ok (.i2l, 1) := by decide +kernel
theorem dX11_digest_320 : decode cX11_digest 320 = .ok (.ladd, 1) := by decide +kernel
theorem dX11_digest_321 : decode cX11_digest 321 = .ok (.lstore_n 1, 1) := by decide +kernel
theorem dX11_digest_322 : decode cX11_digest 322 = .ok (.ldc2_w 269, 3) := by decide +kernel
theorem dX11_digest_325 : decode cX11_digest 325 = .ok (.lload_n 1, 1) := by decide +kernel
theorem dX11_digest_326 : decode cX11_digest 326 = .ok (.lmul, 1) := by decide +kernel
theorem dX11_digest_327 : decode cX11_digest 327 = .ok (.aload_n 0, 1) := by decide +kernel
theorem dX11_digest_328 : decode cX11_digest 328 = .ok (.iconst 1, 1) := by decide +kernel
theorem dX11_digest_329 : decode cX11_digest 329 = .ok (.invokevirtual 301, 3) := by decide +kernel
theorem dX11_digest_332 : decode cX11_digest 332 = .ok (.i2l, 1) := by decide +kernel
theorem dX11_digest_333 : decode cX11_digest 333 = .ok (.ladd, 1) := by decide +kernel
theorem dX11_digest_334 : decode cX11_digest 334 = .ok (.lstore_n 1, 1) := by decide +kernel
theorem dX11_digest_335 : decode cX11_digest 335 = .ok (.iconst 0, 1) := by decide +kernel
theorem dX11_digest_336 : decode cX11_digest 336 = .ok (.istore_n 3, 1) := by decide +kernel
theorem dX11_digest_337 : decode cX11_digest 337 = .ok (.iload_n 3, 1) := by decide +kernel
theorem dX11_digest_338 : decode cX11_digest 338 = .ok (.iconst 4, 1) := by decide +kernel
theorem dX11_digest_339 : decode cX11_digest 339 = .ok (.if_icmp .ge 72, 3) := by decide +kernel
theorem dX11_digest_342 : decode cX11_digest 342 = .ok (.iconst 0, 1) := by decide +kernel
theorem dX11_digest_343 : decode cX11_digest 343 = .ok (.istore 4, 2) := by decide +kernel
theorem dX11_digest_345 : decode cX11_digest 345 = .ok (.iload 4, 2) := by decide +kernel
theorem dX11_digest_347 : decode cX11_digest 347 = .ok (.iconst 3, 1) := by decide +kernel
theorem dX11_digest_348 : decode cX11_digest 348 = .ok (.if_icmp .gt 57, 3) := by decide +kernel
theorem dX11_digest_351 : decode cX11_digest 351 = .ok (.iconst 0, 1) := by decide +kernel
theorem dX11_digest_352 : decode cX11_digest 352 = .ok (.istore 5, 2) := by decide +kernel
theorem dX11_digest_354 : decode cX11_digest 354 = .ok (.iload 5, 2) := by decide +kernel
theorem dX11_digest_356 : decode cX11_digest 356 = .ok (.iconst 3, 1) := by decide +kernel
theorem dX11_digest_357 : decode cX11_digest 357 = .ok (.if_icmp .gt 26, 3) := by decide +kernel
theorem dX11_digest_360 : decode cX11_digest 360 = .ok (.ldc2_w 269, 3) := by decide +kernel
theorem dX11_digest_363 : decode cX11_digest 363 = .ok (.lload_n 1, 1) := by decide +kernel
theorem dX11_digest_364 : decode cX11_digest 364 = .ok (.lmul, 1) := by decide +kernel
theorem dX11_digest_365 : decode cX11_digest 365 = .ok (.aload_n 0, 1) := by decide +kernel
theorem dX11_digest_366 : decode cX11_digest 366 = .ok (.iload_n 3, 1) := by decide +kernel
theorem dX11_digest_367 : decode cX11_digest 367 = .ok (.iload 4, 2) := by decide +kernel
theorem dX11_digest_369 : decode cX11_digest 369 = .ok (.iload 5, 2) := by decide +kernel
theorem dX11_digest_371 : decode cX11_digest 371 = .ok (.invokevirtual 304, 3) := by decide +kernel
theorem dX11_digest_374 : decode cX11_digest 374 = .ok (.i2l, 1) := by decide +kernel
theorem dX11_digest_375 : decode cX11_digest 375 = .ok (.ladd, 1) := by decide +kernel
theorem dX11_digest_376 : decode cX11_digest 376 = .ok (.lstore_n 1, 1) := by decide +kernel
theorem dX11_digest_377 : decode cX11_digest 377 = .ok (.iinc 5 1, 3) := by decide +kernel
theorem dX11_digest_380 : decode cX11_digest 380 = .ok (.goto (-26), 3) := by decide +kernel
theorem dX11_digest_383 : decode cX11_digest 383 = .ok (.ldc2_w 269, 3) := by decide +kernel
theorem dX11_digest_386 : decode cX11_digest 386 = .ok (.lload_n 1, 1) := by decide +kernel
theorem dX11_digest_387 : decode cX11_digest 387 = .ok (.lmul, 1) := by decide +kernel
theorem dX11_digest_388 : decode cX11_digest 388 = .ok (.aload_n 0, 1) := by decide +kernel
theorem dX11_digest_389 : decode cX11_digest 389 = .ok (.iload_n 3, 1) := by decide +kernel
theorem dX11_digest_390 : decode cX11_digest 390 = .ok (.iconst 0, 1) := by decide +kernel
theorem dX11_digest_391 : decode cX11_digest 391 = .ok (.iload 4, 2) := by decide +kernel
theorem dX11_digest_393 : decode cX11_digest 393 = .ok (.invokevirtual 307, 3) := by decide +kernel
theorem dX11_digest_396 : decode cX11_digest 396 = .ok (.i2l, 1) := by decide +kernel
theorem dX11_digest_397 : decode cX11_digest 397 = .ok (.ladd, 1) := by decide +kernel
theorem dX11_digest_398 : decode cX11_digest 398 = .ok (.lstore_n 1, 1) := by decide +kernel
theorem dX11_digest_399 : decode cX11_digest 399 = .ok (.iinc 4 1, 3) := by decide +kernel
theorem dX11_digest_402 : decode cX11_digest 402 = .ok (.goto (-57), 3) := by decide +kernel
theorem dX11_digest_405 : decode cX11_digest 405 = .ok (.iinc 3 1, 3) := by decide +kernel
theorem dX11_digest_408 : decode cX11_digest 408 = .ok (.goto (-71), 3) := by decide +kernel
theorem dX11_digest_411 : decode cX11_digest 411 = .ok (.lload_n 1, 1) := by decide +kernel
theorem dX11_digest_412 : decode cX11_digest 412 = .ok (.lreturn, 1) := by decide +kernel
theorem dX11_find_0 : decode cX11_find 0 = .ok (.aload_n 0, 1) := by decide +kernel
theorem dX11_find_1 : decode cX11_find 1 = .ok (.iload_n 1, 1) := by decide +kernel
theorem dX11_find_2 : decode cX11_find 2 = .ok (.putfield 264, 3) := by decide +kernel
theorem dX11_find_5 : decode cX11_find 5 = .ok (.bipush (-10), 2) := by decide +kernel
theorem dX11_find_7 : decode cX11_find 7 = .ok (.iload_n 1, 1) := by decide +kernel
theorem dX11_find_8 : decode cX11_find 8 = .ok (.isub, 1) := by decide +kernel
theorem dX11_find_9 : decode cX11_find 9 = .ok (.ireturn, 1) := by decide +kernel
theorem dX11_isOne_0 : decode cX11_isOne 0 = .ok (.iload_n 1, 1) := by decide +kernel
theorem dX11_isOne_1 : decode cX11_isOne 1 = .ok (.invokestatic 32, 3) := by decide +kernel
theorem dX11_isOne_4 : decode cX11_isOne 4 = .ok (.ifCond .eq 22, 3) := by decide +kernel
theorem dX11_isOne_7 : decode cX11_isOne 7 = .ok (.aload_n 0, 1) := by decide +kernel
theorem dX11_isOne_8 : decode cX11_isOne 8 = .ok (.getfield 12, 3) := by decide +kernel
theorem dX11_isOne_11 : decode cX11_isOne 11 = .ok (.iload_n 1, 1) := by decide +kernel
theorem dX11_isOne_12 : decode cX11_isOne 12 = .ok (.invokevirtual 40, 3) := by decide +kernel
theorem dX11_isOne_15 : decode cX11_isOne 15 = .ok (.iload_n 2, 1) := by decide +kernel
theorem dX11_isOne_16 : decode cX11_isOne 16 = .ok (.invokevirtual 310, 3) := by decide +kernel
theorem dX11_isOne_19 : decode cX11_isOne 19 = .ok (.ifCond .eq 7, 3) := by decide +kernel
theorem dX11_isOne_22 : decode cX11_isOne 22 = .ok (.iconst 1, 1) := by decide +kernel
theorem dX11_isOne_23 : decode cX11_isOne 23 = .ok (.goto 4, 3) := by decide +kernel
theorem dX11_isOne_26 : decode cX11_isOne 26 = .ok (.iconst 0, 1) := by decide +kernel
theorem dX11_isOne_27 : decode cX11_isOne 27 = .ok (.ireturn, 1) := by decide +kernel
theorem dX11_isKind_0 : decode cX11_isKind 0 = .ok (.iload_n 0, 1) := by decide +kernel
theorem dX11_isKind_1 : decode cX11_isKind 1 = .ok (.ifCond .eq 8, 3) := by decide +kernel
theorem dX11_isKind_4 : decode cX11_isKind 4 = .ok (.iload_n 0, 1) := by decide +kernel
theorem dX11_isKind_5 : decode cX11_isKind 5 = .ok (.iconst 1, 1) := by decide +kernel
theorem dX11_isKind_6 : decode cX11_isKind 6 = .ok (.if_icmp .ne 7, 3) := by decide +kernel
theorem dX11_isKind_9 : decode cX11_isKind 9 = .ok (.iconst 1, 1) := by decide +kernel
theorem dX11_isKind_10 : decode cX11_isKind 10 = .ok (.goto 4, 3) := by decide +kernel
theorem dX11_isKind_13 : decode cX11_isKind 13 = .ok (.iconst 0, 1) := by decide +kernel
theorem dX11_isKind_14 : decode cX11_isKind 14 = .ok (.ireturn, 1) := by decide +kernel
theorem dX11_isTray_0 : decode cX11_isTray 0 = .ok (.iload_n 0, 1) := by decide +kernel
theorem dX11_isTray_1 : decode cX11_isTray 1 = .ok (.iconst 0, 1) := by decide +kernel
theorem dX11_isTray_2 : decode cX11_isTray 2 = .ok (.iconst 3, 1) := by decide +kernel
theorem dX11_isTray_3 : decode cX11_isTray 3 = .ok (.invokestatic 68, 3) := by decide +kernel
theorem dX11_isTray_6 : decode cX11_isTray 6 = .ok (.ireturn, 1) := by decide +kernel
theorem dX11_isSheet_0 : decode cX11_isSheet 0 = .ok (.iload_n 0, 1) := by decide +kernel
theorem dX11_isSheet_1 : decode cX11_isSheet 1 = .ok (.iconst 0, 1) := by decide +kernel
theorem dX11_isSheet_2 : decode cX11_isSheet 2 = .ok (.iconst 3, 1) := by decide +kernel
theorem dX11_isSheet_3 : decode cX11_isSheet 3 = .ok (.invokestatic 68, 3) := by decide +kernel
theorem dX11_isSheet_6 : decode cX11_isSheet 6 = .ok (.ireturn, 1) := by decide +kernel
theorem dX11_isForm_0 : decode cX11_isForm 0 = .ok (.iload_n 0, 1) := by decide +kernel
theorem dX11_isForm_1 : decode cX11_isForm 1 = .ok (.iconst 0, 1) := by decide +kernel
theorem dX11_isForm_2 : decode cX11_isForm 2 = .ok (.iconst 2, 1) := by decide +kernel
theorem dX11_isForm_3 : decode cX11_isForm 3 = .ok (.invokestatic 68, 3) := by decide +kernel
theorem dX11_isForm_6 : decode cX11_isForm 6 = .ok (.ireturn, 1) := by decide +kernel
theorem dX11_isWithin_0 : decode cX11_isWithin 0 = .ok (.iload_n 0, 1) := by decide +kernel
theorem dX11_isWithin_1 : decode cX11_isWithin 1 = .ok (.iload_n 1, 1) := by decide +kernel
theorem dX11_isWithin_2 : decode cX11_isWithin 2 = .ok (.if_icmp .lt 12, 3) := by decide +kernel
theorem dX11_isWithin_5 : decode cX11_isWithin 5 = .ok (.iload_n 0, 1) := by decide +kernel
theorem dX11_isWithin_6 : decode cX11_isWithin 6 = .ok (.iload_n 2, 1) := by decide +kernel
theorem dX11_isWithin_7 : decode cX11_isWithin 7 = .ok (.if_icmp .gt 7, 3) := by decide +kernel
theorem dX11_isWithin_10 : decode cX11_isWithin 10 = .ok (.iconst 1, 1) := by decide +kernel
theorem dX11_isWithin_11 : decode cX11_isWithin 11 = .ok (.goto 4, 3) := by decide +kernel
theorem dX11_isWithin_14 : decode cX11_isWithin 14 = .ok (.iconst 0, 1) := by decide +kernel
theorem dX11_isWithin_15 : decode cX11_isWithin 15 = .ok (.ireturn, 1) := by decide +kernel
theorem dX11_mayBeDirection_0 : decode cX11_mayBeDirection 0 = .ok (.iload_n 0, 1) := by decide +kernel
theorem dX11_mayBeDirection_1 : decode cX11_mayBeDirection 1 = .ok (.bipush (-100), 2) := by decide +kernel
theorem dX11_mayBeDirection_3 : decode cX11_mayBeDirection 3 = .ok (.bipush 100, 2) := by decide +kernel
theorem dX11_mayBeDirection_5 : decode cX11_mayBeDirection 5 = .ok (.invokestatic 68, 3) := by decide +kernel
theorem dX11_mayBeDirection_8 : decode cX11_mayBeDirection 8 = .ok (.ifCond .eq 41, 3) := by decide +kernel
theorem dX11_mayBeDirection_11 : decode cX11_mayBeDirection 11 = .ok (.iload_n 1, 1) := by decide +kernel
theorem dX11_mayBeDirection_12 : decode cX11_mayBeDirection 12 = .ok (.bipush (-100), 2) := by decide +kernel
theorem dX11_mayBeDirection_14 : decode cX11_mayBeDirection 14 = .ok (.bipush 100, 2) := by decide +kernel
theorem dX11_mayBeDirection_16 : decode cX11_mayBeDirection 16 = .ok (.invokestatic 68, 3) := by decide +kernel
theorem dX11_mayBeDirection_19 : decode cX11_mayBeDirection 19 = .ok (.ifCond .eq 30, 3) := by decide +kernel
theorem dX11_mayBeDirection_22 : decode cX11_mayBeDirection 22 = .ok (.iload_n 2, 1) := by decide +kernel
theorem dX11_mayBeDirection_23 : decode cX11_mayBeDirection 23 = .ok (.bipush (-100), 2) := by decide +kernel
theorem dX11_mayBeDirection_25 : decode cX11_mayBeDirection 25 = .ok (.bipush 100, 2) := by decide +kernel
theorem dX11_mayBeDirection_27 : decode cX11_mayBeDirection 27 = .ok (.invokestatic 68, 3) := by decide +kernel
theorem dX11_mayBeDirection_30 : decode cX11_mayBeDirection 30 = .ok (.ifCond .eq 19, 3) := by decide +kernel
theorem dX11_mayBeDirection_33 : decode cX11_mayBeDirection 33 = .ok (.iload_n 0, 1) := by decide +kernel
theorem dX11_mayBeDirection_34 : decode cX11_mayBeDirection 34 = .ok (.ifCond .ne 11, 3) := by decide +kernel
theorem dX11_mayBeDirection_37 : decode cX11_mayBeDirection 37 = .ok (.iload_n 1, 1) := by decide +kernel
theorem dX11_mayBeDirection_38 : decode cX11_mayBeDirection 38 = .ok (.ifCond .ne 7, 3) := by decide +kernel
theorem dX11_mayBeDirection_41 : decode cX11_mayBeDirection 41 = .ok (.iload_n 2, 1) := by decide +kernel
theorem dX11_mayBeDirection_42 : decode cX11_mayBeDirection 42 = .ok (.ifCond .eq 7, 3) := by decide +kernel
theorem dX11_mayBeDirection_45 : decode cX11_mayBeDirection 45 = .ok (.iconst 1, 1) := by decide +kernel
theorem dX11_mayBeDirection_46 : decode cX11_mayBeDirection 46 = .ok (.goto 4, 3) := by decide +kernel
theorem dX11_mayBeDirection_49 : decode cX11_mayBeDirection 49 = .ok (.iconst 0, 1) := by decide +kernel
theorem dX11_mayBeDirection_50 : decode cX11_mayBeDirection 50 = .ok (.ireturn, 1) := by decide +kernel
theorem dX11_trianglesOf_0 : decode cX11_trianglesOf 0 = .ok (.iload_n 0, 1) := by decide +kernel
theorem dX11_trianglesOf_1 : decode cX11_trianglesOf 1 = .ok (.iload_n 0, 1) := by decide +kernel
theorem dX11_trianglesOf_2 : decode cX11_trianglesOf 2 = .ok (.iconst 1, 1) := by decide +kernel
theorem dX11_trianglesOf_3 : decode cX11_trianglesOf 3 = .ok (.isub, 1) := by decide +kernel
theorem dX11_trianglesOf_4 : decode cX11_trianglesOf 4 = .ok (.imul, 1) := by decide +kernel
theorem dX11_trianglesOf_5 : decode cX11_trianglesOf 5 = .ok (.iload_n 0, 1) := by decide +kernel
theorem dX11_trianglesOf_6 : decode cX11_trianglesOf 6 = .ok (.iconst 2, 1) := by decide +kernel
theorem dX11_trianglesOf_7 : decode cX11_trianglesOf 7 = .ok (.isub, 1) := by decide +kernel
theorem dX11_trianglesOf_8 : decode cX11_trianglesOf 8 = .ok (.imul, 1) := by decide +kernel
theorem dX11_trianglesOf_9 : decode cX11_trianglesOf 9 = .ok (.bipush 6, 2) := by decide +kernel
theorem dX11_trianglesOf_11 : decode cX11_trianglesOf 11 = .ok (.idiv, 1) := by decide +kernel
theorem dX11_trianglesOf_12 : decode cX11_trianglesOf 12 = .ok (.ireturn, 1) := by decide +kernel
theorem dX11_pairOf_0 : decode cX11_pairOf 0 = .ok (.iload_n 0, 1) := by decide +kernel
theorem dX11_pairOf_1 : decode cX11_pairOf 1 = .ok (.bipush 12, 2) := by decide +kernel
theorem dX11_pairOf_3 : decode cX11_pairOf 3 = .ok (.imul, 1) := by decide +kernel
theorem dX11_pairOf_4 : decode cX11_pairOf 4 = .ok (.iload_n 1, 1) := by decide +kernel
theorem dX11_pairOf_5 : decode cX11_pairOf 5 = .ok (.iadd, 1) := by decide +kernel
theorem dX11_pairOf_6 : decode cX11_pairOf 6 = .ok (.ireturn, 1) := by decide +kernel
theorem dX11_keyNumber_0 : decode cX11_keyNumber 0 = .ok (.iload_n 1, 1) := by decide +kernel
theorem dX11_keyNumber_1 : decode cX11_keyNumber 1 = .ok (.iload_n 2, 1) := by decide +kernel
theorem dX11_keyNumber_2 : decode cX11_keyNumber 2 = .ok (.iload_n 3, 1) := by decide +kernel
theorem dX11_keyNumber_3 : decode cX11_keyNumber 3 = .ok (.invokestatic 248, 3) := by decide +kernel
theorem dX11_keyNumber_6 : decode cX11_keyNumber 6 = .ok (.invokestatic 248, 3) := by decide +kernel
theorem dX11_keyNumber_9 : decode cX11_keyNumber 9 = .ok (.istore 5, 2) := by decide +kernel
theorem dX11_keyNumber_11 : decode cX11_keyNumber 11 = .ok (.iload_n 1, 1) := by decide +kernel
theorem dX11_keyNumber_12 : decode cX11_keyNumber 12 = .ok (.iload_n 2, 1) := by decide +kernel
theorem dX11_keyNumber_13 : decode cX11_keyNumber 13 = .ok (.iload_n 3, 1) := by decide +kernel
theorem dX11_keyNumber_14 : decode cX11_keyNumber 14 = .ok (.invokestatic 311, 3) := by decide +kernel
theorem dX11_keyNumber_17 : decode cX11_keyNumber 17 = .ok (.invokestatic 311, 3) := by decide +kernel
theorem dX11_keyNumber_20 : decode cX11_keyNumber 20 = .ok (.istore 6, 2) := by decide +kernel
theorem dX11_keyNumber_22 : decode cX11_keyNumber 22 = .ok (.iload_n 0, 1) := by decide +kernel
theorem dX11_keyNumber_23 : decode cX11_keyNumber 23 = .ok (.ifCond .ne 8, 3) := by decide +kernel
theorem dX11_keyNumber_26 : decode cX11_keyNumber 26 = .ok (.iload 5, 2) := by decide +kernel
theorem dX11_keyNumber_28 : decode cX11_keyNumber 28 = .ok (.goto 24, 3) := by decide +kernel
theorem dX11_keyNumber_31 : decode cX11_keyNumber 31 = .ok (.iload_n 0, 1) := by decide +kernel
theorem dX11_keyNumber_32 : decode cX11_keyNumber 32 = .ok (.iconst 2, 1) := by decide +kernel
theorem dX11_keyNumber_33 : decode cX11_keyNumber 33 = .ok (.if_icmp .ne 8, 3) := by decide +kernel
theorem dX11_keyNumber_36 : decode cX11_keyNumber 36 = .ok (.iload 6, 2) := by decide +kernel
theorem dX11_keyNumber_38 : decode cX11_keyNumber 38 = .ok (.goto 14, 3) := by decide +kernel
theorem dX11_keyNumber_41 : decode cX11_keyNumber 41 = .ok (.iload_n 1, 1) := by decide +kernel
theorem dX11_keyNumber_42 : decode cX11_keyNumber 42 = .ok (.iload_n 2, 1) := by decide +kernel
theorem dX11_keyNumber_43 : decode cX11_keyNumber 43 = .ok (.iadd, 1) := by decide +kernel
theorem dX11_keyNumber_44 : decode cX11_keyNumber 44 = .ok (.iload_n 3, 1) := by decide +kernel
theorem dX11_keyNumber_45 : decode cX11_keyNumber 45 = .ok (.iadd, 1) := by decide +kernel
theorem dX11_keyNumber_46 : decode cX11_keyNumber 46 = .ok (.iload 5, 2) := by decide +kernel
theorem dX11_keyNumber_48 : decode cX11_keyNumber 48 = .ok (.isub, 1) := by decide +kernel
theorem dX11_keyNumber_49 : decode cX11_keyNumber 49 = .ok (.iload 6, 2) := by decide +kernel
theorem dX11_keyNumber_51 : decode cX11_keyNumber 51 = .ok (.isub, 1) := by decide +kernel
theorem dX11_keyNumber_52 : decode cX11_keyNumber 52 = .ok (.istore 7, 2) := by decide +kernel
theorem dX11_keyNumber_54 : decode cX11_keyNumber 54 = .ok (.iload 4, 2) := by decide +kernel
theorem dX11_keyNumber_56 : decode cX11_keyNumber 56 = .ok (.iconst 1, 1) := by decide +kernel
theorem dX11_keyNumber_57 : decode cX11_keyNumber 57 = .ok (.if_icmp .ge 7, 3) := by decide +kernel
theorem dX11_keyNumber_60 : decode cX11_keyNumber 60 = .ok (.iconst 0, 1) := by decide +kernel
theorem dX11_keyNumber_61 : decode cX11_keyNumber 61 = .ok (.goto 8, 3) := by decide +kernel
theorem dX11_keyNumber_64 : decode cX11_keyNumber 64 = .ok (.iload 7, 2) := by decide +kernel
theorem dX11_keyNumber_66 : decode cX11_keyNumber 66 = .ok (.iload 4, 2) := by decide +kernel
theorem dX11_keyNumber_68 : decode cX11_keyNumber 68 = .ok (.idiv, 1) := by decide +kernel
theorem dX11_keyNumber_69 : decode cX11_keyNumber 69 = .ok (.ireturn, 1) := by decide +kernel
theorem dX11_floatBits_0 : decode cX11_floatBits 0 = .ok (.iload_n 0, 1) := by decide +kernel
theorem dX11_floatBits_1 : decode cX11_floatBits 1 = .ok (.ifCond .eq 8, 3) := by decide +kernel
theorem dX11_floatBits_4 : decode cX11_floatBits 4 = .ok (.iload_n 1, 1) := by decide +kernel
theorem dX11_floatBits_5 : decode cX11_floatBits 5 = .ok (.iconst 1, 1) := by decide +kernel
theorem dX11_floatBits_6 : decode cX11_floatBits 6 = .ok (.if_icmp .ge 5, 3) := by decide +kernel
theorem dX11_floatBits_9 : decode cX11_floatBits 9 = .ok (.iconst 0, 1) := by decide +kernel
theorem dX11_floatBits_10 : decode cX11_floatBits 10 = .ok (.ireturn, 1) := by decide +kernel
theorem dX11_floatBits_11 : decode cX11_floatBits 11 = .ok (.iload_n 0, 1) := by decide +kernel
theorem dX11_floatBits_12 : decode cX11_floatBits 12 = .ok (.i2l, 1) := by decide +kernel
theorem dX11_floatBits_13 : decode cX11_floatBits 13 = .ok (.invokestatic 314, 3) := by decide +kernel
theorem dX11_floatBits_16 : decode cX11_floatBits 16 = .ok (.lstore_n 2, 1) := by decide +kernel
theorem dX11_floatBits_17 : decode cX11_floatBits 17 = .ok (.iload_n 1, 1) := by decide +kernel
theorem dX11_floatBits_18 : decode cX11_floatBits 18 = .ok (.i2l, 1) := by decide +kernel
theorem dX11_floatBits_19 : decode cX11_floatBits 19 = .ok (.lstore 4, 2) := by decide +kernel
theorem dX11_floatBits_21 : decode cX11_floatBits 21 = .ok (.iconst 0, 1) := by decide +kernel
theorem dX11_floatBits_22 : decode cX11_floatBits 22 = .ok (.istore 6, 2) := by decide +kernel
theorem dX11_floatBits_24 : decode cX11_floatBits 24 = .ok (.iload 6, 2) := by decide +kernel
theorem dX11_floatBits_26 : decode cX11_floatBits 26 = .ok (.bipush 20, 2) := by decide +kernel
theorem dX11_floatBits_28 : decode cX11_floatBits 28 = .ok (.if_icmp .ge 28, 3) := by decide +kernel
theorem dX11_floatBits_31 : decode cX11_floatBits 31 = .ok (.lload_n 2, 1) := by decide +kernel
theorem dX11_floatBits_32 : decode cX11_floatBits 32 = .ok (.ldc2_w 318, 3) := by decide +kernel
theorem dX11_floatBits_35 : decode cX11_floatBits 35 = .ok (.lload 4, 2) := by decide +kernel
theorem dX11_floatBits_37 : decode cX11_floatBits 37 = .ok (.lmul, 1) := by decide +kernel
theorem dX11_floatBits_38 : decode cX11_floatBits 38 = .ok (.lcmp, 1) := by decide +kernel
theorem dX11_floatBits_39 : decode cX11_floatBits 39 = .ok (.ifCond .lt 17, 3) := by decide +kernel
theorem dX11_floatBits_42 : decode cX11_floatBits 42 = .ok (.lload 4, 2) := by decide +kernel
theorem dX11_floatBits_44 : decode cX11_floatBits 44 = .ok (.ldc2_w 318, 3) := by decide +kernel
theorem dX11_floatBits_47 : decode cX11_floatBits 47 = .ok (.lmul, 1) := by decide +kernel
theorem dX11_floatBits_48 : decode cX11_floatBits 48 = .ok (.lstore 4, 2) := by decide +kernel
theorem dX11_floatBits_50 : decode cX11_floatBits 50 = .ok (.iinc 6 1, 3) := by decide +kernel
theorem dX11_floatBits_53 : decode cX11_floatBits 53 = .ok (.goto (-29), 3) := by decide +kernel
theorem dX11_floatBits_56 : decode cX11_floatBits 56 = .ok (.iload 6, 2) := by decide +kernel
theorem dX11_floatBits_58 : decode cX11_floatBits 58 = .ok (.bipush (-20), 2) := by decide +kernel
theorem dX11_floatBits_60 : decode cX11_floatBits 60 = .ok (.if_icmp .le 22, 3) := by decide +kernel
theorem dX11_floatBits_63 : decode cX11_floatBits 63 = .ok (.lload_n 2, 1) := by decide +kernel
theorem dX11_floatBits_64 : decode cX11_floatBits 64 = .ok (.lload 4, 2) := by decide +kernel
theorem dX11_floatBits_66 : decode cX11_floatBits 66 = .ok (.lcmp, 1) := by decide +kernel
theorem dX11_floatBits_67 : decode cX11_floatBits 67 = .ok (.ifCond .ge 15, 3) := by decide +kernel
theorem dX11_floatBits_70 : decode cX11_floatBits 70 = .ok (.lload_n 2, 1) := by decide +kernel
theorem dX11_floatBits_71 : decode cX11_floatBits 71 = .ok (.ldc2_w 318, 3) := by decide +kernel
theorem dX11_floatBits_74 : decode cX11_floatBits 74 = .ok (.lmul, 1) := by decide +kernel
theorem dX11_floatBits_75 : decode cX11_floatBits 75 = .ok (.lstore_n 2, 1) := by decide +kernel
theorem dX11_floatBits_76 : decode cX11_floatBits 76 = .ok (.iinc 6 (-1), 3) := by decide +kernel
theorem dX11_floatBits_79 : decode cX11_floatBits 79 = .ok (.goto (-23), 3) := by decide +kernel
theorem dX11_floatBits_82 : decode cX11_floatBits 82 = .ok (.lload_n 2, 1) := by decide +kernel
theorem dX11_floatBits_83 : decode cX11_floatBits 83 = .ok (.bipush 23, 2) := by decide +kernel
theorem dX11_floatBits_85 : decode cX11_floatBits 85 = .ok (.lshl, 1) := by decide +kernel
theorem dX11_floatBits_86 : decode cX11_floatBits 86 = .ok (.lload 4, 2) := by decide +kernel
theorem dX11_floatBits_88 : decode cX11_floatBits 88 = .ok (.ldiv, 1) := by decide +kernel
theorem dX11_floatBits_89 : decode cX11_floatBits 89 = .ok (.lstore 7, 2) := by decide +kernel
theorem dX11_floatBits_91 : decode cX11_floatBits 91 = .ok (.ldc2_w 318, 3) := by decide +kernel
theorem dX11_floatBits_94 : decode cX11_floatBits 94 = .ok (.lload_n 2, 1) := by decide +kernel
theorem dX11_floatBits_95 : decode cX11_floatBits 95 = .ok (.bipush 23, 2) := by decide +kernel
theorem dX11_floatBits_97 : decode cX11_floatBits 97 = .ok (.lshl, 1) := by decide +kernel
theorem dX11_floatBits_98 : decode cX11_floatBits 98 = .ok (.lload 4, 2) := by decide +kernel
theorem dX11_floatBits_100 : decode cX11_floatBits 100 = .ok (.lrem, 1) := by decide +kernel
theorem dX11_floatBits_101 : decode cX11_floatBits 101 = .ok (.lmul, 1) := by decide +kernel
theorem dX11_floatBits_102 : decode cX11_floatBits 102 = .ok (.lstore 9, 2) := by decide +kernel
theorem dX11_floatBits_104 : decode cX11_floatBits 104 = .ok (.lload 9, 2) := by decide +kernel
theorem dX11_floatBits_106 : decode cX11_floatBits 106 = .ok (.lload 4, 2) := by decide +kernel
theorem dX11_floatBits_108 : decode cX11_floatBits 108 = .ok (.lcmp, 1) := by decide +kernel
theorem dX11_floatBits_109 : decode cX11_floatBits 109 = .ok (.ifCond .gt 22, 3) := by decide +kernel
theorem dX11_floatBits_112 : decode cX11_floatBits 112 = .ok (.lload 9, 2) := by decide +kernel
theorem dX11_floatBits_114 : decode cX11_floatBits 114 = .ok (.lload 4, 2) := by decide +kernel
theorem dX11_floatBits_116 : decode cX11_floatBits 116 = .ok (.lcmp, 1) := by decide +kernel
theorem dX11_floatBits_117 : decode cX11_floatBits 117 = .ok (.ifCond .ne 20, 3) := by decide +kernel
theorem dX11_floatBits_120 : decode cX11_floatBits 120 = .ok (.lload 7, 2) := by decide +kernel
theorem dX11_floatBits_122 : decode cX11_floatBits 122 = .ok (.ldc2_w 318, 3) := by decide +kernel
theorem dX11_floatBits_125 : decode cX11_floatBits 125 = .ok (.lrem, 1) := by decide +kernel
theorem dX11_floatBits_126 : decode cX11_floatBits 126 = .ok (.lconst 1, 1) := by decide +kernel
theorem dX11_floatBits_127 : decode cX11_floatBits 127 = .ok (.lcmp, 1) := by decide +kernel
theorem dX11_floatBits_128 : decode cX11_floatBits 128 = .ok (.ifCond .ne 9, 3) := by decide +kernel
theorem dX11_floatBits_131 : decode cX11_floatBits 131 = .ok (.lload 7, 2) := by decide +kernel
theorem dX11_floatBits_133 : decode cX11_floatBits 133 = .ok (.lconst 1, 1) := by decide +kernel
theorem dX11_floatBits_134 : decode cX11_floatBits 134 = .ok (.ladd, 1) := by decide +kernel
theorem dX11_floatBits_135 : decode cX11_floatBits 135 = .ok (.lstore 7, 2) := by decide +kernel
theorem dX11_floatBits_137 : decode cX11_floatBits 137 = .ok (.iload 6, 2) := by decide +kernel
theorem dX11_floatBits_139 : decode cX11_floatBits 139 = .ok (.bipush 127, 2) := by decide +kernel
theorem dX11_floatBits_141 : decode cX11_floatBits 141 = .ok (.iadd, 1) := by decide +kernel
theorem dX11_floatBits_142 : decode cX11_floatBits 142 = .ok (.bipush 23, 2) := by decide +kernel
theorem dX11_floatBits_144 : decode cX11_floatBits 144 = .ok (.ishl, 1) := by decide +kernel
theorem dX11_floatBits_145 : decode cX11_floatBits 145 = .ok (.lload 7, 2) := by decide +kernel
theorem dX11_floatBits_147 : decode cX11_floatBits 147 = .ok (.ldc2_w 320, 3) := by decide +kernel
theorem dX11_floatBits_150 : decode cX11_floatBits 150 = .ok (.lsub, 1) := by decide +kernel
theorem dX11_floatBits_151 : decode cX11_floatBits 151 = .ok (.l2i, 1) := by decide +kernel
theorem dX11_floatBits_152 : decode cX11_floatBits 152 = .ok (.iadd, 1) := by decide +kernel
theorem dX11_floatBits_153 : decode cX11_floatBits 153 = .ok (.istore 11, 2) := by decide +kernel
theorem dX11_floatBits_155 : decode cX11_floatBits 155 = .ok (.iload_n 0, 1) := by decide +kernel
theorem dX11_floatBits_156 : decode cX11_floatBits 156 = .ok (.ifCond .ge 11, 3) := by decide +kernel
theorem dX11_floatBits_159 : decode cX11_floatBits 159 = .ok (.iload 11, 2) := by decide +kernel
theorem dX11_floatBits_161 : decode cX11_floatBits 161 = .ok (.ldc 71, 2) := by decide +kernel
theorem dX11_floatBits_163 : decode cX11_floatBits 163 = .ok (.ior, 1) := by decide +kernel
theorem dX11_floatBits_164 : decode cX11_floatBits 164 = .ok (.goto 5, 3) := by decide +kernel
theorem dX11_floatBits_167 : decode cX11_floatBits 167 = .ok (.iload 11, 2) := by decide +kernel
theorem dX11_floatBits_169 : decode cX11_floatBits 169 = .ok (.ireturn, 1) := by decide +kernel
