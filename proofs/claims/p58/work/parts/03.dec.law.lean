theorem dL_cell_0 : decode cL_cell 0 = .ok (.iload_n 1, 1) := by decide +kernel
theorem dL_cell_1 : decode cL_cell 1 = .ok (.aload_n 0, 1) := by decide +kernel
theorem dL_cell_2 : decode cL_cell 2 = .ok (.arraylength, 1) := by decide +kernel
theorem dL_cell_3 : decode cL_cell 3 = .ok (.if_icmp .ge 9, 3) := by decide +kernel
theorem dL_cell_6 : decode cL_cell 6 = .ok (.aload_n 0, 1) := by decide +kernel
theorem dL_cell_7 : decode cL_cell 7 = .ok (.iload_n 1, 1) := by decide +kernel
theorem dL_cell_8 : decode cL_cell 8 = .ok (.iaload, 1) := by decide +kernel
theorem dL_cell_9 : decode cL_cell 9 = .ok (.goto 4, 3) := by decide +kernel
theorem dL_cell_12 : decode cL_cell 12 = .ok (.iconst 0, 1) := by decide +kernel
theorem dL_cell_13 : decode cL_cell 13 = .ok (.ireturn, 1) := by decide +kernel
theorem dL_part_0 : decode cL_part 0 = .ok (.iload_n 0, 1) := by decide +kernel
theorem dL_part_1 : decode cL_part 1 = .ok (.ldc 7, 2) := by decide +kernel
theorem dL_part_3 : decode cL_part 3 = .ok (.iand, 1) := by decide +kernel
theorem dL_part_4 : decode cL_part 4 = .ok (.iload_n 1, 1) := by decide +kernel
theorem dL_part_5 : decode cL_part 5 = .ok (.irem, 1) := by decide +kernel
theorem dL_part_6 : decode cL_part 6 = .ok (.ireturn, 1) := by decide +kernel
theorem dL_feed_0 : decode cL_feed 0 = .ok (.iconst 0, 1) := by decide +kernel
theorem dL_feed_1 : decode cL_feed 1 = .ok (.istore_n 2, 1) := by decide +kernel
theorem dL_feed_2 : decode cL_feed 2 = .ok (.iload_n 2, 1) := by decide +kernel
theorem dL_feed_3 : decode cL_feed 3 = .ok (.aload_n 1, 1) := by decide +kernel
theorem dL_feed_4 : decode cL_feed 4 = .ok (.invokevirtual 8, 3) := by decide +kernel
theorem dL_feed_7 : decode cL_feed 7 = .ok (.if_icmp .ge 93, 3) := by decide +kernel
theorem dL_feed_10 : decode cL_feed 10 = .ok (.iconst 5, 1) := by decide +kernel
theorem dL_feed_11 : decode cL_feed 11 = .ok (.newarray .int, 2) := by decide +kernel
theorem dL_feed_13 : decode cL_feed 13 = .ok (.astore_n 3, 1) := by decide +kernel
theorem dL_feed_14 : decode cL_feed 14 = .ok (.iconst 0, 1) := by decide +kernel
theorem dL_feed_15 : decode cL_feed 15 = .ok (.istore 4, 2) := by decide +kernel
theorem dL_feed_17 : decode cL_feed 17 = .ok (.iload 4, 2) := by decide +kernel
theorem dL_feed_19 : decode cL_feed 19 = .ok (.bipush 20, 2) := by decide +kernel
theorem dL_feed_21 : decode cL_feed 21 = .ok (.if_icmp .ge 53, 3) := by decide +kernel
theorem dL_feed_24 : decode cL_feed 24 = .ok (.aload_n 3, 1) := by decide +kernel
theorem dL_feed_25 : decode cL_feed 25 = .ok (.iload 4, 2) := by decide +kernel
theorem dL_feed_27 : decode cL_feed 27 = .ok (.iconst 4, 1) := by decide +kernel
theorem dL_feed_28 : decode cL_feed 28 = .ok (.idiv, 1) := by decide +kernel
theorem dL_feed_29 : decode cL_feed 29 = .ok (.aload_n 3, 1) := by decide +kernel
theorem dL_feed_30 : decode cL_feed 30 = .ok (.iload 4, 2) := by decide +kernel
theorem dL_feed_32 : decode cL_feed 32 = .ok (.iconst 4, 1) := by decide +kernel
theorem dL_feed_33 : decode cL_feed 33 = .ok (.idiv, 1) := by decide +kernel
theorem dL_feed_34 : decode cL_feed 34 = .ok (.iaload, 1) := by decide +kernel
theorem dL_feed_35 : decode cL_feed 35 = .ok (.bipush 8, 2) := by decide +kernel
theorem dL_feed_37 : decode cL_feed 37 = .ok (.ishl, 1) := by decide +kernel
theorem dL_feed_38 : decode cL_feed 38 = .ok (.iload_n 2, 1) := by decide +kernel
theorem dL_feed_39 : decode cL_feed 39 = .ok (.iload 4, 2) := by decide +kernel
theorem dL_feed_41 : decode cL_feed 41 = .ok (.iadd, 1) := by decide +kernel
theorem dL_feed_42 : decode cL_feed 42 = .ok (.aload_n 1, 1) := by decide +kernel
theorem dL_feed_43 : decode cL_feed 43 = .ok (.invokevirtual 8, 3) := by decide +kernel
theorem dL_feed_46 : decode cL_feed 46 = .ok (.if_icmp .ge 18, 3) := by decide +kernel
theorem dL_feed_49 : decode cL_feed 49 = .ok (.aload_n 1, 1) := by decide +kernel
theorem dL_feed_50 : decode cL_feed 50 = .ok (.iload_n 2, 1) := by decide +kernel
theorem dL_feed_51 : decode cL_feed 51 = .ok (.iload 4, 2) := by decide +kernel
theorem dL_feed_53 : decode cL_feed 53 = .ok (.iadd, 1) := by decide +kernel
theorem dL_feed_54 : decode cL_feed 54 = .ok (.invokevirtual 14, 3) := by decide +kernel
theorem dL_feed_57 : decode cL_feed 57 = .ok (.sipush 255, 3) := by decide +kernel
theorem dL_feed_60 : decode cL_feed 60 = .ok (.iand, 1) := by decide +kernel
theorem dL_feed_61 : decode cL_feed 61 = .ok (.goto 5, 3) := by decide +kernel
theorem dL_feed_64 : decode cL_feed 64 = .ok (.bipush 32, 2) := by decide +kernel
theorem dL_feed_66 : decode cL_feed 66 = .ok (.ior, 1) := by decide +kernel
theorem dL_feed_67 : decode cL_feed 67 = .ok (.iastore, 1) := by decide +kernel
theorem dL_feed_68 : decode cL_feed 68 = .ok (.iinc 4 1, 3) := by decide +kernel
theorem dL_feed_71 : decode cL_feed 71 = .ok (.goto (-54), 3) := by decide +kernel
theorem dL_feed_74 : decode cL_feed 74 = .ok (.aload_n 0, 1) := by decide +kernel
theorem dL_feed_75 : decode cL_feed 75 = .ok (.aload_n 3, 1) := by decide +kernel
theorem dL_feed_76 : decode cL_feed 76 = .ok (.iconst 0, 1) := by decide +kernel
theorem dL_feed_77 : decode cL_feed 77 = .ok (.iaload, 1) := by decide +kernel
theorem dL_feed_78 : decode cL_feed 78 = .ok (.aload_n 3, 1) := by decide +kernel
theorem dL_feed_79 : decode cL_feed 79 = .ok (.iconst 1, 1) := by decide +kernel
theorem dL_feed_80 : decode cL_feed 80 = .ok (.iaload, 1) := by decide +kernel
theorem dL_feed_81 : decode cL_feed 81 = .ok (.aload_n 3, 1) := by decide +kernel
theorem dL_feed_82 : decode cL_feed 82 = .ok (.iconst 2, 1) := by decide +kernel
theorem dL_feed_83 : decode cL_feed 83 = .ok (.iaload, 1) := by decide +kernel
theorem dL_feed_84 : decode cL_feed 84 = .ok (.aload_n 3, 1) := by decide +kernel
theorem dL_feed_85 : decode cL_feed 85 = .ok (.iconst 3, 1) := by decide +kernel
theorem dL_feed_86 : decode cL_feed 86 = .ok (.iaload, 1) := by decide +kernel
theorem dL_feed_87 : decode cL_feed 87 = .ok (.aload_n 3, 1) := by decide +kernel
theorem dL_feed_88 : decode cL_feed 88 = .ok (.iconst 4, 1) := by decide +kernel
theorem dL_feed_89 : decode cL_feed 89 = .ok (.iaload, 1) := by decide +kernel
theorem dL_feed_90 : decode cL_feed 90 = .ok (.invokevirtual 18, 3) := by decide +kernel
theorem dL_feed_93 : decode cL_feed 93 = .ok (.pop, 1) := by decide +kernel
theorem dL_feed_94 : decode cL_feed 94 = .ok (.iinc 2 20, 3) := by decide +kernel
theorem dL_feed_97 : decode cL_feed 97 = .ok (.goto (-95), 3) := by decide +kernel
theorem dL_feed_100 : decode cL_feed 100 = .ok (.return_, 1) := by decide +kernel
theorem dL_load_0 : decode cL_load 0 = .ok (.aload_n 0, 1) := by decide +kernel
theorem dL_load_1 : decode cL_load 1 = .ok (.aload_n 1, 1) := by decide +kernel
theorem dL_load_2 : decode cL_load 2 = .ok (.invokestatic 24, 3) := by decide +kernel
theorem dL_load_5 : decode cL_load 5 = .ok (.aload_n 0, 1) := by decide +kernel
theorem dL_load_6 : decode cL_load 6 = .ok (.aload_n 1, 1) := by decide +kernel
theorem dL_load_7 : decode cL_load 7 = .ok (.invokevirtual 8, 3) := by decide +kernel
theorem dL_load_10 : decode cL_load 10 = .ok (.invokevirtual 29, 3) := by decide +kernel
theorem dL_load_13 : decode cL_load 13 = .ok (.ireturn, 1) := by decide +kernel
theorem dL_says_0 : decode cL_says 0 = .ok (.iload_n 1, 1) := by decide +kernel
theorem dL_says_1 : decode cL_says 1 = .ok (.bipush 6, 2) := by decide +kernel
theorem dL_says_3 : decode cL_says 3 = .ok (.invokestatic 33, 3) := by decide +kernel
theorem dL_says_6 : decode cL_says 6 = .ok (.istore_n 2, 1) := by decide +kernel
theorem dL_says_7 : decode cL_says 7 = .ok (.iload_n 2, 1) := by decide +kernel
theorem dL_says_8 : decode cL_says 8 = .ok (.iconst 4, 1) := by decide +kernel
theorem dL_says_9 : decode cL_says 9 = .ok (.if_icmp .ge 16, 3) := by decide +kernel
theorem dL_says_12 : decode cL_says 12 = .ok (.aload_n 0, 1) := by decide +kernel
theorem dL_says_13 : decode cL_says 13 = .ok (.getstatic 37, 3) := by decide +kernel
theorem dL_says_16 : decode cL_says 16 = .ok (.iload_n 2, 1) := by decide +kernel
theorem dL_says_17 : decode cL_says 17 = .ok (.aaload, 1) := by decide +kernel
theorem dL_says_18 : decode cL_says 18 = .ok (.invokevirtual 41, 3) := by decide +kernel
theorem dL_says_21 : decode cL_says 21 = .ok (.pop, 1) := by decide +kernel
theorem dL_says_22 : decode cL_says 22 = .ok (.goto 107, 3) := by decide +kernel
theorem dL_says_25 : decode cL_says 25 = .ok (.iload_n 2, 1) := by decide +kernel
theorem dL_says_26 : decode cL_says 26 = .ok (.iconst 4, 1) := by decide +kernel
theorem dL_says_27 : decode cL_says 27 = .ok (.if_icmp .ne 45, 3) := by decide +kernel
theorem dL_says_30 : decode cL_says 30 = .ok (.aload_n 0, 1) := by decide +kernel
theorem dL_says_31 : decode cL_says 31 = .ok (.ldc 47, 2) := by decide +kernel
theorem dL_says_33 : decode cL_says 33 = .ok (.invokevirtual 41, 3) := by decide +kernel
theorem dL_says_36 : decode cL_says 36 = .ok (.iconst 2, 1) := by decide +kernel
theorem dL_says_37 : decode cL_says 37 = .ok (.iload_n 1, 1) := by decide +kernel
theorem dL_says_38 : decode cL_says 38 = .ok (.iconst 3, 1) := by decide +kernel
theorem dL_says_39 : decode cL_says 39 = .ok (.ishr, 1) := by decide +kernel
theorem dL_says_40 : decode cL_says 40 = .ok (.bipush 9, 2) := by decide +kernel
theorem dL_says_42 : decode cL_says 42 = .ok (.invokestatic 33, 3) := by decide +kernel
theorem dL_says_45 : decode cL_says 45 = .ok (.iadd, 1) := by decide +kernel
theorem dL_says_46 : decode cL_says 46 = .ok (.invokevirtual 49, 3) := by decide +kernel
theorem dL_says_49 : decode cL_says 49 = .ok (.ldc 52, 2) := by decide +kernel
theorem dL_says_51 : decode cL_says 51 = .ok (.invokevirtual 41, 3) := by decide +kernel
theorem dL_says_54 : decode cL_says 54 = .ok (.iconst 1, 1) := by decide +kernel
theorem dL_says_55 : decode cL_says 55 = .ok (.iload_n 1, 1) := by decide +kernel
theorem dL_says_56 : decode cL_says 56 = .ok (.bipush 6, 2) := by decide +kernel
theorem dL_says_58 : decode cL_says 58 = .ok (.ishr, 1) := by decide +kernel
theorem dL_says_59 : decode cL_says 59 = .ok (.bipush 6, 2) := by decide +kernel
theorem dL_says_61 : decode cL_says 61 = .ok (.invokestatic 33, 3) := by decide +kernel
theorem dL_says_64 : decode cL_says 64 = .ok (.iadd, 1) := by decide +kernel
theorem dL_says_65 : decode cL_says 65 = .ok (.invokevirtual 49, 3) := by decide +kernel
theorem dL_says_68 : decode cL_says 68 = .ok (.pop, 1) := by decide +kernel
theorem dL_says_69 : decode cL_says 69 = .ok (.goto 60, 3) := by decide +kernel
theorem dL_says_72 : decode cL_says 72 = .ok (.aload_n 0, 1) := by decide +kernel
theorem dL_says_73 : decode cL_says 73 = .ok (.ldc 54, 2) := by decide +kernel
theorem dL_says_75 : decode cL_says 75 = .ok (.invokevirtual 41, 3) := by decide +kernel
theorem dL_says_78 : decode cL_says 78 = .ok (.iconst 2, 1) := by decide +kernel
theorem dL_says_79 : decode cL_says 79 = .ok (.iload_n 1, 1) := by decide +kernel
theorem dL_says_80 : decode cL_says 80 = .ok (.iconst 3, 1) := by decide +kernel
theorem dL_says_81 : decode cL_says 81 = .ok (.ishr, 1) := by decide +kernel
theorem dL_says_82 : decode cL_says 82 = .ok (.bipush 9, 2) := by decide +kernel
theorem dL_says_84 : decode cL_says 84 = .ok (.invokestatic 33, 3) := by decide +kernel
theorem dL_says_87 : decode cL_says 87 = .ok (.iadd, 1) := by decide +kernel
theorem dL_says_88 : decode cL_says 88 = .ok (.invokevirtual 49, 3) := by decide +kernel
theorem dL_says_91 : decode cL_says 91 = .ok (.bipush 32, 2) := by decide +kernel
theorem dL_says_93 : decode cL_says 93 = .ok (.invokevirtual 56, 3) := by decide +kernel
theorem dL_says_96 : decode cL_says 96 = .ok (.iconst 2, 1) := by decide +kernel
theorem dL_says_97 : decode cL_says 97 = .ok (.iload_n 1, 1) := by decide +kernel
theorem dL_says_98 : decode cL_says 98 = .ok (.bipush 6, 2) := by decide +kernel
theorem dL_says_100 : decode cL_says 100 = .ok (.ishr, 1) := by decide +kernel
theorem dL_says_101 : decode cL_says 101 = .ok (.bipush 30, 2) := by decide +kernel
theorem dL_says_103 : decode cL_says 103 = .ok (.invokestatic 33, 3) := by decide +kernel
theorem dL_says_106 : decode cL_says 106 = .ok (.iadd, 1) := by decide +kernel
theorem dL_says_107 : decode cL_says 107 = .ok (.invokevirtual 49, 3) := by decide +kernel
theorem dL_says_110 : decode cL_says 110 = .ok (.bipush 32, 2) := by decide +kernel
theorem dL_says_112 : decode cL_says 112 = .ok (.invokevirtual 56, 3) := by decide +kernel
theorem dL_says_115 : decode cL_says 115 = .ok (.iconst 2, 1) := by decide +kernel
theorem dL_says_116 : decode cL_says 116 = .ok (.iload_n 1, 1) := by decide +kernel
theorem dL_says_117 : decode cL_says 117 = .ok (.bipush 8, 2) := by decide +kernel
theorem dL_says_119 : decode cL_says 119 = .ok (.ishr, 1) := by decide +kernel
theorem dL_says_120 : decode cL_says 120 = .ok (.iconst 5, 1) := by decide +kernel
theorem dL_says_121 : decode cL_says 121 = .ok (.invokestatic 33, 3) := by decide +kernel
theorem dL_says_124 : decode cL_says 124 = .ok (.iadd, 1) := by decide +kernel
theorem dL_says_125 : decode cL_says 125 = .ok (.invokevirtual 49, 3) := by decide +kernel
theorem dL_says_128 : decode cL_says 128 = .ok (.pop, 1) := by decide +kernel
theorem dL_says_129 : decode cL_says 129 = .ok (.return_, 1) := by decide +kernel
theorem dL_sieves_0 : decode cL_sieves 0 = .ok (.new 42, 3) := by decide +kernel
theorem dL_sieves_3 : decode cL_sieves 3 = .ok (.dup, 1) := by decide +kernel
theorem dL_sieves_4 : decode cL_sieves 4 = .ok (.invokespecial 59, 3) := by decide +kernel
theorem dL_sieves_7 : decode cL_sieves 7 = .ok (.astore_n 1, 1) := by decide +kernel
theorem dL_sieves_8 : decode cL_sieves 8 = .ok (.iconst 0, 1) := by decide +kernel
theorem dL_sieves_9 : decode cL_sieves 9 = .ok (.istore_n 2, 1) := by decide +kernel
theorem dL_sieves_10 : decode cL_sieves 10 = .ok (.iload_n 2, 1) := by decide +kernel
theorem dL_sieves_11 : decode cL_sieves 11 = .ok (.iconst 2, 1) := by decide +kernel
theorem dL_sieves_12 : decode cL_sieves 12 = .ok (.aload_n 0, 1) := by decide +kernel
theorem dL_sieves_13 : decode cL_sieves 13 = .ok (.iconst 0, 1) := by decide +kernel
theorem dL_sieves_14 : decode cL_sieves 14 = .ok (.invokestatic 60, 3) := by decide +kernel
theorem dL_sieves_17 : decode cL_sieves 17 = .ok (.iconst 2, 1) := by decide +kernel
theorem dL_sieves_18 : decode cL_sieves 18 = .ok (.invokestatic 33, 3) := by decide +kernel
theorem dL_sieves_21 : decode cL_sieves 21 = .ok (.iadd, 1) := by decide +kernel
theorem dL_sieves_22 : decode cL_sieves 22 = .ok (.if_icmp .ge 101, 3) := by decide +kernel
theorem dL_sieves_25 : decode cL_sieves 25 = .ok (.aload_n 0, 1) := by decide +kernel
theorem dL_sieves_26 : decode cL_sieves 26 = .ok (.iconst 1, 1) := by decide +kernel
theorem dL_sieves_27 : decode cL_sieves 27 = .ok (.iload_n 2, 1) := by decide +kernel
theorem dL_sieves_28 : decode cL_sieves 28 = .ok (.iadd, 1) := by decide +kernel
theorem dL_sieves_29 : decode cL_sieves 29 = .ok (.invokestatic 60, 3) := by decide +kernel
theorem dL_sieves_32 : decode cL_sieves 32 = .ok (.istore_n 3, 1) := by decide +kernel
theorem dL_sieves_33 : decode cL_sieves 33 = .ok (.aload_n 1, 1) := by decide +kernel
theorem dL_sieves_34 : decode cL_sieves 34 = .ok (.ldc 64, 2) := by decide +kernel
theorem dL_sieves_36 : decode cL_sieves 36 = .ok (.invokevirtual 41, 3) := by decide +kernel
theorem dL_sieves_39 : decode cL_sieves 39 = .ok (.bipush 97, 2) := by decide +kernel
theorem dL_sieves_41 : decode cL_sieves 41 = .ok (.iload_n 2, 1) := by decide +kernel
theorem dL_sieves_42 : decode cL_sieves 42 = .ok (.iadd, 1) := by decide +kernel
theorem dL_sieves_43 : decode cL_sieves 43 = .ok (.i2c, 1) := by decide +kernel
theorem dL_sieves_44 : decode cL_sieves 44 = .ok (.invokevirtual 56, 3) := by decide +kernel
theorem dL_sieves_47 : decode cL_sieves 47 = .ok (.ldc 66, 2) := by decide +kernel
theorem dL_sieves_49 : decode cL_sieves 49 = .ok (.invokevirtual 41, 3) := by decide +kernel
theorem dL_sieves_52 : decode cL_sieves 52 = .ok (.iload_n 3, 1) := by decide +kernel
theorem dL_sieves_53 : decode cL_sieves 53 = .ok (.iconst 2, 1) := by decide +kernel
theorem dL_sieves_54 : decode cL_sieves 54 = .ok (.ishr, 1) := by decide +kernel
theorem dL_sieves_55 : decode cL_sieves 55 = .ok (.bipush 6, 2) := by decide +kernel
theorem dL_sieves_57 : decode cL_sieves 57 = .ok (.invokestatic 33, 3) := by decide +kernel
theorem dL_sieves_60 : decode cL_sieves 60 = .ok (.invokevirtual 49, 3) := by decide +kernel
theorem dL_sieves_63 : decode cL_sieves 63 = .ok (.ldc 68, 2) := by decide +kernel
theorem dL_sieves_65 : decode cL_sieves 65 = .ok (.invokevirtual 41, 3) := by decide +kernel
theorem dL_sieves_68 : decode cL_sieves 68 = .ok (.iconst 1, 1) := by decide +kernel
theorem dL_sieves_69 : decode cL_sieves 69 = .ok (.iload_n 3, 1) := by decide +kernel
theorem dL_sieves_70 : decode cL_sieves 70 = .ok (.iconst 5, 1) := by decide +kernel
theorem dL_sieves_71 : decode cL_sieves 71 = .ok (.ishr, 1) := by decide +kernel
theorem dL_sieves_72 : decode cL_sieves 72 = .ok (.iconst 3, 1) := by decide +kernel
theorem dL_sieves_73 : decode cL_sieves 73 = .ok (.invokestatic 33, 3) := by decide +kernel
theorem dL_sieves_76 : decode cL_sieves 76 = .ok (.iadd, 1) := by decide +kernel
theorem dL_sieves_77 : decode cL_sieves 77 = .ok (.invokevirtual 49, 3) := by decide +kernel
theorem dL_sieves_80 : decode cL_sieves 80 = .ok (.ldc 70, 2) := by decide +kernel
theorem dL_sieves_82 : decode cL_sieves 82 = .ok (.invokevirtual 41, 3) := by decide +kernel
theorem dL_sieves_85 : decode cL_sieves 85 = .ok (.iconst 2, 1) := by decide +kernel
theorem dL_sieves_86 : decode cL_sieves 86 = .ok (.iload_n 3, 1) := by decide +kernel
theorem dL_sieves_87 : decode cL_sieves 87 = .ok (.bipush 7, 2) := by decide +kernel
theorem dL_sieves_89 : decode cL_sieves 89 = .ok (.ishr, 1) := by decide +kernel
theorem dL_sieves_90 : decode cL_sieves 90 = .ok (.bipush 60, 2) := by decide +kernel
theorem dL_sieves_92 : decode cL_sieves 92 = .ok (.invokestatic 33, 3) := by decide +kernel
theorem dL_sieves_95 : decode cL_sieves 95 = .ok (.iadd, 1) := by decide +kernel
theorem dL_sieves_96 : decode cL_sieves 96 = .ok (.invokevirtual 49, 3) := by decide +kernel
theorem dL_sieves_99 : decode cL_sieves 99 = .ok (.bipush 32, 2) := by decide +kernel
theorem dL_sieves_101 : decode cL_sieves 101 = .ok (.invokevirtual 56, 3) := by decide +kernel
theorem dL_sieves_104 : decode cL_sieves 104 = .ok (.pop, 1) := by decide +kernel
theorem dL_sieves_105 : decode cL_sieves 105 = .ok (.aload_n 1, 1) := by decide +kernel
theorem dL_sieves_106 : decode cL_sieves 106 = .ok (.iload_n 3, 1) := by decide +kernel
theorem dL_sieves_107 : decode cL_sieves 107 = .ok (.invokestatic 72, 3) := by decide +kernel
theorem dL_sieves_110 : decode cL_sieves 110 = .ok (.aload_n 1, 1) := by decide +kernel
theorem dL_sieves_111 : decode cL_sieves 111 = .ok (.bipush 59, 2) := by decide +kernel
theorem dL_sieves_113 : decode cL_sieves 113 = .ok (.invokevirtual 56, 3) := by decide +kernel
theorem dL_sieves_116 : decode cL_sieves 116 = .ok (.pop, 1) := by decide +kernel
theorem dL_sieves_117 : decode cL_sieves 117 = .ok (.iinc 2 1, 3) := by decide +kernel
theorem dL_sieves_120 : decode cL_sieves 120 = .ok (.goto (-110), 3) := by decide +kernel
theorem dL_sieves_123 : decode cL_sieves 123 = .ok (.aload_n 0, 1) := by decide +kernel
theorem dL_sieves_124 : decode cL_sieves 124 = .ok (.iconst 4, 1) := by decide +kernel
theorem dL_sieves_125 : decode cL_sieves 125 = .ok (.invokestatic 60, 3) := by decide +kernel
theorem dL_sieves_128 : decode cL_sieves 128 = .ok (.bipush 20, 2) := by decide +kernel
theorem dL_sieves_130 : decode cL_sieves 130 = .ok (.invokestatic 33, 3) := by decide +kernel
theorem dL_sieves_133 : decode cL_sieves 133 = .ok (.istore_n 2, 1) := by decide +kernel
theorem dL_sieves_134 : decode cL_sieves 134 = .ok (.aload_n 1, 1) := by decide +kernel
theorem dL_sieves_135 : decode cL_sieves 135 = .ok (.ldc 76, 2) := by decide +kernel
theorem dL_sieves_137 : decode cL_sieves 137 = .ok (.invokevirtual 41, 3) := by decide +kernel
theorem dL_sieves_140 : decode cL_sieves 140 = .ok (.iload_n 2, 1) := by decide +kernel
theorem dL_sieves_141 : decode cL_sieves 141 = .ok (.invokevirtual 49, 3) := by decide +kernel
theorem dL_sieves_144 : decode cL_sieves 144 = .ok (.bipush 32, 2) := by decide +kernel
theorem dL_sieves_146 : decode cL_sieves 146 = .ok (.invokevirtual 56, 3) := by decide +kernel
theorem dL_sieves_149 : decode cL_sieves 149 = .ok (.iload_n 2, 1) := by decide +kernel
theorem dL_sieves_150 : decode cL_sieves 150 = .ok (.iconst 1, 1) := by decide +kernel
theorem dL_sieves_151 : decode cL_sieves 151 = .ok (.iadd, 1) := by decide +kernel
theorem dL_sieves_152 : decode cL_sieves 152 = .ok (.aload_n 0, 1) := by decide +kernel
theorem dL_sieves_153 : decode cL_sieves 153 = .ok (.iconst 4, 1) := by decide +kernel
theorem dL_sieves_154 : decode cL_sieves 154 = .ok (.invokestatic 60, 3) := by decide +kernel
theorem dL_sieves_157 : decode cL_sieves 157 = .ok (.iconst 5, 1) := by decide +kernel
theorem dL_sieves_158 : decode cL_sieves 158 = .ok (.ishr, 1) := by decide +kernel
theorem dL_sieves_159 : decode cL_sieves 159 = .ok (.bipush 9, 2) := by decide +kernel
theorem dL_sieves_161 : decode cL_sieves 161 = .ok (.invokestatic 33, 3) := by decide +kernel
theorem dL_sieves_164 : decode cL_sieves 164 = .ok (.iadd, 1) := by decide +kernel
theorem dL_sieves_165 : decode cL_sieves 165 = .ok (.invokevirtual 49, 3) := by decide +kernel
theorem dL_sieves_168 : decode cL_sieves 168 = .ok (.bipush 59, 2) := by decide +kernel
theorem dL_sieves_170 : decode cL_sieves 170 = .ok (.invokevirtual 56, 3) := by decide +kernel
theorem dL_sieves_173 : decode cL_sieves 173 = .ok (.invokevirtual 78, 3) := by decide +kernel
theorem dL_sieves_176 : decode cL_sieves 176 = .ok (.areturn, 1) := by decide +kernel
theorem dL_row_0 : decode cL_row 0 = .ok (.aload_n 0, 1) := by decide +kernel
theorem dL_row_1 : decode cL_row 1 = .ok (.iload_n 1, 1) := by decide +kernel
theorem dL_row_2 : decode cL_row 2 = .ok (.iconst 4, 1) := by decide +kernel
theorem dL_row_3 : decode cL_row 3 = .ok (.invokevirtual 82, 3) := by decide +kernel
theorem dL_row_6 : decode cL_row 6 = .ok (.newarray .int, 2) := by decide +kernel
theorem dL_row_8 : decode cL_row 8 = .ok (.astore_n 2, 1) := by decide +kernel
theorem dL_row_9 : decode cL_row 9 = .ok (.iconst 1, 1) := by decide +kernel
theorem dL_row_10 : decode cL_row 10 = .ok (.istore_n 3, 1) := by decide +kernel
theorem dL_row_11 : decode cL_row 11 = .ok (.iload_n 3, 1) := by decide +kernel
theorem dL_row_12 : decode cL_row 12 = .ok (.aload_n 2, 1) := by decide +kernel
theorem dL_row_13 : decode cL_row 13 = .ok (.arraylength, 1) := by decide +kernel
theorem dL_row_14 : decode cL_row 14 = .ok (.if_icmp .gt 20, 3) := by decide +kernel
theorem dL_row_17 : decode cL_row 17 = .ok (.aload_n 2, 1) := by decide +kernel
theorem dL_row_18 : decode cL_row 18 = .ok (.iload_n 3, 1) := by decide +kernel
theorem dL_row_19 : decode cL_row 19 = .ok (.iconst 1, 1) := by decide +kernel
theorem dL_row_20 : decode cL_row 20 = .ok (.isub, 1) := by decide +kernel
theorem dL_row_21 : decode cL_row 21 = .ok (.aload_n 0, 1) := by decide +kernel
theorem dL_row_22 : decode cL_row 22 = .ok (.iload_n 1, 1) := by decide +kernel
theorem dL_row_23 : decode cL_row 23 = .ok (.iload_n 3, 1) := by decide +kernel
theorem dL_row_24 : decode cL_row 24 = .ok (.invokevirtual 85, 3) := by decide +kernel
theorem dL_row_27 : decode cL_row 27 = .ok (.iastore, 1) := by decide +kernel
theorem dL_row_28 : decode cL_row 28 = .ok (.iinc 3 1, 3) := by decide +kernel
theorem dL_row_31 : decode cL_row 31 = .ok (.goto (-20), 3) := by decide +kernel
theorem dL_row_34 : decode cL_row 34 = .ok (.aload_n 2, 1) := by decide +kernel
theorem dL_row_35 : decode cL_row 35 = .ok (.areturn, 1) := by decide +kernel
theorem dL_gapOf_0 : decode cL_gapOf 0 = .ok (.aload_n 0, 1) := by decide +kernel
theorem dL_gapOf_1 : decode cL_gapOf 1 = .ok (.iload_n 1, 1) := by decide +kernel
theorem dL_gapOf_2 : decode cL_gapOf 2 = .ok (.iconst 0, 1) := by decide +kernel
theorem dL_gapOf_3 : decode cL_gapOf 3 = .ok (.invokevirtual 82, 3) := by decide +kernel
theorem dL_gapOf_6 : decode cL_gapOf 6 = .ok (.tableswitch 130 1 5 #[34, 130, 130, 38, 70], 34) := by decide +kernel
theorem dL_gapOf_40 : decode cL_gapOf 40 = .ok (.iload_n 3, 1) := by decide +kernel
theorem dL_gapOf_41 : decode cL_gapOf 41 = .ok (.iconst 1, 1) := by decide +kernel
theorem dL_gapOf_42 : decode cL_gapOf 42 = .ok (.iadd, 1) := by decide +kernel
theorem dL_gapOf_43 : decode cL_gapOf 43 = .ok (.ireturn, 1) := by decide +kernel
theorem dL_gapOf_44 : decode cL_gapOf 44 = .ok (.iload_n 3, 1) := by decide +kernel
theorem dL_gapOf_45 : decode cL_gapOf 45 = .ok (.iconst 1, 1) := by decide +kernel
theorem dL_gapOf_46 : decode cL_gapOf 46 = .ok (.iload 4, 2) := by decide +kernel
theorem dL_gapOf_48 : decode cL_gapOf 48 = .ok (.bipush 6, 2) := by decide +kernel
theorem dL_gapOf_50 : decode cL_gapOf 50 = .ok (.ishr, 1) := by decide +kernel
theorem dL_gapOf_51 : decode cL_gapOf 51 = .ok (.bipush 6, 2) := by decide +kernel
theorem dL_gapOf_53 : decode cL_gapOf 53 = .ok (.invokestatic 33, 3) := by decide +kernel
theorem dL_gapOf_56 : decode cL_gapOf 56 = .ok (.iadd, 1) := by decide +kernel
theorem dL_gapOf_57 : decode cL_gapOf 57 = .ok (.if_icmp .gt 17, 3) := by decide +kernel
theorem dL_gapOf_60 : decode cL_gapOf 60 = .ok (.iconst 2, 1) := by decide +kernel
theorem dL_gapOf_61 : decode cL_gapOf 61 = .ok (.iload 4, 2) := by decide +kernel
theorem dL_gapOf_63 : decode cL_gapOf 63 = .ok (.iconst 3, 1) := by decide +kernel
theorem dL_gapOf_64 : decode cL_gapOf 64 = .ok (.ishr, 1) := by decide +kernel
theorem dL_gapOf_65 : decode cL_gapOf 65 = .ok (.bipush 9, 2) := by decide +kernel
theorem dL_gapOf_67 : decode cL_gapOf 67 = .ok (.invokestatic 33, 3) := by decide +kernel
theorem dL_gapOf_70 : decode cL_gapOf 70 = .ok (.iadd, 1) := by decide +kernel
theorem dL_gapOf_71 : decode cL_gapOf 71 = .ok (.goto 4, 3) := by decide +kernel
theorem dL_gapOf_74 : decode cL_gapOf 74 = .ok (.iconst 0, 1) := by decide +kernel
theorem dL_gapOf_75 : decode cL_gapOf 75 = .ok (.ireturn, 1) := by decide +kernel
theorem dL_gapOf_76 : decode cL_gapOf 76 = .ok (.iload_n 3, 1) := by decide +kernel
theorem dL_gapOf_77 : decode cL_gapOf 77 = .ok (.iconst 3, 1) := by decide +kernel
theorem dL_gapOf_78 : decode cL_gapOf 78 = .ok (.if_icmp .le 7, 3) := by decide +kernel
theorem dL_gapOf_81 : decode cL_gapOf 81 = .ok (.iconst 0, 1) := by decide +kernel
theorem dL_gapOf_82 : decode cL_gapOf 82 = .ok (.goto 53, 3) := by decide +kernel
theorem dL_gapOf_85 : decode cL_gapOf 85 = .ok (.iload_n 3, 1) := by decide +kernel
theorem dL_gapOf_86 : decode cL_gapOf 86 = .ok (.iconst 1, 1) := by decide +kernel
theorem dL_gapOf_87 : decode cL_gapOf 87 = .ok (.if_icmp .ne 17, 3) := by decide +kernel
theorem dL_gapOf_90 : decode cL_gapOf 90 = .ok (.iconst 2, 1) := by decide +kernel
theorem dL_gapOf_91 : decode cL_gapOf 91 = .ok (.iload 4, 2) := by decide +kernel
theorem dL_gapOf_93 : decode cL_gapOf 93 = .ok (.iconst 3, 1) := by decide +kernel
theorem dL_gapOf_94 : decode cL_gapOf 94 = .ok (.ishr, 1) := by decide +kernel
theorem dL_gapOf_95 : decode cL_gapOf 95 = .ok (.bipush 9, 2) := by decide +kernel
theorem dL_gapOf_97 : decode cL_gapOf 97 = .ok (.invokestatic 33, 3) := by decide +kernel
theorem dL_gapOf_100 : decode cL_gapOf 100 = .ok (.iadd, 1) := by decide +kernel
theorem dL_gapOf_101 : decode cL_gapOf 101 = .ok (.goto 34, 3) := by decide +kernel
theorem dL_gapOf_104 : decode cL_gapOf 104 = .ok (.iload_n 3, 1) := by decide +kernel
theorem dL_gapOf_105 : decode cL_gapOf 105 = .ok (.iconst 2, 1) := by decide +kernel
theorem dL_gapOf_106 : decode cL_gapOf 106 = .ok (.if_icmp .ne 18, 3) := by decide +kernel
theorem dL_gapOf_109 : decode cL_gapOf 109 = .ok (.iconst 2, 1) := by decide +kernel
theorem dL_gapOf_110 : decode cL_gapOf 110 = .ok (.iload 4, 2) := by decide +kernel
theorem dL_gapOf_112 : decode cL_gapOf 112 = .ok (.bipush 6, 2) := by decide +kernel
theorem dL_gapOf_114 : decode cL_gapOf 114 = .ok (.ishr, 1) := by decide +kernel
theorem dL_gapOf_115 : decode cL_gapOf 115 = .ok (.bipush 30, 2) := by decide +kernel
theorem dL_gapOf_117 : decode cL_gapOf 117 = .ok (.invokestatic 33, 3) := by decide +kernel
theorem dL_gapOf_120 : decode cL_gapOf 120 = .ok (.iadd, 1) := by decide +kernel
theorem dL_gapOf_121 : decode cL_gapOf 121 = .ok (.goto 14, 3) := by decide +kernel
theorem dL_gapOf_124 : decode cL_gapOf 124 = .ok (.iconst 2, 1) := by decide +kernel
theorem dL_gapOf_125 : decode cL_gapOf 125 = .ok (.iload 4, 2) := by decide +kernel
theorem dL_gapOf_127 : decode cL_gapOf 127 = .ok (.bipush 8, 2) := by decide +kernel
theorem dL_gapOf_129 : decode cL_gapOf 129 = .ok (.ishr, 1) := by decide +kernel
theorem dL_gapOf_130 : decode cL_gapOf 130 = .ok (.iconst 5, 1) := by decide +kernel
theorem dL_gapOf_131 : decode cL_gapOf 131 = .ok (.invokestatic 33, 3) := by decide +kernel
theorem dL_gapOf_134 : decode cL_gapOf 134 = .ok (.iadd, 1) := by decide +kernel
theorem dL_gapOf_135 : decode cL_gapOf 135 = .ok (.ireturn, 1) := by decide +kernel
theorem dL_gapOf_136 : decode cL_gapOf 136 = .ok (.iload_n 3, 1) := by decide +kernel
theorem dL_gapOf_137 : decode cL_gapOf 137 = .ok (.aload_n 2, 1) := by decide +kernel
theorem dL_gapOf_138 : decode cL_gapOf 138 = .ok (.arraylength, 1) := by decide +kernel
theorem dL_gapOf_139 : decode cL_gapOf 139 = .ok (.if_icmp .ge 9, 3) := by decide +kernel
theorem dL_gapOf_142 : decode cL_gapOf 142 = .ok (.aload_n 2, 1) := by decide +kernel
theorem dL_gapOf_143 : decode cL_gapOf 143 = .ok (.iload_n 3, 1) := by decide +kernel
theorem dL_gapOf_144 : decode cL_gapOf 144 = .ok (.iaload, 1) := by decide +kernel
theorem dL_gapOf_145 : decode cL_gapOf 145 = .ok (.goto 4, 3) := by decide +kernel
theorem dL_gapOf_148 : decode cL_gapOf 148 = .ok (.iconst 0, 1) := by decide +kernel
theorem dL_gapOf_149 : decode cL_gapOf 149 = .ok (.ireturn, 1) := by decide +kernel
theorem dL_strikes_0 : decode cL_strikes 0 = .ok (.iload_n 0, 1) := by decide +kernel
theorem dL_strikes_1 : decode cL_strikes 1 = .ok (.iconst 2, 1) := by decide +kernel
theorem dL_strikes_2 : decode cL_strikes 2 = .ok (.if_icmp .ne 28, 3) := by decide +kernel
theorem dL_strikes_5 : decode cL_strikes 5 = .ok (.iload 4, 2) := by decide +kernel
theorem dL_strikes_7 : decode cL_strikes 7 = .ok (.iload_n 2, 1) := by decide +kernel
theorem dL_strikes_8 : decode cL_strikes 8 = .ok (.iconst 1, 1) := by decide +kernel
theorem dL_strikes_9 : decode cL_strikes 9 = .ok (.iadd, 1) := by decide +kernel
theorem dL_strikes_10 : decode cL_strikes 10 = .ok (.if_icmp .le 18, 3) := by decide +kernel
theorem dL_strikes_13 : decode cL_strikes 13 = .ok (.iload 4, 2) := by decide +kernel
theorem dL_strikes_15 : decode cL_strikes 15 = .ok (.iload_n 2, 1) := by decide +kernel
theorem dL_strikes_16 : decode cL_strikes 16 = .ok (.isub, 1) := by decide +kernel
theorem dL_strikes_17 : decode cL_strikes 17 = .ok (.iconst 1, 1) := by decide +kernel
theorem dL_strikes_18 : decode cL_strikes 18 = .ok (.isub, 1) := by decide +kernel
theorem dL_strikes_19 : decode cL_strikes 19 = .ok (.iload_n 3, 1) := by decide +kernel
theorem dL_strikes_20 : decode cL_strikes 20 = .ok (.irem, 1) := by decide +kernel
theorem dL_strikes_21 : decode cL_strikes 21 = .ok (.ifCond .ne 7, 3) := by decide +kernel
theorem dL_strikes_24 : decode cL_strikes 24 = .ok (.iconst 1, 1) := by decide +kernel
theorem dL_strikes_25 : decode cL_strikes 25 = .ok (.goto 4, 3) := by decide +kernel
theorem dL_strikes_28 : decode cL_strikes 28 = .ok (.iconst 0, 1) := by decide +kernel
theorem dL_strikes_29 : decode cL_strikes 29 = .ok (.ireturn, 1) := by decide +kernel
theorem dL_strikes_30 : decode cL_strikes 30 = .ok (.iload_n 0, 1) := by decide +kernel
theorem dL_strikes_31 : decode cL_strikes 31 = .ok (.iconst 3, 1) := by decide +kernel
theorem dL_strikes_32 : decode cL_strikes 32 = .ok (.if_icmp .ne 28, 3) := by decide +kernel
theorem dL_strikes_35 : decode cL_strikes 35 = .ok (.iload 4, 2) := by decide +kernel
theorem dL_strikes_37 : decode cL_strikes 37 = .ok (.iload_n 2, 1) := by decide +kernel
theorem dL_strikes_38 : decode cL_strikes 38 = .ok (.iconst 1, 1) := by decide +kernel
theorem dL_strikes_39 : decode cL_strikes 39 = .ok (.iadd, 1) := by decide +kernel
theorem dL_strikes_40 : decode cL_strikes 40 = .ok (.if_icmp .le 18, 3) := by decide +kernel
theorem dL_strikes_43 : decode cL_strikes 43 = .ok (.aload_n 1, 1) := by decide +kernel
theorem dL_strikes_44 : decode cL_strikes 44 = .ok (.iload 4, 2) := by decide +kernel
theorem dL_strikes_46 : decode cL_strikes 46 = .ok (.iconst 1, 1) := by decide +kernel
theorem dL_strikes_47 : decode cL_strikes 47 = .ok (.isub, 1) := by decide +kernel
theorem dL_strikes_48 : decode cL_strikes 48 = .ok (.iaload, 1) := by decide +kernel
theorem dL_strikes_49 : decode cL_strikes 49 = .ok (.iload_n 3, 1) := by decide +kernel
theorem dL_strikes_50 : decode cL_strikes 50 = .ok (.irem, 1) := by decide +kernel
theorem dL_strikes_51 : decode cL_strikes 51 = .ok (.ifCond .ne 7, 3) := by decide +kernel
theorem dL_strikes_54 : decode cL_strikes 54 = .ok (.iconst 1, 1) := by decide +kernel
theorem dL_strikes_55 : decode cL_strikes 55 = .ok (.goto 4, 3) := by decide +kernel
theorem dL_strikes_58 : decode cL_strikes 58 = .ok (.iconst 0, 1) := by decide +kernel
theorem dL_strikes_59 : decode cL_strikes 59 = .ok (.ireturn, 1) := by decide +kernel
theorem dL_strikes_60 : decode cL_strikes 60 = .ok (.iload 4, 2) := by decide +kernel
theorem dL_strikes_62 : decode cL_strikes 62 = .ok (.iload_n 3, 1) := by decide +kernel
theorem dL_strikes_63 : decode cL_strikes 63 = .ok (.irem, 1) := by decide +kernel
theorem dL_strikes_64 : decode cL_strikes 64 = .ok (.ifCond .ne 7, 3) := by decide +kernel
theorem dL_strikes_67 : decode cL_strikes 67 = .ok (.iconst 1, 1) := by decide +kernel
theorem dL_strikes_68 : decode cL_strikes 68 = .ok (.goto 4, 3) := by decide +kernel
theorem dL_strikes_71 : decode cL_strikes 71 = .ok (.iconst 0, 1) := by decide +kernel
theorem dL_strikes_72 : decode cL_strikes 72 = .ok (.ireturn, 1) := by decide +kernel
theorem dL_isRound_0 : decode cL_isRound 0 = .ok (.aload_n 0, 1) := by decide +kernel
theorem dL_isRound_1 : decode cL_isRound 1 = .ok (.iload_n 1, 1) := by decide +kernel
theorem dL_isRound_2 : decode cL_isRound 2 = .ok (.invokestatic 88, 3) := by decide +kernel
theorem dL_isRound_5 : decode cL_isRound 5 = .ok (.astore_n 3, 1) := by decide +kernel
theorem dL_isRound_6 : decode cL_isRound 6 = .ok (.aload_n 0, 1) := by decide +kernel
theorem dL_isRound_7 : decode cL_isRound 7 = .ok (.iload_n 1, 1) := by decide +kernel
theorem dL_isRound_8 : decode cL_isRound 8 = .ok (.iconst 0, 1) := by decide +kernel
theorem dL_isRound_9 : decode cL_isRound 9 = .ok (.invokevirtual 82, 3) := by decide +kernel
theorem dL_isRound_12 : decode cL_isRound 12 = .ok (.istore 4, 2) := by decide +kernel
theorem dL_isRound_14 : decode cL_isRound 14 = .ok (.aload_n 0, 1) := by decide +kernel
theorem dL_isRound_15 : decode cL_isRound 15 = .ok (.iload_n 1, 1) := by decide +kernel
theorem dL_isRound_16 : decode cL_isRound 16 = .ok (.iconst 5, 1) := by decide +kernel
theorem dL_isRound_17 : decode cL_isRound 17 = .ok (.invokevirtual 82, 3) := by decide +kernel
theorem dL_isRound_20 : decode cL_isRound 20 = .ok (.iconst 1, 1) := by decide +kernel
theorem dL_isRound_21 : decode cL_isRound 21 = .ok (.iadd, 1) := by decide +kernel
theorem dL_isRound_22 : decode cL_isRound 22 = .ok (.istore 5, 2) := by decide +kernel
theorem dL_isRound_24 : decode cL_isRound 24 = .ok (.aload_n 0, 1) := by decide +kernel
theorem dL_isRound_25 : decode cL_isRound 25 = .ok (.iload_n 1, 1) := by decide +kernel
theorem dL_isRound_26 : decode cL_isRound 26 = .ok (.aload_n 3, 1) := by decide +kernel
theorem dL_isRound_27 : decode cL_isRound 27 = .ok (.iload 5, 2) := by decide +kernel
theorem dL_isRound_29 : decode cL_isRound 29 = .ok (.iload_n 2, 1) := by decide +kernel
theorem dL_isRound_30 : decode cL_isRound 30 = .ok (.invokestatic 92, 3) := by decide +kernel
theorem dL_isRound_33 : decode cL_isRound 33 = .ok (.istore 6, 2) := by decide +kernel
theorem dL_isRound_35 : decode cL_isRound 35 = .ok (.aload_n 3, 1) := by decide +kernel
theorem dL_isRound_36 : decode cL_isRound 36 = .ok (.arraylength, 1) := by decide +kernel
theorem dL_isRound_37 : decode cL_isRound 37 = .ok (.newarray .int, 2) := by decide +kernel
theorem dL_isRound_39 : decode cL_isRound 39 = .ok (.astore 7, 2) := by decide +kernel
theorem dL_isRound_41 : decode cL_isRound 41 = .ok (.iconst 0, 1) := by decide +kernel
theorem dL_isRound_42 : decode cL_isRound 42 = .ok (.istore 8, 2) := by decide +kernel
theorem dL_isRound_44 : decode cL_isRound 44 = .ok (.iconst (-1), 1) := by decide +kernel
theorem dL_isRound_45 : decode cL_isRound 45 = .ok (.istore 9, 2) := by decide +kernel
theorem dL_isRound_47 : decode cL_isRound 47 = .ok (.iconst 1, 1) := by decide +kernel
theorem dL_isRound_48 : decode cL_isRound 48 = .ok (.istore 10, 2) := by decide +kernel
theorem dL_isRound_50 : decode cL_isRound 50 = .ok (.iload 10, 2) := by decide +kernel
theorem dL_isRound_52 : decode cL_isRound 52 = .ok (.aload_n 3, 1) := by decide +kernel
theorem dL_isRound_53 : decode cL_isRound 53 = .ok (.arraylength, 1) := by decide +kernel
theorem dL_isRound_54 : decode cL_isRound 54 = .ok (.if_icmp .gt 60, 3) := by decide +kernel
theorem dL_isRound_57 : decode cL_isRound 57 = .ok (.iload 6, 2) := by decide +kernel
theorem dL_isRound_59 : decode cL_isRound 59 = .ok (.iconst 2, 1) := by decide +kernel
theorem dL_isRound_60 : decode cL_isRound 60 = .ok (.if_icmp .lt 34, 3) := by decide +kernel
theorem dL_isRound_63 : decode cL_isRound 63 = .ok (.iload 4, 2) := by decide +kernel
theorem dL_isRound_65 : decode cL_isRound 65 = .ok (.aload_n 3, 1) := by decide +kernel
theorem dL_isRound_66 : decode cL_isRound 66 = .ok (.iload 5, 2) := by decide +kernel
theorem dL_isRound_68 : decode cL_isRound 68 = .ok (.iload 6, 2) := by decide +kernel
theorem dL_isRound_70 : decode cL_isRound 70 = .ok (.iload 10, 2) := by decide +kernel
theorem dL_isRound_72 : decode cL_isRound 72 = .ok (.invokestatic 96, 3) := by decide +kernel
theorem dL_isRound_75 : decode cL_isRound 75 = .ok (.ifCond .eq 19, 3) := by decide +kernel
theorem dL_isRound_78 : decode cL_isRound 78 = .ok (.iload 9, 2) := by decide +kernel
theorem dL_isRound_80 : decode cL_isRound 80 = .ok (.ifCond .ge 28, 3) := by decide +kernel
theorem dL_isRound_83 : decode cL_isRound 83 = .ok (.aload_n 3, 1) := by decide +kernel
theorem dL_isRound_84 : decode cL_isRound 84 = .ok (.iload 10, 2) := by decide +kernel
theorem dL_isRound_86 : decode cL_isRound 86 = .ok (.iconst 1, 1) := by decide +kernel
theorem dL_isRound_87 : decode cL_isRound 87 = .ok (.isub, 1) := by decide +kernel
theorem dL_isRound_88 : decode cL_isRound 88 = .ok (.iaload, 1) := by decide +kernel
theorem dL_isRound_89 : decode cL_isRound 89 = .ok (.istore 9, 2) := by decide +kernel
theorem dL_isRound_91 : decode cL_isRound 91 = .ok (.goto 17, 3) := by decide +kernel
theorem dL_isRound_94 : decode cL_isRound 94 = .ok (.aload 7, 2) := by decide +kernel
theorem dL_isRound_96 : decode cL_isRound 96 = .ok (.iload 8, 2) := by decide +kernel
theorem dL_isRound_98 : decode cL_isRound 98 = .ok (.aload_n 3, 1) := by decide +kernel
theorem dL_isRound_99 : decode cL_isRound 99 = .ok (.iload 10, 2) := by decide +kernel
theorem dL_isRound_101 : decode cL_isRound 101 = .ok (.iconst 1, 1) := by decide +kernel
theorem dL_isRound_102 : decode cL_isRound 102 = .ok (.isub, 1) := by decide +kernel
theorem dL_isRound_103 : decode cL_isRound 103 = .ok (.iaload, 1) := by decide +kernel
theorem dL_isRound_104 : decode cL_isRound 104 = .ok (.iastore, 1) := by decide +kernel
theorem dL_isRound_105 : decode cL_isRound 105 = .ok (.iinc 8 1, 3) := by decide +kernel
theorem dL_isRound_108 : decode cL_isRound 108 = .ok (.iinc 10 1, 3) := by decide +kernel
theorem dL_isRound_111 : decode cL_isRound 111 = .ok (.goto (-61), 3) := by decide +kernel
theorem dL_isRound_114 : decode cL_isRound 114 = .ok (.iload 6, 2) := by decide +kernel
theorem dL_isRound_116 : decode cL_isRound 116 = .ok (.iconst 2, 1) := by decide +kernel
theorem dL_isRound_117 : decode cL_isRound 117 = .ok (.if_icmp .lt 16, 3) := by decide +kernel
theorem dL_isRound_120 : decode cL_isRound 120 = .ok (.iload 4, 2) := by decide +kernel
theorem dL_isRound_122 : decode cL_isRound 122 = .ok (.iconst 4, 1) := by decide +kernel
theorem dL_isRound_123 : decode cL_isRound 123 = .ok (.if_icmp .ge 14, 3) := by decide +kernel
theorem dL_isRound_126 : decode cL_isRound 126 = .ok (.iload 8, 2) := by decide +kernel
theorem dL_isRound_128 : decode cL_isRound 128 = .ok (.aload_n 3, 1) := by decide +kernel
theorem dL_isRound_129 : decode cL_isRound 129 = .ok (.arraylength, 1) := by decide +kernel
theorem dL_isRound_130 : decode cL_isRound 130 = .ok (.if_icmp .ne 7, 3) := by decide +kernel
theorem dL_isRound_133 : decode cL_isRound 133 = .ok (.iconst 1, 1) := by decide +kernel
theorem dL_isRound_134 : decode cL_isRound 134 = .ok (.goto 4, 3) := by decide +kernel
theorem dL_isRound_137 : decode cL_isRound 137 = .ok (.iconst 0, 1) := by decide +kernel
theorem dL_isRound_138 : decode cL_isRound 138 = .ok (.istore 10, 2) := by decide +kernel
theorem dL_isRound_140 : decode cL_isRound 140 = .ok (.aload_n 0, 1) := by decide +kernel
theorem dL_isRound_141 : decode cL_isRound 141 = .ok (.iload_n 1, 1) := by decide +kernel
theorem dL_isRound_142 : decode cL_isRound 142 = .ok (.bipush 6, 2) := by decide +kernel
theorem dL_isRound_144 : decode cL_isRound 144 = .ok (.invokevirtual 82, 3) := by decide +kernel
theorem dL_isRound_147 : decode cL_isRound 147 = .ok (.iload 10, 2) := by decide +kernel
theorem dL_isRound_149 : decode cL_isRound 149 = .ok (.ifCond .eq 7, 3) := by decide +kernel
theorem dL_isRound_152 : decode cL_isRound 152 = .ok (.iconst 1, 1) := by decide +kernel
theorem dL_isRound_153 : decode cL_isRound 153 = .ok (.goto 4, 3) := by decide +kernel
theorem dL_isRound_156 : decode cL_isRound 156 = .ok (.iconst 0, 1) := by decide +kernel
theorem dL_isRound_157 : decode cL_isRound 157 = .ok (.if_icmp .eq 5, 3) := by decide +kernel
theorem dL_isRound_160 : decode cL_isRound 160 = .ok (.iconst 0, 1) := by decide +kernel
theorem dL_isRound_161 : decode cL_isRound 161 = .ok (.ireturn, 1) := by decide +kernel
theorem dL_isRound_162 : decode cL_isRound 162 = .ok (.aload_n 0, 1) := by decide +kernel
theorem dL_isRound_163 : decode cL_isRound 163 = .ok (.iload_n 1, 1) := by decide +kernel
theorem dL_isRound_164 : decode cL_isRound 164 = .ok (.invokevirtual 100, 3) := by decide +kernel
theorem dL_isRound_167 : decode cL_isRound 167 = .ok (.istore 11, 2) := by decide +kernel
theorem dL_isRound_169 : decode cL_isRound 169 = .ok (.iload 10, 2) := by decide +kernel
theorem dL_isRound_171 : decode cL_isRound 171 = .ok (.ifCond .eq 40, 3) := by decide +kernel
theorem dL_isRound_174 : decode cL_isRound 174 = .ok (.iload 11, 2) := by decide +kernel
theorem dL_isRound_176 : decode cL_isRound 176 = .ok (.iconst (-1), 1) := by decide +kernel
theorem dL_isRound_177 : decode cL_isRound 177 = .ok (.if_icmp .ne 32, 3) := by decide +kernel
theorem dL_isRound_180 : decode cL_isRound 180 = .ok (.aload_n 0, 1) := by decide +kernel
theorem dL_isRound_181 : decode cL_isRound 181 = .ok (.invokevirtual 103, 3) := by decide +kernel
theorem dL_isRound_184 : decode cL_isRound 184 = .ok (.iconst 5, 1) := by decide +kernel
theorem dL_isRound_185 : decode cL_isRound 185 = .ok (.if_icmp .ne 24, 3) := by decide +kernel
theorem dL_isRound_188 : decode cL_isRound 188 = .ok (.aload_n 0, 1) := by decide +kernel
theorem dL_isRound_189 : decode cL_isRound 189 = .ok (.iload_n 1, 1) := by decide +kernel
theorem dL_isRound_190 : decode cL_isRound 190 = .ok (.invokevirtual 106, 3) := by decide +kernel
theorem dL_isRound_193 : decode cL_isRound 193 = .ok (.iconst (-1), 1) := by decide +kernel
theorem dL_isRound_194 : decode cL_isRound 194 = .ok (.if_icmp .ne 15, 3) := by decide +kernel
theorem dL_isRound_197 : decode cL_isRound 197 = .ok (.aload_n 0, 1) := by decide +kernel
theorem dL_isRound_198 : decode cL_isRound 198 = .ok (.invokevirtual 103, 3) := by decide +kernel
theorem dL_isRound_201 : decode cL_isRound 201 = .ok (.iconst 5, 1) := by decide +kernel
theorem dL_isRound_202 : decode cL_isRound 202 = .ok (.if_icmp .ne 7, 3) := by decide +kernel
theorem dL_isRound_205 : decode cL_isRound 205 = .ok (.iconst 1, 1) := by decide +kernel
theorem dL_isRound_206 : decode cL_isRound 206 = .ok (.goto 4, 3) := by decide +kernel
theorem dL_isRound_209 : decode cL_isRound 209 = .ok (.iconst 0, 1) := by decide +kernel
theorem dL_isRound_210 : decode cL_isRound 210 = .ok (.ireturn, 1) := by decide +kernel
theorem dL_isRound_211 : decode cL_isRound 211 = .ok (.iload 11, 2) := by decide +kernel
theorem dL_isRound_213 : decode cL_isRound 213 = .ok (.aload_n 3, 1) := by decide +kernel
theorem dL_isRound_214 : decode cL_isRound 214 = .ok (.arraylength, 1) := by decide +kernel
theorem dL_isRound_215 : decode cL_isRound 215 = .ok (.iload 8, 2) := by decide +kernel
theorem dL_isRound_217 : decode cL_isRound 217 = .ok (.isub, 1) := by decide +kernel
theorem dL_isRound_218 : decode cL_isRound 218 = .ok (.if_icmp .ne 53, 3) := by decide +kernel
theorem dL_isRound_221 : decode cL_isRound 221 = .ok (.aload_n 0, 1) := by decide +kernel
theorem dL_isRound_222 : decode cL_isRound 222 = .ok (.iload_n 1, 1) := by decide +kernel
theorem dL_isRound_223 : decode cL_isRound 223 = .ok (.iconst 5, 1) := by decide +kernel
theorem dL_isRound_224 : decode cL_isRound 224 = .ok (.invokevirtual 82, 3) := by decide +kernel
theorem dL_isRound_227 : decode cL_isRound 227 = .ok (.iload 5, 2) := by decide +kernel
theorem dL_isRound_229 : decode cL_isRound 229 = .ok (.if_icmp .ne 42, 3) := by decide +kernel
theorem dL_isRound_232 : decode cL_isRound 232 = .ok (.aload_n 0, 1) := by decide +kernel
theorem dL_isRound_233 : decode cL_isRound 233 = .ok (.iload_n 1, 1) := by decide +kernel
theorem dL_isRound_234 : decode cL_isRound 234 = .ok (.iload 5, 2) := by decide +kernel
theorem dL_isRound_236 : decode cL_isRound 236 = .ok (.iconst 0, 1) := by decide +kernel
theorem dL_isRound_237 : decode cL_isRound 237 = .ok (.invokevirtual 109, 3) := by decide +kernel
theorem dL_isRound_240 : decode cL_isRound 240 = .ok (.iload 6, 2) := by decide +kernel
theorem dL_isRound_242 : decode cL_isRound 242 = .ok (.if_icmp .ne 29, 3) := by decide +kernel
theorem dL_isRound_245 : decode cL_isRound 245 = .ok (.aload_n 0, 1) := by decide +kernel
theorem dL_isRound_246 : decode cL_isRound 246 = .ok (.iload_n 1, 1) := by decide +kernel
theorem dL_isRound_247 : decode cL_isRound 247 = .ok (.iload 5, 2) := by decide +kernel
theorem dL_isRound_249 : decode cL_isRound 249 = .ok (.iconst 1, 1) := by decide +kernel
theorem dL_isRound_250 : decode cL_isRound 250 = .ok (.invokevirtual 109, 3) := by decide +kernel
theorem dL_isRound_253 : decode cL_isRound 253 = .ok (.iload 11, 2) := by decide +kernel
theorem dL_isRound_255 : decode cL_isRound 255 = .ok (.if_icmp .ne 16, 3) := by decide +kernel
theorem dL_isRound_258 : decode cL_isRound 258 = .ok (.aload_n 0, 1) := by decide +kernel
theorem dL_isRound_259 : decode cL_isRound 259 = .ok (.iload_n 1, 1) := by decide +kernel
theorem dL_isRound_260 : decode cL_isRound 260 = .ok (.iload 5, 2) := by decide +kernel
theorem dL_isRound_262 : decode cL_isRound 262 = .ok (.iconst 3, 1) := by decide +kernel
theorem dL_isRound_263 : decode cL_isRound 263 = .ok (.invokevirtual 109, 3) := by decide +kernel
theorem dL_isRound_266 : decode cL_isRound 266 = .ok (.iload 8, 2) := by decide +kernel
theorem dL_isRound_268 : decode cL_isRound 268 = .ok (.if_icmp .eq 5, 3) := by decide +kernel
theorem dL_isRound_271 : decode cL_isRound 271 = .ok (.iconst 0, 1) := by decide +kernel
theorem dL_isRound_272 : decode cL_isRound 272 = .ok (.ireturn, 1) := by decide +kernel
theorem dL_isRound_273 : decode cL_isRound 273 = .ok (.iload 9, 2) := by decide +kernel
theorem dL_isRound_275 : decode cL_isRound 275 = .ok (.ifCond .ge 26, 3) := by decide +kernel
theorem dL_isRound_278 : decode cL_isRound 278 = .ok (.aload_n 0, 1) := by decide +kernel
theorem dL_isRound_279 : decode cL_isRound 279 = .ok (.iload_n 1, 1) := by decide +kernel
theorem dL_isRound_280 : decode cL_isRound 280 = .ok (.iload 5, 2) := by decide +kernel
theorem dL_isRound_282 : decode cL_isRound 282 = .ok (.iconst 2, 1) := by decide +kernel
theorem dL_isRound_283 : decode cL_isRound 283 = .ok (.invokevirtual 109, 3) := by decide +kernel
theorem dL_isRound_286 : decode cL_isRound 286 = .ok (.iconst (-1), 1) := by decide +kernel
theorem dL_isRound_287 : decode cL_isRound 287 = .ok (.if_icmp .ne 27, 3) := by decide +kernel
theorem dL_isRound_290 : decode cL_isRound 290 = .ok (.aload_n 0, 1) := by decide +kernel
theorem dL_isRound_291 : decode cL_isRound 291 = .ok (.invokevirtual 103, 3) := by decide +kernel
theorem dL_isRound_294 : decode cL_isRound 294 = .ok (.iconst 5, 1) := by decide +kernel
theorem dL_isRound_295 : decode cL_isRound 295 = .ok (.if_icmp .eq 21, 3) := by decide +kernel
theorem dL_isRound_298 : decode cL_isRound 298 = .ok (.goto 16, 3) := by decide +kernel
theorem dL_isRound_301 : decode cL_isRound 301 = .ok (.aload_n 0, 1) := by decide +kernel
theorem dL_isRound_302 : decode cL_isRound 302 = .ok (.iload_n 1, 1) := by decide +kernel
theorem dL_isRound_303 : decode cL_isRound 303 = .ok (.iload 5, 2) := by decide +kernel
theorem dL_isRound_305 : decode cL_isRound 305 = .ok (.iconst 2, 1) := by decide +kernel
theorem dL_isRound_306 : decode cL_isRound 306 = .ok (.invokevirtual 109, 3) := by decide +kernel
theorem dL_isRound_309 : decode cL_isRound 309 = .ok (.iload 9, 2) := by decide +kernel
theorem dL_isRound_311 : decode cL_isRound 311 = .ok (.if_icmp .eq 5, 3) := by decide +kernel
theorem dL_isRound_314 : decode cL_isRound 314 = .ok (.iconst 0, 1) := by decide +kernel
theorem dL_isRound_315 : decode cL_isRound 315 = .ok (.ireturn, 1) := by decide +kernel
theorem dL_isRound_316 : decode cL_isRound 316 = .ok (.aload_n 0, 1) := by decide +kernel
theorem dL_isRound_317 : decode cL_isRound 317 = .ok (.iload_n 1, 1) := by decide +kernel
theorem dL_isRound_318 : decode cL_isRound 318 = .ok (.invokestatic 88, 3) := by decide +kernel
theorem dL_isRound_321 : decode cL_isRound 321 = .ok (.astore 12, 2) := by decide +kernel
theorem dL_isRound_323 : decode cL_isRound 323 = .ok (.aload 12, 2) := by decide +kernel
theorem dL_isRound_325 : decode cL_isRound 325 = .ok (.arraylength, 1) := by decide +kernel
theorem dL_isRound_326 : decode cL_isRound 326 = .ok (.iload 8, 2) := by decide +kernel
theorem dL_isRound_328 : decode cL_isRound 328 = .ok (.if_icmp .eq 5, 3) := by decide +kernel
theorem dL_isRound_331 : decode cL_isRound 331 = .ok (.iconst 0, 1) := by decide +kernel
theorem dL_isRound_332 : decode cL_isRound 332 = .ok (.ireturn, 1) := by decide +kernel
theorem dL_isRound_333 : decode cL_isRound 333 = .ok (.iconst 0, 1) := by decide +kernel
theorem dL_isRound_334 : decode cL_isRound 334 = .ok (.istore 13, 2) := by decide +kernel
theorem dL_isRound_336 : decode cL_isRound 336 = .ok (.iload 13, 2) := by decide +kernel
theorem dL_isRound_338 : decode cL_isRound 338 = .ok (.iload 8, 2) := by decide +kernel
theorem dL_isRound_340 : decode cL_isRound 340 = .ok (.if_icmp .ge 24, 3) := by decide +kernel
theorem dL_isRound_343 : decode cL_isRound 343 = .ok (.aload 12, 2) := by decide +kernel
theorem dL_isRound_345 : decode cL_isRound 345 = .ok (.iload 13, 2) := by decide +kernel
theorem dL_isRound_347 : decode cL_isRound 347 = .ok (.iaload, 1) := by decide +kernel
theorem dL_isRound_348 : decode cL_isRound 348 = .ok (.aload 7, 2) := by decide +kernel
theorem dL_isRound_350 : decode cL_isRound 350 = .ok (.iload 13, 2) := by decide +kernel
theorem dL_isRound_352 : decode cL_isRound 352 = .ok (.iaload, 1) := by decide +kernel
theorem dL_isRound_353 : decode cL_isRound 353 = .ok (.if_icmp .eq 5, 3) := by decide +kernel
theorem dL_isRound_356 : decode cL_isRound 356 = .ok (.iconst 0, 1) := by decide +kernel
theorem dL_isRound_357 : decode cL_isRound 357 = .ok (.ireturn, 1) := by decide +kernel
theorem dL_isRound_358 : decode cL_isRound 358 = .ok (.iinc 13 1, 3) := by decide +kernel
theorem dL_isRound_361 : decode cL_isRound 361 = .ok (.goto (-25), 3) := by decide +kernel
theorem dL_isRound_364 : decode cL_isRound 364 = .ok (.aload_n 0, 1) := by decide +kernel
theorem dL_isRound_365 : decode cL_isRound 365 = .ok (.iload_n 1, 1) := by decide +kernel
theorem dL_isRound_366 : decode cL_isRound 366 = .ok (.iload 5, 2) := by decide +kernel
theorem dL_isRound_368 : decode cL_isRound 368 = .ok (.aload_n 3, 1) := by decide +kernel
theorem dL_isRound_369 : decode cL_isRound 369 = .ok (.aload 12, 2) := by decide +kernel
theorem dL_isRound_371 : decode cL_isRound 371 = .ok (.invokestatic 113, 3) := by decide +kernel
theorem dL_isRound_374 : decode cL_isRound 374 = .ok (.ireturn, 1) := by decide +kernel
theorem dL_leads_0 : decode cL_leads 0 = .ok (.iconst 1, 1) := by decide +kernel
theorem dL_leads_1 : decode cL_leads 1 = .ok (.istore 5, 2) := by decide +kernel
theorem dL_leads_3 : decode cL_leads 3 = .ok (.iload 5, 2) := by decide +kernel
theorem dL_leads_5 : decode cL_leads 5 = .ok (.aload 4, 2) := by decide +kernel
theorem dL_leads_7 : decode cL_leads 7 = .ok (.arraylength, 1) := by decide +kernel
theorem dL_leads_8 : decode cL_leads 8 = .ok (.if_icmp .gt 57, 3) := by decide +kernel
theorem dL_leads_11 : decode cL_leads 11 = .ok (.aload_n 0, 1) := by decide +kernel
theorem dL_leads_12 : decode cL_leads 12 = .ok (.iload_n 1, 1) := by decide +kernel
theorem dL_leads_13 : decode cL_leads 13 = .ok (.iload_n 2, 1) := by decide +kernel
theorem dL_leads_14 : decode cL_leads 14 = .ok (.iload 5, 2) := by decide +kernel
theorem dL_leads_16 : decode cL_leads 16 = .ok (.invokevirtual 117, 3) := by decide +kernel
theorem dL_leads_19 : decode cL_leads 19 = .ok (.istore 6, 2) := by decide +kernel
theorem dL_leads_21 : decode cL_leads 21 = .ok (.iload 6, 2) := by decide +kernel
theorem dL_leads_23 : decode cL_leads 23 = .ok (.iload 5, 2) := by decide +kernel
theorem dL_leads_25 : decode cL_leads 25 = .ok (.if_icmp .lt 32, 3) := by decide +kernel
theorem dL_leads_28 : decode cL_leads 28 = .ok (.aload_n 3, 1) := by decide +kernel
theorem dL_leads_29 : decode cL_leads 29 = .ok (.iload 6, 2) := by decide +kernel
theorem dL_leads_31 : decode cL_leads 31 = .ok (.iconst 1, 1) := by decide +kernel
theorem dL_leads_32 : decode cL_leads 32 = .ok (.isub, 1) := by decide +kernel
theorem dL_leads_33 : decode cL_leads 33 = .ok (.iaload, 1) := by decide +kernel
theorem dL_leads_34 : decode cL_leads 34 = .ok (.aload 4, 2) := by decide +kernel
theorem dL_leads_36 : decode cL_leads 36 = .ok (.iload 5, 2) := by decide +kernel
theorem dL_leads_38 : decode cL_leads 38 = .ok (.iconst 1, 1) := by decide +kernel
theorem dL_leads_39 : decode cL_leads 39 = .ok (.isub, 1) := by decide +kernel
theorem dL_leads_40 : decode cL_leads 40 = .ok (.iaload, 1) := by decide +kernel
theorem dL_leads_41 : decode cL_leads 41 = .ok (.if_icmp .ne 16, 3) := by decide +kernel
theorem dL_leads_44 : decode cL_leads 44 = .ok (.aload_n 0, 1) := by decide +kernel
theorem dL_leads_45 : decode cL_leads 45 = .ok (.iload_n 1, 1) := by decide +kernel
theorem dL_leads_46 : decode cL_leads 46 = .ok (.iload_n 2, 1) := by decide +kernel
theorem dL_leads_47 : decode cL_leads 47 = .ok (.iload 6, 2) := by decide +kernel
theorem dL_leads_49 : decode cL_leads 49 = .ok (.invokevirtual 120, 3) := by decide +kernel
theorem dL_leads_52 : decode cL_leads 52 = .ok (.iload 5, 2) := by decide +kernel
theorem dL_leads_54 : decode cL_leads 54 = .ok (.if_icmp .eq 5, 3) := by decide +kernel
theorem dL_leads_57 : decode cL_leads 57 = .ok (.iconst 0, 1) := by decide +kernel
theorem dL_leads_58 : decode cL_leads 58 = .ok (.ireturn, 1) := by decide +kernel
theorem dL_leads_59 : decode cL_leads 59 = .ok (.iinc 5 1, 3) := by decide +kernel
theorem dL_leads_62 : decode cL_leads 62 = .ok (.goto (-59), 3) := by decide +kernel
theorem dL_leads_65 : decode cL_leads 65 = .ok (.iconst 1, 1) := by decide +kernel
theorem dL_leads_66 : decode cL_leads 66 = .ok (.istore 5, 2) := by decide +kernel
theorem dL_leads_68 : decode cL_leads 68 = .ok (.iload 5, 2) := by decide +kernel
theorem dL_leads_70 : decode cL_leads 70 = .ok (.aload_n 3, 1) := by decide +kernel
theorem dL_leads_71 : decode cL_leads 71 = .ok (.arraylength, 1) := by decide +kernel
theorem dL_leads_72 : decode cL_leads 72 = .ok (.if_icmp .gt 111, 3) := by decide +kernel
theorem dL_leads_75 : decode cL_leads 75 = .ok (.aload_n 0, 1) := by decide +kernel
theorem dL_leads_76 : decode cL_leads 76 = .ok (.iload_n 1, 1) := by decide +kernel
theorem dL_leads_77 : decode cL_leads 77 = .ok (.iload_n 2, 1) := by decide +kernel
theorem dL_leads_78 : decode cL_leads 78 = .ok (.iload 5, 2) := by decide +kernel
theorem dL_leads_80 : decode cL_leads 80 = .ok (.invokevirtual 120, 3) := by decide +kernel
theorem dL_leads_83 : decode cL_leads 83 = .ok (.istore 6, 2) := by decide +kernel
theorem dL_leads_85 : decode cL_leads 85 = .ok (.aload_n 0, 1) := by decide +kernel
theorem dL_leads_86 : decode cL_leads 86 = .ok (.iload_n 1, 1) := by decide +kernel
theorem dL_leads_87 : decode cL_leads 87 = .ok (.aload_n 3, 1) := by decide +kernel
theorem dL_leads_88 : decode cL_leads 88 = .ok (.iload 5, 2) := by decide +kernel
theorem dL_leads_90 : decode cL_leads 90 = .ok (.iconst 1, 1) := by decide +kernel
theorem dL_leads_91 : decode cL_leads 91 = .ok (.isub, 1) := by decide +kernel
theorem dL_leads_92 : decode cL_leads 92 = .ok (.iaload, 1) := by decide +kernel
theorem dL_leads_93 : decode cL_leads 93 = .ok (.invokevirtual 123, 3) := by decide +kernel
theorem dL_leads_96 : decode cL_leads 96 = .ok (.ifCond .le 7, 3) := by decide +kernel
theorem dL_leads_99 : decode cL_leads 99 = .ok (.iconst 1, 1) := by decide +kernel
theorem dL_leads_100 : decode cL_leads 100 = .ok (.goto 4, 3) := by decide +kernel
theorem dL_leads_103 : decode cL_leads 103 = .ok (.iconst 0, 1) := by decide +kernel
theorem dL_leads_104 : decode cL_leads 104 = .ok (.istore 7, 2) := by decide +kernel
theorem dL_leads_106 : decode cL_leads 106 = .ok (.iload 7, 2) := by decide +kernel
theorem dL_leads_108 : decode cL_leads 108 = .ok (.ifCond .eq 28, 3) := by decide +kernel
theorem dL_leads_111 : decode cL_leads 111 = .ok (.iload 6, 2) := by decide +kernel
theorem dL_leads_113 : decode cL_leads 113 = .ok (.iconst 1, 1) := by decide +kernel
theorem dL_leads_114 : decode cL_leads 114 = .ok (.if_icmp .lt 61, 3) := by decide +kernel
theorem dL_leads_117 : decode cL_leads 117 = .ok (.aload 4, 2) := by decide +kernel
theorem dL_leads_119 : decode cL_leads 119 = .ok (.iload 6, 2) := by decide +kernel
theorem dL_leads_121 : decode cL_leads 121 = .ok (.iconst 1, 1) := by decide +kernel
theorem dL_leads_122 : decode cL_leads 122 = .ok (.isub, 1) := by decide +kernel
theorem dL_leads_123 : decode cL_leads 123 = .ok (.iaload, 1) := by decide +kernel
theorem dL_leads_124 : decode cL_leads 124 = .ok (.aload_n 3, 1) := by decide +kernel
theorem dL_leads_125 : decode cL_leads 125 = .ok (.iload 5, 2) := by decide +kernel
theorem dL_leads_127 : decode cL_leads 127 = .ok (.iconst 1, 1) := by decide +kernel
theorem dL_leads_128 : decode cL_leads 128 = .ok (.isub, 1) := by decide +kernel
theorem dL_leads_129 : decode cL_leads 129 = .ok (.iaload, 1) := by decide +kernel
theorem dL_leads_130 : decode cL_leads 130 = .ok (.if_icmp .eq 47, 3) := by decide +kernel
theorem dL_leads_133 : decode cL_leads 133 = .ok (.goto 42, 3) := by decide +kernel
theorem dL_leads_136 : decode cL_leads 136 = .ok (.iload 6, 2) := by decide +kernel
theorem dL_leads_138 : decode cL_leads 138 = .ok (.iconst (-1), 1) := by decide +kernel
theorem dL_leads_139 : decode cL_leads 139 = .ok (.if_icmp .ne 36, 3) := by decide +kernel
theorem dL_leads_142 : decode cL_leads 142 = .ok (.aload_n 0, 1) := by decide +kernel
theorem dL_leads_143 : decode cL_leads 143 = .ok (.iload_n 1, 1) := by decide +kernel
theorem dL_leads_144 : decode cL_leads 144 = .ok (.aload_n 3, 1) := by decide +kernel
theorem dL_leads_145 : decode cL_leads 145 = .ok (.iload 5, 2) := by decide +kernel
theorem dL_leads_147 : decode cL_leads 147 = .ok (.iconst 1, 1) := by decide +kernel
theorem dL_leads_148 : decode cL_leads 148 = .ok (.isub, 1) := by decide +kernel
theorem dL_leads_149 : decode cL_leads 149 = .ok (.iaload, 1) := by decide +kernel
theorem dL_leads_150 : decode cL_leads 150 = .ok (.iconst 0, 1) := by decide +kernel
theorem dL_leads_151 : decode cL_leads 151 = .ok (.invokevirtual 126, 3) := by decide +kernel
theorem dL_leads_154 : decode cL_leads 154 = .ok (.iload_n 2, 1) := by decide +kernel
theorem dL_leads_155 : decode cL_leads 155 = .ok (.if_icmp .ne 20, 3) := by decide +kernel
theorem dL_leads_158 : decode cL_leads 158 = .ok (.aload_n 0, 1) := by decide +kernel
theorem dL_leads_159 : decode cL_leads 159 = .ok (.iload_n 1, 1) := by decide +kernel
theorem dL_leads_160 : decode cL_leads 160 = .ok (.aload_n 3, 1) := by decide +kernel
theorem dL_leads_161 : decode cL_leads 161 = .ok (.iload 5, 2) := by decide +kernel
theorem dL_leads_163 : decode cL_leads 163 = .ok (.iconst 1, 1) := by decide +kernel
theorem dL_leads_164 : decode cL_leads 164 = .ok (.isub, 1) := by decide +kernel
theorem dL_leads_165 : decode cL_leads 165 = .ok (.iaload, 1) := by decide +kernel
theorem dL_leads_166 : decode cL_leads 166 = .ok (.iconst 1, 1) := by decide +kernel
theorem dL_leads_167 : decode cL_leads 167 = .ok (.invokevirtual 126, 3) := by decide +kernel
theorem dL_leads_170 : decode cL_leads 170 = .ok (.iload 5, 2) := by decide +kernel
theorem dL_leads_172 : decode cL_leads 172 = .ok (.if_icmp .eq 5, 3) := by decide +kernel
theorem dL_leads_175 : decode cL_leads 175 = .ok (.iconst 0, 1) := by decide +kernel
theorem dL_leads_176 : decode cL_leads 176 = .ok (.ireturn, 1) := by decide +kernel
theorem dL_leads_177 : decode cL_leads 177 = .ok (.iinc 5 1, 3) := by decide +kernel
theorem dL_leads_180 : decode cL_leads 180 = .ok (.goto (-112), 3) := by decide +kernel
theorem dL_leads_183 : decode cL_leads 183 = .ok (.aload_n 0, 1) := by decide +kernel
theorem dL_leads_184 : decode cL_leads 184 = .ok (.iload_n 1, 1) := by decide +kernel
theorem dL_leads_185 : decode cL_leads 185 = .ok (.iload_n 2, 1) := by decide +kernel
theorem dL_leads_186 : decode cL_leads 186 = .ok (.aload 4, 2) := by decide +kernel
theorem dL_leads_188 : decode cL_leads 188 = .ok (.arraylength, 1) := by decide +kernel
theorem dL_leads_189 : decode cL_leads 189 = .ok (.iconst 1, 1) := by decide +kernel
theorem dL_leads_190 : decode cL_leads 190 = .ok (.iadd, 1) := by decide +kernel
theorem dL_leads_191 : decode cL_leads 191 = .ok (.invokevirtual 117, 3) := by decide +kernel
theorem dL_leads_194 : decode cL_leads 194 = .ok (.iconst (-1), 1) := by decide +kernel
theorem dL_leads_195 : decode cL_leads 195 = .ok (.if_icmp .ne 37, 3) := by decide +kernel
theorem dL_leads_198 : decode cL_leads 198 = .ok (.aload_n 0, 1) := by decide +kernel
theorem dL_leads_199 : decode cL_leads 199 = .ok (.invokevirtual 103, 3) := by decide +kernel
theorem dL_leads_202 : decode cL_leads 202 = .ok (.iconst 5, 1) := by decide +kernel
theorem dL_leads_203 : decode cL_leads 203 = .ok (.if_icmp .ne 29, 3) := by decide +kernel
theorem dL_leads_206 : decode cL_leads 206 = .ok (.aload_n 0, 1) := by decide +kernel
theorem dL_leads_207 : decode cL_leads 207 = .ok (.iload_n 1, 1) := by decide +kernel
theorem dL_leads_208 : decode cL_leads 208 = .ok (.iload_n 2, 1) := by decide +kernel
theorem dL_leads_209 : decode cL_leads 209 = .ok (.aload_n 3, 1) := by decide +kernel
theorem dL_leads_210 : decode cL_leads 210 = .ok (.arraylength, 1) := by decide +kernel
theorem dL_leads_211 : decode cL_leads 211 = .ok (.iconst 1, 1) := by decide +kernel
theorem dL_leads_212 : decode cL_leads 212 = .ok (.iadd, 1) := by decide +kernel
theorem dL_leads_213 : decode cL_leads 213 = .ok (.invokevirtual 120, 3) := by decide +kernel
theorem dL_leads_216 : decode cL_leads 216 = .ok (.iconst (-1), 1) := by decide +kernel
theorem dL_leads_217 : decode cL_leads 217 = .ok (.if_icmp .ne 15, 3) := by decide +kernel
theorem dL_leads_220 : decode cL_leads 220 = .ok (.aload_n 0, 1) := by decide +kernel
theorem dL_leads_221 : decode cL_leads 221 = .ok (.invokevirtual 103, 3) := by decide +kernel
theorem dL_leads_224 : decode cL_leads 224 = .ok (.iconst 5, 1) := by decide +kernel
theorem dL_leads_225 : decode cL_leads 225 = .ok (.if_icmp .ne 7, 3) := by decide +kernel
theorem dL_leads_228 : decode cL_leads 228 = .ok (.iconst 1, 1) := by decide +kernel
theorem dL_leads_229 : decode cL_leads 229 = .ok (.goto 4, 3) := by decide +kernel
theorem dL_leads_232 : decode cL_leads 232 = .ok (.iconst 0, 1) := by decide +kernel
theorem dL_leads_233 : decode cL_leads 233 = .ok (.ireturn, 1) := by decide +kernel
theorem dL_areAll_0 : decode cL_areAll 0 = .ok (.iconst 0, 1) := by decide +kernel
theorem dL_areAll_1 : decode cL_areAll 1 = .ok (.istore_n 2, 1) := by decide +kernel
theorem dL_areAll_2 : decode cL_areAll 2 = .ok (.iconst 0, 1) := by decide +kernel
theorem dL_areAll_3 : decode cL_areAll 3 = .ok (.istore_n 3, 1) := by decide +kernel
theorem dL_areAll_4 : decode cL_areAll 4 = .ok (.iconst 0, 1) := by decide +kernel
theorem dL_areAll_5 : decode cL_areAll 5 = .ok (.istore 4, 2) := by decide +kernel
theorem dL_areAll_7 : decode cL_areAll 7 = .ok (.iload 4, 2) := by decide +kernel
theorem dL_areAll_9 : decode cL_areAll 9 = .ok (.aload_n 0, 1) := by decide +kernel
theorem dL_areAll_10 : decode cL_areAll 10 = .ok (.iload_n 1, 1) := by decide +kernel
theorem dL_areAll_11 : decode cL_areAll 11 = .ok (.iconst 3, 1) := by decide +kernel
theorem dL_areAll_12 : decode cL_areAll 12 = .ok (.invokevirtual 82, 3) := by decide +kernel
theorem dL_areAll_15 : decode cL_areAll 15 = .ok (.if_icmp .ge 175, 3) := by decide +kernel
theorem dL_areAll_18 : decode cL_areAll 18 = .ok (.aload_n 0, 1) := by decide +kernel
theorem dL_areAll_19 : decode cL_areAll 19 = .ok (.iload_n 1, 1) := by decide +kernel
theorem dL_areAll_20 : decode cL_areAll 20 = .ok (.iconst 1, 1) := by decide +kernel
theorem dL_areAll_21 : decode cL_areAll 21 = .ok (.invokevirtual 82, 3) := by decide +kernel
theorem dL_areAll_24 : decode cL_areAll 24 = .ok (.iload 4, 2) := by decide +kernel
theorem dL_areAll_26 : decode cL_areAll 26 = .ok (.aload_n 0, 1) := by decide +kernel
theorem dL_areAll_27 : decode cL_areAll 27 = .ok (.iload_n 1, 1) := by decide +kernel
theorem dL_areAll_28 : decode cL_areAll 28 = .ok (.iconst 2, 1) := by decide +kernel
theorem dL_areAll_29 : decode cL_areAll 29 = .ok (.invokevirtual 82, 3) := by decide +kernel
theorem dL_areAll_32 : decode cL_areAll 32 = .ok (.imul, 1) := by decide +kernel
theorem dL_areAll_33 : decode cL_areAll 33 = .ok (.iadd, 1) := by decide +kernel
theorem dL_areAll_34 : decode cL_areAll 34 = .ok (.istore 5, 2) := by decide +kernel
theorem dL_areAll_36 : decode cL_areAll 36 = .ok (.aload_n 0, 1) := by decide +kernel
theorem dL_areAll_37 : decode cL_areAll 37 = .ok (.iload_n 1, 1) := by decide +kernel
theorem dL_areAll_38 : decode cL_areAll 38 = .ok (.iload 5, 2) := by decide +kernel
theorem dL_areAll_40 : decode cL_areAll 40 = .ok (.invokevirtual 123, 3) := by decide +kernel
theorem dL_areAll_43 : decode cL_areAll 43 = .ok (.istore 6, 2) := by decide +kernel
theorem dL_areAll_45 : decode cL_areAll 45 = .ok (.iload 6, 2) := by decide +kernel
theorem dL_areAll_47 : decode cL_areAll 47 = .ok (.ifCond .le 85, 3) := by decide +kernel
theorem dL_areAll_50 : decode cL_areAll 50 = .ok (.iinc 3 1, 3) := by decide +kernel
theorem dL_areAll_53 : decode cL_areAll 53 = .ok (.iload 6, 2) := by decide +kernel
theorem dL_areAll_55 : decode cL_areAll 55 = .ok (.iload_n 3, 1) := by decide +kernel
theorem dL_areAll_56 : decode cL_areAll 56 = .ok (.if_icmp .ne 74, 3) := by decide +kernel
theorem dL_areAll_59 : decode cL_areAll 59 = .ok (.aload_n 0, 1) := by decide +kernel
theorem dL_areAll_60 : decode cL_areAll 60 = .ok (.iload_n 1, 1) := by decide +kernel
theorem dL_areAll_61 : decode cL_areAll 61 = .ok (.iload_n 3, 1) := by decide +kernel
theorem dL_areAll_62 : decode cL_areAll 62 = .ok (.invokevirtual 85, 3) := by decide +kernel
theorem dL_areAll_65 : decode cL_areAll 65 = .ok (.iload 5, 2) := by decide +kernel
theorem dL_areAll_67 : decode cL_areAll 67 = .ok (.if_icmp .ne 63, 3) := by decide +kernel
theorem dL_areAll_70 : decode cL_areAll 70 = .ok (.aload_n 0, 1) := by decide +kernel
theorem dL_areAll_71 : decode cL_areAll 71 = .ok (.iload_n 1, 1) := by decide +kernel
theorem dL_areAll_72 : decode cL_areAll 72 = .ok (.iload 5, 2) := by decide +kernel
theorem dL_areAll_74 : decode cL_areAll 74 = .ok (.invokevirtual 129, 3) := by decide +kernel
theorem dL_areAll_77 : decode cL_areAll 77 = .ok (.iload_n 3, 1) := by decide +kernel
theorem dL_areAll_78 : decode cL_areAll 78 = .ok (.if_icmp .ne 52, 3) := by decide +kernel
theorem dL_areAll_81 : decode cL_areAll 81 = .ok (.aload_n 0, 1) := by decide +kernel
theorem dL_areAll_82 : decode cL_areAll 82 = .ok (.iload_n 1, 1) := by decide +kernel
theorem dL_areAll_83 : decode cL_areAll 83 = .ok (.iload 5, 2) := by decide +kernel
theorem dL_areAll_85 : decode cL_areAll 85 = .ok (.iconst 0, 1) := by decide +kernel
theorem dL_areAll_86 : decode cL_areAll 86 = .ok (.invokevirtual 126, 3) := by decide +kernel
theorem dL_areAll_89 : decode cL_areAll 89 = .ok (.iconst (-1), 1) := by decide +kernel
theorem dL_areAll_90 : decode cL_areAll 90 = .ok (.if_icmp .ne 40, 3) := by decide +kernel
theorem dL_areAll_93 : decode cL_areAll 93 = .ok (.aload_n 0, 1) := by decide +kernel
theorem dL_areAll_94 : decode cL_areAll 94 = .ok (.invokevirtual 103, 3) := by decide +kernel
theorem dL_areAll_97 : decode cL_areAll 97 = .ok (.iconst 5, 1) := by decide +kernel
theorem dL_areAll_98 : decode cL_areAll 98 = .ok (.if_icmp .ne 32, 3) := by decide +kernel
theorem dL_areAll_101 : decode cL_areAll 101 = .ok (.aload_n 0, 1) := by decide +kernel
theorem dL_areAll_102 : decode cL_areAll 102 = .ok (.iload_n 1, 1) := by decide +kernel
theorem dL_areAll_103 : decode cL_areAll 103 = .ok (.iload_n 3, 1) := by decide +kernel
theorem dL_areAll_104 : decode cL_areAll 104 = .ok (.invokevirtual 132, 3) := by decide +kernel
theorem dL_areAll_107 : decode cL_areAll 107 = .ok (.iload 5, 2) := by decide +kernel
theorem dL_areAll_109 : decode cL_areAll 109 = .ok (.aload_n 0, 1) := by decide +kernel
theorem dL_areAll_110 : decode cL_areAll 110 = .ok (.iload_n 1, 1) := by decide +kernel
theorem dL_areAll_111 : decode cL_areAll 111 = .ok (.iconst 1, 1) := by decide +kernel
theorem dL_areAll_112 : decode cL_areAll 112 = .ok (.invokevirtual 82, 3) := by decide +kernel
theorem dL_areAll_115 : decode cL_areAll 115 = .ok (.isub, 1) := by decide +kernel
theorem dL_areAll_116 : decode cL_areAll 116 = .ok (.iload_n 3, 1) := by decide +kernel
theorem dL_areAll_117 : decode cL_areAll 117 = .ok (.iconst 1, 1) := by decide +kernel
theorem dL_areAll_118 : decode cL_areAll 118 = .ok (.isub, 1) := by decide +kernel
theorem dL_areAll_119 : decode cL_areAll 119 = .ok (.aload_n 0, 1) := by decide +kernel
theorem dL_areAll_120 : decode cL_areAll 120 = .ok (.iload_n 1, 1) := by decide +kernel
theorem dL_areAll_121 : decode cL_areAll 121 = .ok (.iconst 2, 1) := by decide +kernel
theorem dL_areAll_122 : decode cL_areAll 122 = .ok (.invokevirtual 82, 3) := by decide +kernel
theorem dL_areAll_125 : decode cL_areAll 125 = .ok (.imul, 1) := by decide +kernel
theorem dL_areAll_126 : decode cL_areAll 126 = .ok (.isub, 1) := by decide +kernel
theorem dL_areAll_127 : decode cL_areAll 127 = .ok (.if_icmp .eq 57, 3) := by decide +kernel
theorem dL_areAll_130 : decode cL_areAll 130 = .ok (.iconst 0, 1) := by decide +kernel
theorem dL_areAll_131 : decode cL_areAll 131 = .ok (.ireturn, 1) := by decide +kernel
theorem dL_areAll_132 : decode cL_areAll 132 = .ok (.aload_n 0, 1) := by decide +kernel
theorem dL_areAll_133 : decode cL_areAll 133 = .ok (.invokevirtual 103, 3) := by decide +kernel
theorem dL_areAll_136 : decode cL_areAll 136 = .ok (.iconst 5, 1) := by decide +kernel
theorem dL_areAll_137 : decode cL_areAll 137 = .ok (.if_icmp .ne 42, 3) := by decide +kernel
theorem dL_areAll_140 : decode cL_areAll 140 = .ok (.aload_n 0, 1) := by decide +kernel
theorem dL_areAll_141 : decode cL_areAll 141 = .ok (.iload_n 1, 1) := by decide +kernel
theorem dL_areAll_142 : decode cL_areAll 142 = .ok (.iload 5, 2) := by decide +kernel
theorem dL_areAll_144 : decode cL_areAll 144 = .ok (.iconst 0, 1) := by decide +kernel
theorem dL_areAll_145 : decode cL_areAll 145 = .ok (.invokevirtual 126, 3) := by decide +kernel
theorem dL_areAll_148 : decode cL_areAll 148 = .ok (.ifCond .lt 31, 3) := by decide +kernel
theorem dL_areAll_151 : decode cL_areAll 151 = .ok (.aload_n 0, 1) := by decide +kernel
theorem dL_areAll_152 : decode cL_areAll 152 = .ok (.iload_n 1, 1) := by decide +kernel
theorem dL_areAll_153 : decode cL_areAll 153 = .ok (.iload 5, 2) := by decide +kernel
theorem dL_areAll_155 : decode cL_areAll 155 = .ok (.iconst 0, 1) := by decide +kernel
theorem dL_areAll_156 : decode cL_areAll 156 = .ok (.invokevirtual 126, 3) := by decide +kernel
theorem dL_areAll_159 : decode cL_areAll 159 = .ok (.aload_n 0, 1) := by decide +kernel
theorem dL_areAll_160 : decode cL_areAll 160 = .ok (.iload_n 1, 1) := by decide +kernel
theorem dL_areAll_161 : decode cL_areAll 161 = .ok (.iconst 5, 1) := by decide +kernel
theorem dL_areAll_162 : decode cL_areAll 162 = .ok (.invokevirtual 82, 3) := by decide +kernel
theorem dL_areAll_165 : decode cL_areAll 165 = .ok (.if_icmp .gt 14, 3) := by decide +kernel
theorem dL_areAll_168 : decode cL_areAll 168 = .ok (.aload_n 0, 1) := by decide +kernel
theorem dL_areAll_169 : decode cL_areAll 169 = .ok (.iload_n 1, 1) := by decide +kernel
theorem dL_areAll_170 : decode cL_areAll 170 = .ok (.iload_n 2, 1) := by decide +kernel
theorem dL_areAll_171 : decode cL_areAll 171 = .ok (.invokevirtual 135, 3) := by decide +kernel
theorem dL_areAll_174 : decode cL_areAll 174 = .ok (.iload 5, 2) := by decide +kernel
theorem dL_areAll_176 : decode cL_areAll 176 = .ok (.if_icmp .eq 5, 3) := by decide +kernel
theorem dL_areAll_179 : decode cL_areAll 179 = .ok (.iconst 0, 1) := by decide +kernel
theorem dL_areAll_180 : decode cL_areAll 180 = .ok (.ireturn, 1) := by decide +kernel
theorem dL_areAll_181 : decode cL_areAll 181 = .ok (.iinc 2 1, 3) := by decide +kernel
theorem dL_areAll_184 : decode cL_areAll 184 = .ok (.iinc 4 1, 3) := by decide +kernel
theorem dL_areAll_187 : decode cL_areAll 187 = .ok (.goto (-180), 3) := by decide +kernel
theorem dL_areAll_190 : decode cL_areAll 190 = .ok (.iload_n 3, 1) := by decide +kernel
theorem dL_areAll_191 : decode cL_areAll 191 = .ok (.aload_n 0, 1) := by decide +kernel
theorem dL_areAll_192 : decode cL_areAll 192 = .ok (.iload_n 1, 1) := by decide +kernel
theorem dL_areAll_193 : decode cL_areAll 193 = .ok (.iconst 4, 1) := by decide +kernel
theorem dL_areAll_194 : decode cL_areAll 194 = .ok (.invokevirtual 82, 3) := by decide +kernel
theorem dL_areAll_197 : decode cL_areAll 197 = .ok (.if_icmp .ne 55, 3) := by decide +kernel
theorem dL_areAll_200 : decode cL_areAll 200 = .ok (.aload_n 0, 1) := by decide +kernel
theorem dL_areAll_201 : decode cL_areAll 201 = .ok (.iload_n 1, 1) := by decide +kernel
theorem dL_areAll_202 : decode cL_areAll 202 = .ok (.iconst (-1), 1) := by decide +kernel
theorem dL_areAll_203 : decode cL_areAll 203 = .ok (.invokevirtual 135, 3) := by decide +kernel
theorem dL_areAll_206 : decode cL_areAll 206 = .ok (.iload_n 2, 1) := by decide +kernel
theorem dL_areAll_207 : decode cL_areAll 207 = .ok (.if_icmp .ne 45, 3) := by decide +kernel
theorem dL_areAll_210 : decode cL_areAll 210 = .ok (.aload_n 0, 1) := by decide +kernel
theorem dL_areAll_211 : decode cL_areAll 211 = .ok (.iload_n 1, 1) := by decide +kernel
theorem dL_areAll_212 : decode cL_areAll 212 = .ok (.iload_n 2, 1) := by decide +kernel
theorem dL_areAll_213 : decode cL_areAll 213 = .ok (.invokevirtual 135, 3) := by decide +kernel
theorem dL_areAll_216 : decode cL_areAll 216 = .ok (.iconst (-1), 1) := by decide +kernel
theorem dL_areAll_217 : decode cL_areAll 217 = .ok (.if_icmp .ne 35, 3) := by decide +kernel
theorem dL_areAll_220 : decode cL_areAll 220 = .ok (.aload_n 0, 1) := by decide +kernel
theorem dL_areAll_221 : decode cL_areAll 221 = .ok (.invokevirtual 103, 3) := by decide +kernel
theorem dL_areAll_224 : decode cL_areAll 224 = .ok (.iconst 5, 1) := by decide +kernel
theorem dL_areAll_225 : decode cL_areAll 225 = .ok (.if_icmp .ne 27, 3) := by decide +kernel
theorem dL_areAll_228 : decode cL_areAll 228 = .ok (.aload_n 0, 1) := by decide +kernel
theorem dL_areAll_229 : decode cL_areAll 229 = .ok (.iload_n 1, 1) := by decide +kernel
theorem dL_areAll_230 : decode cL_areAll 230 = .ok (.iload_n 3, 1) := by decide +kernel
theorem dL_areAll_231 : decode cL_areAll 231 = .ok (.iconst 1, 1) := by decide +kernel
theorem dL_areAll_232 : decode cL_areAll 232 = .ok (.iadd, 1) := by decide +kernel
theorem dL_areAll_233 : decode cL_areAll 233 = .ok (.invokevirtual 85, 3) := by decide +kernel
theorem dL_areAll_236 : decode cL_areAll 236 = .ok (.iconst (-1), 1) := by decide +kernel
theorem dL_areAll_237 : decode cL_areAll 237 = .ok (.if_icmp .ne 15, 3) := by decide +kernel
theorem dL_areAll_240 : decode cL_areAll 240 = .ok (.aload_n 0, 1) := by decide +kernel
theorem dL_areAll_241 : decode cL_areAll 241 = .ok (.invokevirtual 103, 3) := by decide +kernel
theorem dL_areAll_244 : decode cL_areAll 244 = .ok (.iconst 5, 1) := by decide +kernel
theorem dL_areAll_245 : decode cL_areAll 245 = .ok (.if_icmp .ne 7, 3) := by decide +kernel
theorem dL_areAll_248 : decode cL_areAll 248 = .ok (.iconst 1, 1) := by decide +kernel
theorem dL_areAll_249 : decode cL_areAll 249 = .ok (.goto 4, 3) := by decide +kernel
theorem dL_areAll_252 : decode cL_areAll 252 = .ok (.iconst 0, 1) := by decide +kernel
theorem dL_areAll_253 : decode cL_areAll 253 = .ok (.ireturn, 1) := by decide +kernel
theorem dL_law_0 : decode cL_law 0 = .ok (.new 19, 3) := by decide +kernel
theorem dL_law_3 : decode cL_law 3 = .ok (.dup, 1) := by decide +kernel
theorem dL_law_4 : decode cL_law 4 = .ok (.invokespecial 138, 3) := by decide +kernel
theorem dL_law_7 : decode cL_law 7 = .ok (.astore_n 1, 1) := by decide +kernel
theorem dL_law_8 : decode cL_law 8 = .ok (.aload_n 1, 1) := by decide +kernel
theorem dL_law_9 : decode cL_law 9 = .ok (.iconst 0, 1) := by decide +kernel
theorem dL_law_10 : decode cL_law 10 = .ok (.invokevirtual 139, 3) := by decide +kernel
theorem dL_law_13 : decode cL_law 13 = .ok (.ifCond .ne 21, 3) := by decide +kernel
theorem dL_law_16 : decode cL_law 16 = .ok (.aload_n 1, 1) := by decide +kernel
theorem dL_law_17 : decode cL_law 17 = .ok (.iconst 0, 1) := by decide +kernel
theorem dL_law_18 : decode cL_law 18 = .ok (.iconst 0, 1) := by decide +kernel
theorem dL_law_19 : decode cL_law 19 = .ok (.invokevirtual 82, 3) := by decide +kernel
theorem dL_law_22 : decode cL_law 22 = .ok (.iconst (-1), 1) := by decide +kernel
theorem dL_law_23 : decode cL_law 23 = .ok (.if_icmp .ne 11, 3) := by decide +kernel
theorem dL_law_26 : decode cL_law 26 = .ok (.aload_n 1, 1) := by decide +kernel
theorem dL_law_27 : decode cL_law 27 = .ok (.invokevirtual 103, 3) := by decide +kernel
theorem dL_law_30 : decode cL_law 30 = .ok (.iconst 2, 1) := by decide +kernel
theorem dL_law_31 : decode cL_law 31 = .ok (.if_icmp .eq 5, 3) := by decide +kernel
theorem dL_law_34 : decode cL_law 34 = .ok (.iconst 0, 1) := by decide +kernel
theorem dL_law_35 : decode cL_law 35 = .ok (.ireturn, 1) := by decide +kernel
theorem dL_law_36 : decode cL_law 36 = .ok (.aload_n 1, 1) := by decide +kernel
theorem dL_law_37 : decode cL_law 37 = .ok (.aload_n 0, 1) := by decide +kernel
theorem dL_law_38 : decode cL_law 38 = .ok (.invokestatic 142, 3) := by decide +kernel
theorem dL_law_41 : decode cL_law 41 = .ok (.invokestatic 146, 3) := by decide +kernel
theorem dL_law_44 : decode cL_law 44 = .ok (.istore_n 2, 1) := by decide +kernel
theorem dL_law_45 : decode cL_law 45 = .ok (.iload_n 2, 1) := by decide +kernel
theorem dL_law_46 : decode cL_law 46 = .ok (.iconst 2, 1) := by decide +kernel
theorem dL_law_47 : decode cL_law 47 = .ok (.if_icmp .lt 12, 3) := by decide +kernel
theorem dL_law_50 : decode cL_law 50 = .ok (.aload_n 1, 1) := by decide +kernel
theorem dL_law_51 : decode cL_law 51 = .ok (.iconst 2, 1) := by decide +kernel
theorem dL_law_52 : decode cL_law 52 = .ok (.invokevirtual 139, 3) := by decide +kernel
theorem dL_law_55 : decode cL_law 55 = .ok (.iconst 1, 1) := by decide +kernel
theorem dL_law_56 : decode cL_law 56 = .ok (.if_icmp .eq 5, 3) := by decide +kernel
theorem dL_law_59 : decode cL_law 59 = .ok (.iconst 0, 1) := by decide +kernel
theorem dL_law_60 : decode cL_law 60 = .ok (.ireturn, 1) := by decide +kernel
theorem dL_law_61 : decode cL_law 61 = .ok (.iconst 0, 1) := by decide +kernel
theorem dL_law_62 : decode cL_law 62 = .ok (.istore_n 3, 1) := by decide +kernel
theorem dL_law_63 : decode cL_law 63 = .ok (.iload_n 3, 1) := by decide +kernel
theorem dL_law_64 : decode cL_law 64 = .ok (.iload_n 2, 1) := by decide +kernel
theorem dL_law_65 : decode cL_law 65 = .ok (.if_icmp .ge 305, 3) := by decide +kernel
theorem dL_law_68 : decode cL_law 68 = .ok (.aload_n 0, 1) := by decide +kernel
theorem dL_law_69 : decode cL_law 69 = .ok (.iconst 1, 1) := by decide +kernel
theorem dL_law_70 : decode cL_law 70 = .ok (.iload_n 3, 1) := by decide +kernel
theorem dL_law_71 : decode cL_law 71 = .ok (.iadd, 1) := by decide +kernel
theorem dL_law_72 : decode cL_law 72 = .ok (.invokestatic 60, 3) := by decide +kernel
theorem dL_law_75 : decode cL_law 75 = .ok (.istore 4, 2) := by decide +kernel
theorem dL_law_77 : decode cL_law 77 = .ok (.aload_n 1, 1) := by decide +kernel
theorem dL_law_78 : decode cL_law 78 = .ok (.iload_n 3, 1) := by decide +kernel
theorem dL_law_79 : decode cL_law 79 = .ok (.iconst 0, 1) := by decide +kernel
theorem dL_law_80 : decode cL_law 80 = .ok (.invokevirtual 82, 3) := by decide +kernel
theorem dL_law_83 : decode cL_law 83 = .ok (.iload 4, 2) := by decide +kernel
theorem dL_law_85 : decode cL_law 85 = .ok (.bipush 6, 2) := by decide +kernel
theorem dL_law_87 : decode cL_law 87 = .ok (.invokestatic 33, 3) := by decide +kernel
theorem dL_law_90 : decode cL_law 90 = .ok (.if_icmp .ne 24, 3) := by decide +kernel
theorem dL_law_93 : decode cL_law 93 = .ok (.aload_n 1, 1) := by decide +kernel
theorem dL_law_94 : decode cL_law 94 = .ok (.iload_n 3, 1) := by decide +kernel
theorem dL_law_95 : decode cL_law 95 = .ok (.iconst 4, 1) := by decide +kernel
theorem dL_law_96 : decode cL_law 96 = .ok (.invokevirtual 82, 3) := by decide +kernel
theorem dL_law_99 : decode cL_law 99 = .ok (.iconst 2, 1) := by decide +kernel
theorem dL_law_100 : decode cL_law 100 = .ok (.iload 4, 2) := by decide +kernel
theorem dL_law_102 : decode cL_law 102 = .ok (.bipush 7, 2) := by decide +kernel
theorem dL_law_104 : decode cL_law 104 = .ok (.ishr, 1) := by decide +kernel
theorem dL_law_105 : decode cL_law 105 = .ok (.bipush 60, 2) := by decide +kernel
theorem dL_law_107 : decode cL_law 107 = .ok (.invokestatic 33, 3) := by decide +kernel
theorem dL_law_110 : decode cL_law 110 = .ok (.iadd, 1) := by decide +kernel
theorem dL_law_111 : decode cL_law 111 = .ok (.if_icmp .eq 5, 3) := by decide +kernel
theorem dL_law_114 : decode cL_law 114 = .ok (.iconst 0, 1) := by decide +kernel
theorem dL_law_115 : decode cL_law 115 = .ok (.ireturn, 1) := by decide +kernel
theorem dL_law_116 : decode cL_law 116 = .ok (.bipush 8, 2) := by decide +kernel
theorem dL_law_118 : decode cL_law 118 = .ok (.newarray .int, 2) := by decide +kernel
theorem dL_law_120 : decode cL_law 120 = .ok (.astore 5, 2) := by decide +kernel
theorem dL_law_122 : decode cL_law 122 = .ok (.iconst 5, 1) := by decide +kernel
theorem dL_law_123 : decode cL_law 123 = .ok (.istore 6, 2) := by decide +kernel
theorem dL_law_125 : decode cL_law 125 = .ok (.iload 6, 2) := by decide +kernel
theorem dL_law_127 : decode cL_law 127 = .ok (.aload_n 0, 1) := by decide +kernel
theorem dL_law_128 : decode cL_law 128 = .ok (.arraylength, 1) := by decide +kernel
theorem dL_law_129 : decode cL_law 129 = .ok (.if_icmp .ge 81, 3) := by decide +kernel
theorem dL_law_132 : decode cL_law 132 = .ok (.iload 6, 2) := by decide +kernel
theorem dL_law_134 : decode cL_law 134 = .ok (.bipush 9, 2) := by decide +kernel
theorem dL_law_136 : decode cL_law 136 = .ok (.if_icmp .ge 74, 3) := by decide +kernel
theorem dL_law_139 : decode cL_law 139 = .ok (.aload_n 1, 1) := by decide +kernel
theorem dL_law_140 : decode cL_law 140 = .ok (.iload_n 3, 1) := by decide +kernel
theorem dL_law_141 : decode cL_law 141 = .ok (.iload 4, 2) := by decide +kernel
theorem dL_law_143 : decode cL_law 143 = .ok (.invokestatic 149, 3) := by decide +kernel
theorem dL_law_146 : decode cL_law 146 = .ok (.ifCond .ne 5, 3) := by decide +kernel
theorem dL_law_149 : decode cL_law 149 = .ok (.iconst 0, 1) := by decide +kernel
theorem dL_law_150 : decode cL_law 150 = .ok (.ireturn, 1) := by decide +kernel
theorem dL_law_151 : decode cL_law 151 = .ok (.aload_n 0, 1) := by decide +kernel
theorem dL_law_152 : decode cL_law 152 = .ok (.iload 6, 2) := by decide +kernel
theorem dL_law_154 : decode cL_law 154 = .ok (.iaload, 1) := by decide +kernel
theorem dL_law_155 : decode cL_law 155 = .ok (.bipush 7, 2) := by decide +kernel
theorem dL_law_157 : decode cL_law 157 = .ok (.iand, 1) := by decide +kernel
theorem dL_law_158 : decode cL_law 158 = .ok (.ifCond .ne 46, 3) := by decide +kernel
theorem dL_law_161 : decode cL_law 161 = .ok (.aload_n 1, 1) := by decide +kernel
theorem dL_law_162 : decode cL_law 162 = .ok (.iload_n 3, 1) := by decide +kernel
theorem dL_law_163 : decode cL_law 163 = .ok (.iconst 4, 1) := by decide +kernel
theorem dL_law_164 : decode cL_law 164 = .ok (.invokevirtual 82, 3) := by decide +kernel
theorem dL_law_167 : decode cL_law 167 = .ok (.iconst 1, 1) := by decide +kernel
theorem dL_law_168 : decode cL_law 168 = .ok (.if_icmp .le 36, 3) := by decide +kernel
theorem dL_law_171 : decode cL_law 171 = .ok (.aload_n 1, 1) := by decide +kernel
theorem dL_law_172 : decode cL_law 172 = .ok (.iload_n 3, 1) := by decide +kernel
theorem dL_law_173 : decode cL_law 173 = .ok (.aload_n 1, 1) := by decide +kernel
theorem dL_law_174 : decode cL_law 174 = .ok (.iload_n 3, 1) := by decide +kernel
theorem dL_law_175 : decode cL_law 175 = .ok (.iconst 1, 1) := by decide +kernel
theorem dL_law_176 : decode cL_law 176 = .ok (.aload_n 0, 1) := by decide +kernel
theorem dL_law_177 : decode cL_law 177 = .ok (.iload 6, 2) := by decide +kernel
theorem dL_law_179 : decode cL_law 179 = .ok (.iaload, 1) := by decide +kernel
theorem dL_law_180 : decode cL_law 180 = .ok (.iconst 3, 1) := by decide +kernel
theorem dL_law_181 : decode cL_law 181 = .ok (.ishr, 1) := by decide +kernel
theorem dL_law_182 : decode cL_law 182 = .ok (.aload_n 1, 1) := by decide +kernel
theorem dL_law_183 : decode cL_law 183 = .ok (.iload_n 3, 1) := by decide +kernel
theorem dL_law_184 : decode cL_law 184 = .ok (.iconst 4, 1) := by decide +kernel
theorem dL_law_185 : decode cL_law 185 = .ok (.invokevirtual 82, 3) := by decide +kernel
theorem dL_law_188 : decode cL_law 188 = .ok (.invokestatic 33, 3) := by decide +kernel
theorem dL_law_191 : decode cL_law 191 = .ok (.iadd, 1) := by decide +kernel
theorem dL_law_192 : decode cL_law 192 = .ok (.invokevirtual 85, 3) := by decide +kernel
theorem dL_law_195 : decode cL_law 195 = .ok (.invokevirtual 153, 3) := by decide +kernel
theorem dL_law_198 : decode cL_law 198 = .ok (.iconst 1, 1) := by decide +kernel
theorem dL_law_199 : decode cL_law 199 = .ok (.if_icmp .ge 5, 3) := by decide +kernel
theorem dL_law_202 : decode cL_law 202 = .ok (.iconst 0, 1) := by decide +kernel
theorem dL_law_203 : decode cL_law 203 = .ok (.ireturn, 1) := by decide +kernel
theorem dL_law_204 : decode cL_law 204 = .ok (.iinc 6 1, 3) := by decide +kernel
theorem dL_law_207 : decode cL_law 207 = .ok (.goto (-82), 3) := by decide +kernel
theorem dL_law_210 : decode cL_law 210 = .ok (.aload_n 1, 1) := by decide +kernel
theorem dL_law_211 : decode cL_law 211 = .ok (.iload_n 3, 1) := by decide +kernel
theorem dL_law_212 : decode cL_law 212 = .ok (.invokestatic 156, 3) := by decide +kernel
theorem dL_law_215 : decode cL_law 215 = .ok (.ifCond .ne 5, 3) := by decide +kernel
theorem dL_law_218 : decode cL_law 218 = .ok (.iconst 0, 1) := by decide +kernel
theorem dL_law_219 : decode cL_law 219 = .ok (.ireturn, 1) := by decide +kernel
theorem dL_law_220 : decode cL_law 220 = .ok (.iconst 1, 1) := by decide +kernel
theorem dL_law_221 : decode cL_law 221 = .ok (.istore 6, 2) := by decide +kernel
theorem dL_law_223 : decode cL_law 223 = .ok (.iload 6, 2) := by decide +kernel
theorem dL_law_225 : decode cL_law 225 = .ok (.bipush 8, 2) := by decide +kernel
theorem dL_law_227 : decode cL_law 227 = .ok (.if_icmp .ge 21, 3) := by decide +kernel
theorem dL_law_230 : decode cL_law 230 = .ok (.aload 5, 2) := by decide +kernel
theorem dL_law_232 : decode cL_law 232 = .ok (.iload 6, 2) := by decide +kernel
theorem dL_law_234 : decode cL_law 234 = .ok (.aload_n 1, 1) := by decide +kernel
theorem dL_law_235 : decode cL_law 235 = .ok (.iload_n 3, 1) := by decide +kernel
theorem dL_law_236 : decode cL_law 236 = .ok (.iload 6, 2) := by decide +kernel
theorem dL_law_238 : decode cL_law 238 = .ok (.invokevirtual 160, 3) := by decide +kernel
theorem dL_law_241 : decode cL_law 241 = .ok (.iastore, 1) := by decide +kernel
theorem dL_law_242 : decode cL_law 242 = .ok (.iinc 6 1, 3) := by decide +kernel
theorem dL_law_245 : decode cL_law 245 = .ok (.goto (-22), 3) := by decide +kernel
theorem dL_law_248 : decode cL_law 248 = .ok (.aload_n 1, 1) := by decide +kernel
theorem dL_law_249 : decode cL_law 249 = .ok (.iload_n 3, 1) := by decide +kernel
theorem dL_law_250 : decode cL_law 250 = .ok (.bipush 6, 2) := by decide +kernel
theorem dL_law_252 : decode cL_law 252 = .ok (.invokevirtual 82, 3) := by decide +kernel
theorem dL_law_255 : decode cL_law 255 = .ok (.istore 6, 2) := by decide +kernel
theorem dL_law_257 : decode cL_law 257 = .ok (.aload_n 1, 1) := by decide +kernel
theorem dL_law_258 : decode cL_law 258 = .ok (.iload_n 3, 1) := by decide +kernel
theorem dL_law_259 : decode cL_law 259 = .ok (.invokevirtual 106, 3) := by decide +kernel
theorem dL_law_262 : decode cL_law 262 = .ok (.istore 7, 2) := by decide +kernel
theorem dL_law_264 : decode cL_law 264 = .ok (.iload 6, 2) := by decide +kernel
theorem dL_law_266 : decode cL_law 266 = .ok (.iconst 1, 1) := by decide +kernel
theorem dL_law_267 : decode cL_law 267 = .ok (.if_icmp .ne 20, 3) := by decide +kernel
theorem dL_law_270 : decode cL_law 270 = .ok (.iload 7, 2) := by decide +kernel
theorem dL_law_272 : decode cL_law 272 = .ok (.iconst (-1), 1) := by decide +kernel
theorem dL_law_273 : decode cL_law 273 = .ok (.if_icmp .ne 31, 3) := by decide +kernel
theorem dL_law_276 : decode cL_law 276 = .ok (.aload_n 1, 1) := by decide +kernel
theorem dL_law_277 : decode cL_law 277 = .ok (.invokevirtual 103, 3) := by decide +kernel
theorem dL_law_280 : decode cL_law 280 = .ok (.iconst 5, 1) := by decide +kernel
theorem dL_law_281 : decode cL_law 281 = .ok (.if_icmp .eq 25, 3) := by decide +kernel
theorem dL_law_284 : decode cL_law 284 = .ok (.goto 20, 3) := by decide +kernel
theorem dL_law_287 : decode cL_law 287 = .ok (.iload 7, 2) := by decide +kernel
theorem dL_law_289 : decode cL_law 289 = .ok (.iconst 1, 1) := by decide +kernel
theorem dL_law_290 : decode cL_law 290 = .ok (.if_icmp .lt 14, 3) := by decide +kernel
theorem dL_law_293 : decode cL_law 293 = .ok (.aload_n 1, 1) := by decide +kernel
theorem dL_law_294 : decode cL_law 294 = .ok (.iload_n 3, 1) := by decide +kernel
theorem dL_law_295 : decode cL_law 295 = .ok (.bipush 6, 2) := by decide +kernel
theorem dL_law_297 : decode cL_law 297 = .ok (.invokevirtual 82, 3) := by decide +kernel
theorem dL_law_300 : decode cL_law 300 = .ok (.iconst 1, 1) := by decide +kernel
theorem dL_law_301 : decode cL_law 301 = .ok (.if_icmp .eq 5, 3) := by decide +kernel
theorem dL_law_304 : decode cL_law 304 = .ok (.iconst 0, 1) := by decide +kernel
theorem dL_law_305 : decode cL_law 305 = .ok (.ireturn, 1) := by decide +kernel
theorem dL_law_306 : decode cL_law 306 = .ok (.iconst 1, 1) := by decide +kernel
theorem dL_law_307 : decode cL_law 307 = .ok (.istore 8, 2) := by decide +kernel
theorem dL_law_309 : decode cL_law 309 = .ok (.iload 8, 2) := by decide +kernel
theorem dL_law_311 : decode cL_law 311 = .ok (.bipush 8, 2) := by decide +kernel
theorem dL_law_313 : decode cL_law 313 = .ok (.if_icmp .ge 41, 3) := by decide +kernel
theorem dL_law_316 : decode cL_law 316 = .ok (.aload 5, 2) := by decide +kernel
theorem dL_law_318 : decode cL_law 318 = .ok (.iload 8, 2) := by decide +kernel
theorem dL_law_320 : decode cL_law 320 = .ok (.iaload, 1) := by decide +kernel
theorem dL_law_321 : decode cL_law 321 = .ok (.iload 8, 2) := by decide +kernel
theorem dL_law_323 : decode cL_law 323 = .ok (.aload_n 1, 1) := by decide +kernel
theorem dL_law_324 : decode cL_law 324 = .ok (.iload_n 3, 1) := by decide +kernel
theorem dL_law_325 : decode cL_law 325 = .ok (.iconst 4, 1) := by decide +kernel
theorem dL_law_326 : decode cL_law 326 = .ok (.invokevirtual 82, 3) := by decide +kernel
theorem dL_law_329 : decode cL_law 329 = .ok (.if_icmp .gt 13, 3) := by decide +kernel
theorem dL_law_332 : decode cL_law 332 = .ok (.aload_n 1, 1) := by decide +kernel
theorem dL_law_333 : decode cL_law 333 = .ok (.iload_n 3, 1) := by decide +kernel
theorem dL_law_334 : decode cL_law 334 = .ok (.iload 8, 2) := by decide +kernel
theorem dL_law_336 : decode cL_law 336 = .ok (.invokevirtual 85, 3) := by decide +kernel
theorem dL_law_339 : decode cL_law 339 = .ok (.goto 4, 3) := by decide +kernel
theorem dL_law_342 : decode cL_law 342 = .ok (.iconst (-1), 1) := by decide +kernel
theorem dL_law_343 : decode cL_law 343 = .ok (.if_icmp .eq 5, 3) := by decide +kernel
theorem dL_law_346 : decode cL_law 346 = .ok (.iconst 0, 1) := by decide +kernel
theorem dL_law_347 : decode cL_law 347 = .ok (.ireturn, 1) := by decide +kernel
theorem dL_law_348 : decode cL_law 348 = .ok (.iinc 8 1, 3) := by decide +kernel
theorem dL_law_351 : decode cL_law 351 = .ok (.goto (-42), 3) := by decide +kernel
theorem dL_law_354 : decode cL_law 354 = .ok (.aload_n 1, 1) := by decide +kernel
theorem dL_law_355 : decode cL_law 355 = .ok (.iload_n 3, 1) := by decide +kernel
theorem dL_law_356 : decode cL_law 356 = .ok (.invokestatic 156, 3) := by decide +kernel
theorem dL_law_359 : decode cL_law 359 = .ok (.ifCond .ne 5, 3) := by decide +kernel
theorem dL_law_362 : decode cL_law 362 = .ok (.iconst 0, 1) := by decide +kernel
theorem dL_law_363 : decode cL_law 363 = .ok (.ireturn, 1) := by decide +kernel
theorem dL_law_364 : decode cL_law 364 = .ok (.iinc 3 1, 3) := by decide +kernel
theorem dL_law_367 : decode cL_law 367 = .ok (.goto (-304), 3) := by decide +kernel
theorem dL_law_370 : decode cL_law 370 = .ok (.aload_n 1, 1) := by decide +kernel
theorem dL_law_371 : decode cL_law 371 = .ok (.iconst 0, 1) := by decide +kernel
theorem dL_law_372 : decode cL_law 372 = .ok (.iconst 0, 1) := by decide +kernel
theorem dL_law_373 : decode cL_law 373 = .ok (.invokevirtual 85, 3) := by decide +kernel
theorem dL_law_376 : decode cL_law 376 = .ok (.iconst (-1), 1) := by decide +kernel
theorem dL_law_377 : decode cL_law 377 = .ok (.if_icmp .ne 106, 3) := by decide +kernel
theorem dL_law_380 : decode cL_law 380 = .ok (.aload_n 1, 1) := by decide +kernel
theorem dL_law_381 : decode cL_law 381 = .ok (.invokevirtual 103, 3) := by decide +kernel
theorem dL_law_384 : decode cL_law 384 = .ok (.iconst 1, 1) := by decide +kernel
theorem dL_law_385 : decode cL_law 385 = .ok (.if_icmp .ne 98, 3) := by decide +kernel
theorem dL_law_388 : decode cL_law 388 = .ok (.aload_n 1, 1) := by decide +kernel
theorem dL_law_389 : decode cL_law 389 = .ok (.iload_n 2, 1) := by decide +kernel
theorem dL_law_390 : decode cL_law 390 = .ok (.iconst 1, 1) := by decide +kernel
theorem dL_law_391 : decode cL_law 391 = .ok (.invokevirtual 85, 3) := by decide +kernel
theorem dL_law_394 : decode cL_law 394 = .ok (.iconst (-1), 1) := by decide +kernel
theorem dL_law_395 : decode cL_law 395 = .ok (.if_icmp .ne 88, 3) := by decide +kernel
theorem dL_law_398 : decode cL_law 398 = .ok (.aload_n 1, 1) := by decide +kernel
theorem dL_law_399 : decode cL_law 399 = .ok (.invokevirtual 103, 3) := by decide +kernel
theorem dL_law_402 : decode cL_law 402 = .ok (.iconst 2, 1) := by decide +kernel
theorem dL_law_403 : decode cL_law 403 = .ok (.if_icmp .ne 80, 3) := by decide +kernel
theorem dL_law_406 : decode cL_law 406 = .ok (.aload_n 1, 1) := by decide +kernel
theorem dL_law_407 : decode cL_law 407 = .ok (.iconst 0, 1) := by decide +kernel
theorem dL_law_408 : decode cL_law 408 = .ok (.iconst 0, 1) := by decide +kernel
theorem dL_law_409 : decode cL_law 409 = .ok (.iconst 0, 1) := by decide +kernel
theorem dL_law_410 : decode cL_law 410 = .ok (.invokevirtual 109, 3) := by decide +kernel
theorem dL_law_413 : decode cL_law 413 = .ok (.iconst (-1), 1) := by decide +kernel
theorem dL_law_414 : decode cL_law 414 = .ok (.if_icmp .ne 69, 3) := by decide +kernel
theorem dL_law_417 : decode cL_law 417 = .ok (.aload_n 1, 1) := by decide +kernel
theorem dL_law_418 : decode cL_law 418 = .ok (.invokevirtual 103, 3) := by decide +kernel
theorem dL_law_421 : decode cL_law 421 = .ok (.iconst 1, 1) := by decide +kernel
theorem dL_law_422 : decode cL_law 422 = .ok (.if_icmp .ne 61, 3) := by decide +kernel
theorem dL_law_425 : decode cL_law 425 = .ok (.aload_n 1, 1) := by decide +kernel
theorem dL_law_426 : decode cL_law 426 = .ok (.iconst 0, 1) := by decide +kernel
theorem dL_law_427 : decode cL_law 427 = .ok (.bipush 8, 2) := by decide +kernel
theorem dL_law_429 : decode cL_law 429 = .ok (.invokevirtual 82, 3) := by decide +kernel
theorem dL_law_432 : decode cL_law 432 = .ok (.iconst (-1), 1) := by decide +kernel
theorem dL_law_433 : decode cL_law 433 = .ok (.if_icmp .ne 50, 3) := by decide +kernel
theorem dL_law_436 : decode cL_law 436 = .ok (.aload_n 1, 1) := by decide +kernel
theorem dL_law_437 : decode cL_law 437 = .ok (.invokevirtual 103, 3) := by decide +kernel
theorem dL_law_440 : decode cL_law 440 = .ok (.iconst 1, 1) := by decide +kernel
theorem dL_law_441 : decode cL_law 441 = .ok (.if_icmp .ne 42, 3) := by decide +kernel
theorem dL_law_444 : decode cL_law 444 = .ok (.aload_n 1, 1) := by decide +kernel
theorem dL_law_445 : decode cL_law 445 = .ok (.iconst 0, 1) := by decide +kernel
theorem dL_law_446 : decode cL_law 446 = .ok (.iconst (-1), 1) := by decide +kernel
theorem dL_law_447 : decode cL_law 447 = .ok (.invokevirtual 123, 3) := by decide +kernel
theorem dL_law_450 : decode cL_law 450 = .ok (.iconst (-1), 1) := by decide +kernel
theorem dL_law_451 : decode cL_law 451 = .ok (.if_icmp .ne 32, 3) := by decide +kernel
theorem dL_law_454 : decode cL_law 454 = .ok (.aload_n 1, 1) := by decide +kernel
theorem dL_law_455 : decode cL_law 455 = .ok (.invokevirtual 103, 3) := by decide +kernel
theorem dL_law_458 : decode cL_law 458 = .ok (.iconst 5, 1) := by decide +kernel
theorem dL_law_459 : decode cL_law 459 = .ok (.if_icmp .ne 24, 3) := by decide +kernel
theorem dL_law_462 : decode cL_law 462 = .ok (.aload_n 1, 1) := by decide +kernel
theorem dL_law_463 : decode cL_law 463 = .ok (.iconst 0, 1) := by decide +kernel
theorem dL_law_464 : decode cL_law 464 = .ok (.invokevirtual 163, 3) := by decide +kernel
theorem dL_law_467 : decode cL_law 467 = .ok (.ifCond .ne 16, 3) := by decide +kernel
theorem dL_law_470 : decode cL_law 470 = .ok (.aload_n 1, 1) := by decide +kernel
theorem dL_law_471 : decode cL_law 471 = .ok (.iconst 2, 1) := by decide +kernel
theorem dL_law_472 : decode cL_law 472 = .ok (.invokevirtual 163, 3) := by decide +kernel
theorem dL_law_475 : decode cL_law 475 = .ok (.iconst (-1), 1) := by decide +kernel
theorem dL_law_476 : decode cL_law 476 = .ok (.if_icmp .ne 7, 3) := by decide +kernel
theorem dL_law_479 : decode cL_law 479 = .ok (.iconst 1, 1) := by decide +kernel
theorem dL_law_480 : decode cL_law 480 = .ok (.goto 4, 3) := by decide +kernel
theorem dL_law_483 : decode cL_law 483 = .ok (.iconst 0, 1) := by decide +kernel
theorem dL_law_484 : decode cL_law 484 = .ok (.ireturn, 1) := by decide +kernel
