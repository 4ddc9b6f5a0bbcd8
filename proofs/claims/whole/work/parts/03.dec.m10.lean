theorem dX10_init_0 : decode cX10_init 0 = .ok (.aload_n 0, 1) := by decide +kernel
theorem dX10_init_1 : decode cX10_init 1 = .ok (.invokespecial 1, 3) := by decide +kernel
theorem dX10_init_4 : decode cX10_init 4 = .ok (.aload_n 0, 1) := by decide +kernel
theorem dX10_init_5 : decode cX10_init 5 = .ok (.sipush 9120, 3) := by decide +kernel
theorem dX10_init_8 : decode cX10_init 8 = .ok (.newarray .int, 2) := by decide +kernel
theorem dX10_init_10 : decode cX10_init 10 = .ok (.putfield 7, 3) := by decide +kernel
theorem dX10_init_13 : decode cX10_init 13 = .ok (.aload_n 0, 1) := by decide +kernel
theorem dX10_init_14 : decode cX10_init 14 = .ok (.sipush 7296, 3) := by decide +kernel
theorem dX10_init_17 : decode cX10_init 17 = .ok (.newarray .int, 2) := by decide +kernel
theorem dX10_init_19 : decode cX10_init 19 = .ok (.putfield 13, 3) := by decide +kernel
theorem dX10_init_22 : decode cX10_init 22 = .ok (.aload_n 0, 1) := by decide +kernel
theorem dX10_init_23 : decode cX10_init 23 = .ok (.ldc 16, 2) := by decide +kernel
theorem dX10_init_25 : decode cX10_init 25 = .ok (.newarray .int, 2) := by decide +kernel
theorem dX10_init_27 : decode cX10_init 27 = .ok (.putfield 17, 3) := by decide +kernel
theorem dX10_init_30 : decode cX10_init 30 = .ok (.aload_n 0, 1) := by decide +kernel
theorem dX10_init_31 : decode cX10_init 31 = .ok (.bipush 8, 2) := by decide +kernel
theorem dX10_init_33 : decode cX10_init 33 = .ok (.newarray .int, 2) := by decide +kernel
theorem dX10_init_35 : decode cX10_init 35 = .ok (.putfield 20, 3) := by decide +kernel
theorem dX10_init_38 : decode cX10_init 38 = .ok (.aload_n 0, 1) := by decide +kernel
theorem dX10_init_39 : decode cX10_init 39 = .ok (.bipush 33, 2) := by decide +kernel
theorem dX10_init_41 : decode cX10_init 41 = .ok (.newarray .int, 2) := by decide +kernel
theorem dX10_init_43 : decode cX10_init 43 = .ok (.putfield 23, 3) := by decide +kernel
theorem dX10_init_46 : decode cX10_init 46 = .ok (.aload_n 0, 1) := by decide +kernel
theorem dX10_init_47 : decode cX10_init 47 = .ok (.bipush 33, 2) := by decide +kernel
theorem dX10_init_49 : decode cX10_init 49 = .ok (.newarray .int, 2) := by decide +kernel
theorem dX10_init_51 : decode cX10_init 51 = .ok (.putfield 26, 3) := by decide +kernel
theorem dX10_init_54 : decode cX10_init 54 = .ok (.aload_n 0, 1) := by decide +kernel
theorem dX10_init_55 : decode cX10_init 55 = .ok (.sipush 600, 3) := by decide +kernel
theorem dX10_init_58 : decode cX10_init 58 = .ok (.newarray .int, 2) := by decide +kernel
theorem dX10_init_60 : decode cX10_init 60 = .ok (.putfield 29, 3) := by decide +kernel
theorem dX10_init_63 : decode cX10_init 63 = .ok (.aload_n 0, 1) := by decide +kernel
theorem dX10_init_64 : decode cX10_init 64 = .ok (.sipush 600, 3) := by decide +kernel
theorem dX10_init_67 : decode cX10_init 67 = .ok (.newarray .boolean, 2) := by decide +kernel
theorem dX10_init_69 : decode cX10_init 69 = .ok (.putfield 32, 3) := by decide +kernel
theorem dX10_init_72 : decode cX10_init 72 = .ok (.aload_n 0, 1) := by decide +kernel
theorem dX10_init_73 : decode cX10_init 73 = .ok (.sipush 600, 3) := by decide +kernel
theorem dX10_init_76 : decode cX10_init 76 = .ok (.newarray .int, 2) := by decide +kernel
theorem dX10_init_78 : decode cX10_init 78 = .ok (.putfield 36, 3) := by decide +kernel
theorem dX10_init_81 : decode cX10_init 81 = .ok (.aload_n 0, 1) := by decide +kernel
theorem dX10_init_82 : decode cX10_init 82 = .ok (.sipush 4000, 3) := by decide +kernel
theorem dX10_init_85 : decode cX10_init 85 = .ok (.newarray .int, 2) := by decide +kernel
theorem dX10_init_87 : decode cX10_init 87 = .ok (.putfield 39, 3) := by decide +kernel
theorem dX10_init_90 : decode cX10_init 90 = .ok (.aload_n 0, 1) := by decide +kernel
theorem dX10_init_91 : decode cX10_init 91 = .ok (.sipush 600, 3) := by decide +kernel
theorem dX10_init_94 : decode cX10_init 94 = .ok (.newarray .byte, 2) := by decide +kernel
theorem dX10_init_96 : decode cX10_init 96 = .ok (.putfield 42, 3) := by decide +kernel
theorem dX10_init_99 : decode cX10_init 99 = .ok (.aload_n 0, 1) := by decide +kernel
theorem dX10_init_100 : decode cX10_init 100 = .ok (.iconst (-1), 1) := by decide +kernel
theorem dX10_init_101 : decode cX10_init 101 = .ok (.putfield 46, 3) := by decide +kernel
theorem dX10_init_104 : decode cX10_init 104 = .ok (.aload_n 0, 1) := by decide +kernel
theorem dX10_init_105 : decode cX10_init 105 = .ok (.iconst (-1), 1) := by decide +kernel
theorem dX10_init_106 : decode cX10_init 106 = .ok (.putfield 50, 3) := by decide +kernel
theorem dX10_init_109 : decode cX10_init 109 = .ok (.aload_n 0, 1) := by decide +kernel
theorem dX10_init_110 : decode cX10_init 110 = .ok (.bipush 7, 2) := by decide +kernel
theorem dX10_init_112 : decode cX10_init 112 = .ok (.newarray .long, 2) := by decide +kernel
theorem dX10_init_114 : decode cX10_init 114 = .ok (.putfield 53, 3) := by decide +kernel
theorem dX10_init_117 : decode cX10_init 117 = .ok (.aload_n 0, 1) := by decide +kernel
theorem dX10_init_118 : decode cX10_init 118 = .ok (.bipush 12, 2) := by decide +kernel
theorem dX10_init_120 : decode cX10_init 120 = .ok (.newarray .long, 2) := by decide +kernel
theorem dX10_init_122 : decode cX10_init 122 = .ok (.dup, 1) := by decide +kernel
theorem dX10_init_123 : decode cX10_init 123 = .ok (.iconst 0, 1) := by decide +kernel
theorem dX10_init_124 : decode cX10_init 124 = .ok (.ldc2_w 57, 3) := by decide +kernel
theorem dX10_init_127 : decode cX10_init 127 = .ok (.lastore, 1) := by decide +kernel
theorem dX10_init_128 : decode cX10_init 128 = .ok (.dup, 1) := by decide +kernel
theorem dX10_init_129 : decode cX10_init 129 = .ok (.iconst 1, 1) := by decide +kernel
theorem dX10_init_130 : decode cX10_init 130 = .ok (.ldc2_w 59, 3) := by decide +kernel
theorem dX10_init_133 : decode cX10_init 133 = .ok (.lastore, 1) := by decide +kernel
theorem dX10_init_134 : decode cX10_init 134 = .ok (.dup, 1) := by decide +kernel
theorem dX10_init_135 : decode cX10_init 135 = .ok (.iconst 2, 1) := by decide +kernel
theorem dX10_init_136 : decode cX10_init 136 = .ok (.ldc2_w 61, 3) := by decide +kernel
theorem dX10_init_139 : decode cX10_init 139 = .ok (.lastore, 1) := by decide +kernel
theorem dX10_init_140 : decode cX10_init 140 = .ok (.dup, 1) := by decide +kernel
theorem dX10_init_141 : decode cX10_init 141 = .ok (.iconst 3, 1) := by decide +kernel
theorem dX10_init_142 : decode cX10_init 142 = .ok (.ldc2_w 63, 3) := by decide +kernel
theorem dX10_init_145 : decode cX10_init 145 = .ok (.lastore, 1) := by decide +kernel
theorem dX10_init_146 : decode cX10_init 146 = .ok (.dup, 1) := by decide +kernel
theorem dX10_init_147 : decode cX10_init 147 = .ok (.iconst 4, 1) := by decide +kernel
theorem dX10_init_148 : decode cX10_init 148 = .ok (.ldc2_w 65, 3) := by decide +kernel
theorem dX10_init_151 : decode cX10_init 151 = .ok (.lastore, 1) := by decide +kernel
theorem dX10_init_152 : decode cX10_init 152 = .ok (.dup, 1) := by decide +kernel
theorem dX10_init_153 : decode cX10_init 153 = .ok (.iconst 5, 1) := by decide +kernel
theorem dX10_init_154 : decode cX10_init 154 = .ok (.ldc2_w 67, 3) := by decide +kernel
theorem dX10_init_157 : decode cX10_init 157 = .ok (.lastore, 1) := by decide +kernel
theorem dX10_init_158 : decode cX10_init 158 = .ok (.dup, 1) := by decide +kernel
theorem dX10_init_159 : decode cX10_init 159 = .ok (.bipush 6, 2) := by decide +kernel
theorem dX10_init_161 : decode cX10_init 161 = .ok (.ldc2_w 69, 3) := by decide +kernel
theorem dX10_init_164 : decode cX10_init 164 = .ok (.lastore, 1) := by decide +kernel
theorem dX10_init_165 : decode cX10_init 165 = .ok (.dup, 1) := by decide +kernel
theorem dX10_init_166 : decode cX10_init 166 = .ok (.bipush 7, 2) := by decide +kernel
theorem dX10_init_168 : decode cX10_init 168 = .ok (.ldc2_w 71, 3) := by decide +kernel
theorem dX10_init_171 : decode cX10_init 171 = .ok (.lastore, 1) := by decide +kernel
theorem dX10_init_172 : decode cX10_init 172 = .ok (.dup, 1) := by decide +kernel
theorem dX10_init_173 : decode cX10_init 173 = .ok (.bipush 8, 2) := by decide +kernel
theorem dX10_init_175 : decode cX10_init 175 = .ok (.ldc2_w 73, 3) := by decide +kernel
theorem dX10_init_178 : decode cX10_init 178 = .ok (.lastore, 1) := by decide +kernel
theorem dX10_init_179 : decode cX10_init 179 = .ok (.dup, 1) := by decide +kernel
theorem dX10_init_180 : decode cX10_init 180 = .ok (.bipush 9, 2) := by decide +kernel
theorem dX10_init_182 : decode cX10_init 182 = .ok (.ldc2_w 75, 3) := by decide +kernel
theorem dX10_init_185 : decode cX10_init 185 = .ok (.lastore, 1) := by decide +kernel
theorem dX10_init_186 : decode cX10_init 186 = .ok (.dup, 1) := by decide +kernel
theorem dX10_init_187 : decode cX10_init 187 = .ok (.bipush 10, 2) := by decide +kernel
theorem dX10_init_189 : decode cX10_init 189 = .ok (.ldc2_w 77, 3) := by decide +kernel
theorem dX10_init_192 : decode cX10_init 192 = .ok (.lastore, 1) := by decide +kernel
theorem dX10_init_193 : decode cX10_init 193 = .ok (.dup, 1) := by decide +kernel
theorem dX10_init_194 : decode cX10_init 194 = .ok (.bipush 11, 2) := by decide +kernel
theorem dX10_init_196 : decode cX10_init 196 = .ok (.ldc2_w 79, 3) := by decide +kernel
theorem dX10_init_199 : decode cX10_init 199 = .ok (.lastore, 1) := by decide +kernel
theorem dX10_init_200 : decode cX10_init 200 = .ok (.putfield 81, 3) := by decide +kernel
theorem dX10_init_203 : decode cX10_init 203 = .ok (.return_, 1) := by decide +kernel
theorem dX10_status_0 : decode cX10_status 0 = .ok (.aload_n 0, 1) := by decide +kernel
theorem dX10_status_1 : decode cX10_status 1 = .ok (.iconst 0, 1) := by decide +kernel
theorem dX10_status_2 : decode cX10_status 2 = .ok (.putfield 84, 3) := by decide +kernel
theorem dX10_status_5 : decode cX10_status 5 = .ok (.aload_n 0, 1) := by decide +kernel
theorem dX10_status_6 : decode cX10_status 6 = .ok (.getfield 87, 3) := by decide +kernel
theorem dX10_status_9 : decode cX10_status 9 = .ok (.ireturn, 1) := by decide +kernel
theorem dX10_refuse_0 : decode cX10_refuse 0 = .ok (.aload_n 0, 1) := by decide +kernel
theorem dX10_refuse_1 : decode cX10_refuse 1 = .ok (.iload_n 1, 1) := by decide +kernel
theorem dX10_refuse_2 : decode cX10_refuse 2 = .ok (.putfield 87, 3) := by decide +kernel
theorem dX10_refuse_5 : decode cX10_refuse 5 = .ok (.iconst (-1), 1) := by decide +kernel
theorem dX10_refuse_6 : decode cX10_refuse 6 = .ok (.ireturn, 1) := by decide +kernel
theorem dX10_is_0 : decode cX10_is 0 = .ok (.aload_n 0, 1) := by decide +kernel
theorem dX10_is_1 : decode cX10_is 1 = .ok (.iconst 0, 1) := by decide +kernel
theorem dX10_is_2 : decode cX10_is 2 = .ok (.putfield 84, 3) := by decide +kernel
theorem dX10_is_5 : decode cX10_is 5 = .ok (.aload_n 0, 1) := by decide +kernel
theorem dX10_is_6 : decode cX10_is 6 = .ok (.iload_n 1, 1) := by decide +kernel
theorem dX10_is_7 : decode cX10_is 7 = .ok (.putfield 87, 3) := by decide +kernel
theorem dX10_is_10 : decode cX10_is 10 = .ok (.iload_n 1, 1) := by decide +kernel
theorem dX10_is_11 : decode cX10_is 11 = .ok (.ifCond .ne 7, 3) := by decide +kernel
theorem dX10_is_14 : decode cX10_is 14 = .ok (.iconst 1, 1) := by decide +kernel
theorem dX10_is_15 : decode cX10_is 15 = .ok (.goto 4, 3) := by decide +kernel
theorem dX10_is_18 : decode cX10_is 18 = .ok (.iconst 0, 1) := by decide +kernel
theorem dX10_is_19 : decode cX10_is 19 = .ok (.ireturn, 1) := by decide +kernel
theorem dX10_isIn_0 : decode cX10_isIn 0 = .ok (.lload_n 0, 1) := by decide +kernel
theorem dX10_isIn_1 : decode cX10_isIn 1 = .ok (.lload_n 2, 1) := by decide +kernel
theorem dX10_isIn_2 : decode cX10_isIn 2 = .ok (.lcmp, 1) := by decide +kernel
theorem dX10_isIn_3 : decode cX10_isIn 3 = .ok (.ifCond .lt 14, 3) := by decide +kernel
theorem dX10_isIn_6 : decode cX10_isIn 6 = .ok (.lload_n 0, 1) := by decide +kernel
theorem dX10_isIn_7 : decode cX10_isIn 7 = .ok (.lload 4, 2) := by decide +kernel
theorem dX10_isIn_9 : decode cX10_isIn 9 = .ok (.lcmp, 1) := by decide +kernel
theorem dX10_isIn_10 : decode cX10_isIn 10 = .ok (.ifCond .gt 7, 3) := by decide +kernel
theorem dX10_isIn_13 : decode cX10_isIn 13 = .ok (.iconst 1, 1) := by decide +kernel
theorem dX10_isIn_14 : decode cX10_isIn 14 = .ok (.goto 4, 3) := by decide +kernel
theorem dX10_isIn_17 : decode cX10_isIn 17 = .ok (.iconst 0, 1) := by decide +kernel
theorem dX10_isIn_18 : decode cX10_isIn 18 = .ok (.ireturn, 1) := by decide +kernel
theorem dX10_isSieve_0 : decode cX10_isSieve 0 = .ok (.iload_n 1, 1) := by decide +kernel
theorem dX10_isSieve_1 : decode cX10_isSieve 1 = .ok (.i2l, 1) := by decide +kernel
theorem dX10_isSieve_2 : decode cX10_isSieve 2 = .ok (.lconst 0, 1) := by decide +kernel
theorem dX10_isSieve_3 : decode cX10_isSieve 3 = .ok (.aload_n 0, 1) := by decide +kernel
theorem dX10_isSieve_4 : decode cX10_isSieve 4 = .ok (.getfield 90, 3) := by decide +kernel
theorem dX10_isSieve_7 : decode cX10_isSieve 7 = .ok (.iconst 1, 1) := by decide +kernel
theorem dX10_isSieve_8 : decode cX10_isSieve 8 = .ok (.isub, 1) := by decide +kernel
theorem dX10_isSieve_9 : decode cX10_isSieve 9 = .ok (.i2l, 1) := by decide +kernel
theorem dX10_isSieve_10 : decode cX10_isSieve 10 = .ok (.invokestatic 93, 3) := by decide +kernel
theorem dX10_isSieve_13 : decode cX10_isSieve 13 = .ok (.ireturn, 1) := by decide +kernel
theorem dX10_of_0 : decode cX10_of 0 = .ok (.aload_n 0, 1) := by decide +kernel
theorem dX10_of_1 : decode cX10_of 1 = .ok (.getfield 7, 3) := by decide +kernel
theorem dX10_of_4 : decode cX10_of 4 = .ok (.sipush 1824, 3) := by decide +kernel
theorem dX10_of_7 : decode cX10_of 7 = .ok (.iload_n 1, 1) := by decide +kernel
theorem dX10_of_8 : decode cX10_of 8 = .ok (.imul, 1) := by decide +kernel
theorem dX10_of_9 : decode cX10_of 9 = .ok (.iload_n 2, 1) := by decide +kernel
theorem dX10_of_10 : decode cX10_of 10 = .ok (.iadd, 1) := by decide +kernel
theorem dX10_of_11 : decode cX10_of 11 = .ok (.iaload, 1) := by decide +kernel
theorem dX10_of_12 : decode cX10_of 12 = .ok (.ireturn, 1) := by decide +kernel
theorem dX10_numberAt_0 : decode cX10_numberAt 0 = .ok (.aload_n 0, 1) := by decide +kernel
theorem dX10_numberAt_1 : decode cX10_numberAt 1 = .ok (.iload_n 1, 1) := by decide +kernel
theorem dX10_numberAt_2 : decode cX10_numberAt 2 = .ok (.iconst 1, 1) := by decide +kernel
theorem dX10_numberAt_3 : decode cX10_numberAt 3 = .ok (.invokevirtual 97, 3) := by decide +kernel
theorem dX10_numberAt_6 : decode cX10_numberAt 6 = .ok (.iload_n 2, 1) := by decide +kernel
theorem dX10_numberAt_7 : decode cX10_numberAt 7 = .ok (.aload_n 0, 1) := by decide +kernel
theorem dX10_numberAt_8 : decode cX10_numberAt 8 = .ok (.iload_n 1, 1) := by decide +kernel
theorem dX10_numberAt_9 : decode cX10_numberAt 9 = .ok (.iconst 2, 1) := by decide +kernel
theorem dX10_numberAt_10 : decode cX10_numberAt 10 = .ok (.invokevirtual 97, 3) := by decide +kernel
theorem dX10_numberAt_13 : decode cX10_numberAt 13 = .ok (.imul, 1) := by decide +kernel
theorem dX10_numberAt_14 : decode cX10_numberAt 14 = .ok (.iadd, 1) := by decide +kernel
theorem dX10_numberAt_15 : decode cX10_numberAt 15 = .ok (.ireturn, 1) := by decide +kernel
theorem dX10_goneAt_0 : decode cX10_goneAt 0 = .ok (.aload_n 0, 1) := by decide +kernel
theorem dX10_goneAt_1 : decode cX10_goneAt 1 = .ok (.getfield 7, 3) := by decide +kernel
theorem dX10_goneAt_4 : decode cX10_goneAt 4 = .ok (.sipush 1824, 3) := by decide +kernel
theorem dX10_goneAt_7 : decode cX10_goneAt 7 = .ok (.iload_n 1, 1) := by decide +kernel
theorem dX10_goneAt_8 : decode cX10_goneAt 8 = .ok (.imul, 1) := by decide +kernel
theorem dX10_goneAt_9 : decode cX10_goneAt 9 = .ok (.bipush 20, 2) := by decide +kernel
theorem dX10_goneAt_11 : decode cX10_goneAt 11 = .ok (.iadd, 1) := by decide +kernel
theorem dX10_goneAt_12 : decode cX10_goneAt 12 = .ok (.iload_n 2, 1) := by decide +kernel
theorem dX10_goneAt_13 : decode cX10_goneAt 13 = .ok (.iadd, 1) := by decide +kernel
theorem dX10_goneAt_14 : decode cX10_goneAt 14 = .ok (.iaload, 1) := by decide +kernel
theorem dX10_goneAt_15 : decode cX10_goneAt 15 = .ok (.ireturn, 1) := by decide +kernel
theorem dX10_indexOf_0 : decode cX10_indexOf 0 = .ok (.iload_n 2, 1) := by decide +kernel
theorem dX10_indexOf_1 : decode cX10_indexOf 1 = .ok (.aload_n 0, 1) := by decide +kernel
theorem dX10_indexOf_2 : decode cX10_indexOf 2 = .ok (.iload_n 1, 1) := by decide +kernel
theorem dX10_indexOf_3 : decode cX10_indexOf 3 = .ok (.iconst 1, 1) := by decide +kernel
theorem dX10_indexOf_4 : decode cX10_indexOf 4 = .ok (.invokevirtual 97, 3) := by decide +kernel
theorem dX10_indexOf_7 : decode cX10_indexOf 7 = .ok (.isub, 1) := by decide +kernel
theorem dX10_indexOf_8 : decode cX10_indexOf 8 = .ok (.istore_n 3, 1) := by decide +kernel
theorem dX10_indexOf_9 : decode cX10_indexOf 9 = .ok (.iload_n 2, 1) := by decide +kernel
theorem dX10_indexOf_10 : decode cX10_indexOf 10 = .ok (.ifCond .lt 46, 3) := by decide +kernel
theorem dX10_indexOf_13 : decode cX10_indexOf 13 = .ok (.iload_n 3, 1) := by decide +kernel
theorem dX10_indexOf_14 : decode cX10_indexOf 14 = .ok (.ifCond .lt 42, 3) := by decide +kernel
theorem dX10_indexOf_17 : decode cX10_indexOf 17 = .ok (.iload_n 3, 1) := by decide +kernel
theorem dX10_indexOf_18 : decode cX10_indexOf 18 = .ok (.aload_n 0, 1) := by decide +kernel
theorem dX10_indexOf_19 : decode cX10_indexOf 19 = .ok (.iload_n 1, 1) := by decide +kernel
theorem dX10_indexOf_20 : decode cX10_indexOf 20 = .ok (.iconst 2, 1) := by decide +kernel
theorem dX10_indexOf_21 : decode cX10_indexOf 21 = .ok (.invokevirtual 97, 3) := by decide +kernel
theorem dX10_indexOf_24 : decode cX10_indexOf 24 = .ok (.irem, 1) := by decide +kernel
theorem dX10_indexOf_25 : decode cX10_indexOf 25 = .ok (.ifCond .ne 31, 3) := by decide +kernel
theorem dX10_indexOf_28 : decode cX10_indexOf 28 = .ok (.iload_n 3, 1) := by decide +kernel
theorem dX10_indexOf_29 : decode cX10_indexOf 29 = .ok (.aload_n 0, 1) := by decide +kernel
theorem dX10_indexOf_30 : decode cX10_indexOf 30 = .ok (.iload_n 1, 1) := by decide +kernel
theorem dX10_indexOf_31 : decode cX10_indexOf 31 = .ok (.iconst 2, 1) := by decide +kernel
theorem dX10_indexOf_32 : decode cX10_indexOf 32 = .ok (.invokevirtual 97, 3) := by decide +kernel
theorem dX10_indexOf_35 : decode cX10_indexOf 35 = .ok (.idiv, 1) := by decide +kernel
theorem dX10_indexOf_36 : decode cX10_indexOf 36 = .ok (.aload_n 0, 1) := by decide +kernel
theorem dX10_indexOf_37 : decode cX10_indexOf 37 = .ok (.iload_n 1, 1) := by decide +kernel
theorem dX10_indexOf_38 : decode cX10_indexOf 38 = .ok (.iconst 3, 1) := by decide +kernel
theorem dX10_indexOf_39 : decode cX10_indexOf 39 = .ok (.invokevirtual 97, 3) := by decide +kernel
theorem dX10_indexOf_42 : decode cX10_indexOf 42 = .ok (.if_icmp .ge 14, 3) := by decide +kernel
theorem dX10_indexOf_45 : decode cX10_indexOf 45 = .ok (.iload_n 3, 1) := by decide +kernel
theorem dX10_indexOf_46 : decode cX10_indexOf 46 = .ok (.aload_n 0, 1) := by decide +kernel
theorem dX10_indexOf_47 : decode cX10_indexOf 47 = .ok (.iload_n 1, 1) := by decide +kernel
theorem dX10_indexOf_48 : decode cX10_indexOf 48 = .ok (.iconst 2, 1) := by decide +kernel
theorem dX10_indexOf_49 : decode cX10_indexOf 49 = .ok (.invokevirtual 97, 3) := by decide +kernel
theorem dX10_indexOf_52 : decode cX10_indexOf 52 = .ok (.idiv, 1) := by decide +kernel
theorem dX10_indexOf_53 : decode cX10_indexOf 53 = .ok (.goto 4, 3) := by decide +kernel
theorem dX10_indexOf_56 : decode cX10_indexOf 56 = .ok (.iconst (-1), 1) := by decide +kernel
theorem dX10_indexOf_57 : decode cX10_indexOf 57 = .ok (.ireturn, 1) := by decide +kernel
theorem dX10_isThere_0 : decode cX10_isThere 0 = .ok (.aload_n 0, 1) := by decide +kernel
theorem dX10_isThere_1 : decode cX10_isThere 1 = .ok (.iload_n 1, 1) := by decide +kernel
theorem dX10_isThere_2 : decode cX10_isThere 2 = .ok (.iload_n 2, 1) := by decide +kernel
theorem dX10_isThere_3 : decode cX10_isThere 3 = .ok (.invokevirtual 101, 3) := by decide +kernel
theorem dX10_isThere_6 : decode cX10_isThere 6 = .ok (.istore_n 3, 1) := by decide +kernel
theorem dX10_isThere_7 : decode cX10_isThere 7 = .ok (.iload_n 3, 1) := by decide +kernel
theorem dX10_isThere_8 : decode cX10_isThere 8 = .ok (.ifCond .lt 16, 3) := by decide +kernel
theorem dX10_isThere_11 : decode cX10_isThere 11 = .ok (.aload_n 0, 1) := by decide +kernel
theorem dX10_isThere_12 : decode cX10_isThere 12 = .ok (.iload_n 1, 1) := by decide +kernel
theorem dX10_isThere_13 : decode cX10_isThere 13 = .ok (.iload_n 3, 1) := by decide +kernel
theorem dX10_isThere_14 : decode cX10_isThere 14 = .ok (.invokevirtual 104, 3) := by decide +kernel
theorem dX10_isThere_17 : decode cX10_isThere 17 = .ok (.ifCond .ne 7, 3) := by decide +kernel
theorem dX10_isThere_20 : decode cX10_isThere 20 = .ok (.iconst 1, 1) := by decide +kernel
theorem dX10_isThere_21 : decode cX10_isThere 21 = .ok (.goto 4, 3) := by decide +kernel
theorem dX10_isThere_24 : decode cX10_isThere 24 = .ok (.iconst 0, 1) := by decide +kernel
theorem dX10_isThere_25 : decode cX10_isThere 25 = .ok (.ireturn, 1) := by decide +kernel
theorem dX10_lays_0 : decode cX10_lays 0 = .ok (.aload_n 0, 1) := by decide +kernel
theorem dX10_lays_1 : decode cX10_lays 1 = .ok (.iconst 0, 1) := by decide +kernel
theorem dX10_lays_2 : decode cX10_lays 2 = .ok (.putfield 107, 3) := by decide +kernel
theorem dX10_lays_5 : decode cX10_lays 5 = .ok (.iconst 0, 1) := by decide +kernel
theorem dX10_lays_6 : decode cX10_lays 6 = .ok (.istore 4, 2) := by decide +kernel
theorem dX10_lays_8 : decode cX10_lays 8 = .ok (.iload 4, 2) := by decide +kernel
theorem dX10_lays_10 : decode cX10_lays 10 = .ok (.aload_n 0, 1) := by decide +kernel
theorem dX10_lays_11 : decode cX10_lays 11 = .ok (.iload_n 1, 1) := by decide +kernel
theorem dX10_lays_12 : decode cX10_lays 12 = .ok (.iconst 3, 1) := by decide +kernel
theorem dX10_lays_13 : decode cX10_lays 13 = .ok (.invokevirtual 97, 3) := by decide +kernel
theorem dX10_lays_16 : decode cX10_lays 16 = .ok (.if_icmp .ge 67, 3) := by decide +kernel
theorem dX10_lays_19 : decode cX10_lays 19 = .ok (.aload_n 0, 1) := by decide +kernel
theorem dX10_lays_20 : decode cX10_lays 20 = .ok (.iload_n 1, 1) := by decide +kernel
theorem dX10_lays_21 : decode cX10_lays 21 = .ok (.iload 4, 2) := by decide +kernel
theorem dX10_lays_23 : decode cX10_lays 23 = .ok (.invokevirtual 104, 3) := by decide +kernel
theorem dX10_lays_26 : decode cX10_lays 26 = .ok (.istore 5, 2) := by decide +kernel
theorem dX10_lays_28 : decode cX10_lays 28 = .ok (.iload 5, 2) := by decide +kernel
theorem dX10_lays_30 : decode cX10_lays 30 = .ok (.ifCond .eq 26, 3) := by decide +kernel
theorem dX10_lays_33 : decode cX10_lays 33 = .ok (.iload_n 2, 1) := by decide +kernel
theorem dX10_lays_34 : decode cX10_lays 34 = .ok (.ifCond .eq 43, 3) := by decide +kernel
theorem dX10_lays_37 : decode cX10_lays 37 = .ok (.iload 5, 2) := by decide +kernel
theorem dX10_lays_39 : decode cX10_lays 39 = .ok (.iload_n 2, 1) := by decide +kernel
theorem dX10_lays_40 : decode cX10_lays 40 = .ok (.if_icmp .lt 37, 3) := by decide +kernel
theorem dX10_lays_43 : decode cX10_lays 43 = .ok (.iload_n 3, 1) := by decide +kernel
theorem dX10_lays_44 : decode cX10_lays 44 = .ok (.ifCond .eq 12, 3) := by decide +kernel
theorem dX10_lays_47 : decode cX10_lays 47 = .ok (.iload 5, 2) := by decide +kernel
theorem dX10_lays_49 : decode cX10_lays 49 = .ok (.iload_n 2, 1) := by decide +kernel
theorem dX10_lays_50 : decode cX10_lays 50 = .ok (.if_icmp .ne 6, 3) := by decide +kernel
theorem dX10_lays_53 : decode cX10_lays 53 = .ok (.goto 24, 3) := by decide +kernel
theorem dX10_lays_56 : decode cX10_lays 56 = .ok (.aload_n 0, 1) := by decide +kernel
theorem dX10_lays_57 : decode cX10_lays 57 = .ok (.getfield 29, 3) := by decide +kernel
theorem dX10_lays_60 : decode cX10_lays 60 = .ok (.aload_n 0, 1) := by decide +kernel
theorem dX10_lays_61 : decode cX10_lays 61 = .ok (.getfield 107, 3) := by decide +kernel
theorem dX10_lays_64 : decode cX10_lays 64 = .ok (.iload 4, 2) := by decide +kernel
theorem dX10_lays_66 : decode cX10_lays 66 = .ok (.iastore, 1) := by decide +kernel
theorem dX10_lays_67 : decode cX10_lays 67 = .ok (.aload_n 0, 1) := by decide +kernel
theorem dX10_lays_68 : decode cX10_lays 68 = .ok (.dup, 1) := by decide +kernel
theorem dX10_lays_69 : decode cX10_lays 69 = .ok (.getfield 107, 3) := by decide +kernel
theorem dX10_lays_72 : decode cX10_lays 72 = .ok (.iconst 1, 1) := by decide +kernel
theorem dX10_lays_73 : decode cX10_lays 73 = .ok (.iadd, 1) := by decide +kernel
theorem dX10_lays_74 : decode cX10_lays 74 = .ok (.putfield 107, 3) := by decide +kernel
theorem dX10_lays_77 : decode cX10_lays 77 = .ok (.iinc 4 1, 3) := by decide +kernel
theorem dX10_lays_80 : decode cX10_lays 80 = .ok (.goto (-72), 3) := by decide +kernel
theorem dX10_lays_83 : decode cX10_lays 83 = .ok (.return_, 1) := by decide +kernel
theorem dX10_laysNow_0 : decode cX10_laysNow 0 = .ok (.aload_n 0, 1) := by decide +kernel
theorem dX10_laysNow_1 : decode cX10_laysNow 1 = .ok (.iload_n 1, 1) := by decide +kernel
theorem dX10_laysNow_2 : decode cX10_laysNow 2 = .ok (.iconst 0, 1) := by decide +kernel
theorem dX10_laysNow_3 : decode cX10_laysNow 3 = .ok (.iconst 0, 1) := by decide +kernel
theorem dX10_laysNow_4 : decode cX10_laysNow 4 = .ok (.invokevirtual 110, 3) := by decide +kernel
theorem dX10_laysNow_7 : decode cX10_laysNow 7 = .ok (.return_, 1) := by decide +kernel
theorem dX10_at_0 : decode cX10_at 0 = .ok (.aload_n 0, 1) := by decide +kernel
theorem dX10_at_1 : decode cX10_at 1 = .ok (.iload_n 1, 1) := by decide +kernel
theorem dX10_at_2 : decode cX10_at 2 = .ok (.aload_n 0, 1) := by decide +kernel
theorem dX10_at_3 : decode cX10_at 3 = .ok (.getfield 29, 3) := by decide +kernel
theorem dX10_at_6 : decode cX10_at 6 = .ok (.iload_n 2, 1) := by decide +kernel
theorem dX10_at_7 : decode cX10_at 7 = .ok (.iconst 1, 1) := by decide +kernel
theorem dX10_at_8 : decode cX10_at 8 = .ok (.isub, 1) := by decide +kernel
theorem dX10_at_9 : decode cX10_at 9 = .ok (.iaload, 1) := by decide +kernel
theorem dX10_at_10 : decode cX10_at 10 = .ok (.invokevirtual 114, 3) := by decide +kernel
theorem dX10_at_13 : decode cX10_at 13 = .ok (.ireturn, 1) := by decide +kernel
theorem dX10_gapOf_0 : decode cX10_gapOf 0 = .ok (.aload_n 0, 1) := by decide +kernel
theorem dX10_gapOf_1 : decode cX10_gapOf 1 = .ok (.iload_n 1, 1) := by decide +kernel
theorem dX10_gapOf_2 : decode cX10_gapOf 2 = .ok (.iconst 0, 1) := by decide +kernel
theorem dX10_gapOf_3 : decode cX10_gapOf 3 = .ok (.invokevirtual 97, 3) := by decide +kernel
theorem dX10_gapOf_6 : decode cX10_gapOf 6 = .ok (.tableswitch 88 1 5 #[34, 88, 88, 38, 61], 34) := by decide +kernel
theorem dX10_gapOf_40 : decode cX10_gapOf 40 = .ok (.iload_n 2, 1) := by decide +kernel
theorem dX10_gapOf_41 : decode cX10_gapOf 41 = .ok (.iconst 1, 1) := by decide +kernel
theorem dX10_gapOf_42 : decode cX10_gapOf 42 = .ok (.iadd, 1) := by decide +kernel
theorem dX10_gapOf_43 : decode cX10_gapOf 43 = .ok (.ireturn, 1) := by decide +kernel
theorem dX10_gapOf_44 : decode cX10_gapOf 44 = .ok (.iload_n 2, 1) := by decide +kernel
theorem dX10_gapOf_45 : decode cX10_gapOf 45 = .ok (.aload_n 0, 1) := by decide +kernel
theorem dX10_gapOf_46 : decode cX10_gapOf 46 = .ok (.iload_n 1, 1) := by decide +kernel
theorem dX10_gapOf_47 : decode cX10_gapOf 47 = .ok (.bipush 9, 2) := by decide +kernel
theorem dX10_gapOf_49 : decode cX10_gapOf 49 = .ok (.invokevirtual 97, 3) := by decide +kernel
theorem dX10_gapOf_52 : decode cX10_gapOf 52 = .ok (.if_icmp .gt 13, 3) := by decide +kernel
theorem dX10_gapOf_55 : decode cX10_gapOf 55 = .ok (.aload_n 0, 1) := by decide +kernel
theorem dX10_gapOf_56 : decode cX10_gapOf 56 = .ok (.iload_n 1, 1) := by decide +kernel
theorem dX10_gapOf_57 : decode cX10_gapOf 57 = .ok (.bipush 8, 2) := by decide +kernel
theorem dX10_gapOf_59 : decode cX10_gapOf 59 = .ok (.invokevirtual 97, 3) := by decide +kernel
theorem dX10_gapOf_62 : decode cX10_gapOf 62 = .ok (.goto 4, 3) := by decide +kernel
theorem dX10_gapOf_65 : decode cX10_gapOf 65 = .ok (.iconst 0, 1) := by decide +kernel
theorem dX10_gapOf_66 : decode cX10_gapOf 66 = .ok (.ireturn, 1) := by decide +kernel
theorem dX10_gapOf_67 : decode cX10_gapOf 67 = .ok (.iload_n 2, 1) := by decide +kernel
theorem dX10_gapOf_68 : decode cX10_gapOf 68 = .ok (.aload_n 0, 1) := by decide +kernel
theorem dX10_gapOf_69 : decode cX10_gapOf 69 = .ok (.iload_n 1, 1) := by decide +kernel
theorem dX10_gapOf_70 : decode cX10_gapOf 70 = .ok (.bipush 7, 2) := by decide +kernel
theorem dX10_gapOf_72 : decode cX10_gapOf 72 = .ok (.invokevirtual 97, 3) := by decide +kernel
theorem dX10_gapOf_75 : decode cX10_gapOf 75 = .ok (.if_icmp .gt 17, 3) := by decide +kernel
theorem dX10_gapOf_78 : decode cX10_gapOf 78 = .ok (.aload_n 0, 1) := by decide +kernel
theorem dX10_gapOf_79 : decode cX10_gapOf 79 = .ok (.iload_n 1, 1) := by decide +kernel
theorem dX10_gapOf_80 : decode cX10_gapOf 80 = .ok (.bipush 8, 2) := by decide +kernel
theorem dX10_gapOf_82 : decode cX10_gapOf 82 = .ok (.iload_n 2, 1) := by decide +kernel
theorem dX10_gapOf_83 : decode cX10_gapOf 83 = .ok (.iadd, 1) := by decide +kernel
theorem dX10_gapOf_84 : decode cX10_gapOf 84 = .ok (.iconst 1, 1) := by decide +kernel
theorem dX10_gapOf_85 : decode cX10_gapOf 85 = .ok (.isub, 1) := by decide +kernel
theorem dX10_gapOf_86 : decode cX10_gapOf 86 = .ok (.invokevirtual 97, 3) := by decide +kernel
theorem dX10_gapOf_89 : decode cX10_gapOf 89 = .ok (.goto 4, 3) := by decide +kernel
theorem dX10_gapOf_92 : decode cX10_gapOf 92 = .ok (.iconst 0, 1) := by decide +kernel
theorem dX10_gapOf_93 : decode cX10_gapOf 93 = .ok (.ireturn, 1) := by decide +kernel
theorem dX10_gapOf_94 : decode cX10_gapOf 94 = .ok (.iload_n 2, 1) := by decide +kernel
theorem dX10_gapOf_95 : decode cX10_gapOf 95 = .ok (.aload_n 0, 1) := by decide +kernel
theorem dX10_gapOf_96 : decode cX10_gapOf 96 = .ok (.getfield 107, 3) := by decide +kernel
theorem dX10_gapOf_99 : decode cX10_gapOf 99 = .ok (.if_icmp .ge 14, 3) := by decide +kernel
theorem dX10_gapOf_102 : decode cX10_gapOf 102 = .ok (.aload_n 0, 1) := by decide +kernel
theorem dX10_gapOf_103 : decode cX10_gapOf 103 = .ok (.iload_n 1, 1) := by decide +kernel
theorem dX10_gapOf_104 : decode cX10_gapOf 104 = .ok (.iload_n 2, 1) := by decide +kernel
theorem dX10_gapOf_105 : decode cX10_gapOf 105 = .ok (.iconst 1, 1) := by decide +kernel
theorem dX10_gapOf_106 : decode cX10_gapOf 106 = .ok (.iadd, 1) := by decide +kernel
theorem dX10_gapOf_107 : decode cX10_gapOf 107 = .ok (.invokevirtual 117, 3) := by decide +kernel
theorem dX10_gapOf_110 : decode cX10_gapOf 110 = .ok (.goto 4, 3) := by decide +kernel
theorem dX10_gapOf_113 : decode cX10_gapOf 113 = .ok (.iconst 0, 1) := by decide +kernel
theorem dX10_gapOf_114 : decode cX10_gapOf 114 = .ok (.ireturn, 1) := by decide +kernel
theorem dX10_strikes_0 : decode cX10_strikes 0 = .ok (.aload_n 0, 1) := by decide +kernel
theorem dX10_strikes_1 : decode cX10_strikes 1 = .ok (.iload_n 1, 1) := by decide +kernel
theorem dX10_strikes_2 : decode cX10_strikes 2 = .ok (.iconst 0, 1) := by decide +kernel
theorem dX10_strikes_3 : decode cX10_strikes 3 = .ok (.invokevirtual 97, 3) := by decide +kernel
theorem dX10_strikes_6 : decode cX10_strikes 6 = .ok (.lookupswitch 77 #[(2, 26), (3, 51)], 26) := by decide +kernel
theorem dX10_strikes_32 : decode cX10_strikes 32 = .ok (.iload 4, 2) := by decide +kernel
theorem dX10_strikes_34 : decode cX10_strikes 34 = .ok (.iload_n 2, 1) := by decide +kernel
theorem dX10_strikes_35 : decode cX10_strikes 35 = .ok (.iconst 1, 1) := by decide +kernel
theorem dX10_strikes_36 : decode cX10_strikes 36 = .ok (.iadd, 1) := by decide +kernel
theorem dX10_strikes_37 : decode cX10_strikes 37 = .ok (.if_icmp .le 18, 3) := by decide +kernel
theorem dX10_strikes_40 : decode cX10_strikes 40 = .ok (.iload 4, 2) := by decide +kernel
theorem dX10_strikes_42 : decode cX10_strikes 42 = .ok (.iload_n 2, 1) := by decide +kernel
theorem dX10_strikes_43 : decode cX10_strikes 43 = .ok (.isub, 1) := by decide +kernel
theorem dX10_strikes_44 : decode cX10_strikes 44 = .ok (.iconst 1, 1) := by decide +kernel
theorem dX10_strikes_45 : decode cX10_strikes 45 = .ok (.isub, 1) := by decide +kernel
theorem dX10_strikes_46 : decode cX10_strikes 46 = .ok (.iload_n 3, 1) := by decide +kernel
theorem dX10_strikes_47 : decode cX10_strikes 47 = .ok (.irem, 1) := by decide +kernel
theorem dX10_strikes_48 : decode cX10_strikes 48 = .ok (.ifCond .ne 7, 3) := by decide +kernel
theorem dX10_strikes_51 : decode cX10_strikes 51 = .ok (.iconst 1, 1) := by decide +kernel
theorem dX10_strikes_52 : decode cX10_strikes 52 = .ok (.goto 4, 3) := by decide +kernel
theorem dX10_strikes_55 : decode cX10_strikes 55 = .ok (.iconst 0, 1) := by decide +kernel
theorem dX10_strikes_56 : decode cX10_strikes 56 = .ok (.ireturn, 1) := by decide +kernel
theorem dX10_strikes_57 : decode cX10_strikes 57 = .ok (.iload 4, 2) := by decide +kernel
theorem dX10_strikes_59 : decode cX10_strikes 59 = .ok (.iload_n 2, 1) := by decide +kernel
theorem dX10_strikes_60 : decode cX10_strikes 60 = .ok (.iconst 1, 1) := by decide +kernel
theorem dX10_strikes_61 : decode cX10_strikes 61 = .ok (.iadd, 1) := by decide +kernel
theorem dX10_strikes_62 : decode cX10_strikes 62 = .ok (.if_icmp .le 19, 3) := by decide +kernel
theorem dX10_strikes_65 : decode cX10_strikes 65 = .ok (.aload_n 0, 1) := by decide +kernel
theorem dX10_strikes_66 : decode cX10_strikes 66 = .ok (.iload_n 1, 1) := by decide +kernel
theorem dX10_strikes_67 : decode cX10_strikes 67 = .ok (.iload 4, 2) := by decide +kernel
theorem dX10_strikes_69 : decode cX10_strikes 69 = .ok (.invokevirtual 117, 3) := by decide +kernel
theorem dX10_strikes_72 : decode cX10_strikes 72 = .ok (.iload_n 3, 1) := by decide +kernel
theorem dX10_strikes_73 : decode cX10_strikes 73 = .ok (.irem, 1) := by decide +kernel
theorem dX10_strikes_74 : decode cX10_strikes 74 = .ok (.ifCond .ne 7, 3) := by decide +kernel
theorem dX10_strikes_77 : decode cX10_strikes 77 = .ok (.iconst 1, 1) := by decide +kernel
theorem dX10_strikes_78 : decode cX10_strikes 78 = .ok (.goto 4, 3) := by decide +kernel
theorem dX10_strikes_81 : decode cX10_strikes 81 = .ok (.iconst 0, 1) := by decide +kernel
theorem dX10_strikes_82 : decode cX10_strikes 82 = .ok (.ireturn, 1) := by decide +kernel
theorem dX10_strikes_83 : decode cX10_strikes 83 = .ok (.iload 4, 2) := by decide +kernel
theorem dX10_strikes_85 : decode cX10_strikes 85 = .ok (.iload_n 3, 1) := by decide +kernel
theorem dX10_strikes_86 : decode cX10_strikes 86 = .ok (.irem, 1) := by decide +kernel
theorem dX10_strikes_87 : decode cX10_strikes 87 = .ok (.ifCond .ne 7, 3) := by decide +kernel
theorem dX10_strikes_90 : decode cX10_strikes 90 = .ok (.iconst 1, 1) := by decide +kernel
theorem dX10_strikes_91 : decode cX10_strikes 91 = .ok (.goto 4, 3) := by decide +kernel
theorem dX10_strikes_94 : decode cX10_strikes 94 = .ok (.iconst 0, 1) := by decide +kernel
theorem dX10_strikes_95 : decode cX10_strikes 95 = .ok (.ireturn, 1) := by decide +kernel
theorem dX10_nextGap_0 : decode cX10_nextGap 0 = .ok (.aload_n 0, 1) := by decide +kernel
theorem dX10_nextGap_1 : decode cX10_nextGap 1 = .ok (.iload_n 1, 1) := by decide +kernel
theorem dX10_nextGap_2 : decode cX10_nextGap 2 = .ok (.invokevirtual 120, 3) := by decide +kernel
theorem dX10_nextGap_5 : decode cX10_nextGap 5 = .ok (.aload_n 0, 1) := by decide +kernel
theorem dX10_nextGap_6 : decode cX10_nextGap 6 = .ok (.iload_n 1, 1) := by decide +kernel
theorem dX10_nextGap_7 : decode cX10_nextGap 7 = .ok (.iconst 4, 1) := by decide +kernel
theorem dX10_nextGap_8 : decode cX10_nextGap 8 = .ok (.invokevirtual 97, 3) := by decide +kernel
theorem dX10_nextGap_11 : decode cX10_nextGap 11 = .ok (.iconst 1, 1) := by decide +kernel
theorem dX10_nextGap_12 : decode cX10_nextGap 12 = .ok (.iadd, 1) := by decide +kernel
theorem dX10_nextGap_13 : decode cX10_nextGap 13 = .ok (.istore_n 2, 1) := by decide +kernel
theorem dX10_nextGap_14 : decode cX10_nextGap 14 = .ok (.aload_n 0, 1) := by decide +kernel
theorem dX10_nextGap_15 : decode cX10_nextGap 15 = .ok (.iload_n 1, 1) := by decide +kernel
theorem dX10_nextGap_16 : decode cX10_nextGap 16 = .ok (.iload_n 2, 1) := by decide +kernel
theorem dX10_nextGap_17 : decode cX10_nextGap 17 = .ok (.invokevirtual 124, 3) := by decide +kernel
theorem dX10_nextGap_20 : decode cX10_nextGap 20 = .ok (.istore_n 3, 1) := by decide +kernel
theorem dX10_nextGap_21 : decode cX10_nextGap 21 = .ok (.iload_n 3, 1) := by decide +kernel
theorem dX10_nextGap_22 : decode cX10_nextGap 22 = .ok (.iconst 2, 1) := by decide +kernel
theorem dX10_nextGap_23 : decode cX10_nextGap 23 = .ok (.if_icmp .ge 5, 3) := by decide +kernel
theorem dX10_nextGap_26 : decode cX10_nextGap 26 = .ok (.iconst 0, 1) := by decide +kernel
theorem dX10_nextGap_27 : decode cX10_nextGap 27 = .ok (.ireturn, 1) := by decide +kernel
theorem dX10_nextGap_28 : decode cX10_nextGap 28 = .ok (.aload_n 0, 1) := by decide +kernel
theorem dX10_nextGap_29 : decode cX10_nextGap 29 = .ok (.iload_n 1, 1) := by decide +kernel
theorem dX10_nextGap_30 : decode cX10_nextGap 30 = .ok (.iconst 0, 1) := by decide +kernel
theorem dX10_nextGap_31 : decode cX10_nextGap 31 = .ok (.invokevirtual 97, 3) := by decide +kernel
theorem dX10_nextGap_34 : decode cX10_nextGap 34 = .ok (.iconst 4, 1) := by decide +kernel
theorem dX10_nextGap_35 : decode cX10_nextGap 35 = .ok (.if_icmp .lt 5, 3) := by decide +kernel
theorem dX10_nextGap_38 : decode cX10_nextGap 38 = .ok (.iload_n 3, 1) := by decide +kernel
theorem dX10_nextGap_39 : decode cX10_nextGap 39 = .ok (.ireturn, 1) := by decide +kernel
theorem dX10_nextGap_40 : decode cX10_nextGap 40 = .ok (.iconst 1, 1) := by decide +kernel
theorem dX10_nextGap_41 : decode cX10_nextGap 41 = .ok (.istore 4, 2) := by decide +kernel
theorem dX10_nextGap_43 : decode cX10_nextGap 43 = .ok (.iload 4, 2) := by decide +kernel
theorem dX10_nextGap_45 : decode cX10_nextGap 45 = .ok (.aload_n 0, 1) := by decide +kernel
theorem dX10_nextGap_46 : decode cX10_nextGap 46 = .ok (.getfield 107, 3) := by decide +kernel
theorem dX10_nextGap_49 : decode cX10_nextGap 49 = .ok (.if_icmp .gt 23, 3) := by decide +kernel
theorem dX10_nextGap_52 : decode cX10_nextGap 52 = .ok (.aload_n 0, 1) := by decide +kernel
theorem dX10_nextGap_53 : decode cX10_nextGap 53 = .ok (.iload_n 1, 1) := by decide +kernel
theorem dX10_nextGap_54 : decode cX10_nextGap 54 = .ok (.iload_n 2, 1) := by decide +kernel
theorem dX10_nextGap_55 : decode cX10_nextGap 55 = .ok (.iload_n 3, 1) := by decide +kernel
theorem dX10_nextGap_56 : decode cX10_nextGap 56 = .ok (.iload 4, 2) := by decide +kernel
theorem dX10_nextGap_58 : decode cX10_nextGap 58 = .ok (.invokevirtual 127, 3) := by decide +kernel
theorem dX10_nextGap_61 : decode cX10_nextGap 61 = .ok (.ifCond .eq 5, 3) := by decide +kernel
theorem dX10_nextGap_64 : decode cX10_nextGap 64 = .ok (.iload_n 3, 1) := by decide +kernel
theorem dX10_nextGap_65 : decode cX10_nextGap 65 = .ok (.ireturn, 1) := by decide +kernel
theorem dX10_nextGap_66 : decode cX10_nextGap 66 = .ok (.iinc 4 1, 3) := by decide +kernel
theorem dX10_nextGap_69 : decode cX10_nextGap 69 = .ok (.goto (-26), 3) := by decide +kernel
theorem dX10_nextGap_72 : decode cX10_nextGap 72 = .ok (.iconst 0, 1) := by decide +kernel
theorem dX10_nextGap_73 : decode cX10_nextGap 73 = .ok (.ireturn, 1) := by decide +kernel
theorem dX10_rounds_0 : decode cX10_rounds 0 = .ok (.aload_n 0, 1) := by decide +kernel
theorem dX10_rounds_1 : decode cX10_rounds 1 = .ok (.iload_n 1, 1) := by decide +kernel
theorem dX10_rounds_2 : decode cX10_rounds 2 = .ok (.invokevirtual 131, 3) := by decide +kernel
theorem dX10_rounds_5 : decode cX10_rounds 5 = .ok (.istore_n 2, 1) := by decide +kernel
theorem dX10_rounds_6 : decode cX10_rounds 6 = .ok (.iload_n 2, 1) := by decide +kernel
theorem dX10_rounds_7 : decode cX10_rounds 7 = .ok (.ifCond .ne 5, 3) := by decide +kernel
theorem dX10_rounds_10 : decode cX10_rounds 10 = .ok (.iconst (-1), 1) := by decide +kernel
theorem dX10_rounds_11 : decode cX10_rounds 11 = .ok (.ireturn, 1) := by decide +kernel
theorem dX10_rounds_12 : decode cX10_rounds 12 = .ok (.sipush 1824, 3) := by decide +kernel
theorem dX10_rounds_15 : decode cX10_rounds 15 = .ok (.iload_n 1, 1) := by decide +kernel
theorem dX10_rounds_16 : decode cX10_rounds 16 = .ok (.imul, 1) := by decide +kernel
theorem dX10_rounds_17 : decode cX10_rounds 17 = .ok (.istore_n 3, 1) := by decide +kernel
theorem dX10_rounds_18 : decode cX10_rounds 18 = .ok (.aload_n 0, 1) := by decide +kernel
theorem dX10_rounds_19 : decode cX10_rounds 19 = .ok (.iload_n 1, 1) := by decide +kernel
theorem dX10_rounds_20 : decode cX10_rounds 20 = .ok (.iconst 4, 1) := by decide +kernel
theorem dX10_rounds_21 : decode cX10_rounds 21 = .ok (.invokevirtual 97, 3) := by decide +kernel
theorem dX10_rounds_24 : decode cX10_rounds 24 = .ok (.iconst 1, 1) := by decide +kernel
theorem dX10_rounds_25 : decode cX10_rounds 25 = .ok (.iadd, 1) := by decide +kernel
theorem dX10_rounds_26 : decode cX10_rounds 26 = .ok (.istore 4, 2) := by decide +kernel
theorem dX10_rounds_28 : decode cX10_rounds 28 = .ok (.aload_n 0, 1) := by decide +kernel
theorem dX10_rounds_29 : decode cX10_rounds 29 = .ok (.getfield 7, 3) := by decide +kernel
theorem dX10_rounds_32 : decode cX10_rounds 32 = .ok (.iload_n 3, 1) := by decide +kernel
theorem dX10_rounds_33 : decode cX10_rounds 33 = .ok (.iconst 5, 1) := by decide +kernel
theorem dX10_rounds_34 : decode cX10_rounds 34 = .ok (.iadd, 1) := by decide +kernel
theorem dX10_rounds_35 : decode cX10_rounds 35 = .ok (.dup2, 1) := by decide +kernel
theorem dX10_rounds_36 : decode cX10_rounds 36 = .ok (.iaload, 1) := by decide +kernel
theorem dX10_rounds_37 : decode cX10_rounds 37 = .ok (.iconst 1, 1) := by decide +kernel
theorem dX10_rounds_38 : decode cX10_rounds 38 = .ok (.iadd, 1) := by decide +kernel
theorem dX10_rounds_39 : decode cX10_rounds 39 = .ok (.iastore, 1) := by decide +kernel
theorem dX10_rounds_40 : decode cX10_rounds 40 = .ok (.iconst 0, 1) := by decide +kernel
theorem dX10_rounds_41 : decode cX10_rounds 41 = .ok (.istore 5, 2) := by decide +kernel
theorem dX10_rounds_43 : decode cX10_rounds 43 = .ok (.iconst 1, 1) := by decide +kernel
theorem dX10_rounds_44 : decode cX10_rounds 44 = .ok (.istore 6, 2) := by decide +kernel
theorem dX10_rounds_46 : decode cX10_rounds 46 = .ok (.iload 6, 2) := by decide +kernel
theorem dX10_rounds_48 : decode cX10_rounds 48 = .ok (.aload_n 0, 1) := by decide +kernel
theorem dX10_rounds_49 : decode cX10_rounds 49 = .ok (.getfield 107, 3) := by decide +kernel
theorem dX10_rounds_52 : decode cX10_rounds 52 = .ok (.if_icmp .gt 53, 3) := by decide +kernel
theorem dX10_rounds_55 : decode cX10_rounds 55 = .ok (.aload_n 0, 1) := by decide +kernel
theorem dX10_rounds_56 : decode cX10_rounds 56 = .ok (.iload_n 1, 1) := by decide +kernel
theorem dX10_rounds_57 : decode cX10_rounds 57 = .ok (.iload 4, 2) := by decide +kernel
theorem dX10_rounds_59 : decode cX10_rounds 59 = .ok (.iload_n 2, 1) := by decide +kernel
theorem dX10_rounds_60 : decode cX10_rounds 60 = .ok (.iload 6, 2) := by decide +kernel
theorem dX10_rounds_62 : decode cX10_rounds 62 = .ok (.invokevirtual 127, 3) := by decide +kernel
theorem dX10_rounds_65 : decode cX10_rounds 65 = .ok (.ifCond .ne 6, 3) := by decide +kernel
theorem dX10_rounds_68 : decode cX10_rounds 68 = .ok (.goto 31, 3) := by decide +kernel
theorem dX10_rounds_71 : decode cX10_rounds 71 = .ok (.aload_n 0, 1) := by decide +kernel
theorem dX10_rounds_72 : decode cX10_rounds 72 = .ok (.getfield 7, 3) := by decide +kernel
theorem dX10_rounds_75 : decode cX10_rounds 75 = .ok (.iload_n 3, 1) := by decide +kernel
theorem dX10_rounds_76 : decode cX10_rounds 76 = .ok (.bipush 20, 2) := by decide +kernel
theorem dX10_rounds_78 : decode cX10_rounds 78 = .ok (.iadd, 1) := by decide +kernel
theorem dX10_rounds_79 : decode cX10_rounds 79 = .ok (.aload_n 0, 1) := by decide +kernel
theorem dX10_rounds_80 : decode cX10_rounds 80 = .ok (.getfield 29, 3) := by decide +kernel
theorem dX10_rounds_83 : decode cX10_rounds 83 = .ok (.iload 6, 2) := by decide +kernel
theorem dX10_rounds_85 : decode cX10_rounds 85 = .ok (.iconst 1, 1) := by decide +kernel
theorem dX10_rounds_86 : decode cX10_rounds 86 = .ok (.isub, 1) := by decide +kernel
theorem dX10_rounds_87 : decode cX10_rounds 87 = .ok (.iaload, 1) := by decide +kernel
theorem dX10_rounds_88 : decode cX10_rounds 88 = .ok (.iadd, 1) := by decide +kernel
theorem dX10_rounds_89 : decode cX10_rounds 89 = .ok (.aload_n 0, 1) := by decide +kernel
theorem dX10_rounds_90 : decode cX10_rounds 90 = .ok (.iload_n 1, 1) := by decide +kernel
theorem dX10_rounds_91 : decode cX10_rounds 91 = .ok (.iconst 5, 1) := by decide +kernel
theorem dX10_rounds_92 : decode cX10_rounds 92 = .ok (.invokevirtual 97, 3) := by decide +kernel
theorem dX10_rounds_95 : decode cX10_rounds 95 = .ok (.iastore, 1) := by decide +kernel
theorem dX10_rounds_96 : decode cX10_rounds 96 = .ok (.iinc 5 1, 3) := by decide +kernel
theorem dX10_rounds_99 : decode cX10_rounds 99 = .ok (.iinc 6 1, 3) := by decide +kernel
theorem dX10_rounds_102 : decode cX10_rounds 102 = .ok (.goto (-56), 3) := by decide +kernel
theorem dX10_rounds_105 : decode cX10_rounds 105 = .ok (.aload_n 0, 1) := by decide +kernel
theorem dX10_rounds_106 : decode cX10_rounds 106 = .ok (.getfield 7, 3) := by decide +kernel
theorem dX10_rounds_109 : decode cX10_rounds 109 = .ok (.iload_n 3, 1) := by decide +kernel
theorem dX10_rounds_110 : decode cX10_rounds 110 = .ok (.iconst 4, 1) := by decide +kernel
theorem dX10_rounds_111 : decode cX10_rounds 111 = .ok (.iadd, 1) := by decide +kernel
theorem dX10_rounds_112 : decode cX10_rounds 112 = .ok (.iload 4, 2) := by decide +kernel
theorem dX10_rounds_114 : decode cX10_rounds 114 = .ok (.iastore, 1) := by decide +kernel
theorem dX10_rounds_115 : decode cX10_rounds 115 = .ok (.aload_n 0, 1) := by decide +kernel
theorem dX10_rounds_116 : decode cX10_rounds 116 = .ok (.getfield 7, 3) := by decide +kernel
theorem dX10_rounds_119 : decode cX10_rounds 119 = .ok (.iload_n 3, 1) := by decide +kernel
theorem dX10_rounds_120 : decode cX10_rounds 120 = .ok (.sipush 620, 3) := by decide +kernel
theorem dX10_rounds_123 : decode cX10_rounds 123 = .ok (.iadd, 1) := by decide +kernel
theorem dX10_rounds_124 : decode cX10_rounds 124 = .ok (.iload 4, 2) := by decide +kernel
theorem dX10_rounds_126 : decode cX10_rounds 126 = .ok (.iadd, 1) := by decide +kernel
theorem dX10_rounds_127 : decode cX10_rounds 127 = .ok (.aload_n 0, 1) := by decide +kernel
theorem dX10_rounds_128 : decode cX10_rounds 128 = .ok (.iload_n 1, 1) := by decide +kernel
theorem dX10_rounds_129 : decode cX10_rounds 129 = .ok (.iconst 5, 1) := by decide +kernel
theorem dX10_rounds_130 : decode cX10_rounds 130 = .ok (.invokevirtual 97, 3) := by decide +kernel
theorem dX10_rounds_133 : decode cX10_rounds 133 = .ok (.iastore, 1) := by decide +kernel
theorem dX10_rounds_134 : decode cX10_rounds 134 = .ok (.aload_n 0, 1) := by decide +kernel
theorem dX10_rounds_135 : decode cX10_rounds 135 = .ok (.getfield 7, 3) := by decide +kernel
theorem dX10_rounds_138 : decode cX10_rounds 138 = .ok (.iload_n 3, 1) := by decide +kernel
theorem dX10_rounds_139 : decode cX10_rounds 139 = .ok (.sipush 1222, 3) := by decide +kernel
theorem dX10_rounds_142 : decode cX10_rounds 142 = .ok (.iadd, 1) := by decide +kernel
theorem dX10_rounds_143 : decode cX10_rounds 143 = .ok (.iload 4, 2) := by decide +kernel
theorem dX10_rounds_145 : decode cX10_rounds 145 = .ok (.iadd, 1) := by decide +kernel
theorem dX10_rounds_146 : decode cX10_rounds 146 = .ok (.iload_n 2, 1) := by decide +kernel
theorem dX10_rounds_147 : decode cX10_rounds 147 = .ok (.iastore, 1) := by decide +kernel
theorem dX10_rounds_148 : decode cX10_rounds 148 = .ok (.iload 5, 2) := by decide +kernel
theorem dX10_rounds_150 : decode cX10_rounds 150 = .ok (.ireturn, 1) := by decide +kernel
theorem dX10_roundsAll_0 : decode cX10_roundsAll 0 = .ok (.iconst 0, 1) := by decide +kernel
theorem dX10_roundsAll_1 : decode cX10_roundsAll 1 = .ok (.istore_n 2, 1) := by decide +kernel
theorem dX10_roundsAll_2 : decode cX10_roundsAll 2 = .ok (.aload_n 0, 1) := by decide +kernel
theorem dX10_roundsAll_3 : decode cX10_roundsAll 3 = .ok (.iload_n 1, 1) := by decide +kernel
theorem dX10_roundsAll_4 : decode cX10_roundsAll 4 = .ok (.invokevirtual 135, 3) := by decide +kernel
theorem dX10_roundsAll_7 : decode cX10_roundsAll 7 = .ok (.ifCond .lt 9, 3) := by decide +kernel
theorem dX10_roundsAll_10 : decode cX10_roundsAll 10 = .ok (.iinc 2 1, 3) := by decide +kernel
theorem dX10_roundsAll_13 : decode cX10_roundsAll 13 = .ok (.goto (-11), 3) := by decide +kernel
theorem dX10_roundsAll_16 : decode cX10_roundsAll 16 = .ok (.iload_n 2, 1) := by decide +kernel
theorem dX10_roundsAll_17 : decode cX10_roundsAll 17 = .ok (.ireturn, 1) := by decide +kernel
theorem dX10_triesAside_0 : decode cX10_triesAside 0 = .ok (.iconst 0, 1) := by decide +kernel
theorem dX10_triesAside_1 : decode cX10_triesAside 1 = .ok (.istore_n 2, 1) := by decide +kernel
theorem dX10_triesAside_2 : decode cX10_triesAside 2 = .ok (.iload_n 2, 1) := by decide +kernel
theorem dX10_triesAside_3 : decode cX10_triesAside 3 = .ok (.sipush 1824, 3) := by decide +kernel
theorem dX10_triesAside_6 : decode cX10_triesAside 6 = .ok (.if_icmp .ge 31, 3) := by decide +kernel
theorem dX10_triesAside_9 : decode cX10_triesAside 9 = .ok (.aload_n 0, 1) := by decide +kernel
theorem dX10_triesAside_10 : decode cX10_triesAside 10 = .ok (.getfield 7, 3) := by decide +kernel
theorem dX10_triesAside_13 : decode cX10_triesAside 13 = .ok (.sipush 7296, 3) := by decide +kernel
theorem dX10_triesAside_16 : decode cX10_triesAside 16 = .ok (.iload_n 2, 1) := by decide +kernel
theorem dX10_triesAside_17 : decode cX10_triesAside 17 = .ok (.iadd, 1) := by decide +kernel
theorem dX10_triesAside_18 : decode cX10_triesAside 18 = .ok (.aload_n 0, 1) := by decide +kernel
theorem dX10_triesAside_19 : decode cX10_triesAside 19 = .ok (.getfield 7, 3) := by decide +kernel
theorem dX10_triesAside_22 : decode cX10_triesAside 22 = .ok (.sipush 1824, 3) := by decide +kernel
theorem dX10_triesAside_25 : decode cX10_triesAside 25 = .ok (.iload_n 1, 1) := by decide +kernel
theorem dX10_triesAside_26 : decode cX10_triesAside 26 = .ok (.imul, 1) := by decide +kernel
theorem dX10_triesAside_27 : decode cX10_triesAside 27 = .ok (.iload_n 2, 1) := by decide +kernel
theorem dX10_triesAside_28 : decode cX10_triesAside 28 = .ok (.iadd, 1) := by decide +kernel
theorem dX10_triesAside_29 : decode cX10_triesAside 29 = .ok (.iaload, 1) := by decide +kernel
theorem dX10_triesAside_30 : decode cX10_triesAside 30 = .ok (.iastore, 1) := by decide +kernel
theorem dX10_triesAside_31 : decode cX10_triesAside 31 = .ok (.iinc 2 1, 3) := by decide +kernel
theorem dX10_triesAside_34 : decode cX10_triesAside 34 = .ok (.goto (-32), 3) := by decide +kernel
theorem dX10_triesAside_37 : decode cX10_triesAside 37 = .ok (.return_, 1) := by decide +kernel
theorem dX10_isRound_0 : decode cX10_isRound 0 = .ok (.iload_n 2, 1) := by decide +kernel
theorem dX10_isRound_1 : decode cX10_isRound 1 = .ok (.i2l, 1) := by decide +kernel
theorem dX10_isRound_2 : decode cX10_isRound 2 = .ok (.lconst 1, 1) := by decide +kernel
theorem dX10_isRound_3 : decode cX10_isRound 3 = .ok (.aload_n 0, 1) := by decide +kernel
theorem dX10_isRound_4 : decode cX10_isRound 4 = .ok (.iload_n 1, 1) := by decide +kernel
theorem dX10_isRound_5 : decode cX10_isRound 5 = .ok (.iconst 4, 1) := by decide +kernel
theorem dX10_isRound_6 : decode cX10_isRound 6 = .ok (.invokevirtual 97, 3) := by decide +kernel
theorem dX10_isRound_9 : decode cX10_isRound 9 = .ok (.i2l, 1) := by decide +kernel
theorem dX10_isRound_10 : decode cX10_isRound 10 = .ok (.invokestatic 93, 3) := by decide +kernel
theorem dX10_isRound_13 : decode cX10_isRound 13 = .ok (.ireturn, 1) := by decide +kernel
theorem dX10_when_0 : decode cX10_when 0 = .ok (.aload_n 0, 1) := by decide +kernel
theorem dX10_when_1 : decode cX10_when 1 = .ok (.iload_n 1, 1) := by decide +kernel
theorem dX10_when_2 : decode cX10_when 2 = .ok (.sipush 620, 3) := by decide +kernel
theorem dX10_when_5 : decode cX10_when 5 = .ok (.iload_n 2, 1) := by decide +kernel
theorem dX10_when_6 : decode cX10_when 6 = .ok (.iadd, 1) := by decide +kernel
theorem dX10_when_7 : decode cX10_when 7 = .ok (.invokevirtual 97, 3) := by decide +kernel
theorem dX10_when_10 : decode cX10_when 10 = .ok (.ireturn, 1) := by decide +kernel
theorem dX10_many_0 : decode cX10_many 0 = .ok (.aload_n 0, 1) := by decide +kernel
theorem dX10_many_1 : decode cX10_many 1 = .ok (.iload_n 1, 1) := by decide +kernel
theorem dX10_many_2 : decode cX10_many 2 = .ok (.i2l, 1) := by decide +kernel
theorem dX10_many_3 : decode cX10_many 3 = .ok (.lconst 0, 1) := by decide +kernel
theorem dX10_many_4 : decode cX10_many 4 = .ok (.ldc2_w 138, 3) := by decide +kernel
theorem dX10_many_7 : decode cX10_many 7 = .ok (.invokestatic 93, 3) := by decide +kernel
theorem dX10_many_10 : decode cX10_many 10 = .ok (.ifCond .eq 7, 3) := by decide +kernel
theorem dX10_many_13 : decode cX10_many 13 = .ok (.iconst 0, 1) := by decide +kernel
theorem dX10_many_14 : decode cX10_many 14 = .ok (.goto 4, 3) := by decide +kernel
theorem dX10_many_17 : decode cX10_many 17 = .ok (.iconst 1, 1) := by decide +kernel
theorem dX10_many_18 : decode cX10_many 18 = .ok (.invokevirtual 140, 3) := by decide +kernel
theorem dX10_many_21 : decode cX10_many 21 = .ok (.ifCond .eq 33, 3) := by decide +kernel
theorem dX10_many_24 : decode cX10_many 24 = .ok (.iload_n 1, 1) := by decide +kernel
theorem dX10_many_25 : decode cX10_many 25 = .ok (.ifCond .ne 10, 3) := by decide +kernel
theorem dX10_many_28 : decode cX10_many 28 = .ok (.aload_n 0, 1) := by decide +kernel
theorem dX10_many_29 : decode cX10_many 29 = .ok (.getfield 90, 3) := by decide +kernel
theorem dX10_many_32 : decode cX10_many 32 = .ok (.goto 23, 3) := by decide +kernel
theorem dX10_many_35 : decode cX10_many 35 = .ok (.iload_n 1, 1) := by decide +kernel
theorem dX10_many_36 : decode cX10_many 36 = .ok (.iconst 1, 1) := by decide +kernel
theorem dX10_many_37 : decode cX10_many 37 = .ok (.if_icmp .ne 10, 3) := by decide +kernel
theorem dX10_many_40 : decode cX10_many 40 = .ok (.aload_n 0, 1) := by decide +kernel
theorem dX10_many_41 : decode cX10_many 41 = .ok (.getfield 144, 3) := by decide +kernel
theorem dX10_many_44 : decode cX10_many 44 = .ok (.goto 11, 3) := by decide +kernel
theorem dX10_many_47 : decode cX10_many 47 = .ok (.aload_n 0, 1) := by decide +kernel
theorem dX10_many_48 : decode cX10_many 48 = .ok (.getfield 147, 3) := by decide +kernel
theorem dX10_many_51 : decode cX10_many 51 = .ok (.goto 4, 3) := by decide +kernel
theorem dX10_many_54 : decode cX10_many 54 = .ok (.iconst (-1), 1) := by decide +kernel
theorem dX10_many_55 : decode cX10_many 55 = .ok (.ireturn, 1) := by decide +kernel
theorem dX10_sieve_0 : decode cX10_sieve 0 = .ok (.aload_n 0, 1) := by decide +kernel
theorem dX10_sieve_1 : decode cX10_sieve 1 = .ok (.iload_n 2, 1) := by decide +kernel
theorem dX10_sieve_2 : decode cX10_sieve 2 = .ok (.i2l, 1) := by decide +kernel
theorem dX10_sieve_3 : decode cX10_sieve 3 = .ok (.lconst 0, 1) := by decide +kernel
theorem dX10_sieve_4 : decode cX10_sieve 4 = .ok (.ldc2_w 150, 3) := by decide +kernel
theorem dX10_sieve_7 : decode cX10_sieve 7 = .ok (.invokestatic 93, 3) := by decide +kernel
theorem dX10_sieve_10 : decode cX10_sieve 10 = .ok (.ifCond .ne 7, 3) := by decide +kernel
theorem dX10_sieve_13 : decode cX10_sieve 13 = .ok (.iconst 1, 1) := by decide +kernel
theorem dX10_sieve_14 : decode cX10_sieve 14 = .ok (.goto 16, 3) := by decide +kernel
theorem dX10_sieve_17 : decode cX10_sieve 17 = .ok (.aload_n 0, 1) := by decide +kernel
theorem dX10_sieve_18 : decode cX10_sieve 18 = .ok (.iload_n 1, 1) := by decide +kernel
theorem dX10_sieve_19 : decode cX10_sieve 19 = .ok (.invokevirtual 152, 3) := by decide +kernel
theorem dX10_sieve_22 : decode cX10_sieve 22 = .ok (.ifCond .eq 7, 3) := by decide +kernel
theorem dX10_sieve_25 : decode cX10_sieve 25 = .ok (.iconst 0, 1) := by decide +kernel
theorem dX10_sieve_26 : decode cX10_sieve 26 = .ok (.goto 4, 3) := by decide +kernel
theorem dX10_sieve_29 : decode cX10_sieve 29 = .ok (.iconst 2, 1) := by decide +kernel
theorem dX10_sieve_30 : decode cX10_sieve 30 = .ok (.invokevirtual 140, 3) := by decide +kernel
theorem dX10_sieve_33 : decode cX10_sieve 33 = .ok (.ifCond .ne 5, 3) := by decide +kernel
theorem dX10_sieve_36 : decode cX10_sieve 36 = .ok (.iconst (-1), 1) := by decide +kernel
theorem dX10_sieve_37 : decode cX10_sieve 37 = .ok (.ireturn, 1) := by decide +kernel
theorem dX10_sieve_38 : decode cX10_sieve 38 = .ok (.iload_n 2, 1) := by decide +kernel
theorem dX10_sieve_39 : decode cX10_sieve 39 = .ok (.tableswitch 68 4 7 #[29, 39, 46, 60], 29) := by decide +kernel
theorem dX10_sieve_68 : decode cX10_sieve 68 = .ok (.aload_n 0, 1) := by decide +kernel
theorem dX10_sieve_69 : decode cX10_sieve 69 = .ok (.iload_n 1, 1) := by decide +kernel
theorem dX10_sieve_70 : decode cX10_sieve 70 = .ok (.invokevirtual 120, 3) := by decide +kernel
theorem dX10_sieve_73 : decode cX10_sieve 73 = .ok (.aload_n 0, 1) := by decide +kernel
theorem dX10_sieve_74 : decode cX10_sieve 74 = .ok (.getfield 107, 3) := by decide +kernel
theorem dX10_sieve_77 : decode cX10_sieve 77 = .ok (.ireturn, 1) := by decide +kernel
theorem dX10_sieve_78 : decode cX10_sieve 78 = .ok (.aload_n 0, 1) := by decide +kernel
theorem dX10_sieve_79 : decode cX10_sieve 79 = .ok (.iload_n 1, 1) := by decide +kernel
theorem dX10_sieve_80 : decode cX10_sieve 80 = .ok (.iconst 4, 1) := by decide +kernel
theorem dX10_sieve_81 : decode cX10_sieve 81 = .ok (.invokevirtual 97, 3) := by decide +kernel
theorem dX10_sieve_84 : decode cX10_sieve 84 = .ok (.ireturn, 1) := by decide +kernel
theorem dX10_sieve_85 : decode cX10_sieve 85 = .ok (.aload_n 0, 1) := by decide +kernel
theorem dX10_sieve_86 : decode cX10_sieve 86 = .ok (.iload_n 1, 1) := by decide +kernel
theorem dX10_sieve_87 : decode cX10_sieve 87 = .ok (.invokevirtual 131, 3) := by decide +kernel
theorem dX10_sieve_90 : decode cX10_sieve 90 = .ok (.ifCond .ne 7, 3) := by decide +kernel
theorem dX10_sieve_93 : decode cX10_sieve 93 = .ok (.iconst 1, 1) := by decide +kernel
theorem dX10_sieve_94 : decode cX10_sieve 94 = .ok (.goto 4, 3) := by decide +kernel
theorem dX10_sieve_97 : decode cX10_sieve 97 = .ok (.iconst 0, 1) := by decide +kernel
theorem dX10_sieve_98 : decode cX10_sieve 98 = .ok (.ireturn, 1) := by decide +kernel
theorem dX10_sieve_99 : decode cX10_sieve 99 = .ok (.aload_n 0, 1) := by decide +kernel
theorem dX10_sieve_100 : decode cX10_sieve 100 = .ok (.iload_n 1, 1) := by decide +kernel
theorem dX10_sieve_101 : decode cX10_sieve 101 = .ok (.bipush 6, 2) := by decide +kernel
theorem dX10_sieve_103 : decode cX10_sieve 103 = .ok (.invokevirtual 97, 3) := by decide +kernel
theorem dX10_sieve_106 : decode cX10_sieve 106 = .ok (.ireturn, 1) := by decide +kernel
theorem dX10_sieve_107 : decode cX10_sieve 107 = .ok (.aload_n 0, 1) := by decide +kernel
theorem dX10_sieve_108 : decode cX10_sieve 108 = .ok (.iload_n 1, 1) := by decide +kernel
theorem dX10_sieve_109 : decode cX10_sieve 109 = .ok (.iload_n 2, 1) := by decide +kernel
theorem dX10_sieve_110 : decode cX10_sieve 110 = .ok (.invokevirtual 97, 3) := by decide +kernel
theorem dX10_sieve_113 : decode cX10_sieve 113 = .ok (.ireturn, 1) := by decide +kernel
theorem dX10_remembers_0 : decode cX10_remembers 0 = .ok (.aload_n 0, 1) := by decide +kernel
theorem dX10_remembers_1 : decode cX10_remembers 1 = .ok (.getfield 144, 3) := by decide +kernel
theorem dX10_remembers_4 : decode cX10_remembers 4 = .ok (.bipush 8, 2) := by decide +kernel
theorem dX10_remembers_6 : decode cX10_remembers 6 = .ok (.if_icmp .ne 71, 3) := by decide +kernel
theorem dX10_remembers_9 : decode cX10_remembers 9 = .ok (.iconst 0, 1) := by decide +kernel
theorem dX10_remembers_10 : decode cX10_remembers 10 = .ok (.istore_n 1, 1) := by decide +kernel
theorem dX10_remembers_11 : decode cX10_remembers 11 = .ok (.iload_n 1, 1) := by decide +kernel
theorem dX10_remembers_12 : decode cX10_remembers 12 = .ok (.ldc 155, 2) := by decide +kernel
theorem dX10_remembers_14 : decode cX10_remembers 14 = .ok (.if_icmp .ge 25, 3) := by decide +kernel
theorem dX10_remembers_17 : decode cX10_remembers 17 = .ok (.aload_n 0, 1) := by decide +kernel
theorem dX10_remembers_18 : decode cX10_remembers 18 = .ok (.getfield 17, 3) := by decide +kernel
theorem dX10_remembers_21 : decode cX10_remembers 21 = .ok (.iload_n 1, 1) := by decide +kernel
theorem dX10_remembers_22 : decode cX10_remembers 22 = .ok (.aload_n 0, 1) := by decide +kernel
theorem dX10_remembers_23 : decode cX10_remembers 23 = .ok (.getfield 17, 3) := by decide +kernel
theorem dX10_remembers_26 : decode cX10_remembers 26 = .ok (.iload_n 1, 1) := by decide +kernel
theorem dX10_remembers_27 : decode cX10_remembers 27 = .ok (.sipush 7296, 3) := by decide +kernel
theorem dX10_remembers_30 : decode cX10_remembers 30 = .ok (.iadd, 1) := by decide +kernel
theorem dX10_remembers_31 : decode cX10_remembers 31 = .ok (.iaload, 1) := by decide +kernel
theorem dX10_remembers_32 : decode cX10_remembers 32 = .ok (.iastore, 1) := by decide +kernel
theorem dX10_remembers_33 : decode cX10_remembers 33 = .ok (.iinc 1 1, 3) := by decide +kernel
theorem dX10_remembers_36 : decode cX10_remembers 36 = .ok (.goto (-25), 3) := by decide +kernel
theorem dX10_remembers_39 : decode cX10_remembers 39 = .ok (.iconst 0, 1) := by decide +kernel
theorem dX10_remembers_40 : decode cX10_remembers 40 = .ok (.istore_n 1, 1) := by decide +kernel
theorem dX10_remembers_41 : decode cX10_remembers 41 = .ok (.iload_n 1, 1) := by decide +kernel
theorem dX10_remembers_42 : decode cX10_remembers 42 = .ok (.bipush 7, 2) := by decide +kernel
theorem dX10_remembers_44 : decode cX10_remembers 44 = .ok (.if_icmp .ge 23, 3) := by decide +kernel
theorem dX10_remembers_47 : decode cX10_remembers 47 = .ok (.aload_n 0, 1) := by decide +kernel
theorem dX10_remembers_48 : decode cX10_remembers 48 = .ok (.getfield 20, 3) := by decide +kernel
theorem dX10_remembers_51 : decode cX10_remembers 51 = .ok (.iload_n 1, 1) := by decide +kernel
theorem dX10_remembers_52 : decode cX10_remembers 52 = .ok (.aload_n 0, 1) := by decide +kernel
theorem dX10_remembers_53 : decode cX10_remembers 53 = .ok (.getfield 20, 3) := by decide +kernel
theorem dX10_remembers_56 : decode cX10_remembers 56 = .ok (.iload_n 1, 1) := by decide +kernel
theorem dX10_remembers_57 : decode cX10_remembers 57 = .ok (.iconst 1, 1) := by decide +kernel
theorem dX10_remembers_58 : decode cX10_remembers 58 = .ok (.iadd, 1) := by decide +kernel
theorem dX10_remembers_59 : decode cX10_remembers 59 = .ok (.iaload, 1) := by decide +kernel
theorem dX10_remembers_60 : decode cX10_remembers 60 = .ok (.iastore, 1) := by decide +kernel
theorem dX10_remembers_61 : decode cX10_remembers 61 = .ok (.iinc 1 1, 3) := by decide +kernel
theorem dX10_remembers_64 : decode cX10_remembers 64 = .ok (.goto (-23), 3) := by decide +kernel
theorem dX10_remembers_67 : decode cX10_remembers 67 = .ok (.aload_n 0, 1) := by decide +kernel
theorem dX10_remembers_68 : decode cX10_remembers 68 = .ok (.dup, 1) := by decide +kernel
theorem dX10_remembers_69 : decode cX10_remembers 69 = .ok (.getfield 144, 3) := by decide +kernel
theorem dX10_remembers_72 : decode cX10_remembers 72 = .ok (.iconst 1, 1) := by decide +kernel
theorem dX10_remembers_73 : decode cX10_remembers 73 = .ok (.isub, 1) := by decide +kernel
theorem dX10_remembers_74 : decode cX10_remembers 74 = .ok (.putfield 144, 3) := by decide +kernel
theorem dX10_remembers_77 : decode cX10_remembers 77 = .ok (.iconst 0, 1) := by decide +kernel
theorem dX10_remembers_78 : decode cX10_remembers 78 = .ok (.istore_n 1, 1) := by decide +kernel
theorem dX10_remembers_79 : decode cX10_remembers 79 = .ok (.iload_n 1, 1) := by decide +kernel
theorem dX10_remembers_80 : decode cX10_remembers 80 = .ok (.sipush 7296, 3) := by decide +kernel
theorem dX10_remembers_83 : decode cX10_remembers 83 = .ok (.if_icmp .ge 30, 3) := by decide +kernel
theorem dX10_remembers_86 : decode cX10_remembers 86 = .ok (.aload_n 0, 1) := by decide +kernel
theorem dX10_remembers_87 : decode cX10_remembers 87 = .ok (.getfield 17, 3) := by decide +kernel
theorem dX10_remembers_90 : decode cX10_remembers 90 = .ok (.sipush 7296, 3) := by decide +kernel
theorem dX10_remembers_93 : decode cX10_remembers 93 = .ok (.aload_n 0, 1) := by decide +kernel
theorem dX10_remembers_94 : decode cX10_remembers 94 = .ok (.getfield 144, 3) := by decide +kernel
theorem dX10_remembers_97 : decode cX10_remembers 97 = .ok (.imul, 1) := by decide +kernel
theorem dX10_remembers_98 : decode cX10_remembers 98 = .ok (.iload_n 1, 1) := by decide +kernel
theorem dX10_remembers_99 : decode cX10_remembers 99 = .ok (.iadd, 1) := by decide +kernel
theorem dX10_remembers_100 : decode cX10_remembers 100 = .ok (.aload_n 0, 1) := by decide +kernel
theorem dX10_remembers_101 : decode cX10_remembers 101 = .ok (.getfield 7, 3) := by decide +kernel
theorem dX10_remembers_104 : decode cX10_remembers 104 = .ok (.iload_n 1, 1) := by decide +kernel
theorem dX10_remembers_105 : decode cX10_remembers 105 = .ok (.iaload, 1) := by decide +kernel
theorem dX10_remembers_106 : decode cX10_remembers 106 = .ok (.iastore, 1) := by decide +kernel
theorem dX10_remembers_107 : decode cX10_remembers 107 = .ok (.iinc 1 1, 3) := by decide +kernel
theorem dX10_remembers_110 : decode cX10_remembers 110 = .ok (.goto (-31), 3) := by decide +kernel
theorem dX10_remembers_113 : decode cX10_remembers 113 = .ok (.aload_n 0, 1) := by decide +kernel
theorem dX10_remembers_114 : decode cX10_remembers 114 = .ok (.getfield 20, 3) := by decide +kernel
theorem dX10_remembers_117 : decode cX10_remembers 117 = .ok (.aload_n 0, 1) := by decide +kernel
theorem dX10_remembers_118 : decode cX10_remembers 118 = .ok (.getfield 144, 3) := by decide +kernel
theorem dX10_remembers_121 : decode cX10_remembers 121 = .ok (.aload_n 0, 1) := by decide +kernel
theorem dX10_remembers_122 : decode cX10_remembers 122 = .ok (.getfield 90, 3) := by decide +kernel
theorem dX10_remembers_125 : decode cX10_remembers 125 = .ok (.iastore, 1) := by decide +kernel
theorem dX10_remembers_126 : decode cX10_remembers 126 = .ok (.aload_n 0, 1) := by decide +kernel
theorem dX10_remembers_127 : decode cX10_remembers 127 = .ok (.dup, 1) := by decide +kernel
theorem dX10_remembers_128 : decode cX10_remembers 128 = .ok (.getfield 144, 3) := by decide +kernel
theorem dX10_remembers_131 : decode cX10_remembers 131 = .ok (.iconst 1, 1) := by decide +kernel
theorem dX10_remembers_132 : decode cX10_remembers 132 = .ok (.iadd, 1) := by decide +kernel
theorem dX10_remembers_133 : decode cX10_remembers 133 = .ok (.putfield 144, 3) := by decide +kernel
theorem dX10_remembers_136 : decode cX10_remembers 136 = .ok (.return_, 1) := by decide +kernel
theorem dX10_round_0 : decode cX10_round 0 = .ok (.aload_n 0, 1) := by decide +kernel
theorem dX10_round_1 : decode cX10_round 1 = .ok (.aload_n 0, 1) := by decide +kernel
theorem dX10_round_2 : decode cX10_round 2 = .ok (.iload_n 1, 1) := by decide +kernel
theorem dX10_round_3 : decode cX10_round 3 = .ok (.invokevirtual 152, 3) := by decide +kernel
theorem dX10_round_6 : decode cX10_round 6 = .ok (.ifCond .ne 7, 3) := by decide +kernel
theorem dX10_round_9 : decode cX10_round 9 = .ok (.iconst 2, 1) := by decide +kernel
theorem dX10_round_10 : decode cX10_round 10 = .ok (.goto 16, 3) := by decide +kernel
theorem dX10_round_13 : decode cX10_round 13 = .ok (.aload_n 0, 1) := by decide +kernel
theorem dX10_round_14 : decode cX10_round 14 = .ok (.iload_n 1, 1) := by decide +kernel
theorem dX10_round_15 : decode cX10_round 15 = .ok (.invokevirtual 131, 3) := by decide +kernel
theorem dX10_round_18 : decode cX10_round 18 = .ok (.ifCond .ne 7, 3) := by decide +kernel
theorem dX10_round_21 : decode cX10_round 21 = .ok (.iconst 5, 1) := by decide +kernel
theorem dX10_round_22 : decode cX10_round 22 = .ok (.goto 4, 3) := by decide +kernel
theorem dX10_round_25 : decode cX10_round 25 = .ok (.iconst 0, 1) := by decide +kernel
theorem dX10_round_26 : decode cX10_round 26 = .ok (.invokevirtual 140, 3) := by decide +kernel
theorem dX10_round_29 : decode cX10_round 29 = .ok (.ifCond .ne 5, 3) := by decide +kernel
theorem dX10_round_32 : decode cX10_round 32 = .ok (.iconst (-1), 1) := by decide +kernel
theorem dX10_round_33 : decode cX10_round 33 = .ok (.ireturn, 1) := by decide +kernel
theorem dX10_round_34 : decode cX10_round 34 = .ok (.aload_n 0, 1) := by decide +kernel
theorem dX10_round_35 : decode cX10_round 35 = .ok (.invokevirtual 156, 3) := by decide +kernel
theorem dX10_round_38 : decode cX10_round 38 = .ok (.aload_n 0, 1) := by decide +kernel
theorem dX10_round_39 : decode cX10_round 39 = .ok (.iload_n 1, 1) := by decide +kernel
theorem dX10_round_40 : decode cX10_round 40 = .ok (.invokevirtual 135, 3) := by decide +kernel
theorem dX10_round_43 : decode cX10_round 43 = .ok (.ireturn, 1) := by decide +kernel
theorem dX10_all_0 : decode cX10_all 0 = .ok (.aload_n 0, 1) := by decide +kernel
theorem dX10_all_1 : decode cX10_all 1 = .ok (.aload_n 0, 1) := by decide +kernel
theorem dX10_all_2 : decode cX10_all 2 = .ok (.iload_n 1, 1) := by decide +kernel
theorem dX10_all_3 : decode cX10_all 3 = .ok (.invokevirtual 152, 3) := by decide +kernel
theorem dX10_all_6 : decode cX10_all 6 = .ok (.ifCond .ne 7, 3) := by decide +kernel
theorem dX10_all_9 : decode cX10_all 9 = .ok (.iconst 2, 1) := by decide +kernel
theorem dX10_all_10 : decode cX10_all 10 = .ok (.goto 16, 3) := by decide +kernel
theorem dX10_all_13 : decode cX10_all 13 = .ok (.aload_n 0, 1) := by decide +kernel
theorem dX10_all_14 : decode cX10_all 14 = .ok (.iload_n 1, 1) := by decide +kernel
theorem dX10_all_15 : decode cX10_all 15 = .ok (.invokevirtual 131, 3) := by decide +kernel
theorem dX10_all_18 : decode cX10_all 18 = .ok (.ifCond .ne 7, 3) := by decide +kernel
theorem dX10_all_21 : decode cX10_all 21 = .ok (.iconst 5, 1) := by decide +kernel
theorem dX10_all_22 : decode cX10_all 22 = .ok (.goto 4, 3) := by decide +kernel
theorem dX10_all_25 : decode cX10_all 25 = .ok (.iconst 0, 1) := by decide +kernel
theorem dX10_all_26 : decode cX10_all 26 = .ok (.invokevirtual 140, 3) := by decide +kernel
theorem dX10_all_29 : decode cX10_all 29 = .ok (.ifCond .ne 5, 3) := by decide +kernel
theorem dX10_all_32 : decode cX10_all 32 = .ok (.iconst (-1), 1) := by decide +kernel
theorem dX10_all_33 : decode cX10_all 33 = .ok (.ireturn, 1) := by decide +kernel
theorem dX10_all_34 : decode cX10_all 34 = .ok (.aload_n 0, 1) := by decide +kernel
theorem dX10_all_35 : decode cX10_all 35 = .ok (.invokevirtual 156, 3) := by decide +kernel
theorem dX10_all_38 : decode cX10_all 38 = .ok (.aload_n 0, 1) := by decide +kernel
theorem dX10_all_39 : decode cX10_all 39 = .ok (.iload_n 1, 1) := by decide +kernel
theorem dX10_all_40 : decode cX10_all 40 = .ok (.invokevirtual 159, 3) := by decide +kernel
theorem dX10_all_43 : decode cX10_all 43 = .ok (.ireturn, 1) := by decide +kernel
theorem dX10_strike_0 : decode cX10_strike 0 = .ok (.aload_n 0, 1) := by decide +kernel
theorem dX10_strike_1 : decode cX10_strike 1 = .ok (.aload_n 0, 1) := by decide +kernel
theorem dX10_strike_2 : decode cX10_strike 2 = .ok (.iload_n 1, 1) := by decide +kernel
theorem dX10_strike_3 : decode cX10_strike 3 = .ok (.invokevirtual 152, 3) := by decide +kernel
theorem dX10_strike_6 : decode cX10_strike 6 = .ok (.ifCond .eq 7, 3) := by decide +kernel
theorem dX10_strike_9 : decode cX10_strike 9 = .ok (.iconst 0, 1) := by decide +kernel
theorem dX10_strike_10 : decode cX10_strike 10 = .ok (.goto 4, 3) := by decide +kernel
theorem dX10_strike_13 : decode cX10_strike 13 = .ok (.iconst 2, 1) := by decide +kernel
theorem dX10_strike_14 : decode cX10_strike 14 = .ok (.invokevirtual 140, 3) := by decide +kernel
theorem dX10_strike_17 : decode cX10_strike 17 = .ok (.ifCond .ne 5, 3) := by decide +kernel
theorem dX10_strike_20 : decode cX10_strike 20 = .ok (.iconst (-1), 1) := by decide +kernel
theorem dX10_strike_21 : decode cX10_strike 21 = .ok (.ireturn, 1) := by decide +kernel
theorem dX10_strike_22 : decode cX10_strike 22 = .ok (.aload_n 0, 1) := by decide +kernel
theorem dX10_strike_23 : decode cX10_strike 23 = .ok (.iload_n 1, 1) := by decide +kernel
theorem dX10_strike_24 : decode cX10_strike 24 = .ok (.invokevirtual 120, 3) := by decide +kernel
theorem dX10_strike_27 : decode cX10_strike 27 = .ok (.aload_n 0, 1) := by decide +kernel
theorem dX10_strike_28 : decode cX10_strike 28 = .ok (.iload_n 1, 1) := by decide +kernel
theorem dX10_strike_29 : decode cX10_strike 29 = .ok (.iload_n 2, 1) := by decide +kernel
theorem dX10_strike_30 : decode cX10_strike 30 = .ok (.invokevirtual 162, 3) := by decide +kernel
theorem dX10_strike_33 : decode cX10_strike 33 = .ok (.ifCond .eq 11, 3) := by decide +kernel
theorem dX10_strike_36 : decode cX10_strike 36 = .ok (.aload_n 0, 1) := by decide +kernel
theorem dX10_strike_37 : decode cX10_strike 37 = .ok (.getfield 107, 3) := by decide +kernel
theorem dX10_strike_40 : decode cX10_strike 40 = .ok (.iconst 1, 1) := by decide +kernel
theorem dX10_strike_41 : decode cX10_strike 41 = .ok (.if_icmp .ne 9, 3) := by decide +kernel
theorem dX10_strike_44 : decode cX10_strike 44 = .ok (.aload_n 0, 1) := by decide +kernel
theorem dX10_strike_45 : decode cX10_strike 45 = .ok (.iconst 5, 1) := by decide +kernel
theorem dX10_strike_46 : decode cX10_strike 46 = .ok (.invokevirtual 166, 3) := by decide +kernel
theorem dX10_strike_49 : decode cX10_strike 49 = .ok (.ireturn, 1) := by decide +kernel
theorem dX10_strike_50 : decode cX10_strike 50 = .ok (.iconst 1, 1) := by decide +kernel
theorem dX10_strike_51 : decode cX10_strike 51 = .ok (.istore_n 3, 1) := by decide +kernel
theorem dX10_strike_52 : decode cX10_strike 52 = .ok (.aload_n 0, 1) := by decide +kernel
theorem dX10_strike_53 : decode cX10_strike 53 = .ok (.iload_n 1, 1) := by decide +kernel
theorem dX10_strike_54 : decode cX10_strike 54 = .ok (.iload_n 3, 1) := by decide +kernel
theorem dX10_strike_55 : decode cX10_strike 55 = .ok (.invokevirtual 117, 3) := by decide +kernel
theorem dX10_strike_58 : decode cX10_strike 58 = .ok (.iload_n 2, 1) := by decide +kernel
theorem dX10_strike_59 : decode cX10_strike 59 = .ok (.if_icmp .eq 9, 3) := by decide +kernel
theorem dX10_strike_62 : decode cX10_strike 62 = .ok (.iinc 3 1, 3) := by decide +kernel
theorem dX10_strike_65 : decode cX10_strike 65 = .ok (.goto (-13), 3) := by decide +kernel
theorem dX10_strike_68 : decode cX10_strike 68 = .ok (.aload_n 0, 1) := by decide +kernel
theorem dX10_strike_69 : decode cX10_strike 69 = .ok (.invokevirtual 156, 3) := by decide +kernel
theorem dX10_strike_72 : decode cX10_strike 72 = .ok (.aload_n 0, 1) := by decide +kernel
theorem dX10_strike_73 : decode cX10_strike 73 = .ok (.getfield 7, 3) := by decide +kernel
theorem dX10_strike_76 : decode cX10_strike 76 = .ok (.sipush 1824, 3) := by decide +kernel
theorem dX10_strike_79 : decode cX10_strike 79 = .ok (.iload_n 1, 1) := by decide +kernel
theorem dX10_strike_80 : decode cX10_strike 80 = .ok (.imul, 1) := by decide +kernel
theorem dX10_strike_81 : decode cX10_strike 81 = .ok (.iconst 5, 1) := by decide +kernel
theorem dX10_strike_82 : decode cX10_strike 82 = .ok (.iadd, 1) := by decide +kernel
theorem dX10_strike_83 : decode cX10_strike 83 = .ok (.dup2, 1) := by decide +kernel
theorem dX10_strike_84 : decode cX10_strike 84 = .ok (.iaload, 1) := by decide +kernel
theorem dX10_strike_85 : decode cX10_strike 85 = .ok (.iconst 1, 1) := by decide +kernel
theorem dX10_strike_86 : decode cX10_strike 86 = .ok (.iadd, 1) := by decide +kernel
theorem dX10_strike_87 : decode cX10_strike 87 = .ok (.iastore, 1) := by decide +kernel
theorem dX10_strike_88 : decode cX10_strike 88 = .ok (.aload_n 0, 1) := by decide +kernel
theorem dX10_strike_89 : decode cX10_strike 89 = .ok (.getfield 7, 3) := by decide +kernel
theorem dX10_strike_92 : decode cX10_strike 92 = .ok (.sipush 1824, 3) := by decide +kernel
theorem dX10_strike_95 : decode cX10_strike 95 = .ok (.iload_n 1, 1) := by decide +kernel
theorem dX10_strike_96 : decode cX10_strike 96 = .ok (.imul, 1) := by decide +kernel
theorem dX10_strike_97 : decode cX10_strike 97 = .ok (.bipush 20, 2) := by decide +kernel
theorem dX10_strike_99 : decode cX10_strike 99 = .ok (.iadd, 1) := by decide +kernel
theorem dX10_strike_100 : decode cX10_strike 100 = .ok (.aload_n 0, 1) := by decide +kernel
theorem dX10_strike_101 : decode cX10_strike 101 = .ok (.iload_n 1, 1) := by decide +kernel
theorem dX10_strike_102 : decode cX10_strike 102 = .ok (.iload_n 2, 1) := by decide +kernel
theorem dX10_strike_103 : decode cX10_strike 103 = .ok (.invokevirtual 101, 3) := by decide +kernel
theorem dX10_strike_106 : decode cX10_strike 106 = .ok (.iadd, 1) := by decide +kernel
theorem dX10_strike_107 : decode cX10_strike 107 = .ok (.aload_n 0, 1) := by decide +kernel
theorem dX10_strike_108 : decode cX10_strike 108 = .ok (.iload_n 1, 1) := by decide +kernel
theorem dX10_strike_109 : decode cX10_strike 109 = .ok (.iconst 5, 1) := by decide +kernel
theorem dX10_strike_110 : decode cX10_strike 110 = .ok (.invokevirtual 97, 3) := by decide +kernel
theorem dX10_strike_113 : decode cX10_strike 113 = .ok (.iastore, 1) := by decide +kernel
theorem dX10_strike_114 : decode cX10_strike 114 = .ok (.aload_n 0, 1) := by decide +kernel
theorem dX10_strike_115 : decode cX10_strike 115 = .ok (.getfield 7, 3) := by decide +kernel
theorem dX10_strike_118 : decode cX10_strike 118 = .ok (.sipush 1824, 3) := by decide +kernel
theorem dX10_strike_121 : decode cX10_strike 121 = .ok (.iload_n 1, 1) := by decide +kernel
theorem dX10_strike_122 : decode cX10_strike 122 = .ok (.imul, 1) := by decide +kernel
theorem dX10_strike_123 : decode cX10_strike 123 = .ok (.bipush 6, 2) := by decide +kernel
theorem dX10_strike_125 : decode cX10_strike 125 = .ok (.iadd, 1) := by decide +kernel
theorem dX10_strike_126 : decode cX10_strike 126 = .ok (.dup2, 1) := by decide +kernel
theorem dX10_strike_127 : decode cX10_strike 127 = .ok (.iaload, 1) := by decide +kernel
theorem dX10_strike_128 : decode cX10_strike 128 = .ok (.iconst 1, 1) := by decide +kernel
theorem dX10_strike_129 : decode cX10_strike 129 = .ok (.iadd, 1) := by decide +kernel
theorem dX10_strike_130 : decode cX10_strike 130 = .ok (.iastore, 1) := by decide +kernel
theorem dX10_strike_131 : decode cX10_strike 131 = .ok (.iload_n 3, 1) := by decide +kernel
theorem dX10_strike_132 : decode cX10_strike 132 = .ok (.ireturn, 1) := by decide +kernel
theorem dX10_anew_0 : decode cX10_anew 0 = .ok (.bipush 20, 2) := by decide +kernel
theorem dX10_anew_2 : decode cX10_anew 2 = .ok (.istore_n 2, 1) := by decide +kernel
theorem dX10_anew_3 : decode cX10_anew 3 = .ok (.iload_n 2, 1) := by decide +kernel
theorem dX10_anew_4 : decode cX10_anew 4 = .ok (.sipush 1824, 3) := by decide +kernel
theorem dX10_anew_7 : decode cX10_anew 7 = .ok (.if_icmp .ge 22, 3) := by decide +kernel
theorem dX10_anew_10 : decode cX10_anew 10 = .ok (.aload_n 0, 1) := by decide +kernel
theorem dX10_anew_11 : decode cX10_anew 11 = .ok (.getfield 7, 3) := by decide +kernel
theorem dX10_anew_14 : decode cX10_anew 14 = .ok (.sipush 1824, 3) := by decide +kernel
theorem dX10_anew_17 : decode cX10_anew 17 = .ok (.iload_n 1, 1) := by decide +kernel
theorem dX10_anew_18 : decode cX10_anew 18 = .ok (.imul, 1) := by decide +kernel
theorem dX10_anew_19 : decode cX10_anew 19 = .ok (.iload_n 2, 1) := by decide +kernel
theorem dX10_anew_20 : decode cX10_anew 20 = .ok (.iadd, 1) := by decide +kernel
theorem dX10_anew_21 : decode cX10_anew 21 = .ok (.iconst 0, 1) := by decide +kernel
theorem dX10_anew_22 : decode cX10_anew 22 = .ok (.iastore, 1) := by decide +kernel
theorem dX10_anew_23 : decode cX10_anew 23 = .ok (.iinc 2 1, 3) := by decide +kernel
theorem dX10_anew_26 : decode cX10_anew 26 = .ok (.goto (-23), 3) := by decide +kernel
theorem dX10_anew_29 : decode cX10_anew 29 = .ok (.aload_n 0, 1) := by decide +kernel
theorem dX10_anew_30 : decode cX10_anew 30 = .ok (.getfield 7, 3) := by decide +kernel
theorem dX10_anew_33 : decode cX10_anew 33 = .ok (.sipush 1824, 3) := by decide +kernel
theorem dX10_anew_36 : decode cX10_anew 36 = .ok (.iload_n 1, 1) := by decide +kernel
theorem dX10_anew_37 : decode cX10_anew 37 = .ok (.imul, 1) := by decide +kernel
theorem dX10_anew_38 : decode cX10_anew 38 = .ok (.iconst 4, 1) := by decide +kernel
theorem dX10_anew_39 : decode cX10_anew 39 = .ok (.iadd, 1) := by decide +kernel
theorem dX10_anew_40 : decode cX10_anew 40 = .ok (.iconst 0, 1) := by decide +kernel
theorem dX10_anew_41 : decode cX10_anew 41 = .ok (.iastore, 1) := by decide +kernel
theorem dX10_anew_42 : decode cX10_anew 42 = .ok (.aload_n 0, 1) := by decide +kernel
theorem dX10_anew_43 : decode cX10_anew 43 = .ok (.getfield 7, 3) := by decide +kernel
theorem dX10_anew_46 : decode cX10_anew 46 = .ok (.sipush 1824, 3) := by decide +kernel
theorem dX10_anew_49 : decode cX10_anew 49 = .ok (.iload_n 1, 1) := by decide +kernel
theorem dX10_anew_50 : decode cX10_anew 50 = .ok (.imul, 1) := by decide +kernel
theorem dX10_anew_51 : decode cX10_anew 51 = .ok (.iconst 5, 1) := by decide +kernel
theorem dX10_anew_52 : decode cX10_anew 52 = .ok (.iadd, 1) := by decide +kernel
theorem dX10_anew_53 : decode cX10_anew 53 = .ok (.iconst 0, 1) := by decide +kernel
theorem dX10_anew_54 : decode cX10_anew 54 = .ok (.iastore, 1) := by decide +kernel
theorem dX10_anew_55 : decode cX10_anew 55 = .ok (.aload_n 0, 1) := by decide +kernel
theorem dX10_anew_56 : decode cX10_anew 56 = .ok (.getfield 7, 3) := by decide +kernel
theorem dX10_anew_59 : decode cX10_anew 59 = .ok (.sipush 1824, 3) := by decide +kernel
theorem dX10_anew_62 : decode cX10_anew 62 = .ok (.iload_n 1, 1) := by decide +kernel
theorem dX10_anew_63 : decode cX10_anew 63 = .ok (.imul, 1) := by decide +kernel
theorem dX10_anew_64 : decode cX10_anew 64 = .ok (.bipush 6, 2) := by decide +kernel
theorem dX10_anew_66 : decode cX10_anew 66 = .ok (.iadd, 1) := by decide +kernel
theorem dX10_anew_67 : decode cX10_anew 67 = .ok (.iconst 0, 1) := by decide +kernel
theorem dX10_anew_68 : decode cX10_anew 68 = .ok (.iastore, 1) := by decide +kernel
theorem dX10_anew_69 : decode cX10_anew 69 = .ok (.return_, 1) := by decide +kernel
theorem dX10_longer_0 : decode cX10_longer 0 = .ok (.aload_n 0, 1) := by decide +kernel
theorem dX10_longer_1 : decode cX10_longer 1 = .ok (.iload_n 2, 1) := by decide +kernel
theorem dX10_longer_2 : decode cX10_longer 2 = .ok (.i2l, 1) := by decide +kernel
theorem dX10_longer_3 : decode cX10_longer 3 = .ok (.ldc2_w 138, 3) := by decide +kernel
theorem dX10_longer_6 : decode cX10_longer 6 = .ok (.ldc2_w 169, 3) := by decide +kernel
theorem dX10_longer_9 : decode cX10_longer 9 = .ok (.invokestatic 93, 3) := by decide +kernel
theorem dX10_longer_12 : decode cX10_longer 12 = .ok (.ifCond .ne 7, 3) := by decide +kernel
theorem dX10_longer_15 : decode cX10_longer 15 = .ok (.iconst 1, 1) := by decide +kernel
theorem dX10_longer_16 : decode cX10_longer 16 = .ok (.goto 30, 3) := by decide +kernel
theorem dX10_longer_19 : decode cX10_longer 19 = .ok (.aload_n 0, 1) := by decide +kernel
theorem dX10_longer_20 : decode cX10_longer 20 = .ok (.iload_n 1, 1) := by decide +kernel
theorem dX10_longer_21 : decode cX10_longer 21 = .ok (.invokevirtual 152, 3) := by decide +kernel
theorem dX10_longer_24 : decode cX10_longer 24 = .ok (.ifCond .ne 7, 3) := by decide +kernel
theorem dX10_longer_27 : decode cX10_longer 27 = .ok (.iconst 2, 1) := by decide +kernel
theorem dX10_longer_28 : decode cX10_longer 28 = .ok (.goto 18, 3) := by decide +kernel
theorem dX10_longer_31 : decode cX10_longer 31 = .ok (.aload_n 0, 1) := by decide +kernel
theorem dX10_longer_32 : decode cX10_longer 32 = .ok (.iload_n 1, 1) := by decide +kernel
theorem dX10_longer_33 : decode cX10_longer 33 = .ok (.iconst 3, 1) := by decide +kernel
theorem dX10_longer_34 : decode cX10_longer 34 = .ok (.invokevirtual 97, 3) := by decide +kernel
theorem dX10_longer_37 : decode cX10_longer 37 = .ok (.iload_n 2, 1) := by decide +kernel
theorem dX10_longer_38 : decode cX10_longer 38 = .ok (.if_icmp .ne 7, 3) := by decide +kernel
theorem dX10_longer_41 : decode cX10_longer 41 = .ok (.iconst 4, 1) := by decide +kernel
theorem dX10_longer_42 : decode cX10_longer 42 = .ok (.goto 4, 3) := by decide +kernel
theorem dX10_longer_45 : decode cX10_longer 45 = .ok (.iconst 0, 1) := by decide +kernel
theorem dX10_longer_46 : decode cX10_longer 46 = .ok (.invokevirtual 140, 3) := by decide +kernel
theorem dX10_longer_49 : decode cX10_longer 49 = .ok (.ifCond .ne 5, 3) := by decide +kernel
theorem dX10_longer_52 : decode cX10_longer 52 = .ok (.iconst (-1), 1) := by decide +kernel
theorem dX10_longer_53 : decode cX10_longer 53 = .ok (.ireturn, 1) := by decide +kernel
theorem dX10_longer_54 : decode cX10_longer 54 = .ok (.aload_n 0, 1) := by decide +kernel
theorem dX10_longer_55 : decode cX10_longer 55 = .ok (.invokevirtual 156, 3) := by decide +kernel
theorem dX10_longer_58 : decode cX10_longer 58 = .ok (.aload_n 0, 1) := by decide +kernel
theorem dX10_longer_59 : decode cX10_longer 59 = .ok (.iload_n 1, 1) := by decide +kernel
theorem dX10_longer_60 : decode cX10_longer 60 = .ok (.iconst 4, 1) := by decide +kernel
theorem dX10_longer_61 : decode cX10_longer 61 = .ok (.invokevirtual 97, 3) := by decide +kernel
theorem dX10_longer_64 : decode cX10_longer 64 = .ok (.istore_n 3, 1) := by decide +kernel
theorem dX10_longer_65 : decode cX10_longer 65 = .ok (.aload_n 0, 1) := by decide +kernel
theorem dX10_longer_66 : decode cX10_longer 66 = .ok (.getfield 7, 3) := by decide +kernel
theorem dX10_longer_69 : decode cX10_longer 69 = .ok (.sipush 1824, 3) := by decide +kernel
theorem dX10_longer_72 : decode cX10_longer 72 = .ok (.iload_n 1, 1) := by decide +kernel
theorem dX10_longer_73 : decode cX10_longer 73 = .ok (.imul, 1) := by decide +kernel
theorem dX10_longer_74 : decode cX10_longer 74 = .ok (.iconst 3, 1) := by decide +kernel
theorem dX10_longer_75 : decode cX10_longer 75 = .ok (.iadd, 1) := by decide +kernel
theorem dX10_longer_76 : decode cX10_longer 76 = .ok (.iload_n 2, 1) := by decide +kernel
theorem dX10_longer_77 : decode cX10_longer 77 = .ok (.iastore, 1) := by decide +kernel
theorem dX10_longer_78 : decode cX10_longer 78 = .ok (.aload_n 0, 1) := by decide +kernel
theorem dX10_longer_79 : decode cX10_longer 79 = .ok (.iload_n 1, 1) := by decide +kernel
theorem dX10_longer_80 : decode cX10_longer 80 = .ok (.invokevirtual 171, 3) := by decide +kernel
theorem dX10_longer_83 : decode cX10_longer 83 = .ok (.aload_n 0, 1) := by decide +kernel
theorem dX10_longer_84 : decode cX10_longer 84 = .ok (.iload_n 1, 1) := by decide +kernel
theorem dX10_longer_85 : decode cX10_longer 85 = .ok (.iconst 4, 1) := by decide +kernel
theorem dX10_longer_86 : decode cX10_longer 86 = .ok (.invokevirtual 97, 3) := by decide +kernel
theorem dX10_longer_89 : decode cX10_longer 89 = .ok (.iload_n 3, 1) := by decide +kernel
theorem dX10_longer_90 : decode cX10_longer 90 = .ok (.if_icmp .ge 14, 3) := by decide +kernel
theorem dX10_longer_93 : decode cX10_longer 93 = .ok (.aload_n 0, 1) := by decide +kernel
theorem dX10_longer_94 : decode cX10_longer 94 = .ok (.iload_n 1, 1) := by decide +kernel
theorem dX10_longer_95 : decode cX10_longer 95 = .ok (.invokevirtual 135, 3) := by decide +kernel
theorem dX10_longer_98 : decode cX10_longer 98 = .ok (.ifCond .lt 6, 3) := by decide +kernel
theorem dX10_longer_101 : decode cX10_longer 101 = .ok (.goto (-18), 3) := by decide +kernel
theorem dX10_longer_104 : decode cX10_longer 104 = .ok (.aload_n 0, 1) := by decide +kernel
theorem dX10_longer_105 : decode cX10_longer 105 = .ok (.iload_n 1, 1) := by decide +kernel
theorem dX10_longer_106 : decode cX10_longer 106 = .ok (.invokevirtual 120, 3) := by decide +kernel
theorem dX10_longer_109 : decode cX10_longer 109 = .ok (.aload_n 0, 1) := by decide +kernel
theorem dX10_longer_110 : decode cX10_longer 110 = .ok (.getfield 107, 3) := by decide +kernel
theorem dX10_longer_113 : decode cX10_longer 113 = .ok (.ireturn, 1) := by decide +kernel
theorem dX10_make_0 : decode cX10_make 0 = .ok (.iload_n 1, 1) := by decide +kernel
theorem dX10_make_1 : decode cX10_make 1 = .ok (.i2l, 1) := by decide +kernel
theorem dX10_make_2 : decode cX10_make 2 = .ok (.lconst 0, 1) := by decide +kernel
theorem dX10_make_3 : decode cX10_make 3 = .ok (.ldc2_w 174, 3) := by decide +kernel
theorem dX10_make_6 : decode cX10_make 6 = .ok (.invokestatic 93, 3) := by decide +kernel
theorem dX10_make_9 : decode cX10_make 9 = .ok (.ifCond .eq 46, 3) := by decide +kernel
theorem dX10_make_12 : decode cX10_make 12 = .ok (.iload_n 2, 1) := by decide +kernel
theorem dX10_make_13 : decode cX10_make 13 = .ok (.i2l, 1) := by decide +kernel
theorem dX10_make_14 : decode cX10_make 14 = .ok (.lconst 0, 1) := by decide +kernel
theorem dX10_make_15 : decode cX10_make 15 = .ok (.ldc2_w 176, 3) := by decide +kernel
theorem dX10_make_18 : decode cX10_make 18 = .ok (.invokestatic 93, 3) := by decide +kernel
theorem dX10_make_21 : decode cX10_make 21 = .ok (.ifCond .eq 34, 3) := by decide +kernel
theorem dX10_make_24 : decode cX10_make 24 = .ok (.iload_n 3, 1) := by decide +kernel
theorem dX10_make_25 : decode cX10_make 25 = .ok (.i2l, 1) := by decide +kernel
theorem dX10_make_26 : decode cX10_make 26 = .ok (.lconst 1, 1) := by decide +kernel
theorem dX10_make_27 : decode cX10_make 27 = .ok (.ldc2_w 178, 3) := by decide +kernel
theorem dX10_make_30 : decode cX10_make 30 = .ok (.invokestatic 93, 3) := by decide +kernel
theorem dX10_make_33 : decode cX10_make 33 = .ok (.ifCond .eq 22, 3) := by decide +kernel
theorem dX10_make_36 : decode cX10_make 36 = .ok (.iload 4, 2) := by decide +kernel
theorem dX10_make_38 : decode cX10_make 38 = .ok (.i2l, 1) := by decide +kernel
theorem dX10_make_39 : decode cX10_make 39 = .ok (.ldc2_w 138, 3) := by decide +kernel
theorem dX10_make_42 : decode cX10_make 42 = .ok (.ldc2_w 169, 3) := by decide +kernel
theorem dX10_make_45 : decode cX10_make 45 = .ok (.invokestatic 93, 3) := by decide +kernel
theorem dX10_make_48 : decode cX10_make 48 = .ok (.ifCond .eq 7, 3) := by decide +kernel
theorem dX10_make_51 : decode cX10_make 51 = .ok (.iconst 1, 1) := by decide +kernel
theorem dX10_make_52 : decode cX10_make 52 = .ok (.goto 4, 3) := by decide +kernel
theorem dX10_make_55 : decode cX10_make 55 = .ok (.iconst 0, 1) := by decide +kernel
theorem dX10_make_56 : decode cX10_make 56 = .ok (.istore 5, 2) := by decide +kernel
theorem dX10_make_58 : decode cX10_make 58 = .ok (.aload_n 0, 1) := by decide +kernel
theorem dX10_make_59 : decode cX10_make 59 = .ok (.iload 5, 2) := by decide +kernel
theorem dX10_make_61 : decode cX10_make 61 = .ok (.ifCond .ne 7, 3) := by decide +kernel
theorem dX10_make_64 : decode cX10_make 64 = .ok (.iconst 1, 1) := by decide +kernel
theorem dX10_make_65 : decode cX10_make 65 = .ok (.goto 16, 3) := by decide +kernel
theorem dX10_make_68 : decode cX10_make 68 = .ok (.aload_n 0, 1) := by decide +kernel
theorem dX10_make_69 : decode cX10_make 69 = .ok (.getfield 90, 3) := by decide +kernel
theorem dX10_make_72 : decode cX10_make 72 = .ok (.iconst 4, 1) := by decide +kernel
theorem dX10_make_73 : decode cX10_make 73 = .ok (.if_icmp .ne 7, 3) := by decide +kernel
theorem dX10_make_76 : decode cX10_make 76 = .ok (.iconst 3, 1) := by decide +kernel
theorem dX10_make_77 : decode cX10_make 77 = .ok (.goto 4, 3) := by decide +kernel
theorem dX10_make_80 : decode cX10_make 80 = .ok (.iconst 0, 1) := by decide +kernel
theorem dX10_make_81 : decode cX10_make 81 = .ok (.invokevirtual 140, 3) := by decide +kernel
theorem dX10_make_84 : decode cX10_make 84 = .ok (.ifCond .ne 5, 3) := by decide +kernel
theorem dX10_make_87 : decode cX10_make 87 = .ok (.iconst (-1), 1) := by decide +kernel
theorem dX10_make_88 : decode cX10_make 88 = .ok (.ireturn, 1) := by decide +kernel
theorem dX10_make_89 : decode cX10_make 89 = .ok (.aload_n 0, 1) := by decide +kernel
theorem dX10_make_90 : decode cX10_make 90 = .ok (.invokevirtual 156, 3) := by decide +kernel
theorem dX10_make_93 : decode cX10_make 93 = .ok (.sipush 1824, 3) := by decide +kernel
theorem dX10_make_96 : decode cX10_make 96 = .ok (.aload_n 0, 1) := by decide +kernel
theorem dX10_make_97 : decode cX10_make 97 = .ok (.getfield 90, 3) := by decide +kernel
theorem dX10_make_100 : decode cX10_make 100 = .ok (.imul, 1) := by decide +kernel
theorem dX10_make_101 : decode cX10_make 101 = .ok (.istore 6, 2) := by decide +kernel
theorem dX10_make_103 : decode cX10_make 103 = .ok (.iconst 0, 1) := by decide +kernel
theorem dX10_make_104 : decode cX10_make 104 = .ok (.istore 7, 2) := by decide +kernel
theorem dX10_make_106 : decode cX10_make 106 = .ok (.iload 7, 2) := by decide +kernel
theorem dX10_make_108 : decode cX10_make 108 = .ok (.sipush 1824, 3) := by decide +kernel
theorem dX10_make_111 : decode cX10_make 111 = .ok (.if_icmp .ge 20, 3) := by decide +kernel
theorem dX10_make_114 : decode cX10_make 114 = .ok (.aload_n 0, 1) := by decide +kernel
theorem dX10_make_115 : decode cX10_make 115 = .ok (.getfield 7, 3) := by decide +kernel
theorem dX10_make_118 : decode cX10_make 118 = .ok (.iload 6, 2) := by decide +kernel
theorem dX10_make_120 : decode cX10_make 120 = .ok (.iload 7, 2) := by decide +kernel
theorem dX10_make_122 : decode cX10_make 122 = .ok (.iadd, 1) := by decide +kernel
theorem dX10_make_123 : decode cX10_make 123 = .ok (.iconst 0, 1) := by decide +kernel
theorem dX10_make_124 : decode cX10_make 124 = .ok (.iastore, 1) := by decide +kernel
theorem dX10_make_125 : decode cX10_make 125 = .ok (.iinc 7 1, 3) := by decide +kernel
theorem dX10_make_128 : decode cX10_make 128 = .ok (.goto (-22), 3) := by decide +kernel
theorem dX10_make_131 : decode cX10_make 131 = .ok (.aload_n 0, 1) := by decide +kernel
theorem dX10_make_132 : decode cX10_make 132 = .ok (.getfield 7, 3) := by decide +kernel
theorem dX10_make_135 : decode cX10_make 135 = .ok (.iload 6, 2) := by decide +kernel
theorem dX10_make_137 : decode cX10_make 137 = .ok (.iconst 0, 1) := by decide +kernel
theorem dX10_make_138 : decode cX10_make 138 = .ok (.iadd, 1) := by decide +kernel
theorem dX10_make_139 : decode cX10_make 139 = .ok (.iload_n 1, 1) := by decide +kernel
theorem dX10_make_140 : decode cX10_make 140 = .ok (.iastore, 1) := by decide +kernel
theorem dX10_make_141 : decode cX10_make 141 = .ok (.aload_n 0, 1) := by decide +kernel
theorem dX10_make_142 : decode cX10_make 142 = .ok (.getfield 7, 3) := by decide +kernel
theorem dX10_make_145 : decode cX10_make 145 = .ok (.iload 6, 2) := by decide +kernel
theorem dX10_make_147 : decode cX10_make 147 = .ok (.iconst 1, 1) := by decide +kernel
theorem dX10_make_148 : decode cX10_make 148 = .ok (.iadd, 1) := by decide +kernel
theorem dX10_make_149 : decode cX10_make 149 = .ok (.iload_n 2, 1) := by decide +kernel
theorem dX10_make_150 : decode cX10_make 150 = .ok (.iastore, 1) := by decide +kernel
theorem dX10_make_151 : decode cX10_make 151 = .ok (.aload_n 0, 1) := by decide +kernel
theorem dX10_make_152 : decode cX10_make 152 = .ok (.getfield 7, 3) := by decide +kernel
theorem dX10_make_155 : decode cX10_make 155 = .ok (.iload 6, 2) := by decide +kernel
theorem dX10_make_157 : decode cX10_make 157 = .ok (.iconst 2, 1) := by decide +kernel
theorem dX10_make_158 : decode cX10_make 158 = .ok (.iadd, 1) := by decide +kernel
theorem dX10_make_159 : decode cX10_make 159 = .ok (.iload_n 3, 1) := by decide +kernel
theorem dX10_make_160 : decode cX10_make 160 = .ok (.iastore, 1) := by decide +kernel
theorem dX10_make_161 : decode cX10_make 161 = .ok (.aload_n 0, 1) := by decide +kernel
theorem dX10_make_162 : decode cX10_make 162 = .ok (.getfield 7, 3) := by decide +kernel
theorem dX10_make_165 : decode cX10_make 165 = .ok (.iload 6, 2) := by decide +kernel
theorem dX10_make_167 : decode cX10_make 167 = .ok (.iconst 3, 1) := by decide +kernel
theorem dX10_make_168 : decode cX10_make 168 = .ok (.iadd, 1) := by decide +kernel
theorem dX10_make_169 : decode cX10_make 169 = .ok (.iload 4, 2) := by decide +kernel
theorem dX10_make_171 : decode cX10_make 171 = .ok (.iastore, 1) := by decide +kernel
theorem dX10_make_172 : decode cX10_make 172 = .ok (.aload_n 0, 1) := by decide +kernel
theorem dX10_make_173 : decode cX10_make 173 = .ok (.dup, 1) := by decide +kernel
theorem dX10_make_174 : decode cX10_make 174 = .ok (.getfield 90, 3) := by decide +kernel
theorem dX10_make_177 : decode cX10_make 177 = .ok (.iconst 1, 1) := by decide +kernel
theorem dX10_make_178 : decode cX10_make 178 = .ok (.iadd, 1) := by decide +kernel
theorem dX10_make_179 : decode cX10_make 179 = .ok (.putfield 90, 3) := by decide +kernel
theorem dX10_make_182 : decode cX10_make 182 = .ok (.aload_n 0, 1) := by decide +kernel
theorem dX10_make_183 : decode cX10_make 183 = .ok (.getfield 90, 3) := by decide +kernel
theorem dX10_make_186 : decode cX10_make 186 = .ok (.iconst 1, 1) := by decide +kernel
theorem dX10_make_187 : decode cX10_make 187 = .ok (.isub, 1) := by decide +kernel
theorem dX10_make_188 : decode cX10_make 188 = .ok (.ireturn, 1) := by decide +kernel
theorem dX10_drop_0 : decode cX10_drop 0 = .ok (.aload_n 0, 1) := by decide +kernel
theorem dX10_drop_1 : decode cX10_drop 1 = .ok (.aload_n 0, 1) := by decide +kernel
theorem dX10_drop_2 : decode cX10_drop 2 = .ok (.iload_n 1, 1) := by decide +kernel
theorem dX10_drop_3 : decode cX10_drop 3 = .ok (.invokevirtual 152, 3) := by decide +kernel
theorem dX10_drop_6 : decode cX10_drop 6 = .ok (.ifCond .eq 7, 3) := by decide +kernel
theorem dX10_drop_9 : decode cX10_drop 9 = .ok (.iconst 0, 1) := by decide +kernel
theorem dX10_drop_10 : decode cX10_drop 10 = .ok (.goto 4, 3) := by decide +kernel
theorem dX10_drop_13 : decode cX10_drop 13 = .ok (.iconst 2, 1) := by decide +kernel
theorem dX10_drop_14 : decode cX10_drop 14 = .ok (.invokevirtual 140, 3) := by decide +kernel
theorem dX10_drop_17 : decode cX10_drop 17 = .ok (.ifCond .ne 5, 3) := by decide +kernel
theorem dX10_drop_20 : decode cX10_drop 20 = .ok (.iconst (-1), 1) := by decide +kernel
theorem dX10_drop_21 : decode cX10_drop 21 = .ok (.ireturn, 1) := by decide +kernel
theorem dX10_drop_22 : decode cX10_drop 22 = .ok (.aload_n 0, 1) := by decide +kernel
theorem dX10_drop_23 : decode cX10_drop 23 = .ok (.invokevirtual 156, 3) := by decide +kernel
theorem dX10_drop_26 : decode cX10_drop 26 = .ok (.aload_n 0, 1) := by decide +kernel
theorem dX10_drop_27 : decode cX10_drop 27 = .ok (.dup, 1) := by decide +kernel
theorem dX10_drop_28 : decode cX10_drop 28 = .ok (.getfield 90, 3) := by decide +kernel
theorem dX10_drop_31 : decode cX10_drop 31 = .ok (.iconst 1, 1) := by decide +kernel
theorem dX10_drop_32 : decode cX10_drop 32 = .ok (.isub, 1) := by decide +kernel
theorem dX10_drop_33 : decode cX10_drop 33 = .ok (.putfield 90, 3) := by decide +kernel
theorem dX10_drop_36 : decode cX10_drop 36 = .ok (.sipush 1824, 3) := by decide +kernel
theorem dX10_drop_39 : decode cX10_drop 39 = .ok (.iload_n 1, 1) := by decide +kernel
theorem dX10_drop_40 : decode cX10_drop 40 = .ok (.imul, 1) := by decide +kernel
theorem dX10_drop_41 : decode cX10_drop 41 = .ok (.istore_n 2, 1) := by decide +kernel
theorem dX10_drop_42 : decode cX10_drop 42 = .ok (.iload_n 2, 1) := by decide +kernel
theorem dX10_drop_43 : decode cX10_drop 43 = .ok (.sipush 1824, 3) := by decide +kernel
theorem dX10_drop_46 : decode cX10_drop 46 = .ok (.aload_n 0, 1) := by decide +kernel
theorem dX10_drop_47 : decode cX10_drop 47 = .ok (.getfield 90, 3) := by decide +kernel
theorem dX10_drop_50 : decode cX10_drop 50 = .ok (.imul, 1) := by decide +kernel
theorem dX10_drop_51 : decode cX10_drop 51 = .ok (.if_icmp .ge 25, 3) := by decide +kernel
theorem dX10_drop_54 : decode cX10_drop 54 = .ok (.aload_n 0, 1) := by decide +kernel
theorem dX10_drop_55 : decode cX10_drop 55 = .ok (.getfield 7, 3) := by decide +kernel
theorem dX10_drop_58 : decode cX10_drop 58 = .ok (.iload_n 2, 1) := by decide +kernel
theorem dX10_drop_59 : decode cX10_drop 59 = .ok (.aload_n 0, 1) := by decide +kernel
theorem dX10_drop_60 : decode cX10_drop 60 = .ok (.getfield 7, 3) := by decide +kernel
theorem dX10_drop_63 : decode cX10_drop 63 = .ok (.iload_n 2, 1) := by decide +kernel
theorem dX10_drop_64 : decode cX10_drop 64 = .ok (.sipush 1824, 3) := by decide +kernel
theorem dX10_drop_67 : decode cX10_drop 67 = .ok (.iadd, 1) := by decide +kernel
theorem dX10_drop_68 : decode cX10_drop 68 = .ok (.iaload, 1) := by decide +kernel
theorem dX10_drop_69 : decode cX10_drop 69 = .ok (.iastore, 1) := by decide +kernel
theorem dX10_drop_70 : decode cX10_drop 70 = .ok (.iinc 2 1, 3) := by decide +kernel
theorem dX10_drop_73 : decode cX10_drop 73 = .ok (.goto (-31), 3) := by decide +kernel
theorem dX10_drop_76 : decode cX10_drop 76 = .ok (.aload_n 0, 1) := by decide +kernel
theorem dX10_drop_77 : decode cX10_drop 77 = .ok (.getfield 90, 3) := by decide +kernel
theorem dX10_drop_80 : decode cX10_drop 80 = .ok (.ireturn, 1) := by decide +kernel
theorem dX10_undo_0 : decode cX10_undo 0 = .ok (.aload_n 0, 1) := by decide +kernel
theorem dX10_undo_1 : decode cX10_undo 1 = .ok (.aload_n 0, 1) := by decide +kernel
theorem dX10_undo_2 : decode cX10_undo 2 = .ok (.getfield 144, 3) := by decide +kernel
theorem dX10_undo_5 : decode cX10_undo 5 = .ok (.ifCond .ne 7, 3) := by decide +kernel
theorem dX10_undo_8 : decode cX10_undo 8 = .ok (.iconst 5, 1) := by decide +kernel
theorem dX10_undo_9 : decode cX10_undo 9 = .ok (.goto 4, 3) := by decide +kernel
theorem dX10_undo_12 : decode cX10_undo 12 = .ok (.iconst 0, 1) := by decide +kernel
theorem dX10_undo_13 : decode cX10_undo 13 = .ok (.invokevirtual 140, 3) := by decide +kernel
theorem dX10_undo_16 : decode cX10_undo 16 = .ok (.ifCond .ne 5, 3) := by decide +kernel
theorem dX10_undo_19 : decode cX10_undo 19 = .ok (.iconst (-1), 1) := by decide +kernel
theorem dX10_undo_20 : decode cX10_undo 20 = .ok (.ireturn, 1) := by decide +kernel
theorem dX10_undo_21 : decode cX10_undo 21 = .ok (.aload_n 0, 1) := by decide +kernel
theorem dX10_undo_22 : decode cX10_undo 22 = .ok (.dup, 1) := by decide +kernel
theorem dX10_undo_23 : decode cX10_undo 23 = .ok (.getfield 144, 3) := by decide +kernel
theorem dX10_undo_26 : decode cX10_undo 26 = .ok (.iconst 1, 1) := by decide +kernel
theorem dX10_undo_27 : decode cX10_undo 27 = .ok (.isub, 1) := by decide +kernel
theorem dX10_undo_28 : decode cX10_undo 28 = .ok (.putfield 144, 3) := by decide +kernel
theorem dX10_undo_31 : decode cX10_undo 31 = .ok (.iconst 0, 1) := by decide +kernel
theorem dX10_undo_32 : decode cX10_undo 32 = .ok (.istore_n 1, 1) := by decide +kernel
theorem dX10_undo_33 : decode cX10_undo 33 = .ok (.iload_n 1, 1) := by decide +kernel
theorem dX10_undo_34 : decode cX10_undo 34 = .ok (.sipush 7296, 3) := by decide +kernel
theorem dX10_undo_37 : decode cX10_undo 37 = .ok (.if_icmp .ge 30, 3) := by decide +kernel
theorem dX10_undo_40 : decode cX10_undo 40 = .ok (.aload_n 0, 1) := by decide +kernel
theorem dX10_undo_41 : decode cX10_undo 41 = .ok (.getfield 7, 3) := by decide +kernel
theorem dX10_undo_44 : decode cX10_undo 44 = .ok (.iload_n 1, 1) := by decide +kernel
theorem dX10_undo_45 : decode cX10_undo 45 = .ok (.aload_n 0, 1) := by decide +kernel
theorem dX10_undo_46 : decode cX10_undo 46 = .ok (.getfield 17, 3) := by decide +kernel
theorem dX10_undo_49 : decode cX10_undo 49 = .ok (.sipush 7296, 3) := by decide +kernel
theorem dX10_undo_52 : decode cX10_undo 52 = .ok (.aload_n 0, 1) := by decide +kernel
theorem dX10_undo_53 : decode cX10_undo 53 = .ok (.getfield 144, 3) := by decide +kernel
theorem dX10_undo_56 : decode cX10_undo 56 = .ok (.imul, 1) := by decide +kernel
theorem dX10_undo_57 : decode cX10_undo 57 = .ok (.iload_n 1, 1) := by decide +kernel
theorem dX10_undo_58 : decode cX10_undo 58 = .ok (.iadd, 1) := by decide +kernel
theorem dX10_undo_59 : decode cX10_undo 59 = .ok (.iaload, 1) := by decide +kernel
theorem dX10_undo_60 : decode cX10_undo 60 = .ok (.iastore, 1) := by decide +kernel
theorem dX10_undo_61 : decode cX10_undo 61 = .ok (.iinc 1 1, 3) := by decide +kernel
theorem dX10_undo_64 : decode cX10_undo 64 = .ok (.goto (-31), 3) := by decide +kernel
theorem dX10_undo_67 : decode cX10_undo 67 = .ok (.aload_n 0, 1) := by decide +kernel
theorem dX10_undo_68 : decode cX10_undo 68 = .ok (.aload_n 0, 1) := by decide +kernel
theorem dX10_undo_69 : decode cX10_undo 69 = .ok (.getfield 20, 3) := by decide +kernel
theorem dX10_undo_72 : decode cX10_undo 72 = .ok (.aload_n 0, 1) := by decide +kernel
theorem dX10_undo_73 : decode cX10_undo 73 = .ok (.getfield 144, 3) := by decide +kernel
theorem dX10_undo_76 : decode cX10_undo 76 = .ok (.iaload, 1) := by decide +kernel
theorem dX10_undo_77 : decode cX10_undo 77 = .ok (.putfield 90, 3) := by decide +kernel
theorem dX10_undo_80 : decode cX10_undo 80 = .ok (.aload_n 0, 1) := by decide +kernel
theorem dX10_undo_81 : decode cX10_undo 81 = .ok (.getfield 144, 3) := by decide +kernel
theorem dX10_undo_84 : decode cX10_undo 84 = .ok (.ireturn, 1) := by decide +kernel
theorem dX10_struckBy_0 : decode cX10_struckBy 0 = .ok (.iconst 0, 1) := by decide +kernel
theorem dX10_struckBy_1 : decode cX10_struckBy 1 = .ok (.istore 4, 2) := by decide +kernel
theorem dX10_struckBy_3 : decode cX10_struckBy 3 = .ok (.iconst 0, 1) := by decide +kernel
theorem dX10_struckBy_4 : decode cX10_struckBy 4 = .ok (.istore 5, 2) := by decide +kernel
theorem dX10_struckBy_6 : decode cX10_struckBy 6 = .ok (.iload 5, 2) := by decide +kernel
theorem dX10_struckBy_8 : decode cX10_struckBy 8 = .ok (.aload_n 0, 1) := by decide +kernel
theorem dX10_struckBy_9 : decode cX10_struckBy 9 = .ok (.iload_n 1, 1) := by decide +kernel
theorem dX10_struckBy_10 : decode cX10_struckBy 10 = .ok (.iconst 3, 1) := by decide +kernel
theorem dX10_struckBy_11 : decode cX10_struckBy 11 = .ok (.invokevirtual 97, 3) := by decide +kernel
theorem dX10_struckBy_14 : decode cX10_struckBy 14 = .ok (.if_icmp .ge 43, 3) := by decide +kernel
theorem dX10_struckBy_17 : decode cX10_struckBy 17 = .ok (.aload_n 0, 1) := by decide +kernel
theorem dX10_struckBy_18 : decode cX10_struckBy 18 = .ok (.iload_n 1, 1) := by decide +kernel
theorem dX10_struckBy_19 : decode cX10_struckBy 19 = .ok (.iload 5, 2) := by decide +kernel
theorem dX10_struckBy_21 : decode cX10_struckBy 21 = .ok (.invokevirtual 104, 3) := by decide +kernel
theorem dX10_struckBy_24 : decode cX10_struckBy 24 = .ok (.aload_n 0, 1) := by decide +kernel
theorem dX10_struckBy_25 : decode cX10_struckBy 25 = .ok (.iload_n 1, 1) := by decide +kernel
theorem dX10_struckBy_26 : decode cX10_struckBy 26 = .ok (.iload_n 2, 1) := by decide +kernel
theorem dX10_struckBy_27 : decode cX10_struckBy 27 = .ok (.invokevirtual 180, 3) := by decide +kernel
theorem dX10_struckBy_30 : decode cX10_struckBy 30 = .ok (.if_icmp .eq 6, 3) := by decide +kernel
theorem dX10_struckBy_33 : decode cX10_struckBy 33 = .ok (.goto 18, 3) := by decide +kernel
theorem dX10_struckBy_36 : decode cX10_struckBy 36 = .ok (.iload_n 3, 1) := by decide +kernel
theorem dX10_struckBy_37 : decode cX10_struckBy 37 = .ok (.ifCond .eq 11, 3) := by decide +kernel
theorem dX10_struckBy_40 : decode cX10_struckBy 40 = .ok (.aload_n 0, 1) := by decide +kernel
theorem dX10_struckBy_41 : decode cX10_struckBy 41 = .ok (.iload_n 1, 1) := by decide +kernel
theorem dX10_struckBy_42 : decode cX10_struckBy 42 = .ok (.iload 5, 2) := by decide +kernel
theorem dX10_struckBy_44 : decode cX10_struckBy 44 = .ok (.invokevirtual 114, 3) := by decide +kernel
theorem dX10_struckBy_47 : decode cX10_struckBy 47 = .ok (.ireturn, 1) := by decide +kernel
theorem dX10_struckBy_48 : decode cX10_struckBy 48 = .ok (.iinc 4 1, 3) := by decide +kernel
theorem dX10_struckBy_51 : decode cX10_struckBy 51 = .ok (.iinc 5 1, 3) := by decide +kernel
theorem dX10_struckBy_54 : decode cX10_struckBy 54 = .ok (.goto (-48), 3) := by decide +kernel
theorem dX10_struckBy_57 : decode cX10_struckBy 57 = .ok (.iload_n 3, 1) := by decide +kernel
theorem dX10_struckBy_58 : decode cX10_struckBy 58 = .ok (.ifCond .eq 11, 3) := by decide +kernel
theorem dX10_struckBy_61 : decode cX10_struckBy 61 = .ok (.aload_n 0, 1) := by decide +kernel
theorem dX10_struckBy_62 : decode cX10_struckBy 62 = .ok (.iconst 5, 1) := by decide +kernel
theorem dX10_struckBy_63 : decode cX10_struckBy 63 = .ok (.invokevirtual 166, 3) := by decide +kernel
theorem dX10_struckBy_66 : decode cX10_struckBy 66 = .ok (.goto 5, 3) := by decide +kernel
theorem dX10_struckBy_69 : decode cX10_struckBy 69 = .ok (.iload 4, 2) := by decide +kernel
theorem dX10_struckBy_71 : decode cX10_struckBy 71 = .ok (.ireturn, 1) := by decide +kernel
theorem dX10_told_0 : decode cX10_told 0 = .ok (.aload_n 0, 1) := by decide +kernel
theorem dX10_told_1 : decode cX10_told 1 = .ok (.iload_n 3, 1) := by decide +kernel
theorem dX10_told_2 : decode cX10_told 2 = .ok (.i2l, 1) := by decide +kernel
theorem dX10_told_3 : decode cX10_told 3 = .ok (.lconst 0, 1) := by decide +kernel
theorem dX10_told_4 : decode cX10_told 4 = .ok (.ldc2_w 174, 3) := by decide +kernel
theorem dX10_told_7 : decode cX10_told 7 = .ok (.invokestatic 93, 3) := by decide +kernel
theorem dX10_told_10 : decode cX10_told 10 = .ok (.ifCond .eq 8, 3) := by decide +kernel
theorem dX10_told_13 : decode cX10_told 13 = .ok (.iload_n 2, 1) := by decide +kernel
theorem dX10_told_14 : decode cX10_told 14 = .ok (.iconst 1, 1) := by decide +kernel
theorem dX10_told_15 : decode cX10_told 15 = .ok (.if_icmp .ge 7, 3) := by decide +kernel
theorem dX10_told_18 : decode cX10_told 18 = .ok (.iconst 1, 1) := by decide +kernel
theorem dX10_told_19 : decode cX10_told 19 = .ok (.goto 29, 3) := by decide +kernel
theorem dX10_told_22 : decode cX10_told 22 = .ok (.aload_n 0, 1) := by decide +kernel
theorem dX10_told_23 : decode cX10_told 23 = .ok (.iload_n 1, 1) := by decide +kernel
theorem dX10_told_24 : decode cX10_told 24 = .ok (.invokevirtual 152, 3) := by decide +kernel
theorem dX10_told_27 : decode cX10_told 27 = .ok (.ifCond .ne 7, 3) := by decide +kernel
theorem dX10_told_30 : decode cX10_told 30 = .ok (.iconst 2, 1) := by decide +kernel
theorem dX10_told_31 : decode cX10_told 31 = .ok (.goto 17, 3) := by decide +kernel
theorem dX10_told_34 : decode cX10_told 34 = .ok (.aload_n 0, 1) := by decide +kernel
theorem dX10_told_35 : decode cX10_told 35 = .ok (.iload_n 1, 1) := by decide +kernel
theorem dX10_told_36 : decode cX10_told 36 = .ok (.iload_n 2, 1) := by decide +kernel
theorem dX10_told_37 : decode cX10_told 37 = .ok (.invokevirtual 183, 3) := by decide +kernel
theorem dX10_told_40 : decode cX10_told 40 = .ok (.ifCond .eq 7, 3) := by decide +kernel
theorem dX10_told_43 : decode cX10_told 43 = .ok (.iconst 0, 1) := by decide +kernel
theorem dX10_told_44 : decode cX10_told 44 = .ok (.goto 4, 3) := by decide +kernel
theorem dX10_told_47 : decode cX10_told 47 = .ok (.iconst 5, 1) := by decide +kernel
theorem dX10_told_48 : decode cX10_told 48 = .ok (.invokevirtual 140, 3) := by decide +kernel
theorem dX10_told_51 : decode cX10_told 51 = .ok (.ifCond .ne 5, 3) := by decide +kernel
theorem dX10_told_54 : decode cX10_told 54 = .ok (.iconst (-1), 1) := by decide +kernel
theorem dX10_told_55 : decode cX10_told 55 = .ok (.ireturn, 1) := by decide +kernel
theorem dX10_told_56 : decode cX10_told 56 = .ok (.iload_n 3, 1) := by decide +kernel
theorem dX10_told_57 : decode cX10_told 57 = .ok (.ifCond .ne 14, 3) := by decide +kernel
theorem dX10_told_60 : decode cX10_told 60 = .ok (.aload_n 0, 1) := by decide +kernel
theorem dX10_told_61 : decode cX10_told 61 = .ok (.iload_n 1, 1) := by decide +kernel
theorem dX10_told_62 : decode cX10_told 62 = .ok (.sipush 1222, 3) := by decide +kernel
theorem dX10_told_65 : decode cX10_told 65 = .ok (.iload_n 2, 1) := by decide +kernel
theorem dX10_told_66 : decode cX10_told 66 = .ok (.iadd, 1) := by decide +kernel
theorem dX10_told_67 : decode cX10_told 67 = .ok (.invokevirtual 97, 3) := by decide +kernel
theorem dX10_told_70 : decode cX10_told 70 = .ok (.ireturn, 1) := by decide +kernel
theorem dX10_told_71 : decode cX10_told 71 = .ok (.iload_n 3, 1) := by decide +kernel
theorem dX10_told_72 : decode cX10_told 72 = .ok (.iconst 3, 1) := by decide +kernel
theorem dX10_told_73 : decode cX10_told 73 = .ok (.if_icmp .ge 20, 3) := by decide +kernel
theorem dX10_told_76 : decode cX10_told 76 = .ok (.aload_n 0, 1) := by decide +kernel
theorem dX10_told_77 : decode cX10_told 77 = .ok (.iload_n 1, 1) := by decide +kernel
theorem dX10_told_78 : decode cX10_told 78 = .ok (.iload_n 2, 1) := by decide +kernel
theorem dX10_told_79 : decode cX10_told 79 = .ok (.iload_n 3, 1) := by decide +kernel
theorem dX10_told_80 : decode cX10_told 80 = .ok (.iconst 2, 1) := by decide +kernel
theorem dX10_told_81 : decode cX10_told 81 = .ok (.if_icmp .ne 7, 3) := by decide +kernel
theorem dX10_told_84 : decode cX10_told 84 = .ok (.iconst 1, 1) := by decide +kernel
theorem dX10_told_85 : decode cX10_told 85 = .ok (.goto 4, 3) := by decide +kernel
theorem dX10_told_88 : decode cX10_told 88 = .ok (.iconst 0, 1) := by decide +kernel
theorem dX10_told_89 : decode cX10_told 89 = .ok (.invokevirtual 186, 3) := by decide +kernel
theorem dX10_told_92 : decode cX10_told 92 = .ok (.ireturn, 1) := by decide +kernel
theorem dX10_told_93 : decode cX10_told 93 = .ok (.aload_n 0, 1) := by decide +kernel
theorem dX10_told_94 : decode cX10_told 94 = .ok (.iload_n 1, 1) := by decide +kernel
theorem dX10_told_95 : decode cX10_told 95 = .ok (.aload_n 0, 1) := by decide +kernel
theorem dX10_told_96 : decode cX10_told 96 = .ok (.iload_n 1, 1) := by decide +kernel
theorem dX10_told_97 : decode cX10_told 97 = .ok (.iload_n 2, 1) := by decide +kernel
theorem dX10_told_98 : decode cX10_told 98 = .ok (.invokevirtual 180, 3) := by decide +kernel
theorem dX10_told_101 : decode cX10_told 101 = .ok (.iconst 1, 1) := by decide +kernel
theorem dX10_told_102 : decode cX10_told 102 = .ok (.invokevirtual 110, 3) := by decide +kernel
theorem dX10_told_105 : decode cX10_told 105 = .ok (.aload_n 0, 1) := by decide +kernel
theorem dX10_told_106 : decode cX10_told 106 = .ok (.getfield 107, 3) := by decide +kernel
theorem dX10_told_109 : decode cX10_told 109 = .ok (.ireturn, 1) := by decide +kernel
theorem dX10_whyPlace_0 : decode cX10_whyPlace 0 = .ok (.iload_n 2, 1) := by decide +kernel
theorem dX10_whyPlace_1 : decode cX10_whyPlace 1 = .ok (.ifCond .ne 7, 3) := by decide +kernel
theorem dX10_whyPlace_4 : decode cX10_whyPlace 4 = .ok (.iconst 1, 1) := by decide +kernel
theorem dX10_whyPlace_5 : decode cX10_whyPlace 5 = .ok (.goto 16, 3) := by decide +kernel
theorem dX10_whyPlace_8 : decode cX10_whyPlace 8 = .ok (.aload_n 0, 1) := by decide +kernel
theorem dX10_whyPlace_9 : decode cX10_whyPlace 9 = .ok (.iload_n 1, 1) := by decide +kernel
theorem dX10_whyPlace_10 : decode cX10_whyPlace 10 = .ok (.invokevirtual 152, 3) := by decide +kernel
theorem dX10_whyPlace_13 : decode cX10_whyPlace 13 = .ok (.ifCond .eq 7, 3) := by decide +kernel
theorem dX10_whyPlace_16 : decode cX10_whyPlace 16 = .ok (.iconst 0, 1) := by decide +kernel
theorem dX10_whyPlace_17 : decode cX10_whyPlace 17 = .ok (.goto 4, 3) := by decide +kernel
theorem dX10_whyPlace_20 : decode cX10_whyPlace 20 = .ok (.iconst 2, 1) := by decide +kernel
theorem dX10_whyPlace_21 : decode cX10_whyPlace 21 = .ok (.ireturn, 1) := by decide +kernel
theorem dX10_number_0 : decode cX10_number 0 = .ok (.aload_n 0, 1) := by decide +kernel
theorem dX10_number_1 : decode cX10_number 1 = .ok (.aload_n 0, 1) := by decide +kernel
theorem dX10_number_2 : decode cX10_number 2 = .ok (.iload_n 1, 1) := by decide +kernel
theorem dX10_number_3 : decode cX10_number 3 = .ok (.iload_n 2, 1) := by decide +kernel
theorem dX10_number_4 : decode cX10_number 4 = .ok (.iconst 1, 1) := by decide +kernel
theorem dX10_number_5 : decode cX10_number 5 = .ok (.if_icmp .lt 7, 3) := by decide +kernel
theorem dX10_number_8 : decode cX10_number 8 = .ok (.iconst 1, 1) := by decide +kernel
theorem dX10_number_9 : decode cX10_number 9 = .ok (.goto 4, 3) := by decide +kernel
theorem dX10_number_12 : decode cX10_number 12 = .ok (.iconst 0, 1) := by decide +kernel
theorem dX10_number_13 : decode cX10_number 13 = .ok (.invokevirtual 190, 3) := by decide +kernel
theorem dX10_number_16 : decode cX10_number 16 = .ok (.invokevirtual 140, 3) := by decide +kernel
theorem dX10_number_19 : decode cX10_number 19 = .ok (.ifCond .ne 5, 3) := by decide +kernel
theorem dX10_number_22 : decode cX10_number 22 = .ok (.iconst (-1), 1) := by decide +kernel
theorem dX10_number_23 : decode cX10_number 23 = .ok (.ireturn, 1) := by decide +kernel
theorem dX10_number_24 : decode cX10_number 24 = .ok (.aload_n 0, 1) := by decide +kernel
theorem dX10_number_25 : decode cX10_number 25 = .ok (.iload_n 1, 1) := by decide +kernel
theorem dX10_number_26 : decode cX10_number 26 = .ok (.invokevirtual 120, 3) := by decide +kernel
theorem dX10_number_29 : decode cX10_number 29 = .ok (.iload_n 2, 1) := by decide +kernel
theorem dX10_number_30 : decode cX10_number 30 = .ok (.aload_n 0, 1) := by decide +kernel
theorem dX10_number_31 : decode cX10_number 31 = .ok (.getfield 107, 3) := by decide +kernel
theorem dX10_number_34 : decode cX10_number 34 = .ok (.if_icmp .gt 12, 3) := by decide +kernel
theorem dX10_number_37 : decode cX10_number 37 = .ok (.aload_n 0, 1) := by decide +kernel
theorem dX10_number_38 : decode cX10_number 38 = .ok (.iload_n 1, 1) := by decide +kernel
theorem dX10_number_39 : decode cX10_number 39 = .ok (.iload_n 2, 1) := by decide +kernel
theorem dX10_number_40 : decode cX10_number 40 = .ok (.invokevirtual 117, 3) := by decide +kernel
theorem dX10_number_43 : decode cX10_number 43 = .ok (.goto 8, 3) := by decide +kernel
theorem dX10_number_46 : decode cX10_number 46 = .ok (.aload_n 0, 1) := by decide +kernel
theorem dX10_number_47 : decode cX10_number 47 = .ok (.iconst 5, 1) := by decide +kernel
theorem dX10_number_48 : decode cX10_number 48 = .ok (.invokevirtual 166, 3) := by decide +kernel
theorem dX10_number_51 : decode cX10_number 51 = .ok (.ireturn, 1) := by decide +kernel
theorem dX10_placeOf_0 : decode cX10_placeOf 0 = .ok (.iconst 1, 1) := by decide +kernel
theorem dX10_placeOf_1 : decode cX10_placeOf 1 = .ok (.istore_n 3, 1) := by decide +kernel
theorem dX10_placeOf_2 : decode cX10_placeOf 2 = .ok (.iload_n 3, 1) := by decide +kernel
theorem dX10_placeOf_3 : decode cX10_placeOf 3 = .ok (.aload_n 0, 1) := by decide +kernel
theorem dX10_placeOf_4 : decode cX10_placeOf 4 = .ok (.getfield 107, 3) := by decide +kernel
theorem dX10_placeOf_7 : decode cX10_placeOf 7 = .ok (.if_icmp .gt 23, 3) := by decide +kernel
theorem dX10_placeOf_10 : decode cX10_placeOf 10 = .ok (.aload_n 0, 1) := by decide +kernel
theorem dX10_placeOf_11 : decode cX10_placeOf 11 = .ok (.getfield 29, 3) := by decide +kernel
theorem dX10_placeOf_14 : decode cX10_placeOf 14 = .ok (.iload_n 3, 1) := by decide +kernel
theorem dX10_placeOf_15 : decode cX10_placeOf 15 = .ok (.iconst 1, 1) := by decide +kernel
theorem dX10_placeOf_16 : decode cX10_placeOf 16 = .ok (.isub, 1) := by decide +kernel
theorem dX10_placeOf_17 : decode cX10_placeOf 17 = .ok (.iaload, 1) := by decide +kernel
theorem dX10_placeOf_18 : decode cX10_placeOf 18 = .ok (.iload_n 2, 1) := by decide +kernel
theorem dX10_placeOf_19 : decode cX10_placeOf 19 = .ok (.if_icmp .ne 5, 3) := by decide +kernel
theorem dX10_placeOf_22 : decode cX10_placeOf 22 = .ok (.iload_n 3, 1) := by decide +kernel
theorem dX10_placeOf_23 : decode cX10_placeOf 23 = .ok (.ireturn, 1) := by decide +kernel
theorem dX10_placeOf_24 : decode cX10_placeOf 24 = .ok (.iinc 3 1, 3) := by decide +kernel
theorem dX10_placeOf_27 : decode cX10_placeOf 27 = .ok (.goto (-25), 3) := by decide +kernel
theorem dX10_placeOf_30 : decode cX10_placeOf 30 = .ok (.iconst (-1), 1) := by decide +kernel
theorem dX10_placeOf_31 : decode cX10_placeOf 31 = .ok (.ireturn, 1) := by decide +kernel
theorem dX10_rank_0 : decode cX10_rank 0 = .ok (.aload_n 0, 1) := by decide +kernel
theorem dX10_rank_1 : decode cX10_rank 1 = .ok (.aload_n 0, 1) := by decide +kernel
theorem dX10_rank_2 : decode cX10_rank 2 = .ok (.iload_n 1, 1) := by decide +kernel
theorem dX10_rank_3 : decode cX10_rank 3 = .ok (.invokevirtual 152, 3) := by decide +kernel
theorem dX10_rank_6 : decode cX10_rank 6 = .ok (.ifCond .eq 7, 3) := by decide +kernel
theorem dX10_rank_9 : decode cX10_rank 9 = .ok (.iconst 0, 1) := by decide +kernel
theorem dX10_rank_10 : decode cX10_rank 10 = .ok (.goto 4, 3) := by decide +kernel
theorem dX10_rank_13 : decode cX10_rank 13 = .ok (.iconst 2, 1) := by decide +kernel
theorem dX10_rank_14 : decode cX10_rank 14 = .ok (.invokevirtual 140, 3) := by decide +kernel
theorem dX10_rank_17 : decode cX10_rank 17 = .ok (.ifCond .ne 5, 3) := by decide +kernel
theorem dX10_rank_20 : decode cX10_rank 20 = .ok (.iconst (-1), 1) := by decide +kernel
theorem dX10_rank_21 : decode cX10_rank 21 = .ok (.ireturn, 1) := by decide +kernel
theorem dX10_rank_22 : decode cX10_rank 22 = .ok (.aload_n 0, 1) := by decide +kernel
theorem dX10_rank_23 : decode cX10_rank 23 = .ok (.iload_n 1, 1) := by decide +kernel
theorem dX10_rank_24 : decode cX10_rank 24 = .ok (.invokevirtual 120, 3) := by decide +kernel
theorem dX10_rank_27 : decode cX10_rank 27 = .ok (.aload_n 0, 1) := by decide +kernel
theorem dX10_rank_28 : decode cX10_rank 28 = .ok (.iload_n 1, 1) := by decide +kernel
theorem dX10_rank_29 : decode cX10_rank 29 = .ok (.iload_n 2, 1) := by decide +kernel
theorem dX10_rank_30 : decode cX10_rank 30 = .ok (.invokevirtual 162, 3) := by decide +kernel
theorem dX10_rank_33 : decode cX10_rank 33 = .ok (.ifCond .eq 17, 3) := by decide +kernel
theorem dX10_rank_36 : decode cX10_rank 36 = .ok (.aload_n 0, 1) := by decide +kernel
theorem dX10_rank_37 : decode cX10_rank 37 = .ok (.iload_n 1, 1) := by decide +kernel
theorem dX10_rank_38 : decode cX10_rank 38 = .ok (.aload_n 0, 1) := by decide +kernel
theorem dX10_rank_39 : decode cX10_rank 39 = .ok (.iload_n 1, 1) := by decide +kernel
theorem dX10_rank_40 : decode cX10_rank 40 = .ok (.iload_n 2, 1) := by decide +kernel
theorem dX10_rank_41 : decode cX10_rank 41 = .ok (.invokevirtual 101, 3) := by decide +kernel
theorem dX10_rank_44 : decode cX10_rank 44 = .ok (.invokevirtual 194, 3) := by decide +kernel
theorem dX10_rank_47 : decode cX10_rank 47 = .ok (.goto 8, 3) := by decide +kernel
theorem dX10_rank_50 : decode cX10_rank 50 = .ok (.aload_n 0, 1) := by decide +kernel
theorem dX10_rank_51 : decode cX10_rank 51 = .ok (.iconst 5, 1) := by decide +kernel
theorem dX10_rank_52 : decode cX10_rank 52 = .ok (.invokevirtual 166, 3) := by decide +kernel
theorem dX10_rank_55 : decode cX10_rank 55 = .ok (.ireturn, 1) := by decide +kernel
theorem dX10_roundAt_0 : decode cX10_roundAt 0 = .ok (.iconst 1, 1) := by decide +kernel
theorem dX10_roundAt_1 : decode cX10_roundAt 1 = .ok (.istore_n 3, 1) := by decide +kernel
theorem dX10_roundAt_2 : decode cX10_roundAt 2 = .ok (.iload_n 3, 1) := by decide +kernel
theorem dX10_roundAt_3 : decode cX10_roundAt 3 = .ok (.aload_n 0, 1) := by decide +kernel
theorem dX10_roundAt_4 : decode cX10_roundAt 4 = .ok (.iload_n 1, 1) := by decide +kernel
theorem dX10_roundAt_5 : decode cX10_roundAt 5 = .ok (.iconst 4, 1) := by decide +kernel
theorem dX10_roundAt_6 : decode cX10_roundAt 6 = .ok (.invokevirtual 97, 3) := by decide +kernel
theorem dX10_roundAt_9 : decode cX10_roundAt 9 = .ok (.if_icmp .gt 21, 3) := by decide +kernel
theorem dX10_roundAt_12 : decode cX10_roundAt 12 = .ok (.aload_n 0, 1) := by decide +kernel
theorem dX10_roundAt_13 : decode cX10_roundAt 13 = .ok (.iload_n 1, 1) := by decide +kernel
theorem dX10_roundAt_14 : decode cX10_roundAt 14 = .ok (.iload_n 3, 1) := by decide +kernel
theorem dX10_roundAt_15 : decode cX10_roundAt 15 = .ok (.invokevirtual 180, 3) := by decide +kernel
theorem dX10_roundAt_18 : decode cX10_roundAt 18 = .ok (.iload_n 2, 1) := by decide +kernel
theorem dX10_roundAt_19 : decode cX10_roundAt 19 = .ok (.if_icmp .ne 5, 3) := by decide +kernel
theorem dX10_roundAt_22 : decode cX10_roundAt 22 = .ok (.iload_n 3, 1) := by decide +kernel
theorem dX10_roundAt_23 : decode cX10_roundAt 23 = .ok (.ireturn, 1) := by decide +kernel
theorem dX10_roundAt_24 : decode cX10_roundAt 24 = .ok (.iinc 3 1, 3) := by decide +kernel
theorem dX10_roundAt_27 : decode cX10_roundAt 27 = .ok (.goto (-25), 3) := by decide +kernel
theorem dX10_roundAt_30 : decode cX10_roundAt 30 = .ok (.iconst 0, 1) := by decide +kernel
theorem dX10_roundAt_31 : decode cX10_roundAt 31 = .ok (.ireturn, 1) := by decide +kernel
theorem dX10_fate_0 : decode cX10_fate 0 = .ok (.aload_n 0, 1) := by decide +kernel
theorem dX10_fate_1 : decode cX10_fate 1 = .ok (.iload_n 3, 1) := by decide +kernel
theorem dX10_fate_2 : decode cX10_fate 2 = .ok (.i2l, 1) := by decide +kernel
theorem dX10_fate_3 : decode cX10_fate 3 = .ok (.lconst 0, 1) := by decide +kernel
theorem dX10_fate_4 : decode cX10_fate 4 = .ok (.lconst 1, 1) := by decide +kernel
theorem dX10_fate_5 : decode cX10_fate 5 = .ok (.invokestatic 93, 3) := by decide +kernel
theorem dX10_fate_8 : decode cX10_fate 8 = .ok (.ifCond .ne 7, 3) := by decide +kernel
theorem dX10_fate_11 : decode cX10_fate 11 = .ok (.iconst 1, 1) := by decide +kernel
theorem dX10_fate_12 : decode cX10_fate 12 = .ok (.goto 16, 3) := by decide +kernel
theorem dX10_fate_15 : decode cX10_fate 15 = .ok (.aload_n 0, 1) := by decide +kernel
theorem dX10_fate_16 : decode cX10_fate 16 = .ok (.iload_n 1, 1) := by decide +kernel
theorem dX10_fate_17 : decode cX10_fate 17 = .ok (.invokevirtual 152, 3) := by decide +kernel
theorem dX10_fate_20 : decode cX10_fate 20 = .ok (.ifCond .eq 7, 3) := by decide +kernel
theorem dX10_fate_23 : decode cX10_fate 23 = .ok (.iconst 0, 1) := by decide +kernel
theorem dX10_fate_24 : decode cX10_fate 24 = .ok (.goto 4, 3) := by decide +kernel
theorem dX10_fate_27 : decode cX10_fate 27 = .ok (.iconst 2, 1) := by decide +kernel
theorem dX10_fate_28 : decode cX10_fate 28 = .ok (.invokevirtual 140, 3) := by decide +kernel
theorem dX10_fate_31 : decode cX10_fate 31 = .ok (.ifCond .ne 5, 3) := by decide +kernel
theorem dX10_fate_34 : decode cX10_fate 34 = .ok (.iconst (-1), 1) := by decide +kernel
theorem dX10_fate_35 : decode cX10_fate 35 = .ok (.ireturn, 1) := by decide +kernel
theorem dX10_fate_36 : decode cX10_fate 36 = .ok (.aload_n 0, 1) := by decide +kernel
theorem dX10_fate_37 : decode cX10_fate 37 = .ok (.iload_n 1, 1) := by decide +kernel
theorem dX10_fate_38 : decode cX10_fate 38 = .ok (.iload_n 2, 1) := by decide +kernel
theorem dX10_fate_39 : decode cX10_fate 39 = .ok (.invokevirtual 101, 3) := by decide +kernel
theorem dX10_fate_42 : decode cX10_fate 42 = .ok (.istore 4, 2) := by decide +kernel
theorem dX10_fate_44 : decode cX10_fate 44 = .ok (.iload 4, 2) := by decide +kernel
theorem dX10_fate_46 : decode cX10_fate 46 = .ok (.ifCond .lt 13, 3) := by decide +kernel
theorem dX10_fate_49 : decode cX10_fate 49 = .ok (.aload_n 0, 1) := by decide +kernel
theorem dX10_fate_50 : decode cX10_fate 50 = .ok (.iload_n 1, 1) := by decide +kernel
theorem dX10_fate_51 : decode cX10_fate 51 = .ok (.iload 4, 2) := by decide +kernel
theorem dX10_fate_53 : decode cX10_fate 53 = .ok (.invokevirtual 104, 3) := by decide +kernel
theorem dX10_fate_56 : decode cX10_fate 56 = .ok (.ifCond .ne 9, 3) := by decide +kernel
theorem dX10_fate_59 : decode cX10_fate 59 = .ok (.aload_n 0, 1) := by decide +kernel
theorem dX10_fate_60 : decode cX10_fate 60 = .ok (.iconst 5, 1) := by decide +kernel
theorem dX10_fate_61 : decode cX10_fate 61 = .ok (.invokevirtual 166, 3) := by decide +kernel
theorem dX10_fate_64 : decode cX10_fate 64 = .ok (.ireturn, 1) := by decide +kernel
theorem dX10_fate_65 : decode cX10_fate 65 = .ok (.iload_n 3, 1) := by decide +kernel
theorem dX10_fate_66 : decode cX10_fate 66 = .ok (.ifCond .ne 16, 3) := by decide +kernel
theorem dX10_fate_69 : decode cX10_fate 69 = .ok (.aload_n 0, 1) := by decide +kernel
theorem dX10_fate_70 : decode cX10_fate 70 = .ok (.iload_n 1, 1) := by decide +kernel
theorem dX10_fate_71 : decode cX10_fate 71 = .ok (.aload_n 0, 1) := by decide +kernel
theorem dX10_fate_72 : decode cX10_fate 72 = .ok (.iload_n 1, 1) := by decide +kernel
theorem dX10_fate_73 : decode cX10_fate 73 = .ok (.iload 4, 2) := by decide +kernel
theorem dX10_fate_75 : decode cX10_fate 75 = .ok (.invokevirtual 104, 3) := by decide +kernel
theorem dX10_fate_78 : decode cX10_fate 78 = .ok (.invokevirtual 197, 3) := by decide +kernel
theorem dX10_fate_81 : decode cX10_fate 81 = .ok (.ireturn, 1) := by decide +kernel
theorem dX10_fate_82 : decode cX10_fate 82 = .ok (.aload_n 0, 1) := by decide +kernel
theorem dX10_fate_83 : decode cX10_fate 83 = .ok (.iload_n 1, 1) := by decide +kernel
theorem dX10_fate_84 : decode cX10_fate 84 = .ok (.aload_n 0, 1) := by decide +kernel
theorem dX10_fate_85 : decode cX10_fate 85 = .ok (.iload_n 1, 1) := by decide +kernel
theorem dX10_fate_86 : decode cX10_fate 86 = .ok (.iload 4, 2) := by decide +kernel
theorem dX10_fate_88 : decode cX10_fate 88 = .ok (.invokevirtual 104, 3) := by decide +kernel
theorem dX10_fate_91 : decode cX10_fate 91 = .ok (.iconst 0, 1) := by decide +kernel
theorem dX10_fate_92 : decode cX10_fate 92 = .ok (.invokevirtual 110, 3) := by decide +kernel
theorem dX10_fate_95 : decode cX10_fate 95 = .ok (.aload_n 0, 1) := by decide +kernel
theorem dX10_fate_96 : decode cX10_fate 96 = .ok (.iload_n 1, 1) := by decide +kernel
theorem dX10_fate_97 : decode cX10_fate 97 = .ok (.iload 4, 2) := by decide +kernel
theorem dX10_fate_99 : decode cX10_fate 99 = .ok (.invokevirtual 194, 3) := by decide +kernel
theorem dX10_fate_102 : decode cX10_fate 102 = .ok (.ireturn, 1) := by decide +kernel
theorem dX10_back_0 : decode cX10_back 0 = .ok (.aload_n 0, 1) := by decide +kernel
theorem dX10_back_1 : decode cX10_back 1 = .ok (.aload_n 0, 1) := by decide +kernel
theorem dX10_back_2 : decode cX10_back 2 = .ok (.iload_n 1, 1) := by decide +kernel
theorem dX10_back_3 : decode cX10_back 3 = .ok (.iload_n 2, 1) := by decide +kernel
theorem dX10_back_4 : decode cX10_back 4 = .ok (.iconst 1, 1) := by decide +kernel
theorem dX10_back_5 : decode cX10_back 5 = .ok (.if_icmp .lt 12, 3) := by decide +kernel
theorem dX10_back_8 : decode cX10_back 8 = .ok (.iload_n 3, 1) := by decide +kernel
theorem dX10_back_9 : decode cX10_back 9 = .ok (.iconst 1, 1) := by decide +kernel
theorem dX10_back_10 : decode cX10_back 10 = .ok (.if_icmp .lt 7, 3) := by decide +kernel
theorem dX10_back_13 : decode cX10_back 13 = .ok (.iconst 1, 1) := by decide +kernel
theorem dX10_back_14 : decode cX10_back 14 = .ok (.goto 4, 3) := by decide +kernel
theorem dX10_back_17 : decode cX10_back 17 = .ok (.iconst 0, 1) := by decide +kernel
theorem dX10_back_18 : decode cX10_back 18 = .ok (.invokevirtual 190, 3) := by decide +kernel
theorem dX10_back_21 : decode cX10_back 21 = .ok (.invokevirtual 140, 3) := by decide +kernel
theorem dX10_back_24 : decode cX10_back 24 = .ok (.ifCond .ne 5, 3) := by decide +kernel
theorem dX10_back_27 : decode cX10_back 27 = .ok (.iconst (-1), 1) := by decide +kernel
theorem dX10_back_28 : decode cX10_back 28 = .ok (.ireturn, 1) := by decide +kernel
theorem dX10_back_29 : decode cX10_back 29 = .ok (.aload_n 0, 1) := by decide +kernel
theorem dX10_back_30 : decode cX10_back 30 = .ok (.iload_n 1, 1) := by decide +kernel
theorem dX10_back_31 : decode cX10_back 31 = .ok (.iload_n 2, 1) := by decide +kernel
theorem dX10_back_32 : decode cX10_back 32 = .ok (.invokevirtual 183, 3) := by decide +kernel
theorem dX10_back_35 : decode cX10_back 35 = .ok (.ifCond .ne 9, 3) := by decide +kernel
theorem dX10_back_38 : decode cX10_back 38 = .ok (.aload_n 0, 1) := by decide +kernel
theorem dX10_back_39 : decode cX10_back 39 = .ok (.iconst 5, 1) := by decide +kernel
theorem dX10_back_40 : decode cX10_back 40 = .ok (.invokevirtual 166, 3) := by decide +kernel
theorem dX10_back_43 : decode cX10_back 43 = .ok (.ireturn, 1) := by decide +kernel
theorem dX10_back_44 : decode cX10_back 44 = .ok (.aload_n 0, 1) := by decide +kernel
theorem dX10_back_45 : decode cX10_back 45 = .ok (.iload_n 1, 1) := by decide +kernel
theorem dX10_back_46 : decode cX10_back 46 = .ok (.aload_n 0, 1) := by decide +kernel
theorem dX10_back_47 : decode cX10_back 47 = .ok (.iload_n 1, 1) := by decide +kernel
theorem dX10_back_48 : decode cX10_back 48 = .ok (.iload_n 2, 1) := by decide +kernel
theorem dX10_back_49 : decode cX10_back 49 = .ok (.invokevirtual 180, 3) := by decide +kernel
theorem dX10_back_52 : decode cX10_back 52 = .ok (.iconst 1, 1) := by decide +kernel
theorem dX10_back_53 : decode cX10_back 53 = .ok (.invokevirtual 110, 3) := by decide +kernel
theorem dX10_back_56 : decode cX10_back 56 = .ok (.iload_n 3, 1) := by decide +kernel
theorem dX10_back_57 : decode cX10_back 57 = .ok (.aload_n 0, 1) := by decide +kernel
theorem dX10_back_58 : decode cX10_back 58 = .ok (.getfield 107, 3) := by decide +kernel
theorem dX10_back_61 : decode cX10_back 61 = .ok (.if_icmp .le 9, 3) := by decide +kernel
theorem dX10_back_64 : decode cX10_back 64 = .ok (.aload_n 0, 1) := by decide +kernel
theorem dX10_back_65 : decode cX10_back 65 = .ok (.iconst 5, 1) := by decide +kernel
theorem dX10_back_66 : decode cX10_back 66 = .ok (.invokevirtual 166, 3) := by decide +kernel
theorem dX10_back_69 : decode cX10_back 69 = .ok (.ireturn, 1) := by decide +kernel
theorem dX10_back_70 : decode cX10_back 70 = .ok (.aload_n 0, 1) := by decide +kernel
theorem dX10_back_71 : decode cX10_back 71 = .ok (.getfield 29, 3) := by decide +kernel
theorem dX10_back_74 : decode cX10_back 74 = .ok (.iload_n 3, 1) := by decide +kernel
theorem dX10_back_75 : decode cX10_back 75 = .ok (.iconst 1, 1) := by decide +kernel
theorem dX10_back_76 : decode cX10_back 76 = .ok (.isub, 1) := by decide +kernel
theorem dX10_back_77 : decode cX10_back 77 = .ok (.iaload, 1) := by decide +kernel
theorem dX10_back_78 : decode cX10_back 78 = .ok (.istore 4, 2) := by decide +kernel
theorem dX10_back_80 : decode cX10_back 80 = .ok (.aload_n 0, 1) := by decide +kernel
theorem dX10_back_81 : decode cX10_back 81 = .ok (.iload_n 1, 1) := by decide +kernel
theorem dX10_back_82 : decode cX10_back 82 = .ok (.aload_n 0, 1) := by decide +kernel
theorem dX10_back_83 : decode cX10_back 83 = .ok (.iload_n 1, 1) := by decide +kernel
theorem dX10_back_84 : decode cX10_back 84 = .ok (.iload_n 2, 1) := by decide +kernel
theorem dX10_back_85 : decode cX10_back 85 = .ok (.invokevirtual 180, 3) := by decide +kernel
theorem dX10_back_88 : decode cX10_back 88 = .ok (.iconst 0, 1) := by decide +kernel
theorem dX10_back_89 : decode cX10_back 89 = .ok (.invokevirtual 110, 3) := by decide +kernel
theorem dX10_back_92 : decode cX10_back 92 = .ok (.aload_n 0, 1) := by decide +kernel
theorem dX10_back_93 : decode cX10_back 93 = .ok (.iload_n 1, 1) := by decide +kernel
theorem dX10_back_94 : decode cX10_back 94 = .ok (.iload 4, 2) := by decide +kernel
theorem dX10_back_96 : decode cX10_back 96 = .ok (.invokevirtual 194, 3) := by decide +kernel
theorem dX10_back_99 : decode cX10_back 99 = .ok (.ireturn, 1) := by decide +kernel
theorem dX10_ahead_0 : decode cX10_ahead 0 = .ok (.aload_n 0, 1) := by decide +kernel
theorem dX10_ahead_1 : decode cX10_ahead 1 = .ok (.aload_n 0, 1) := by decide +kernel
theorem dX10_ahead_2 : decode cX10_ahead 2 = .ok (.iload_n 1, 1) := by decide +kernel
theorem dX10_ahead_3 : decode cX10_ahead 3 = .ok (.iload_n 2, 1) := by decide +kernel
theorem dX10_ahead_4 : decode cX10_ahead 4 = .ok (.iconst 1, 1) := by decide +kernel
theorem dX10_ahead_5 : decode cX10_ahead 5 = .ok (.if_icmp .lt 12, 3) := by decide +kernel
theorem dX10_ahead_8 : decode cX10_ahead 8 = .ok (.iload_n 3, 1) := by decide +kernel
theorem dX10_ahead_9 : decode cX10_ahead 9 = .ok (.iconst 1, 1) := by decide +kernel
theorem dX10_ahead_10 : decode cX10_ahead 10 = .ok (.if_icmp .lt 7, 3) := by decide +kernel
theorem dX10_ahead_13 : decode cX10_ahead 13 = .ok (.iconst 1, 1) := by decide +kernel
theorem dX10_ahead_14 : decode cX10_ahead 14 = .ok (.goto 4, 3) := by decide +kernel
theorem dX10_ahead_17 : decode cX10_ahead 17 = .ok (.iconst 0, 1) := by decide +kernel
theorem dX10_ahead_18 : decode cX10_ahead 18 = .ok (.invokevirtual 190, 3) := by decide +kernel
theorem dX10_ahead_21 : decode cX10_ahead 21 = .ok (.invokevirtual 140, 3) := by decide +kernel
theorem dX10_ahead_24 : decode cX10_ahead 24 = .ok (.ifCond .ne 5, 3) := by decide +kernel
theorem dX10_ahead_27 : decode cX10_ahead 27 = .ok (.iconst (-1), 1) := by decide +kernel
theorem dX10_ahead_28 : decode cX10_ahead 28 = .ok (.ireturn, 1) := by decide +kernel
theorem dX10_ahead_29 : decode cX10_ahead 29 = .ok (.aload_n 0, 1) := by decide +kernel
theorem dX10_ahead_30 : decode cX10_ahead 30 = .ok (.iload_n 1, 1) := by decide +kernel
theorem dX10_ahead_31 : decode cX10_ahead 31 = .ok (.iload_n 2, 1) := by decide +kernel
theorem dX10_ahead_32 : decode cX10_ahead 32 = .ok (.invokevirtual 183, 3) := by decide +kernel
theorem dX10_ahead_35 : decode cX10_ahead 35 = .ok (.ifCond .ne 9, 3) := by decide +kernel
theorem dX10_ahead_38 : decode cX10_ahead 38 = .ok (.aload_n 0, 1) := by decide +kernel
theorem dX10_ahead_39 : decode cX10_ahead 39 = .ok (.iconst 5, 1) := by decide +kernel
theorem dX10_ahead_40 : decode cX10_ahead 40 = .ok (.invokevirtual 166, 3) := by decide +kernel
theorem dX10_ahead_43 : decode cX10_ahead 43 = .ok (.ireturn, 1) := by decide +kernel
theorem dX10_ahead_44 : decode cX10_ahead 44 = .ok (.aload_n 0, 1) := by decide +kernel
theorem dX10_ahead_45 : decode cX10_ahead 45 = .ok (.iload_n 1, 1) := by decide +kernel
theorem dX10_ahead_46 : decode cX10_ahead 46 = .ok (.aload_n 0, 1) := by decide +kernel
theorem dX10_ahead_47 : decode cX10_ahead 47 = .ok (.iload_n 1, 1) := by decide +kernel
theorem dX10_ahead_48 : decode cX10_ahead 48 = .ok (.iload_n 2, 1) := by decide +kernel
theorem dX10_ahead_49 : decode cX10_ahead 49 = .ok (.invokevirtual 180, 3) := by decide +kernel
theorem dX10_ahead_52 : decode cX10_ahead 52 = .ok (.iconst 0, 1) := by decide +kernel
theorem dX10_ahead_53 : decode cX10_ahead 53 = .ok (.invokevirtual 110, 3) := by decide +kernel
theorem dX10_ahead_56 : decode cX10_ahead 56 = .ok (.iload_n 3, 1) := by decide +kernel
theorem dX10_ahead_57 : decode cX10_ahead 57 = .ok (.aload_n 0, 1) := by decide +kernel
theorem dX10_ahead_58 : decode cX10_ahead 58 = .ok (.getfield 107, 3) := by decide +kernel
theorem dX10_ahead_61 : decode cX10_ahead 61 = .ok (.if_icmp .le 9, 3) := by decide +kernel
theorem dX10_ahead_64 : decode cX10_ahead 64 = .ok (.aload_n 0, 1) := by decide +kernel
theorem dX10_ahead_65 : decode cX10_ahead 65 = .ok (.iconst 5, 1) := by decide +kernel
theorem dX10_ahead_66 : decode cX10_ahead 66 = .ok (.invokevirtual 166, 3) := by decide +kernel
theorem dX10_ahead_69 : decode cX10_ahead 69 = .ok (.ireturn, 1) := by decide +kernel
theorem dX10_ahead_70 : decode cX10_ahead 70 = .ok (.aload_n 0, 1) := by decide +kernel
theorem dX10_ahead_71 : decode cX10_ahead 71 = .ok (.getfield 29, 3) := by decide +kernel
theorem dX10_ahead_74 : decode cX10_ahead 74 = .ok (.iload_n 3, 1) := by decide +kernel
theorem dX10_ahead_75 : decode cX10_ahead 75 = .ok (.iconst 1, 1) := by decide +kernel
theorem dX10_ahead_76 : decode cX10_ahead 76 = .ok (.isub, 1) := by decide +kernel
theorem dX10_ahead_77 : decode cX10_ahead 77 = .ok (.iaload, 1) := by decide +kernel
theorem dX10_ahead_78 : decode cX10_ahead 78 = .ok (.istore 4, 2) := by decide +kernel
theorem dX10_ahead_80 : decode cX10_ahead 80 = .ok (.aload_n 0, 1) := by decide +kernel
theorem dX10_ahead_81 : decode cX10_ahead 81 = .ok (.iload_n 1, 1) := by decide +kernel
theorem dX10_ahead_82 : decode cX10_ahead 82 = .ok (.aload_n 0, 1) := by decide +kernel
theorem dX10_ahead_83 : decode cX10_ahead 83 = .ok (.iload_n 1, 1) := by decide +kernel
theorem dX10_ahead_84 : decode cX10_ahead 84 = .ok (.iload_n 2, 1) := by decide +kernel
theorem dX10_ahead_85 : decode cX10_ahead 85 = .ok (.invokevirtual 180, 3) := by decide +kernel
theorem dX10_ahead_88 : decode cX10_ahead 88 = .ok (.iconst 1, 1) := by decide +kernel
theorem dX10_ahead_89 : decode cX10_ahead 89 = .ok (.invokevirtual 110, 3) := by decide +kernel
theorem dX10_ahead_92 : decode cX10_ahead 92 = .ok (.aload_n 0, 1) := by decide +kernel
theorem dX10_ahead_93 : decode cX10_ahead 93 = .ok (.iload_n 1, 1) := by decide +kernel
theorem dX10_ahead_94 : decode cX10_ahead 94 = .ok (.iload 4, 2) := by decide +kernel
theorem dX10_ahead_96 : decode cX10_ahead 96 = .ok (.invokevirtual 194, 3) := by decide +kernel
theorem dX10_ahead_99 : decode cX10_ahead 99 = .ok (.istore 5, 2) := by decide +kernel
theorem dX10_ahead_101 : decode cX10_ahead 101 = .ok (.iload 5, 2) := by decide +kernel
theorem dX10_ahead_103 : decode cX10_ahead 103 = .ok (.ifCond .ge 11, 3) := by decide +kernel
theorem dX10_ahead_106 : decode cX10_ahead 106 = .ok (.aload_n 0, 1) := by decide +kernel
theorem dX10_ahead_107 : decode cX10_ahead 107 = .ok (.iconst 5, 1) := by decide +kernel
theorem dX10_ahead_108 : decode cX10_ahead 108 = .ok (.invokevirtual 166, 3) := by decide +kernel
theorem dX10_ahead_111 : decode cX10_ahead 111 = .ok (.goto 5, 3) := by decide +kernel
theorem dX10_ahead_114 : decode cX10_ahead 114 = .ok (.iload 5, 2) := by decide +kernel
theorem dX10_ahead_116 : decode cX10_ahead 116 = .ok (.ireturn, 1) := by decide +kernel
theorem dX10_would_0 : decode cX10_would 0 = .ok (.aload_n 0, 1) := by decide +kernel
theorem dX10_would_1 : decode cX10_would 1 = .ok (.aload_n 0, 1) := by decide +kernel
theorem dX10_would_2 : decode cX10_would 2 = .ok (.iload_n 1, 1) := by decide +kernel
theorem dX10_would_3 : decode cX10_would 3 = .ok (.iload_n 2, 1) := by decide +kernel
theorem dX10_would_4 : decode cX10_would 4 = .ok (.iconst 1, 1) := by decide +kernel
theorem dX10_would_5 : decode cX10_would 5 = .ok (.if_icmp .lt 7, 3) := by decide +kernel
theorem dX10_would_8 : decode cX10_would 8 = .ok (.iconst 1, 1) := by decide +kernel
theorem dX10_would_9 : decode cX10_would 9 = .ok (.goto 4, 3) := by decide +kernel
theorem dX10_would_12 : decode cX10_would 12 = .ok (.iconst 0, 1) := by decide +kernel
theorem dX10_would_13 : decode cX10_would 13 = .ok (.invokevirtual 190, 3) := by decide +kernel
theorem dX10_would_16 : decode cX10_would 16 = .ok (.invokevirtual 140, 3) := by decide +kernel
theorem dX10_would_19 : decode cX10_would 19 = .ok (.ifCond .ne 5, 3) := by decide +kernel
theorem dX10_would_22 : decode cX10_would 22 = .ok (.iconst (-1), 1) := by decide +kernel
theorem dX10_would_23 : decode cX10_would 23 = .ok (.ireturn, 1) := by decide +kernel
theorem dX10_would_24 : decode cX10_would 24 = .ok (.aload_n 0, 1) := by decide +kernel
theorem dX10_would_25 : decode cX10_would 25 = .ok (.iload_n 1, 1) := by decide +kernel
theorem dX10_would_26 : decode cX10_would 26 = .ok (.invokevirtual 200, 3) := by decide +kernel
theorem dX10_would_29 : decode cX10_would 29 = .ok (.aload_n 0, 1) := by decide +kernel
theorem dX10_would_30 : decode cX10_would 30 = .ok (.iconst 4, 1) := by decide +kernel
theorem dX10_would_31 : decode cX10_would 31 = .ok (.invokevirtual 159, 3) := by decide +kernel
theorem dX10_would_34 : decode cX10_would 34 = .ok (.pop, 1) := by decide +kernel
theorem dX10_would_35 : decode cX10_would 35 = .ok (.aload_n 0, 1) := by decide +kernel
theorem dX10_would_36 : decode cX10_would 36 = .ok (.iconst 4, 1) := by decide +kernel
theorem dX10_would_37 : decode cX10_would 37 = .ok (.invokevirtual 120, 3) := by decide +kernel
theorem dX10_would_40 : decode cX10_would 40 = .ok (.iload_n 2, 1) := by decide +kernel
theorem dX10_would_41 : decode cX10_would 41 = .ok (.aload_n 0, 1) := by decide +kernel
theorem dX10_would_42 : decode cX10_would 42 = .ok (.getfield 107, 3) := by decide +kernel
theorem dX10_would_45 : decode cX10_would 45 = .ok (.if_icmp .gt 12, 3) := by decide +kernel
theorem dX10_would_48 : decode cX10_would 48 = .ok (.aload_n 0, 1) := by decide +kernel
theorem dX10_would_49 : decode cX10_would 49 = .ok (.iconst 4, 1) := by decide +kernel
theorem dX10_would_50 : decode cX10_would 50 = .ok (.iload_n 2, 1) := by decide +kernel
theorem dX10_would_51 : decode cX10_would 51 = .ok (.invokevirtual 117, 3) := by decide +kernel
theorem dX10_would_54 : decode cX10_would 54 = .ok (.goto 8, 3) := by decide +kernel
theorem dX10_would_57 : decode cX10_would 57 = .ok (.aload_n 0, 1) := by decide +kernel
theorem dX10_would_58 : decode cX10_would 58 = .ok (.iconst 5, 1) := by decide +kernel
theorem dX10_would_59 : decode cX10_would 59 = .ok (.invokevirtual 166, 3) := by decide +kernel
theorem dX10_would_62 : decode cX10_would 62 = .ok (.ireturn, 1) := by decide +kernel
theorem dX10_till_0 : decode cX10_till 0 = .ok (.aload_n 0, 1) := by decide +kernel
theorem dX10_till_1 : decode cX10_till 1 = .ok (.aload_n 0, 1) := by decide +kernel
theorem dX10_till_2 : decode cX10_till 2 = .ok (.iload_n 1, 1) := by decide +kernel
theorem dX10_till_3 : decode cX10_till 3 = .ok (.iload_n 2, 1) := by decide +kernel
theorem dX10_till_4 : decode cX10_till 4 = .ok (.i2l, 1) := by decide +kernel
theorem dX10_till_5 : decode cX10_till 5 = .ok (.lconst 1, 1) := by decide +kernel
theorem dX10_till_6 : decode cX10_till 6 = .ok (.ldc2_w 169, 3) := by decide +kernel
theorem dX10_till_9 : decode cX10_till 9 = .ok (.invokestatic 93, 3) := by decide +kernel
theorem dX10_till_12 : decode cX10_till 12 = .ok (.invokevirtual 190, 3) := by decide +kernel
theorem dX10_till_15 : decode cX10_till 15 = .ok (.invokevirtual 140, 3) := by decide +kernel
theorem dX10_till_18 : decode cX10_till 18 = .ok (.ifCond .ne 5, 3) := by decide +kernel
theorem dX10_till_21 : decode cX10_till 21 = .ok (.iconst (-1), 1) := by decide +kernel
theorem dX10_till_22 : decode cX10_till 22 = .ok (.ireturn, 1) := by decide +kernel
theorem dX10_till_23 : decode cX10_till 23 = .ok (.aload_n 0, 1) := by decide +kernel
theorem dX10_till_24 : decode cX10_till 24 = .ok (.iload_n 1, 1) := by decide +kernel
theorem dX10_till_25 : decode cX10_till 25 = .ok (.invokevirtual 200, 3) := by decide +kernel
theorem dX10_till_28 : decode cX10_till 28 = .ok (.iconst 0, 1) := by decide +kernel
theorem dX10_till_29 : decode cX10_till 29 = .ok (.istore_n 3, 1) := by decide +kernel
theorem dX10_till_30 : decode cX10_till 30 = .ok (.aload_n 0, 1) := by decide +kernel
theorem dX10_till_31 : decode cX10_till 31 = .ok (.iconst 4, 1) := by decide +kernel
theorem dX10_till_32 : decode cX10_till 32 = .ok (.invokevirtual 120, 3) := by decide +kernel
theorem dX10_till_35 : decode cX10_till 35 = .ok (.aload_n 0, 1) := by decide +kernel
theorem dX10_till_36 : decode cX10_till 36 = .ok (.getfield 107, 3) := by decide +kernel
theorem dX10_till_39 : decode cX10_till 39 = .ok (.iload_n 2, 1) := by decide +kernel
theorem dX10_till_40 : decode cX10_till 40 = .ok (.if_icmp .gt 5, 3) := by decide +kernel
theorem dX10_till_43 : decode cX10_till 43 = .ok (.iload_n 3, 1) := by decide +kernel
theorem dX10_till_44 : decode cX10_till 44 = .ok (.ireturn, 1) := by decide +kernel
theorem dX10_till_45 : decode cX10_till 45 = .ok (.aload_n 0, 1) := by decide +kernel
theorem dX10_till_46 : decode cX10_till 46 = .ok (.iconst 4, 1) := by decide +kernel
theorem dX10_till_47 : decode cX10_till 47 = .ok (.invokevirtual 135, 3) := by decide +kernel
theorem dX10_till_50 : decode cX10_till 50 = .ok (.ifCond .ge 9, 3) := by decide +kernel
theorem dX10_till_53 : decode cX10_till 53 = .ok (.aload_n 0, 1) := by decide +kernel
theorem dX10_till_54 : decode cX10_till 54 = .ok (.iconst 5, 1) := by decide +kernel
theorem dX10_till_55 : decode cX10_till 55 = .ok (.invokevirtual 166, 3) := by decide +kernel
theorem dX10_till_58 : decode cX10_till 58 = .ok (.ireturn, 1) := by decide +kernel
theorem dX10_till_59 : decode cX10_till 59 = .ok (.iinc 3 1, 3) := by decide +kernel
theorem dX10_till_62 : decode cX10_till 62 = .ok (.goto (-32), 3) := by decide +kernel
theorem dX10_isBetween_0 : decode cX10_isBetween 0 = .ok (.aload_n 0, 1) := by decide +kernel
theorem dX10_isBetween_1 : decode cX10_isBetween 1 = .ok (.iload_n 1, 1) := by decide +kernel
theorem dX10_isBetween_2 : decode cX10_isBetween 2 = .ok (.iconst 1, 1) := by decide +kernel
theorem dX10_isBetween_3 : decode cX10_isBetween 3 = .ok (.invokevirtual 180, 3) := by decide +kernel
theorem dX10_isBetween_6 : decode cX10_isBetween 6 = .ok (.istore_n 2, 1) := by decide +kernel
theorem dX10_isBetween_7 : decode cX10_isBetween 7 = .ok (.aload_n 0, 1) := by decide +kernel
theorem dX10_isBetween_8 : decode cX10_isBetween 8 = .ok (.iload_n 1, 1) := by decide +kernel
theorem dX10_isBetween_9 : decode cX10_isBetween 9 = .ok (.aload_n 0, 1) := by decide +kernel
theorem dX10_isBetween_10 : decode cX10_isBetween 10 = .ok (.iload_n 1, 1) := by decide +kernel
theorem dX10_isBetween_11 : decode cX10_isBetween 11 = .ok (.iconst 4, 1) := by decide +kernel
theorem dX10_isBetween_12 : decode cX10_isBetween 12 = .ok (.invokevirtual 97, 3) := by decide +kernel
theorem dX10_isBetween_15 : decode cX10_isBetween 15 = .ok (.invokevirtual 180, 3) := by decide +kernel
theorem dX10_isBetween_18 : decode cX10_isBetween 18 = .ok (.istore_n 3, 1) := by decide +kernel
theorem dX10_isBetween_19 : decode cX10_isBetween 19 = .ok (.iconst 0, 1) := by decide +kernel
theorem dX10_isBetween_20 : decode cX10_isBetween 20 = .ok (.istore 4, 2) := by decide +kernel
theorem dX10_isBetween_22 : decode cX10_isBetween 22 = .ok (.iload 4, 2) := by decide +kernel
theorem dX10_isBetween_24 : decode cX10_isBetween 24 = .ok (.aload_n 0, 1) := by decide +kernel
theorem dX10_isBetween_25 : decode cX10_isBetween 25 = .ok (.iload_n 1, 1) := by decide +kernel
theorem dX10_isBetween_26 : decode cX10_isBetween 26 = .ok (.iconst 3, 1) := by decide +kernel
theorem dX10_isBetween_27 : decode cX10_isBetween 27 = .ok (.invokevirtual 97, 3) := by decide +kernel
theorem dX10_isBetween_30 : decode cX10_isBetween 30 = .ok (.if_icmp .ge 44, 3) := by decide +kernel
theorem dX10_isBetween_33 : decode cX10_isBetween 33 = .ok (.aload_n 0, 1) := by decide +kernel
theorem dX10_isBetween_34 : decode cX10_isBetween 34 = .ok (.iload_n 1, 1) := by decide +kernel
theorem dX10_isBetween_35 : decode cX10_isBetween 35 = .ok (.iload 4, 2) := by decide +kernel
theorem dX10_isBetween_37 : decode cX10_isBetween 37 = .ok (.invokevirtual 104, 3) := by decide +kernel
theorem dX10_isBetween_40 : decode cX10_isBetween 40 = .ok (.i2l, 1) := by decide +kernel
theorem dX10_isBetween_41 : decode cX10_isBetween 41 = .ok (.iload_n 2, 1) := by decide +kernel
theorem dX10_isBetween_42 : decode cX10_isBetween 42 = .ok (.i2l, 1) := by decide +kernel
theorem dX10_isBetween_43 : decode cX10_isBetween 43 = .ok (.iload_n 3, 1) := by decide +kernel
theorem dX10_isBetween_44 : decode cX10_isBetween 44 = .ok (.i2l, 1) := by decide +kernel
theorem dX10_isBetween_45 : decode cX10_isBetween 45 = .ok (.invokestatic 93, 3) := by decide +kernel
theorem dX10_isBetween_48 : decode cX10_isBetween 48 = .ok (.ifCond .eq 20, 3) := by decide +kernel
theorem dX10_isBetween_51 : decode cX10_isBetween 51 = .ok (.aload_n 0, 1) := by decide +kernel
theorem dX10_isBetween_52 : decode cX10_isBetween 52 = .ok (.iload_n 1, 1) := by decide +kernel
theorem dX10_isBetween_53 : decode cX10_isBetween 53 = .ok (.aload_n 0, 1) := by decide +kernel
theorem dX10_isBetween_54 : decode cX10_isBetween 54 = .ok (.iload_n 1, 1) := by decide +kernel
theorem dX10_isBetween_55 : decode cX10_isBetween 55 = .ok (.iload 4, 2) := by decide +kernel
theorem dX10_isBetween_57 : decode cX10_isBetween 57 = .ok (.invokevirtual 104, 3) := by decide +kernel
theorem dX10_isBetween_60 : decode cX10_isBetween 60 = .ok (.invokevirtual 197, 3) := by decide +kernel
theorem dX10_isBetween_63 : decode cX10_isBetween 63 = .ok (.ifCond .ne 5, 3) := by decide +kernel
theorem dX10_isBetween_66 : decode cX10_isBetween 66 = .ok (.iconst 1, 1) := by decide +kernel
theorem dX10_isBetween_67 : decode cX10_isBetween 67 = .ok (.ireturn, 1) := by decide +kernel
theorem dX10_isBetween_68 : decode cX10_isBetween 68 = .ok (.iinc 4 1, 3) := by decide +kernel
theorem dX10_isBetween_71 : decode cX10_isBetween 71 = .ok (.goto (-49), 3) := by decide +kernel
theorem dX10_isBetween_74 : decode cX10_isBetween 74 = .ok (.iconst 0, 1) := by decide +kernel
theorem dX10_isBetween_75 : decode cX10_isBetween 75 = .ok (.ireturn, 1) := by decide +kernel
theorem dX10_origin_0 : decode cX10_origin 0 = .ok (.aload_n 0, 1) := by decide +kernel
theorem dX10_origin_1 : decode cX10_origin 1 = .ok (.aload_n 0, 1) := by decide +kernel
theorem dX10_origin_2 : decode cX10_origin 2 = .ok (.iload_n 1, 1) := by decide +kernel
theorem dX10_origin_3 : decode cX10_origin 3 = .ok (.iload_n 2, 1) := by decide +kernel
theorem dX10_origin_4 : decode cX10_origin 4 = .ok (.iconst 1, 1) := by decide +kernel
theorem dX10_origin_5 : decode cX10_origin 5 = .ok (.if_icmp .lt 7, 3) := by decide +kernel
theorem dX10_origin_8 : decode cX10_origin 8 = .ok (.iconst 1, 1) := by decide +kernel
theorem dX10_origin_9 : decode cX10_origin 9 = .ok (.goto 4, 3) := by decide +kernel
theorem dX10_origin_12 : decode cX10_origin 12 = .ok (.iconst 0, 1) := by decide +kernel
theorem dX10_origin_13 : decode cX10_origin 13 = .ok (.invokevirtual 190, 3) := by decide +kernel
theorem dX10_origin_16 : decode cX10_origin 16 = .ok (.invokevirtual 140, 3) := by decide +kernel
theorem dX10_origin_19 : decode cX10_origin 19 = .ok (.ifCond .ne 5, 3) := by decide +kernel
theorem dX10_origin_22 : decode cX10_origin 22 = .ok (.iconst (-1), 1) := by decide +kernel
theorem dX10_origin_23 : decode cX10_origin 23 = .ok (.ireturn, 1) := by decide +kernel
theorem dX10_origin_24 : decode cX10_origin 24 = .ok (.aload_n 0, 1) := by decide +kernel
theorem dX10_origin_25 : decode cX10_origin 25 = .ok (.iload_n 1, 1) := by decide +kernel
theorem dX10_origin_26 : decode cX10_origin 26 = .ok (.iconst 4, 1) := by decide +kernel
theorem dX10_origin_27 : decode cX10_origin 27 = .ok (.invokevirtual 97, 3) := by decide +kernel
theorem dX10_origin_30 : decode cX10_origin 30 = .ok (.ifCond .eq 11, 3) := by decide +kernel
theorem dX10_origin_33 : decode cX10_origin 33 = .ok (.aload_n 0, 1) := by decide +kernel
theorem dX10_origin_34 : decode cX10_origin 34 = .ok (.iload_n 1, 1) := by decide +kernel
theorem dX10_origin_35 : decode cX10_origin 35 = .ok (.invokevirtual 203, 3) := by decide +kernel
theorem dX10_origin_38 : decode cX10_origin 38 = .ok (.ifCond .eq 9, 3) := by decide +kernel
theorem dX10_origin_41 : decode cX10_origin 41 = .ok (.aload_n 0, 1) := by decide +kernel
theorem dX10_origin_42 : decode cX10_origin 42 = .ok (.iconst 5, 1) := by decide +kernel
theorem dX10_origin_43 : decode cX10_origin 43 = .ok (.invokevirtual 166, 3) := by decide +kernel
theorem dX10_origin_46 : decode cX10_origin 46 = .ok (.ireturn, 1) := by decide +kernel
theorem dX10_origin_47 : decode cX10_origin 47 = .ok (.aload_n 0, 1) := by decide +kernel
theorem dX10_origin_48 : decode cX10_origin 48 = .ok (.iload_n 1, 1) := by decide +kernel
theorem dX10_origin_49 : decode cX10_origin 49 = .ok (.aload_n 0, 1) := by decide +kernel
theorem dX10_origin_50 : decode cX10_origin 50 = .ok (.iload_n 1, 1) := by decide +kernel
theorem dX10_origin_51 : decode cX10_origin 51 = .ok (.aload_n 0, 1) := by decide +kernel
theorem dX10_origin_52 : decode cX10_origin 52 = .ok (.iload_n 1, 1) := by decide +kernel
theorem dX10_origin_53 : decode cX10_origin 53 = .ok (.iconst 4, 1) := by decide +kernel
theorem dX10_origin_54 : decode cX10_origin 54 = .ok (.invokevirtual 97, 3) := by decide +kernel
theorem dX10_origin_57 : decode cX10_origin 57 = .ok (.invokevirtual 180, 3) := by decide +kernel
theorem dX10_origin_60 : decode cX10_origin 60 = .ok (.iconst 1, 1) := by decide +kernel
theorem dX10_origin_61 : decode cX10_origin 61 = .ok (.invokevirtual 110, 3) := by decide +kernel
theorem dX10_origin_64 : decode cX10_origin 64 = .ok (.iload_n 2, 1) := by decide +kernel
theorem dX10_origin_65 : decode cX10_origin 65 = .ok (.aload_n 0, 1) := by decide +kernel
theorem dX10_origin_66 : decode cX10_origin 66 = .ok (.getfield 107, 3) := by decide +kernel
theorem dX10_origin_69 : decode cX10_origin 69 = .ok (.if_icmp .le 9, 3) := by decide +kernel
theorem dX10_origin_72 : decode cX10_origin 72 = .ok (.aload_n 0, 1) := by decide +kernel
theorem dX10_origin_73 : decode cX10_origin 73 = .ok (.iconst 5, 1) := by decide +kernel
theorem dX10_origin_74 : decode cX10_origin 74 = .ok (.invokevirtual 166, 3) := by decide +kernel
theorem dX10_origin_77 : decode cX10_origin 77 = .ok (.ireturn, 1) := by decide +kernel
theorem dX10_origin_78 : decode cX10_origin 78 = .ok (.aload_n 0, 1) := by decide +kernel
theorem dX10_origin_79 : decode cX10_origin 79 = .ok (.getfield 29, 3) := by decide +kernel
theorem dX10_origin_82 : decode cX10_origin 82 = .ok (.iload_n 2, 1) := by decide +kernel
theorem dX10_origin_83 : decode cX10_origin 83 = .ok (.iconst 1, 1) := by decide +kernel
theorem dX10_origin_84 : decode cX10_origin 84 = .ok (.isub, 1) := by decide +kernel
theorem dX10_origin_85 : decode cX10_origin 85 = .ok (.iaload, 1) := by decide +kernel
theorem dX10_origin_86 : decode cX10_origin 86 = .ok (.istore_n 3, 1) := by decide +kernel
theorem dX10_origin_87 : decode cX10_origin 87 = .ok (.aload_n 0, 1) := by decide +kernel
theorem dX10_origin_88 : decode cX10_origin 88 = .ok (.iload_n 1, 1) := by decide +kernel
theorem dX10_origin_89 : decode cX10_origin 89 = .ok (.aload_n 0, 1) := by decide +kernel
theorem dX10_origin_90 : decode cX10_origin 90 = .ok (.iload_n 1, 1) := by decide +kernel
theorem dX10_origin_91 : decode cX10_origin 91 = .ok (.iconst 1, 1) := by decide +kernel
theorem dX10_origin_92 : decode cX10_origin 92 = .ok (.invokevirtual 180, 3) := by decide +kernel
theorem dX10_origin_95 : decode cX10_origin 95 = .ok (.iconst 0, 1) := by decide +kernel
theorem dX10_origin_96 : decode cX10_origin 96 = .ok (.invokevirtual 110, 3) := by decide +kernel
theorem dX10_origin_99 : decode cX10_origin 99 = .ok (.aload_n 0, 1) := by decide +kernel
theorem dX10_origin_100 : decode cX10_origin 100 = .ok (.iload_n 1, 1) := by decide +kernel
theorem dX10_origin_101 : decode cX10_origin 101 = .ok (.iload_n 3, 1) := by decide +kernel
theorem dX10_origin_102 : decode cX10_origin 102 = .ok (.invokevirtual 194, 3) := by decide +kernel
theorem dX10_origin_105 : decode cX10_origin 105 = .ok (.ireturn, 1) := by decide +kernel
theorem dX10_gone_0 : decode cX10_gone 0 = .ok (.aload_n 0, 1) := by decide +kernel
theorem dX10_gone_1 : decode cX10_gone 1 = .ok (.aload_n 0, 1) := by decide +kernel
theorem dX10_gone_2 : decode cX10_gone 2 = .ok (.iload_n 1, 1) := by decide +kernel
theorem dX10_gone_3 : decode cX10_gone 3 = .ok (.iload_n 2, 1) := by decide +kernel
theorem dX10_gone_4 : decode cX10_gone 4 = .ok (.iconst (-1), 1) := by decide +kernel
theorem dX10_gone_5 : decode cX10_gone 5 = .ok (.if_icmp .lt 7, 3) := by decide +kernel
theorem dX10_gone_8 : decode cX10_gone 8 = .ok (.iconst 1, 1) := by decide +kernel
theorem dX10_gone_9 : decode cX10_gone 9 = .ok (.goto 4, 3) := by decide +kernel
theorem dX10_gone_12 : decode cX10_gone 12 = .ok (.iconst 0, 1) := by decide +kernel
theorem dX10_gone_13 : decode cX10_gone 13 = .ok (.invokevirtual 190, 3) := by decide +kernel
theorem dX10_gone_16 : decode cX10_gone 16 = .ok (.invokevirtual 140, 3) := by decide +kernel
theorem dX10_gone_19 : decode cX10_gone 19 = .ok (.ifCond .ne 5, 3) := by decide +kernel
theorem dX10_gone_22 : decode cX10_gone 22 = .ok (.iconst (-1), 1) := by decide +kernel
theorem dX10_gone_23 : decode cX10_gone 23 = .ok (.ireturn, 1) := by decide +kernel
theorem dX10_gone_24 : decode cX10_gone 24 = .ok (.iconst 0, 1) := by decide +kernel
theorem dX10_gone_25 : decode cX10_gone 25 = .ok (.istore_n 3, 1) := by decide +kernel
theorem dX10_gone_26 : decode cX10_gone 26 = .ok (.iconst 0, 1) := by decide +kernel
theorem dX10_gone_27 : decode cX10_gone 27 = .ok (.istore 4, 2) := by decide +kernel
theorem dX10_gone_29 : decode cX10_gone 29 = .ok (.iload 4, 2) := by decide +kernel
theorem dX10_gone_31 : decode cX10_gone 31 = .ok (.aload_n 0, 1) := by decide +kernel
theorem dX10_gone_32 : decode cX10_gone 32 = .ok (.iload_n 1, 1) := by decide +kernel
theorem dX10_gone_33 : decode cX10_gone 33 = .ok (.iconst 3, 1) := by decide +kernel
theorem dX10_gone_34 : decode cX10_gone 34 = .ok (.invokevirtual 97, 3) := by decide +kernel
theorem dX10_gone_37 : decode cX10_gone 37 = .ok (.if_icmp .ge 38, 3) := by decide +kernel
theorem dX10_gone_40 : decode cX10_gone 40 = .ok (.aload_n 0, 1) := by decide +kernel
theorem dX10_gone_41 : decode cX10_gone 41 = .ok (.iload_n 1, 1) := by decide +kernel
theorem dX10_gone_42 : decode cX10_gone 42 = .ok (.iload 4, 2) := by decide +kernel
theorem dX10_gone_44 : decode cX10_gone 44 = .ok (.invokevirtual 104, 3) := by decide +kernel
theorem dX10_gone_47 : decode cX10_gone 47 = .ok (.ifCond .ne 6, 3) := by decide +kernel
theorem dX10_gone_50 : decode cX10_gone 50 = .ok (.goto 19, 3) := by decide +kernel
theorem dX10_gone_53 : decode cX10_gone 53 = .ok (.iload_n 3, 1) := by decide +kernel
theorem dX10_gone_54 : decode cX10_gone 54 = .ok (.iload_n 2, 1) := by decide +kernel
theorem dX10_gone_55 : decode cX10_gone 55 = .ok (.if_icmp .ne 11, 3) := by decide +kernel
theorem dX10_gone_58 : decode cX10_gone 58 = .ok (.aload_n 0, 1) := by decide +kernel
theorem dX10_gone_59 : decode cX10_gone 59 = .ok (.iload_n 1, 1) := by decide +kernel
theorem dX10_gone_60 : decode cX10_gone 60 = .ok (.iload 4, 2) := by decide +kernel
theorem dX10_gone_62 : decode cX10_gone 62 = .ok (.invokevirtual 114, 3) := by decide +kernel
theorem dX10_gone_65 : decode cX10_gone 65 = .ok (.ireturn, 1) := by decide +kernel
theorem dX10_gone_66 : decode cX10_gone 66 = .ok (.iinc 3 1, 3) := by decide +kernel
theorem dX10_gone_69 : decode cX10_gone 69 = .ok (.iinc 4 1, 3) := by decide +kernel
theorem dX10_gone_72 : decode cX10_gone 72 = .ok (.goto (-43), 3) := by decide +kernel
theorem dX10_gone_75 : decode cX10_gone 75 = .ok (.iload_n 2, 1) := by decide +kernel
theorem dX10_gone_76 : decode cX10_gone 76 = .ok (.iconst (-1), 1) := by decide +kernel
theorem dX10_gone_77 : decode cX10_gone 77 = .ok (.if_icmp .ne 7, 3) := by decide +kernel
theorem dX10_gone_80 : decode cX10_gone 80 = .ok (.iload_n 3, 1) := by decide +kernel
theorem dX10_gone_81 : decode cX10_gone 81 = .ok (.goto 8, 3) := by decide +kernel
theorem dX10_gone_84 : decode cX10_gone 84 = .ok (.aload_n 0, 1) := by decide +kernel
theorem dX10_gone_85 : decode cX10_gone 85 = .ok (.iconst 5, 1) := by decide +kernel
theorem dX10_gone_86 : decode cX10_gone 86 = .ok (.invokevirtual 166, 3) := by decide +kernel
theorem dX10_gone_89 : decode cX10_gone 89 = .ok (.ireturn, 1) := by decide +kernel
theorem dX10_handUpTo_0 : decode cX10_handUpTo 0 = .ok (.iconst 0, 1) := by decide +kernel
theorem dX10_handUpTo_1 : decode cX10_handUpTo 1 = .ok (.istore_n 3, 1) := by decide +kernel
theorem dX10_handUpTo_2 : decode cX10_handUpTo 2 = .ok (.iconst 1, 1) := by decide +kernel
theorem dX10_handUpTo_3 : decode cX10_handUpTo 3 = .ok (.istore 4, 2) := by decide +kernel
theorem dX10_handUpTo_5 : decode cX10_handUpTo 5 = .ok (.iload 4, 2) := by decide +kernel
theorem dX10_handUpTo_7 : decode cX10_handUpTo 7 = .ok (.aload_n 0, 1) := by decide +kernel
theorem dX10_handUpTo_8 : decode cX10_handUpTo 8 = .ok (.getfield 107, 3) := by decide +kernel
theorem dX10_handUpTo_11 : decode cX10_handUpTo 11 = .ok (.if_icmp .gt 28, 3) := by decide +kernel
theorem dX10_handUpTo_14 : decode cX10_handUpTo 14 = .ok (.iload_n 3, 1) := by decide +kernel
theorem dX10_handUpTo_15 : decode cX10_handUpTo 15 = .ok (.aload_n 0, 1) := by decide +kernel
theorem dX10_handUpTo_16 : decode cX10_handUpTo 16 = .ok (.iload_n 1, 1) := by decide +kernel
theorem dX10_handUpTo_17 : decode cX10_handUpTo 17 = .ok (.iload 4, 2) := by decide +kernel
theorem dX10_handUpTo_19 : decode cX10_handUpTo 19 = .ok (.invokevirtual 117, 3) := by decide +kernel
theorem dX10_handUpTo_22 : decode cX10_handUpTo 22 = .ok (.iload_n 2, 1) := by decide +kernel
theorem dX10_handUpTo_23 : decode cX10_handUpTo 23 = .ok (.if_icmp .gt 7, 3) := by decide +kernel
theorem dX10_handUpTo_26 : decode cX10_handUpTo 26 = .ok (.iconst 1, 1) := by decide +kernel
theorem dX10_handUpTo_27 : decode cX10_handUpTo 27 = .ok (.goto 4, 3) := by decide +kernel
theorem dX10_handUpTo_30 : decode cX10_handUpTo 30 = .ok (.iconst 0, 1) := by decide +kernel
theorem dX10_handUpTo_31 : decode cX10_handUpTo 31 = .ok (.iadd, 1) := by decide +kernel
theorem dX10_handUpTo_32 : decode cX10_handUpTo 32 = .ok (.istore_n 3, 1) := by decide +kernel
theorem dX10_handUpTo_33 : decode cX10_handUpTo 33 = .ok (.iinc 4 1, 3) := by decide +kernel
theorem dX10_handUpTo_36 : decode cX10_handUpTo 36 = .ok (.goto (-31), 3) := by decide +kernel
theorem dX10_handUpTo_39 : decode cX10_handUpTo 39 = .ok (.iload_n 3, 1) := by decide +kernel
theorem dX10_handUpTo_40 : decode cX10_handUpTo 40 = .ok (.ireturn, 1) := by decide +kernel
theorem dX10_upTo_0 : decode cX10_upTo 0 = .ok (.aload_n 0, 1) := by decide +kernel
theorem dX10_upTo_1 : decode cX10_upTo 1 = .ok (.aload_n 0, 1) := by decide +kernel
theorem dX10_upTo_2 : decode cX10_upTo 2 = .ok (.iload_n 1, 1) := by decide +kernel
theorem dX10_upTo_3 : decode cX10_upTo 3 = .ok (.invokevirtual 152, 3) := by decide +kernel
theorem dX10_upTo_6 : decode cX10_upTo 6 = .ok (.ifCond .eq 7, 3) := by decide +kernel
theorem dX10_upTo_9 : decode cX10_upTo 9 = .ok (.iconst 0, 1) := by decide +kernel
theorem dX10_upTo_10 : decode cX10_upTo 10 = .ok (.goto 4, 3) := by decide +kernel
theorem dX10_upTo_13 : decode cX10_upTo 13 = .ok (.iconst 2, 1) := by decide +kernel
theorem dX10_upTo_14 : decode cX10_upTo 14 = .ok (.invokevirtual 140, 3) := by decide +kernel
theorem dX10_upTo_17 : decode cX10_upTo 17 = .ok (.ifCond .ne 5, 3) := by decide +kernel
theorem dX10_upTo_20 : decode cX10_upTo 20 = .ok (.iconst (-1), 1) := by decide +kernel
theorem dX10_upTo_21 : decode cX10_upTo 21 = .ok (.ireturn, 1) := by decide +kernel
theorem dX10_upTo_22 : decode cX10_upTo 22 = .ok (.aload_n 0, 1) := by decide +kernel
theorem dX10_upTo_23 : decode cX10_upTo 23 = .ok (.iload_n 1, 1) := by decide +kernel
theorem dX10_upTo_24 : decode cX10_upTo 24 = .ok (.invokevirtual 120, 3) := by decide +kernel
theorem dX10_upTo_27 : decode cX10_upTo 27 = .ok (.aload_n 0, 1) := by decide +kernel
theorem dX10_upTo_28 : decode cX10_upTo 28 = .ok (.iload_n 1, 1) := by decide +kernel
theorem dX10_upTo_29 : decode cX10_upTo 29 = .ok (.iload_n 2, 1) := by decide +kernel
theorem dX10_upTo_30 : decode cX10_upTo 30 = .ok (.invokevirtual 206, 3) := by decide +kernel
theorem dX10_upTo_33 : decode cX10_upTo 33 = .ok (.ireturn, 1) := by decide +kernel
theorem dX10_gapAt_0 : decode cX10_gapAt 0 = .ok (.aload_n 0, 1) := by decide +kernel
theorem dX10_gapAt_1 : decode cX10_gapAt 1 = .ok (.iload_n 1, 1) := by decide +kernel
theorem dX10_gapAt_2 : decode cX10_gapAt 2 = .ok (.iload_n 2, 1) := by decide +kernel
theorem dX10_gapAt_3 : decode cX10_gapAt 3 = .ok (.iconst 1, 1) := by decide +kernel
theorem dX10_gapAt_4 : decode cX10_gapAt 4 = .ok (.iadd, 1) := by decide +kernel
theorem dX10_gapAt_5 : decode cX10_gapAt 5 = .ok (.invokevirtual 117, 3) := by decide +kernel
theorem dX10_gapAt_8 : decode cX10_gapAt 8 = .ok (.aload_n 0, 1) := by decide +kernel
theorem dX10_gapAt_9 : decode cX10_gapAt 9 = .ok (.iload_n 1, 1) := by decide +kernel
theorem dX10_gapAt_10 : decode cX10_gapAt 10 = .ok (.iload_n 2, 1) := by decide +kernel
theorem dX10_gapAt_11 : decode cX10_gapAt 11 = .ok (.invokevirtual 117, 3) := by decide +kernel
theorem dX10_gapAt_14 : decode cX10_gapAt 14 = .ok (.isub, 1) := by decide +kernel
theorem dX10_gapAt_15 : decode cX10_gapAt 15 = .ok (.ireturn, 1) := by decide +kernel
theorem dX10_gapsBy_0 : decode cX10_gapsBy 0 = .ok (.iconst 0, 1) := by decide +kernel
theorem dX10_gapsBy_1 : decode cX10_gapsBy 1 = .ok (.istore_n 3, 1) := by decide +kernel
theorem dX10_gapsBy_2 : decode cX10_gapsBy 2 = .ok (.iconst 1, 1) := by decide +kernel
theorem dX10_gapsBy_3 : decode cX10_gapsBy 3 = .ok (.istore 4, 2) := by decide +kernel
theorem dX10_gapsBy_5 : decode cX10_gapsBy 5 = .ok (.iload 4, 2) := by decide +kernel
theorem dX10_gapsBy_7 : decode cX10_gapsBy 7 = .ok (.aload_n 0, 1) := by decide +kernel
theorem dX10_gapsBy_8 : decode cX10_gapsBy 8 = .ok (.getfield 107, 3) := by decide +kernel
theorem dX10_gapsBy_11 : decode cX10_gapsBy 11 = .ok (.if_icmp .ge 28, 3) := by decide +kernel
theorem dX10_gapsBy_14 : decode cX10_gapsBy 14 = .ok (.iload_n 3, 1) := by decide +kernel
theorem dX10_gapsBy_15 : decode cX10_gapsBy 15 = .ok (.aload_n 0, 1) := by decide +kernel
theorem dX10_gapsBy_16 : decode cX10_gapsBy 16 = .ok (.iload_n 1, 1) := by decide +kernel
theorem dX10_gapsBy_17 : decode cX10_gapsBy 17 = .ok (.iload 4, 2) := by decide +kernel
theorem dX10_gapsBy_19 : decode cX10_gapsBy 19 = .ok (.invokevirtual 209, 3) := by decide +kernel
theorem dX10_gapsBy_22 : decode cX10_gapsBy 22 = .ok (.iload_n 2, 1) := by decide +kernel
theorem dX10_gapsBy_23 : decode cX10_gapsBy 23 = .ok (.if_icmp .ne 7, 3) := by decide +kernel
theorem dX10_gapsBy_26 : decode cX10_gapsBy 26 = .ok (.iconst 1, 1) := by decide +kernel
theorem dX10_gapsBy_27 : decode cX10_gapsBy 27 = .ok (.goto 4, 3) := by decide +kernel
theorem dX10_gapsBy_30 : decode cX10_gapsBy 30 = .ok (.iconst 0, 1) := by decide +kernel
theorem dX10_gapsBy_31 : decode cX10_gapsBy 31 = .ok (.iadd, 1) := by decide +kernel
theorem dX10_gapsBy_32 : decode cX10_gapsBy 32 = .ok (.istore_n 3, 1) := by decide +kernel
theorem dX10_gapsBy_33 : decode cX10_gapsBy 33 = .ok (.iinc 4 1, 3) := by decide +kernel
theorem dX10_gapsBy_36 : decode cX10_gapsBy 36 = .ok (.goto (-31), 3) := by decide +kernel
theorem dX10_gapsBy_39 : decode cX10_gapsBy 39 = .ok (.iload_n 3, 1) := by decide +kernel
theorem dX10_gapsBy_40 : decode cX10_gapsBy 40 = .ok (.ireturn, 1) := by decide +kernel
theorem dX10_gap_0 : decode cX10_gap 0 = .ok (.aload_n 0, 1) := by decide +kernel
theorem dX10_gap_1 : decode cX10_gap 1 = .ok (.aload_n 0, 1) := by decide +kernel
theorem dX10_gap_2 : decode cX10_gap 2 = .ok (.iload_n 1, 1) := by decide +kernel
theorem dX10_gap_3 : decode cX10_gap 3 = .ok (.iload_n 2, 1) := by decide +kernel
theorem dX10_gap_4 : decode cX10_gap 4 = .ok (.iconst 1, 1) := by decide +kernel
theorem dX10_gap_5 : decode cX10_gap 5 = .ok (.if_icmp .lt 7, 3) := by decide +kernel
theorem dX10_gap_8 : decode cX10_gap 8 = .ok (.iconst 1, 1) := by decide +kernel
theorem dX10_gap_9 : decode cX10_gap 9 = .ok (.goto 4, 3) := by decide +kernel
theorem dX10_gap_12 : decode cX10_gap 12 = .ok (.iconst 0, 1) := by decide +kernel
theorem dX10_gap_13 : decode cX10_gap 13 = .ok (.invokevirtual 190, 3) := by decide +kernel
theorem dX10_gap_16 : decode cX10_gap 16 = .ok (.invokevirtual 140, 3) := by decide +kernel
theorem dX10_gap_19 : decode cX10_gap 19 = .ok (.ifCond .ne 5, 3) := by decide +kernel
theorem dX10_gap_22 : decode cX10_gap 22 = .ok (.iconst (-1), 1) := by decide +kernel
theorem dX10_gap_23 : decode cX10_gap 23 = .ok (.ireturn, 1) := by decide +kernel
theorem dX10_gap_24 : decode cX10_gap 24 = .ok (.aload_n 0, 1) := by decide +kernel
theorem dX10_gap_25 : decode cX10_gap 25 = .ok (.iload_n 1, 1) := by decide +kernel
theorem dX10_gap_26 : decode cX10_gap 26 = .ok (.invokevirtual 120, 3) := by decide +kernel
theorem dX10_gap_29 : decode cX10_gap 29 = .ok (.iload_n 2, 1) := by decide +kernel
theorem dX10_gap_30 : decode cX10_gap 30 = .ok (.aload_n 0, 1) := by decide +kernel
theorem dX10_gap_31 : decode cX10_gap 31 = .ok (.getfield 107, 3) := by decide +kernel
theorem dX10_gap_34 : decode cX10_gap 34 = .ok (.if_icmp .ge 12, 3) := by decide +kernel
theorem dX10_gap_37 : decode cX10_gap 37 = .ok (.aload_n 0, 1) := by decide +kernel
theorem dX10_gap_38 : decode cX10_gap 38 = .ok (.iload_n 1, 1) := by decide +kernel
theorem dX10_gap_39 : decode cX10_gap 39 = .ok (.iload_n 2, 1) := by decide +kernel
theorem dX10_gap_40 : decode cX10_gap 40 = .ok (.invokevirtual 209, 3) := by decide +kernel
theorem dX10_gap_43 : decode cX10_gap 43 = .ok (.goto 8, 3) := by decide +kernel
theorem dX10_gap_46 : decode cX10_gap 46 = .ok (.aload_n 0, 1) := by decide +kernel
theorem dX10_gap_47 : decode cX10_gap 47 = .ok (.iconst 5, 1) := by decide +kernel
theorem dX10_gap_48 : decode cX10_gap 48 = .ok (.invokevirtual 166, 3) := by decide +kernel
theorem dX10_gap_51 : decode cX10_gap 51 = .ok (.ireturn, 1) := by decide +kernel
theorem dX10_unlikeGaps_0 : decode cX10_unlikeGaps 0 = .ok (.iconst 0, 1) := by decide +kernel
theorem dX10_unlikeGaps_1 : decode cX10_unlikeGaps 1 = .ok (.istore_n 2, 1) := by decide +kernel
theorem dX10_unlikeGaps_2 : decode cX10_unlikeGaps 2 = .ok (.iconst 1, 1) := by decide +kernel
theorem dX10_unlikeGaps_3 : decode cX10_unlikeGaps 3 = .ok (.istore_n 3, 1) := by decide +kernel
theorem dX10_unlikeGaps_4 : decode cX10_unlikeGaps 4 = .ok (.iload_n 3, 1) := by decide +kernel
theorem dX10_unlikeGaps_5 : decode cX10_unlikeGaps 5 = .ok (.aload_n 0, 1) := by decide +kernel
theorem dX10_unlikeGaps_6 : decode cX10_unlikeGaps 6 = .ok (.getfield 107, 3) := by decide +kernel
theorem dX10_unlikeGaps_9 : decode cX10_unlikeGaps 9 = .ok (.if_icmp .ge 68, 3) := by decide +kernel
theorem dX10_unlikeGaps_12 : decode cX10_unlikeGaps 12 = .ok (.iconst 1, 1) := by decide +kernel
theorem dX10_unlikeGaps_13 : decode cX10_unlikeGaps 13 = .ok (.istore 4, 2) := by decide +kernel
theorem dX10_unlikeGaps_15 : decode cX10_unlikeGaps 15 = .ok (.iconst 1, 1) := by decide +kernel
theorem dX10_unlikeGaps_16 : decode cX10_unlikeGaps 16 = .ok (.istore 5, 2) := by decide +kernel
theorem dX10_unlikeGaps_18 : decode cX10_unlikeGaps 18 = .ok (.iload 5, 2) := by decide +kernel
theorem dX10_unlikeGaps_20 : decode cX10_unlikeGaps 20 = .ok (.iload_n 3, 1) := by decide +kernel
theorem dX10_unlikeGaps_21 : decode cX10_unlikeGaps 21 = .ok (.if_icmp .ge 37, 3) := by decide +kernel
theorem dX10_unlikeGaps_24 : decode cX10_unlikeGaps 24 = .ok (.iload 4, 2) := by decide +kernel
theorem dX10_unlikeGaps_26 : decode cX10_unlikeGaps 26 = .ok (.ifCond .eq 23, 3) := by decide +kernel
theorem dX10_unlikeGaps_29 : decode cX10_unlikeGaps 29 = .ok (.aload_n 0, 1) := by decide +kernel
theorem dX10_unlikeGaps_30 : decode cX10_unlikeGaps 30 = .ok (.iload_n 1, 1) := by decide +kernel
theorem dX10_unlikeGaps_31 : decode cX10_unlikeGaps 31 = .ok (.iload 5, 2) := by decide +kernel
theorem dX10_unlikeGaps_33 : decode cX10_unlikeGaps 33 = .ok (.invokevirtual 209, 3) := by decide +kernel
theorem dX10_unlikeGaps_36 : decode cX10_unlikeGaps 36 = .ok (.aload_n 0, 1) := by decide +kernel
theorem dX10_unlikeGaps_37 : decode cX10_unlikeGaps 37 = .ok (.iload_n 1, 1) := by decide +kernel
theorem dX10_unlikeGaps_38 : decode cX10_unlikeGaps 38 = .ok (.iload_n 3, 1) := by decide +kernel
theorem dX10_unlikeGaps_39 : decode cX10_unlikeGaps 39 = .ok (.invokevirtual 209, 3) := by decide +kernel
theorem dX10_unlikeGaps_42 : decode cX10_unlikeGaps 42 = .ok (.if_icmp .eq 7, 3) := by decide +kernel
theorem dX10_unlikeGaps_45 : decode cX10_unlikeGaps 45 = .ok (.iconst 1, 1) := by decide +kernel
theorem dX10_unlikeGaps_46 : decode cX10_unlikeGaps 46 = .ok (.goto 4, 3) := by decide +kernel
theorem dX10_unlikeGaps_49 : decode cX10_unlikeGaps 49 = .ok (.iconst 0, 1) := by decide +kernel
theorem dX10_unlikeGaps_50 : decode cX10_unlikeGaps 50 = .ok (.istore 4, 2) := by decide +kernel
theorem dX10_unlikeGaps_52 : decode cX10_unlikeGaps 52 = .ok (.iinc 5 1, 3) := by decide +kernel
theorem dX10_unlikeGaps_55 : decode cX10_unlikeGaps 55 = .ok (.goto (-37), 3) := by decide +kernel
theorem dX10_unlikeGaps_58 : decode cX10_unlikeGaps 58 = .ok (.iload_n 2, 1) := by decide +kernel
theorem dX10_unlikeGaps_59 : decode cX10_unlikeGaps 59 = .ok (.iload 4, 2) := by decide +kernel
theorem dX10_unlikeGaps_61 : decode cX10_unlikeGaps 61 = .ok (.ifCond .eq 7, 3) := by decide +kernel
theorem dX10_unlikeGaps_64 : decode cX10_unlikeGaps 64 = .ok (.iconst 1, 1) := by decide +kernel
theorem dX10_unlikeGaps_65 : decode cX10_unlikeGaps 65 = .ok (.goto 4, 3) := by decide +kernel
theorem dX10_unlikeGaps_68 : decode cX10_unlikeGaps 68 = .ok (.iconst 0, 1) := by decide +kernel
theorem dX10_unlikeGaps_69 : decode cX10_unlikeGaps 69 = .ok (.iadd, 1) := by decide +kernel
theorem dX10_unlikeGaps_70 : decode cX10_unlikeGaps 70 = .ok (.istore_n 2, 1) := by decide +kernel
theorem dX10_unlikeGaps_71 : decode cX10_unlikeGaps 71 = .ok (.iinc 3 1, 3) := by decide +kernel
theorem dX10_unlikeGaps_74 : decode cX10_unlikeGaps 74 = .ok (.goto (-70), 3) := by decide +kernel
theorem dX10_unlikeGaps_77 : decode cX10_unlikeGaps 77 = .ok (.iload_n 2, 1) := by decide +kernel
theorem dX10_unlikeGaps_78 : decode cX10_unlikeGaps 78 = .ok (.ireturn, 1) := by decide +kernel
theorem dX10_gaps_0 : decode cX10_gaps 0 = .ok (.aload_n 0, 1) := by decide +kernel
theorem dX10_gaps_1 : decode cX10_gaps 1 = .ok (.iload_n 2, 1) := by decide +kernel
theorem dX10_gaps_2 : decode cX10_gaps 2 = .ok (.i2l, 1) := by decide +kernel
theorem dX10_gaps_3 : decode cX10_gaps 3 = .ok (.lconst 0, 1) := by decide +kernel
theorem dX10_gaps_4 : decode cX10_gaps 4 = .ok (.ldc2_w 174, 3) := by decide +kernel
theorem dX10_gaps_7 : decode cX10_gaps 7 = .ok (.invokestatic 93, 3) := by decide +kernel
theorem dX10_gaps_10 : decode cX10_gaps 10 = .ok (.ifCond .ne 7, 3) := by decide +kernel
theorem dX10_gaps_13 : decode cX10_gaps 13 = .ok (.iconst 1, 1) := by decide +kernel
theorem dX10_gaps_14 : decode cX10_gaps 14 = .ok (.goto 16, 3) := by decide +kernel
theorem dX10_gaps_17 : decode cX10_gaps 17 = .ok (.aload_n 0, 1) := by decide +kernel
theorem dX10_gaps_18 : decode cX10_gaps 18 = .ok (.iload_n 1, 1) := by decide +kernel
theorem dX10_gaps_19 : decode cX10_gaps 19 = .ok (.invokevirtual 152, 3) := by decide +kernel
theorem dX10_gaps_22 : decode cX10_gaps 22 = .ok (.ifCond .eq 7, 3) := by decide +kernel
theorem dX10_gaps_25 : decode cX10_gaps 25 = .ok (.iconst 0, 1) := by decide +kernel
theorem dX10_gaps_26 : decode cX10_gaps 26 = .ok (.goto 4, 3) := by decide +kernel
theorem dX10_gaps_29 : decode cX10_gaps 29 = .ok (.iconst 2, 1) := by decide +kernel
theorem dX10_gaps_30 : decode cX10_gaps 30 = .ok (.invokevirtual 140, 3) := by decide +kernel
theorem dX10_gaps_33 : decode cX10_gaps 33 = .ok (.ifCond .ne 5, 3) := by decide +kernel
theorem dX10_gaps_36 : decode cX10_gaps 36 = .ok (.iconst (-1), 1) := by decide +kernel
theorem dX10_gaps_37 : decode cX10_gaps 37 = .ok (.ireturn, 1) := by decide +kernel
theorem dX10_gaps_38 : decode cX10_gaps 38 = .ok (.aload_n 0, 1) := by decide +kernel
theorem dX10_gaps_39 : decode cX10_gaps 39 = .ok (.iload_n 1, 1) := by decide +kernel
theorem dX10_gaps_40 : decode cX10_gaps 40 = .ok (.invokevirtual 120, 3) := by decide +kernel
theorem dX10_gaps_43 : decode cX10_gaps 43 = .ok (.aload_n 0, 1) := by decide +kernel
theorem dX10_gaps_44 : decode cX10_gaps 44 = .ok (.getfield 107, 3) := by decide +kernel
theorem dX10_gaps_47 : decode cX10_gaps 47 = .ok (.iconst 1, 1) := by decide +kernel
theorem dX10_gaps_48 : decode cX10_gaps 48 = .ok (.if_icmp .ne 9, 3) := by decide +kernel
theorem dX10_gaps_51 : decode cX10_gaps 51 = .ok (.aload_n 0, 1) := by decide +kernel
theorem dX10_gaps_52 : decode cX10_gaps 52 = .ok (.iconst 5, 1) := by decide +kernel
theorem dX10_gaps_53 : decode cX10_gaps 53 = .ok (.invokevirtual 166, 3) := by decide +kernel
theorem dX10_gaps_56 : decode cX10_gaps 56 = .ok (.ireturn, 1) := by decide +kernel
theorem dX10_gaps_57 : decode cX10_gaps 57 = .ok (.iconst 1, 1) := by decide +kernel
theorem dX10_gaps_58 : decode cX10_gaps 58 = .ok (.istore_n 3, 1) := by decide +kernel
theorem dX10_gaps_59 : decode cX10_gaps 59 = .ok (.iconst 2, 1) := by decide +kernel
theorem dX10_gaps_60 : decode cX10_gaps 60 = .ok (.istore 4, 2) := by decide +kernel
theorem dX10_gaps_62 : decode cX10_gaps 62 = .ok (.iload 4, 2) := by decide +kernel
theorem dX10_gaps_64 : decode cX10_gaps 64 = .ok (.aload_n 0, 1) := by decide +kernel
theorem dX10_gaps_65 : decode cX10_gaps 65 = .ok (.getfield 107, 3) := by decide +kernel
theorem dX10_gaps_68 : decode cX10_gaps 68 = .ok (.if_icmp .ge 32, 3) := by decide +kernel
theorem dX10_gaps_71 : decode cX10_gaps 71 = .ok (.aload_n 0, 1) := by decide +kernel
theorem dX10_gaps_72 : decode cX10_gaps 72 = .ok (.iload_n 1, 1) := by decide +kernel
theorem dX10_gaps_73 : decode cX10_gaps 73 = .ok (.iload 4, 2) := by decide +kernel
theorem dX10_gaps_75 : decode cX10_gaps 75 = .ok (.invokevirtual 209, 3) := by decide +kernel
theorem dX10_gaps_78 : decode cX10_gaps 78 = .ok (.aload_n 0, 1) := by decide +kernel
theorem dX10_gaps_79 : decode cX10_gaps 79 = .ok (.iload_n 1, 1) := by decide +kernel
theorem dX10_gaps_80 : decode cX10_gaps 80 = .ok (.iload_n 3, 1) := by decide +kernel
theorem dX10_gaps_81 : decode cX10_gaps 81 = .ok (.invokevirtual 209, 3) := by decide +kernel
theorem dX10_gaps_84 : decode cX10_gaps 84 = .ok (.if_icmp .le 8, 3) := by decide +kernel
theorem dX10_gaps_87 : decode cX10_gaps 87 = .ok (.iload 4, 2) := by decide +kernel
theorem dX10_gaps_89 : decode cX10_gaps 89 = .ok (.goto 4, 3) := by decide +kernel
theorem dX10_gaps_92 : decode cX10_gaps 92 = .ok (.iload_n 3, 1) := by decide +kernel
theorem dX10_gaps_93 : decode cX10_gaps 93 = .ok (.istore_n 3, 1) := by decide +kernel
theorem dX10_gaps_94 : decode cX10_gaps 94 = .ok (.iinc 4 1, 3) := by decide +kernel
theorem dX10_gaps_97 : decode cX10_gaps 97 = .ok (.goto (-35), 3) := by decide +kernel
theorem dX10_gaps_100 : decode cX10_gaps 100 = .ok (.iload_n 2, 1) := by decide +kernel
theorem dX10_gaps_101 : decode cX10_gaps 101 = .ok (.tableswitch 48 0 2 #[27, 34, 36], 27) := by decide +kernel
theorem dX10_gaps_128 : decode cX10_gaps 128 = .ok (.aload_n 0, 1) := by decide +kernel
theorem dX10_gaps_129 : decode cX10_gaps 129 = .ok (.iload_n 1, 1) := by decide +kernel
theorem dX10_gaps_130 : decode cX10_gaps 130 = .ok (.iload_n 3, 1) := by decide +kernel
theorem dX10_gaps_131 : decode cX10_gaps 131 = .ok (.invokevirtual 209, 3) := by decide +kernel
theorem dX10_gaps_134 : decode cX10_gaps 134 = .ok (.ireturn, 1) := by decide +kernel
theorem dX10_gaps_135 : decode cX10_gaps 135 = .ok (.iload_n 3, 1) := by decide +kernel
theorem dX10_gaps_136 : decode cX10_gaps 136 = .ok (.ireturn, 1) := by decide +kernel
theorem dX10_gaps_137 : decode cX10_gaps 137 = .ok (.aload_n 0, 1) := by decide +kernel
theorem dX10_gaps_138 : decode cX10_gaps 138 = .ok (.iload_n 1, 1) := by decide +kernel
theorem dX10_gaps_139 : decode cX10_gaps 139 = .ok (.aload_n 0, 1) := by decide +kernel
theorem dX10_gaps_140 : decode cX10_gaps 140 = .ok (.iload_n 1, 1) := by decide +kernel
theorem dX10_gaps_141 : decode cX10_gaps 141 = .ok (.iload_n 3, 1) := by decide +kernel
theorem dX10_gaps_142 : decode cX10_gaps 142 = .ok (.invokevirtual 209, 3) := by decide +kernel
theorem dX10_gaps_145 : decode cX10_gaps 145 = .ok (.invokevirtual 212, 3) := by decide +kernel
theorem dX10_gaps_148 : decode cX10_gaps 148 = .ok (.ireturn, 1) := by decide +kernel
theorem dX10_gaps_149 : decode cX10_gaps 149 = .ok (.aload_n 0, 1) := by decide +kernel
theorem dX10_gaps_150 : decode cX10_gaps 150 = .ok (.iload_n 1, 1) := by decide +kernel
theorem dX10_gaps_151 : decode cX10_gaps 151 = .ok (.invokevirtual 215, 3) := by decide +kernel
theorem dX10_gaps_154 : decode cX10_gaps 154 = .ok (.ireturn, 1) := by decide +kernel
theorem dX10_gapsOf_0 : decode cX10_gapsOf 0 = .ok (.aload_n 0, 1) := by decide +kernel
theorem dX10_gapsOf_1 : decode cX10_gapsOf 1 = .ok (.aload_n 0, 1) := by decide +kernel
theorem dX10_gapsOf_2 : decode cX10_gapsOf 2 = .ok (.iload_n 1, 1) := by decide +kernel
theorem dX10_gapsOf_3 : decode cX10_gapsOf 3 = .ok (.invokevirtual 152, 3) := by decide +kernel
theorem dX10_gapsOf_6 : decode cX10_gapsOf 6 = .ok (.ifCond .eq 7, 3) := by decide +kernel
theorem dX10_gapsOf_9 : decode cX10_gapsOf 9 = .ok (.iconst 0, 1) := by decide +kernel
theorem dX10_gapsOf_10 : decode cX10_gapsOf 10 = .ok (.goto 4, 3) := by decide +kernel
theorem dX10_gapsOf_13 : decode cX10_gapsOf 13 = .ok (.iconst 2, 1) := by decide +kernel
theorem dX10_gapsOf_14 : decode cX10_gapsOf 14 = .ok (.invokevirtual 140, 3) := by decide +kernel
theorem dX10_gapsOf_17 : decode cX10_gapsOf 17 = .ok (.ifCond .ne 5, 3) := by decide +kernel
theorem dX10_gapsOf_20 : decode cX10_gapsOf 20 = .ok (.iconst (-1), 1) := by decide +kernel
theorem dX10_gapsOf_21 : decode cX10_gapsOf 21 = .ok (.ireturn, 1) := by decide +kernel
theorem dX10_gapsOf_22 : decode cX10_gapsOf 22 = .ok (.aload_n 0, 1) := by decide +kernel
theorem dX10_gapsOf_23 : decode cX10_gapsOf 23 = .ok (.iload_n 1, 1) := by decide +kernel
theorem dX10_gapsOf_24 : decode cX10_gapsOf 24 = .ok (.invokevirtual 120, 3) := by decide +kernel
theorem dX10_gapsOf_27 : decode cX10_gapsOf 27 = .ok (.aload_n 0, 1) := by decide +kernel
theorem dX10_gapsOf_28 : decode cX10_gapsOf 28 = .ok (.iload_n 1, 1) := by decide +kernel
theorem dX10_gapsOf_29 : decode cX10_gapsOf 29 = .ok (.iload_n 2, 1) := by decide +kernel
theorem dX10_gapsOf_30 : decode cX10_gapsOf 30 = .ok (.invokevirtual 212, 3) := by decide +kernel
theorem dX10_gapsOf_33 : decode cX10_gapsOf 33 = .ok (.ireturn, 1) := by decide +kernel
theorem dX10_record_0 : decode cX10_record 0 = .ok (.aload_n 0, 1) := by decide +kernel
theorem dX10_record_1 : decode cX10_record 1 = .ok (.aload_n 0, 1) := by decide +kernel
theorem dX10_record_2 : decode cX10_record 2 = .ok (.iload_n 1, 1) := by decide +kernel
theorem dX10_record_3 : decode cX10_record 3 = .ok (.iload_n 2, 1) := by decide +kernel
theorem dX10_record_4 : decode cX10_record 4 = .ok (.iconst (-1), 1) := by decide +kernel
theorem dX10_record_5 : decode cX10_record 5 = .ok (.if_icmp .lt 7, 3) := by decide +kernel
theorem dX10_record_8 : decode cX10_record 8 = .ok (.iconst 1, 1) := by decide +kernel
theorem dX10_record_9 : decode cX10_record 9 = .ok (.goto 4, 3) := by decide +kernel
theorem dX10_record_12 : decode cX10_record 12 = .ok (.iconst 0, 1) := by decide +kernel
theorem dX10_record_13 : decode cX10_record 13 = .ok (.invokevirtual 190, 3) := by decide +kernel
theorem dX10_record_16 : decode cX10_record 16 = .ok (.invokevirtual 140, 3) := by decide +kernel
theorem dX10_record_19 : decode cX10_record 19 = .ok (.ifCond .ne 5, 3) := by decide +kernel
theorem dX10_record_22 : decode cX10_record 22 = .ok (.iconst (-1), 1) := by decide +kernel
theorem dX10_record_23 : decode cX10_record 23 = .ok (.ireturn, 1) := by decide +kernel
theorem dX10_record_24 : decode cX10_record 24 = .ok (.aload_n 0, 1) := by decide +kernel
theorem dX10_record_25 : decode cX10_record 25 = .ok (.iload_n 1, 1) := by decide +kernel
theorem dX10_record_26 : decode cX10_record 26 = .ok (.invokevirtual 120, 3) := by decide +kernel
theorem dX10_record_29 : decode cX10_record 29 = .ok (.iconst 0, 1) := by decide +kernel
theorem dX10_record_30 : decode cX10_record 30 = .ok (.istore_n 3, 1) := by decide +kernel
theorem dX10_record_31 : decode cX10_record 31 = .ok (.iconst 0, 1) := by decide +kernel
theorem dX10_record_32 : decode cX10_record 32 = .ok (.istore 4, 2) := by decide +kernel
theorem dX10_record_34 : decode cX10_record 34 = .ok (.iconst 1, 1) := by decide +kernel
theorem dX10_record_35 : decode cX10_record 35 = .ok (.istore 5, 2) := by decide +kernel
theorem dX10_record_37 : decode cX10_record 37 = .ok (.iload 5, 2) := by decide +kernel
theorem dX10_record_39 : decode cX10_record 39 = .ok (.aload_n 0, 1) := by decide +kernel
theorem dX10_record_40 : decode cX10_record 40 = .ok (.getfield 107, 3) := by decide +kernel
theorem dX10_record_43 : decode cX10_record 43 = .ok (.if_icmp .ge 44, 3) := by decide +kernel
theorem dX10_record_46 : decode cX10_record 46 = .ok (.aload_n 0, 1) := by decide +kernel
theorem dX10_record_47 : decode cX10_record 47 = .ok (.iload_n 1, 1) := by decide +kernel
theorem dX10_record_48 : decode cX10_record 48 = .ok (.iload 5, 2) := by decide +kernel
theorem dX10_record_50 : decode cX10_record 50 = .ok (.invokevirtual 209, 3) := by decide +kernel
theorem dX10_record_53 : decode cX10_record 53 = .ok (.iload 4, 2) := by decide +kernel
theorem dX10_record_55 : decode cX10_record 55 = .ok (.if_icmp .gt 6, 3) := by decide +kernel
theorem dX10_record_58 : decode cX10_record 58 = .ok (.goto 23, 3) := by decide +kernel
theorem dX10_record_61 : decode cX10_record 61 = .ok (.aload_n 0, 1) := by decide +kernel
theorem dX10_record_62 : decode cX10_record 62 = .ok (.iload_n 1, 1) := by decide +kernel
theorem dX10_record_63 : decode cX10_record 63 = .ok (.iload 5, 2) := by decide +kernel
theorem dX10_record_65 : decode cX10_record 65 = .ok (.invokevirtual 209, 3) := by decide +kernel
theorem dX10_record_68 : decode cX10_record 68 = .ok (.istore 4, 2) := by decide +kernel
theorem dX10_record_70 : decode cX10_record 70 = .ok (.iload_n 3, 1) := by decide +kernel
theorem dX10_record_71 : decode cX10_record 71 = .ok (.iload_n 2, 1) := by decide +kernel
theorem dX10_record_72 : decode cX10_record 72 = .ok (.if_icmp .ne 6, 3) := by decide +kernel
theorem dX10_record_75 : decode cX10_record 75 = .ok (.iload 5, 2) := by decide +kernel
theorem dX10_record_77 : decode cX10_record 77 = .ok (.ireturn, 1) := by decide +kernel
theorem dX10_record_78 : decode cX10_record 78 = .ok (.iinc 3 1, 3) := by decide +kernel
theorem dX10_record_81 : decode cX10_record 81 = .ok (.iinc 5 1, 3) := by decide +kernel
theorem dX10_record_84 : decode cX10_record 84 = .ok (.goto (-47), 3) := by decide +kernel
theorem dX10_record_87 : decode cX10_record 87 = .ok (.iload_n 2, 1) := by decide +kernel
theorem dX10_record_88 : decode cX10_record 88 = .ok (.iconst (-1), 1) := by decide +kernel
theorem dX10_record_89 : decode cX10_record 89 = .ok (.if_icmp .ne 7, 3) := by decide +kernel
theorem dX10_record_92 : decode cX10_record 92 = .ok (.iload_n 3, 1) := by decide +kernel
theorem dX10_record_93 : decode cX10_record 93 = .ok (.goto 8, 3) := by decide +kernel
theorem dX10_record_96 : decode cX10_record 96 = .ok (.aload_n 0, 1) := by decide +kernel
theorem dX10_record_97 : decode cX10_record 97 = .ok (.iconst 5, 1) := by decide +kernel
theorem dX10_record_98 : decode cX10_record 98 = .ok (.invokevirtual 166, 3) := by decide +kernel
theorem dX10_record_101 : decode cX10_record 101 = .ok (.ireturn, 1) := by decide +kernel
theorem dX10_usual_0 : decode cX10_usual 0 = .ok (.aload_n 0, 1) := by decide +kernel
theorem dX10_usual_1 : decode cX10_usual 1 = .ok (.aload_n 0, 1) := by decide +kernel
theorem dX10_usual_2 : decode cX10_usual 2 = .ok (.iload_n 1, 1) := by decide +kernel
theorem dX10_usual_3 : decode cX10_usual 3 = .ok (.invokevirtual 152, 3) := by decide +kernel
theorem dX10_usual_6 : decode cX10_usual 6 = .ok (.ifCond .eq 7, 3) := by decide +kernel
theorem dX10_usual_9 : decode cX10_usual 9 = .ok (.iconst 0, 1) := by decide +kernel
theorem dX10_usual_10 : decode cX10_usual 10 = .ok (.goto 4, 3) := by decide +kernel
theorem dX10_usual_13 : decode cX10_usual 13 = .ok (.iconst 2, 1) := by decide +kernel
theorem dX10_usual_14 : decode cX10_usual 14 = .ok (.invokevirtual 140, 3) := by decide +kernel
theorem dX10_usual_17 : decode cX10_usual 17 = .ok (.ifCond .ne 5, 3) := by decide +kernel
theorem dX10_usual_20 : decode cX10_usual 20 = .ok (.iconst (-1), 1) := by decide +kernel
theorem dX10_usual_21 : decode cX10_usual 21 = .ok (.ireturn, 1) := by decide +kernel
theorem dX10_usual_22 : decode cX10_usual 22 = .ok (.aload_n 0, 1) := by decide +kernel
theorem dX10_usual_23 : decode cX10_usual 23 = .ok (.iload_n 1, 1) := by decide +kernel
theorem dX10_usual_24 : decode cX10_usual 24 = .ok (.invokevirtual 120, 3) := by decide +kernel
theorem dX10_usual_27 : decode cX10_usual 27 = .ok (.aload_n 0, 1) := by decide +kernel
theorem dX10_usual_28 : decode cX10_usual 28 = .ok (.getfield 107, 3) := by decide +kernel
theorem dX10_usual_31 : decode cX10_usual 31 = .ok (.iconst 1, 1) := by decide +kernel
theorem dX10_usual_32 : decode cX10_usual 32 = .ok (.if_icmp .ne 9, 3) := by decide +kernel
theorem dX10_usual_35 : decode cX10_usual 35 = .ok (.aload_n 0, 1) := by decide +kernel
theorem dX10_usual_36 : decode cX10_usual 36 = .ok (.iconst 5, 1) := by decide +kernel
theorem dX10_usual_37 : decode cX10_usual 37 = .ok (.invokevirtual 166, 3) := by decide +kernel
theorem dX10_usual_40 : decode cX10_usual 40 = .ok (.ireturn, 1) := by decide +kernel
theorem dX10_usual_41 : decode cX10_usual 41 = .ok (.iconst 0, 1) := by decide +kernel
theorem dX10_usual_42 : decode cX10_usual 42 = .ok (.istore_n 2, 1) := by decide +kernel
theorem dX10_usual_43 : decode cX10_usual 43 = .ok (.iconst 0, 1) := by decide +kernel
theorem dX10_usual_44 : decode cX10_usual 44 = .ok (.istore_n 3, 1) := by decide +kernel
theorem dX10_usual_45 : decode cX10_usual 45 = .ok (.iconst 1, 1) := by decide +kernel
theorem dX10_usual_46 : decode cX10_usual 46 = .ok (.istore 4, 2) := by decide +kernel
theorem dX10_usual_48 : decode cX10_usual 48 = .ok (.iload 4, 2) := by decide +kernel
theorem dX10_usual_50 : decode cX10_usual 50 = .ok (.aload_n 0, 1) := by decide +kernel
theorem dX10_usual_51 : decode cX10_usual 51 = .ok (.getfield 107, 3) := by decide +kernel
theorem dX10_usual_54 : decode cX10_usual 54 = .ok (.if_icmp .ge 54, 3) := by decide +kernel
theorem dX10_usual_57 : decode cX10_usual 57 = .ok (.aload_n 0, 1) := by decide +kernel
theorem dX10_usual_58 : decode cX10_usual 58 = .ok (.iload_n 1, 1) := by decide +kernel
theorem dX10_usual_59 : decode cX10_usual 59 = .ok (.iload 4, 2) := by decide +kernel
theorem dX10_usual_61 : decode cX10_usual 61 = .ok (.invokevirtual 209, 3) := by decide +kernel
theorem dX10_usual_64 : decode cX10_usual 64 = .ok (.istore 5, 2) := by decide +kernel
theorem dX10_usual_66 : decode cX10_usual 66 = .ok (.aload_n 0, 1) := by decide +kernel
theorem dX10_usual_67 : decode cX10_usual 67 = .ok (.iload_n 1, 1) := by decide +kernel
theorem dX10_usual_68 : decode cX10_usual 68 = .ok (.iload 5, 2) := by decide +kernel
theorem dX10_usual_70 : decode cX10_usual 70 = .ok (.invokevirtual 212, 3) := by decide +kernel
theorem dX10_usual_73 : decode cX10_usual 73 = .ok (.istore 6, 2) := by decide +kernel
theorem dX10_usual_75 : decode cX10_usual 75 = .ok (.iload 6, 2) := by decide +kernel
theorem dX10_usual_77 : decode cX10_usual 77 = .ok (.iload_n 3, 1) := by decide +kernel
theorem dX10_usual_78 : decode cX10_usual 78 = .ok (.if_icmp .lt 24, 3) := by decide +kernel
theorem dX10_usual_81 : decode cX10_usual 81 = .ok (.iload 6, 2) := by decide +kernel
theorem dX10_usual_83 : decode cX10_usual 83 = .ok (.iload_n 3, 1) := by decide +kernel
theorem dX10_usual_84 : decode cX10_usual 84 = .ok (.if_icmp .ne 12, 3) := by decide +kernel
theorem dX10_usual_87 : decode cX10_usual 87 = .ok (.iload 5, 2) := by decide +kernel
theorem dX10_usual_89 : decode cX10_usual 89 = .ok (.iload_n 2, 1) := by decide +kernel
theorem dX10_usual_90 : decode cX10_usual 90 = .ok (.if_icmp .lt 6, 3) := by decide +kernel
theorem dX10_usual_93 : decode cX10_usual 93 = .ok (.goto 9, 3) := by decide +kernel
theorem dX10_usual_96 : decode cX10_usual 96 = .ok (.iload 5, 2) := by decide +kernel
theorem dX10_usual_98 : decode cX10_usual 98 = .ok (.istore_n 2, 1) := by decide +kernel
theorem dX10_usual_99 : decode cX10_usual 99 = .ok (.iload 6, 2) := by decide +kernel
theorem dX10_usual_101 : decode cX10_usual 101 = .ok (.istore_n 3, 1) := by decide +kernel
theorem dX10_usual_102 : decode cX10_usual 102 = .ok (.iinc 4 1, 3) := by decide +kernel
theorem dX10_usual_105 : decode cX10_usual 105 = .ok (.goto (-57), 3) := by decide +kernel
theorem dX10_usual_108 : decode cX10_usual 108 = .ok (.iload_n 2, 1) := by decide +kernel
theorem dX10_usual_109 : decode cX10_usual 109 = .ok (.ireturn, 1) := by decide +kernel
theorem dX10_pattern_0 : decode cX10_pattern 0 = .ok (.aload_n 0, 1) := by decide +kernel
theorem dX10_pattern_1 : decode cX10_pattern 1 = .ok (.aload_n 0, 1) := by decide +kernel
theorem dX10_pattern_2 : decode cX10_pattern 2 = .ok (.iload_n 1, 1) := by decide +kernel
theorem dX10_pattern_3 : decode cX10_pattern 3 = .ok (.iload_n 2, 1) := by decide +kernel
theorem dX10_pattern_4 : decode cX10_pattern 4 = .ok (.iconst 1, 1) := by decide +kernel
theorem dX10_pattern_5 : decode cX10_pattern 5 = .ok (.if_icmp .lt 17, 3) := by decide +kernel
theorem dX10_pattern_8 : decode cX10_pattern 8 = .ok (.iload_n 3, 1) := by decide +kernel
theorem dX10_pattern_9 : decode cX10_pattern 9 = .ok (.iconst 1, 1) := by decide +kernel
theorem dX10_pattern_10 : decode cX10_pattern 10 = .ok (.if_icmp .lt 12, 3) := by decide +kernel
theorem dX10_pattern_13 : decode cX10_pattern 13 = .ok (.iload 4, 2) := by decide +kernel
theorem dX10_pattern_15 : decode cX10_pattern 15 = .ok (.ifCond .lt 7, 3) := by decide +kernel
theorem dX10_pattern_18 : decode cX10_pattern 18 = .ok (.iconst 1, 1) := by decide +kernel
theorem dX10_pattern_19 : decode cX10_pattern 19 = .ok (.goto 4, 3) := by decide +kernel
theorem dX10_pattern_22 : decode cX10_pattern 22 = .ok (.iconst 0, 1) := by decide +kernel
theorem dX10_pattern_23 : decode cX10_pattern 23 = .ok (.invokevirtual 190, 3) := by decide +kernel
theorem dX10_pattern_26 : decode cX10_pattern 26 = .ok (.invokevirtual 140, 3) := by decide +kernel
theorem dX10_pattern_29 : decode cX10_pattern 29 = .ok (.ifCond .ne 5, 3) := by decide +kernel
theorem dX10_pattern_32 : decode cX10_pattern 32 = .ok (.iconst (-1), 1) := by decide +kernel
theorem dX10_pattern_33 : decode cX10_pattern 33 = .ok (.ireturn, 1) := by decide +kernel
theorem dX10_pattern_34 : decode cX10_pattern 34 = .ok (.aload_n 0, 1) := by decide +kernel
theorem dX10_pattern_35 : decode cX10_pattern 35 = .ok (.iload_n 1, 1) := by decide +kernel
theorem dX10_pattern_36 : decode cX10_pattern 36 = .ok (.invokevirtual 120, 3) := by decide +kernel
theorem dX10_pattern_39 : decode cX10_pattern 39 = .ok (.iconst 0, 1) := by decide +kernel
theorem dX10_pattern_40 : decode cX10_pattern 40 = .ok (.istore 5, 2) := by decide +kernel
theorem dX10_pattern_42 : decode cX10_pattern 42 = .ok (.iconst 1, 1) := by decide +kernel
theorem dX10_pattern_43 : decode cX10_pattern 43 = .ok (.istore 6, 2) := by decide +kernel
theorem dX10_pattern_45 : decode cX10_pattern 45 = .ok (.iload 6, 2) := by decide +kernel
theorem dX10_pattern_47 : decode cX10_pattern 47 = .ok (.iconst 1, 1) := by decide +kernel
theorem dX10_pattern_48 : decode cX10_pattern 48 = .ok (.iadd, 1) := by decide +kernel
theorem dX10_pattern_49 : decode cX10_pattern 49 = .ok (.aload_n 0, 1) := by decide +kernel
theorem dX10_pattern_50 : decode cX10_pattern 50 = .ok (.getfield 107, 3) := by decide +kernel
theorem dX10_pattern_53 : decode cX10_pattern 53 = .ok (.if_icmp .ge 73, 3) := by decide +kernel
theorem dX10_pattern_56 : decode cX10_pattern 56 = .ok (.iload 5, 2) := by decide +kernel
theorem dX10_pattern_58 : decode cX10_pattern 58 = .ok (.aload_n 0, 1) := by decide +kernel
theorem dX10_pattern_59 : decode cX10_pattern 59 = .ok (.iload_n 1, 1) := by decide +kernel
theorem dX10_pattern_60 : decode cX10_pattern 60 = .ok (.iload 6, 2) := by decide +kernel
theorem dX10_pattern_62 : decode cX10_pattern 62 = .ok (.invokevirtual 209, 3) := by decide +kernel
theorem dX10_pattern_65 : decode cX10_pattern 65 = .ok (.iload_n 2, 1) := by decide +kernel
theorem dX10_pattern_66 : decode cX10_pattern 66 = .ok (.if_icmp .ne 50, 3) := by decide +kernel
theorem dX10_pattern_69 : decode cX10_pattern 69 = .ok (.aload_n 0, 1) := by decide +kernel
theorem dX10_pattern_70 : decode cX10_pattern 70 = .ok (.iload_n 1, 1) := by decide +kernel
theorem dX10_pattern_71 : decode cX10_pattern 71 = .ok (.iload 6, 2) := by decide +kernel
theorem dX10_pattern_73 : decode cX10_pattern 73 = .ok (.iconst 1, 1) := by decide +kernel
theorem dX10_pattern_74 : decode cX10_pattern 74 = .ok (.iadd, 1) := by decide +kernel
theorem dX10_pattern_75 : decode cX10_pattern 75 = .ok (.invokevirtual 209, 3) := by decide +kernel
theorem dX10_pattern_78 : decode cX10_pattern 78 = .ok (.iload_n 3, 1) := by decide +kernel
theorem dX10_pattern_79 : decode cX10_pattern 79 = .ok (.if_icmp .ne 37, 3) := by decide +kernel
theorem dX10_pattern_82 : decode cX10_pattern 82 = .ok (.iload 4, 2) := by decide +kernel
theorem dX10_pattern_84 : decode cX10_pattern 84 = .ok (.ifCond .eq 28, 3) := by decide +kernel
theorem dX10_pattern_87 : decode cX10_pattern 87 = .ok (.iload 6, 2) := by decide +kernel
theorem dX10_pattern_89 : decode cX10_pattern 89 = .ok (.iconst 2, 1) := by decide +kernel
theorem dX10_pattern_90 : decode cX10_pattern 90 = .ok (.iadd, 1) := by decide +kernel
theorem dX10_pattern_91 : decode cX10_pattern 91 = .ok (.aload_n 0, 1) := by decide +kernel
theorem dX10_pattern_92 : decode cX10_pattern 92 = .ok (.getfield 107, 3) := by decide +kernel
theorem dX10_pattern_95 : decode cX10_pattern 95 = .ok (.if_icmp .ge 21, 3) := by decide +kernel
theorem dX10_pattern_98 : decode cX10_pattern 98 = .ok (.aload_n 0, 1) := by decide +kernel
theorem dX10_pattern_99 : decode cX10_pattern 99 = .ok (.iload_n 1, 1) := by decide +kernel
theorem dX10_pattern_100 : decode cX10_pattern 100 = .ok (.iload 6, 2) := by decide +kernel
theorem dX10_pattern_102 : decode cX10_pattern 102 = .ok (.iconst 2, 1) := by decide +kernel
theorem dX10_pattern_103 : decode cX10_pattern 103 = .ok (.iadd, 1) := by decide +kernel
theorem dX10_pattern_104 : decode cX10_pattern 104 = .ok (.invokevirtual 209, 3) := by decide +kernel
theorem dX10_pattern_107 : decode cX10_pattern 107 = .ok (.iload 4, 2) := by decide +kernel
theorem dX10_pattern_109 : decode cX10_pattern 109 = .ok (.if_icmp .ne 7, 3) := by decide +kernel
theorem dX10_pattern_112 : decode cX10_pattern 112 = .ok (.iconst 1, 1) := by decide +kernel
theorem dX10_pattern_113 : decode cX10_pattern 113 = .ok (.goto 4, 3) := by decide +kernel
theorem dX10_pattern_116 : decode cX10_pattern 116 = .ok (.iconst 0, 1) := by decide +kernel
theorem dX10_pattern_117 : decode cX10_pattern 117 = .ok (.iadd, 1) := by decide +kernel
theorem dX10_pattern_118 : decode cX10_pattern 118 = .ok (.istore 5, 2) := by decide +kernel
theorem dX10_pattern_120 : decode cX10_pattern 120 = .ok (.iinc 6 1, 3) := by decide +kernel
theorem dX10_pattern_123 : decode cX10_pattern 123 = .ok (.goto (-78), 3) := by decide +kernel
theorem dX10_pattern_126 : decode cX10_pattern 126 = .ok (.iload 5, 2) := by decide +kernel
theorem dX10_pattern_128 : decode cX10_pattern 128 = .ok (.ireturn, 1) := by decide +kernel
theorem dX10_isMirror_0 : decode cX10_isMirror 0 = .ok (.iconst 0, 1) := by decide +kernel
theorem dX10_isMirror_1 : decode cX10_isMirror 1 = .ok (.istore 4, 2) := by decide +kernel
theorem dX10_isMirror_3 : decode cX10_isMirror 3 = .ok (.iload_n 2, 1) := by decide +kernel
theorem dX10_isMirror_4 : decode cX10_isMirror 4 = .ok (.iload 4, 2) := by decide +kernel
theorem dX10_isMirror_6 : decode cX10_isMirror 6 = .ok (.iadd, 1) := by decide +kernel
theorem dX10_isMirror_7 : decode cX10_isMirror 7 = .ok (.iload_n 3, 1) := by decide +kernel
theorem dX10_isMirror_8 : decode cX10_isMirror 8 = .ok (.iload 4, 2) := by decide +kernel
theorem dX10_isMirror_10 : decode cX10_isMirror 10 = .ok (.isub, 1) := by decide +kernel
theorem dX10_isMirror_11 : decode cX10_isMirror 11 = .ok (.if_icmp .ge 32, 3) := by decide +kernel
theorem dX10_isMirror_14 : decode cX10_isMirror 14 = .ok (.aload_n 0, 1) := by decide +kernel
theorem dX10_isMirror_15 : decode cX10_isMirror 15 = .ok (.iload_n 1, 1) := by decide +kernel
theorem dX10_isMirror_16 : decode cX10_isMirror 16 = .ok (.iload_n 2, 1) := by decide +kernel
theorem dX10_isMirror_17 : decode cX10_isMirror 17 = .ok (.iload 4, 2) := by decide +kernel
theorem dX10_isMirror_19 : decode cX10_isMirror 19 = .ok (.iadd, 1) := by decide +kernel
theorem dX10_isMirror_20 : decode cX10_isMirror 20 = .ok (.invokevirtual 209, 3) := by decide +kernel
theorem dX10_isMirror_23 : decode cX10_isMirror 23 = .ok (.aload_n 0, 1) := by decide +kernel
theorem dX10_isMirror_24 : decode cX10_isMirror 24 = .ok (.iload_n 1, 1) := by decide +kernel
theorem dX10_isMirror_25 : decode cX10_isMirror 25 = .ok (.iload_n 3, 1) := by decide +kernel
theorem dX10_isMirror_26 : decode cX10_isMirror 26 = .ok (.iload 4, 2) := by decide +kernel
theorem dX10_isMirror_28 : decode cX10_isMirror 28 = .ok (.isub, 1) := by decide +kernel
theorem dX10_isMirror_29 : decode cX10_isMirror 29 = .ok (.invokevirtual 209, 3) := by decide +kernel
theorem dX10_isMirror_32 : decode cX10_isMirror 32 = .ok (.if_icmp .eq 5, 3) := by decide +kernel
theorem dX10_isMirror_35 : decode cX10_isMirror 35 = .ok (.iconst 0, 1) := by decide +kernel
theorem dX10_isMirror_36 : decode cX10_isMirror 36 = .ok (.ireturn, 1) := by decide +kernel
theorem dX10_isMirror_37 : decode cX10_isMirror 37 = .ok (.iinc 4 1, 3) := by decide +kernel
theorem dX10_isMirror_40 : decode cX10_isMirror 40 = .ok (.goto (-37), 3) := by decide +kernel
theorem dX10_isMirror_43 : decode cX10_isMirror 43 = .ok (.iconst 1, 1) := by decide +kernel
theorem dX10_isMirror_44 : decode cX10_isMirror 44 = .ok (.ireturn, 1) := by decide +kernel
theorem dX10_mirror_0 : decode cX10_mirror 0 = .ok (.aload_n 0, 1) := by decide +kernel
theorem dX10_mirror_1 : decode cX10_mirror 1 = .ok (.iload_n 2, 1) := by decide +kernel
theorem dX10_mirror_2 : decode cX10_mirror 2 = .ok (.i2l, 1) := by decide +kernel
theorem dX10_mirror_3 : decode cX10_mirror 3 = .ok (.lconst 0, 1) := by decide +kernel
theorem dX10_mirror_4 : decode cX10_mirror 4 = .ok (.lconst 1, 1) := by decide +kernel
theorem dX10_mirror_5 : decode cX10_mirror 5 = .ok (.invokestatic 93, 3) := by decide +kernel
theorem dX10_mirror_8 : decode cX10_mirror 8 = .ok (.ifCond .ne 7, 3) := by decide +kernel
theorem dX10_mirror_11 : decode cX10_mirror 11 = .ok (.iconst 1, 1) := by decide +kernel
theorem dX10_mirror_12 : decode cX10_mirror 12 = .ok (.goto 16, 3) := by decide +kernel
theorem dX10_mirror_15 : decode cX10_mirror 15 = .ok (.aload_n 0, 1) := by decide +kernel
theorem dX10_mirror_16 : decode cX10_mirror 16 = .ok (.iload_n 1, 1) := by decide +kernel
theorem dX10_mirror_17 : decode cX10_mirror 17 = .ok (.invokevirtual 152, 3) := by decide +kernel
theorem dX10_mirror_20 : decode cX10_mirror 20 = .ok (.ifCond .eq 7, 3) := by decide +kernel
theorem dX10_mirror_23 : decode cX10_mirror 23 = .ok (.iconst 0, 1) := by decide +kernel
theorem dX10_mirror_24 : decode cX10_mirror 24 = .ok (.goto 4, 3) := by decide +kernel
theorem dX10_mirror_27 : decode cX10_mirror 27 = .ok (.iconst 2, 1) := by decide +kernel
theorem dX10_mirror_28 : decode cX10_mirror 28 = .ok (.invokevirtual 140, 3) := by decide +kernel
theorem dX10_mirror_31 : decode cX10_mirror 31 = .ok (.ifCond .ne 5, 3) := by decide +kernel
theorem dX10_mirror_34 : decode cX10_mirror 34 = .ok (.iconst (-1), 1) := by decide +kernel
theorem dX10_mirror_35 : decode cX10_mirror 35 = .ok (.ireturn, 1) := by decide +kernel
theorem dX10_mirror_36 : decode cX10_mirror 36 = .ok (.aload_n 0, 1) := by decide +kernel
theorem dX10_mirror_37 : decode cX10_mirror 37 = .ok (.iload_n 1, 1) := by decide +kernel
theorem dX10_mirror_38 : decode cX10_mirror 38 = .ok (.invokevirtual 120, 3) := by decide +kernel
theorem dX10_mirror_41 : decode cX10_mirror 41 = .ok (.aload_n 0, 1) := by decide +kernel
theorem dX10_mirror_42 : decode cX10_mirror 42 = .ok (.getfield 107, 3) := by decide +kernel
theorem dX10_mirror_45 : decode cX10_mirror 45 = .ok (.iconst 1, 1) := by decide +kernel
theorem dX10_mirror_46 : decode cX10_mirror 46 = .ok (.if_icmp .ne 9, 3) := by decide +kernel
theorem dX10_mirror_49 : decode cX10_mirror 49 = .ok (.aload_n 0, 1) := by decide +kernel
theorem dX10_mirror_50 : decode cX10_mirror 50 = .ok (.iconst 5, 1) := by decide +kernel
theorem dX10_mirror_51 : decode cX10_mirror 51 = .ok (.invokevirtual 166, 3) := by decide +kernel
theorem dX10_mirror_54 : decode cX10_mirror 54 = .ok (.ireturn, 1) := by decide +kernel
theorem dX10_mirror_55 : decode cX10_mirror 55 = .ok (.aload_n 0, 1) := by decide +kernel
theorem dX10_mirror_56 : decode cX10_mirror 56 = .ok (.getfield 107, 3) := by decide +kernel
theorem dX10_mirror_59 : decode cX10_mirror 59 = .ok (.iconst 1, 1) := by decide +kernel
theorem dX10_mirror_60 : decode cX10_mirror 60 = .ok (.isub, 1) := by decide +kernel
theorem dX10_mirror_61 : decode cX10_mirror 61 = .ok (.istore_n 3, 1) := by decide +kernel
theorem dX10_mirror_62 : decode cX10_mirror 62 = .ok (.iload_n 3, 1) := by decide +kernel
theorem dX10_mirror_63 : decode cX10_mirror 63 = .ok (.ifCond .le 56, 3) := by decide +kernel
theorem dX10_mirror_66 : decode cX10_mirror 66 = .ok (.iconst 1, 1) := by decide +kernel
theorem dX10_mirror_67 : decode cX10_mirror 67 = .ok (.istore 4, 2) := by decide +kernel
theorem dX10_mirror_69 : decode cX10_mirror 69 = .ok (.iload 4, 2) := by decide +kernel
theorem dX10_mirror_71 : decode cX10_mirror 71 = .ok (.iload_n 3, 1) := by decide +kernel
theorem dX10_mirror_72 : decode cX10_mirror 72 = .ok (.iadd, 1) := by decide +kernel
theorem dX10_mirror_73 : decode cX10_mirror 73 = .ok (.aload_n 0, 1) := by decide +kernel
theorem dX10_mirror_74 : decode cX10_mirror 74 = .ok (.getfield 107, 3) := by decide +kernel
theorem dX10_mirror_77 : decode cX10_mirror 77 = .ok (.if_icmp .gt 36, 3) := by decide +kernel
theorem dX10_mirror_80 : decode cX10_mirror 80 = .ok (.aload_n 0, 1) := by decide +kernel
theorem dX10_mirror_81 : decode cX10_mirror 81 = .ok (.iload_n 1, 1) := by decide +kernel
theorem dX10_mirror_82 : decode cX10_mirror 82 = .ok (.iload 4, 2) := by decide +kernel
theorem dX10_mirror_84 : decode cX10_mirror 84 = .ok (.iload 4, 2) := by decide +kernel
theorem dX10_mirror_86 : decode cX10_mirror 86 = .ok (.iload_n 3, 1) := by decide +kernel
theorem dX10_mirror_87 : decode cX10_mirror 87 = .ok (.iadd, 1) := by decide +kernel
theorem dX10_mirror_88 : decode cX10_mirror 88 = .ok (.iconst 1, 1) := by decide +kernel
theorem dX10_mirror_89 : decode cX10_mirror 89 = .ok (.isub, 1) := by decide +kernel
theorem dX10_mirror_90 : decode cX10_mirror 90 = .ok (.invokevirtual 218, 3) := by decide +kernel
theorem dX10_mirror_93 : decode cX10_mirror 93 = .ok (.ifCond .eq 14, 3) := by decide +kernel
theorem dX10_mirror_96 : decode cX10_mirror 96 = .ok (.iload_n 2, 1) := by decide +kernel
theorem dX10_mirror_97 : decode cX10_mirror 97 = .ok (.ifCond .ne 7, 3) := by decide +kernel
theorem dX10_mirror_100 : decode cX10_mirror 100 = .ok (.iload_n 3, 1) := by decide +kernel
theorem dX10_mirror_101 : decode cX10_mirror 101 = .ok (.goto 5, 3) := by decide +kernel
theorem dX10_mirror_104 : decode cX10_mirror 104 = .ok (.iload 4, 2) := by decide +kernel
theorem dX10_mirror_106 : decode cX10_mirror 106 = .ok (.ireturn, 1) := by decide +kernel
theorem dX10_mirror_107 : decode cX10_mirror 107 = .ok (.iinc 4 1, 3) := by decide +kernel
theorem dX10_mirror_110 : decode cX10_mirror 110 = .ok (.goto (-41), 3) := by decide +kernel
theorem dX10_mirror_113 : decode cX10_mirror 113 = .ok (.iinc 3 (-1), 3) := by decide +kernel
theorem dX10_mirror_116 : decode cX10_mirror 116 = .ok (.goto (-54), 3) := by decide +kernel
theorem dX10_mirror_119 : decode cX10_mirror 119 = .ok (.aload_n 0, 1) := by decide +kernel
theorem dX10_mirror_120 : decode cX10_mirror 120 = .ok (.iconst 5, 1) := by decide +kernel
theorem dX10_mirror_121 : decode cX10_mirror 121 = .ok (.invokevirtual 166, 3) := by decide +kernel
theorem dX10_mirror_124 : decode cX10_mirror 124 = .ok (.ireturn, 1) := by decide +kernel
theorem dX10_pairs_0 : decode cX10_pairs 0 = .ok (.aload_n 0, 1) := by decide +kernel
theorem dX10_pairs_1 : decode cX10_pairs 1 = .ok (.aload_n 0, 1) := by decide +kernel
theorem dX10_pairs_2 : decode cX10_pairs 2 = .ok (.iload_n 1, 1) := by decide +kernel
theorem dX10_pairs_3 : decode cX10_pairs 3 = .ok (.iload_n 2, 1) := by decide +kernel
theorem dX10_pairs_4 : decode cX10_pairs 4 = .ok (.iconst 1, 1) := by decide +kernel
theorem dX10_pairs_5 : decode cX10_pairs 5 = .ok (.if_icmp .lt 19, 3) := by decide +kernel
theorem dX10_pairs_8 : decode cX10_pairs 8 = .ok (.iload_n 3, 1) := by decide +kernel
theorem dX10_pairs_9 : decode cX10_pairs 9 = .ok (.i2l, 1) := by decide +kernel
theorem dX10_pairs_10 : decode cX10_pairs 10 = .ok (.lconst 0, 1) := by decide +kernel
theorem dX10_pairs_11 : decode cX10_pairs 11 = .ok (.ldc2_w 138, 3) := by decide +kernel
theorem dX10_pairs_14 : decode cX10_pairs 14 = .ok (.invokestatic 93, 3) := by decide +kernel
theorem dX10_pairs_17 : decode cX10_pairs 17 = .ok (.ifCond .eq 7, 3) := by decide +kernel
theorem dX10_pairs_20 : decode cX10_pairs 20 = .ok (.iconst 1, 1) := by decide +kernel
theorem dX10_pairs_21 : decode cX10_pairs 21 = .ok (.goto 4, 3) := by decide +kernel
theorem dX10_pairs_24 : decode cX10_pairs 24 = .ok (.iconst 0, 1) := by decide +kernel
theorem dX10_pairs_25 : decode cX10_pairs 25 = .ok (.invokevirtual 190, 3) := by decide +kernel
theorem dX10_pairs_28 : decode cX10_pairs 28 = .ok (.invokevirtual 140, 3) := by decide +kernel
theorem dX10_pairs_31 : decode cX10_pairs 31 = .ok (.ifCond .ne 5, 3) := by decide +kernel
theorem dX10_pairs_34 : decode cX10_pairs 34 = .ok (.iconst (-1), 1) := by decide +kernel
theorem dX10_pairs_35 : decode cX10_pairs 35 = .ok (.ireturn, 1) := by decide +kernel
theorem dX10_pairs_36 : decode cX10_pairs 36 = .ok (.aload_n 0, 1) := by decide +kernel
theorem dX10_pairs_37 : decode cX10_pairs 37 = .ok (.iload_n 1, 1) := by decide +kernel
theorem dX10_pairs_38 : decode cX10_pairs 38 = .ok (.invokevirtual 120, 3) := by decide +kernel
theorem dX10_pairs_41 : decode cX10_pairs 41 = .ok (.iconst 0, 1) := by decide +kernel
theorem dX10_pairs_42 : decode cX10_pairs 42 = .ok (.istore 4, 2) := by decide +kernel
theorem dX10_pairs_44 : decode cX10_pairs 44 = .ok (.iconst (-1), 1) := by decide +kernel
theorem dX10_pairs_45 : decode cX10_pairs 45 = .ok (.istore 5, 2) := by decide +kernel
theorem dX10_pairs_47 : decode cX10_pairs 47 = .ok (.iconst (-1), 1) := by decide +kernel
theorem dX10_pairs_48 : decode cX10_pairs 48 = .ok (.istore 6, 2) := by decide +kernel
theorem dX10_pairs_50 : decode cX10_pairs 50 = .ok (.iconst 1, 1) := by decide +kernel
theorem dX10_pairs_51 : decode cX10_pairs 51 = .ok (.istore 7, 2) := by decide +kernel
theorem dX10_pairs_53 : decode cX10_pairs 53 = .ok (.iload 7, 2) := by decide +kernel
theorem dX10_pairs_55 : decode cX10_pairs 55 = .ok (.aload_n 0, 1) := by decide +kernel
theorem dX10_pairs_56 : decode cX10_pairs 56 = .ok (.getfield 107, 3) := by decide +kernel
theorem dX10_pairs_59 : decode cX10_pairs 59 = .ok (.if_icmp .gt 59, 3) := by decide +kernel
theorem dX10_pairs_62 : decode cX10_pairs 62 = .ok (.aload_n 0, 1) := by decide +kernel
theorem dX10_pairs_63 : decode cX10_pairs 63 = .ok (.iload_n 1, 1) := by decide +kernel
theorem dX10_pairs_64 : decode cX10_pairs 64 = .ok (.aload_n 0, 1) := by decide +kernel
theorem dX10_pairs_65 : decode cX10_pairs 65 = .ok (.iload_n 1, 1) := by decide +kernel
theorem dX10_pairs_66 : decode cX10_pairs 66 = .ok (.iload 7, 2) := by decide +kernel
theorem dX10_pairs_68 : decode cX10_pairs 68 = .ok (.invokevirtual 117, 3) := by decide +kernel
theorem dX10_pairs_71 : decode cX10_pairs 71 = .ok (.iload_n 2, 1) := by decide +kernel
theorem dX10_pairs_72 : decode cX10_pairs 72 = .ok (.invokevirtual 222, 3) := by decide +kernel
theorem dX10_pairs_75 : decode cX10_pairs 75 = .ok (.ifCond .ne 6, 3) := by decide +kernel
theorem dX10_pairs_78 : decode cX10_pairs 78 = .ok (.goto 34, 3) := by decide +kernel
theorem dX10_pairs_81 : decode cX10_pairs 81 = .ok (.iinc 4 1, 3) := by decide +kernel
theorem dX10_pairs_84 : decode cX10_pairs 84 = .ok (.iload 5, 2) := by decide +kernel
theorem dX10_pairs_86 : decode cX10_pairs 86 = .ok (.ifCond .ge 13, 3) := by decide +kernel
theorem dX10_pairs_89 : decode cX10_pairs 89 = .ok (.aload_n 0, 1) := by decide +kernel
theorem dX10_pairs_90 : decode cX10_pairs 90 = .ok (.iload_n 1, 1) := by decide +kernel
theorem dX10_pairs_91 : decode cX10_pairs 91 = .ok (.iload 7, 2) := by decide +kernel
theorem dX10_pairs_93 : decode cX10_pairs 93 = .ok (.invokevirtual 117, 3) := by decide +kernel
theorem dX10_pairs_96 : decode cX10_pairs 96 = .ok (.goto 5, 3) := by decide +kernel
theorem dX10_pairs_99 : decode cX10_pairs 99 = .ok (.iload 5, 2) := by decide +kernel
theorem dX10_pairs_101 : decode cX10_pairs 101 = .ok (.istore 5, 2) := by decide +kernel
theorem dX10_pairs_103 : decode cX10_pairs 103 = .ok (.aload_n 0, 1) := by decide +kernel
theorem dX10_pairs_104 : decode cX10_pairs 104 = .ok (.iload_n 1, 1) := by decide +kernel
theorem dX10_pairs_105 : decode cX10_pairs 105 = .ok (.iload 7, 2) := by decide +kernel
theorem dX10_pairs_107 : decode cX10_pairs 107 = .ok (.invokevirtual 117, 3) := by decide +kernel
theorem dX10_pairs_110 : decode cX10_pairs 110 = .ok (.istore 6, 2) := by decide +kernel
theorem dX10_pairs_112 : decode cX10_pairs 112 = .ok (.iinc 7 1, 3) := by decide +kernel
theorem dX10_pairs_115 : decode cX10_pairs 115 = .ok (.goto (-62), 3) := by decide +kernel
theorem dX10_pairs_118 : decode cX10_pairs 118 = .ok (.iload_n 3, 1) := by decide +kernel
theorem dX10_pairs_119 : decode cX10_pairs 119 = .ok (.ifCond .ne 6, 3) := by decide +kernel
theorem dX10_pairs_122 : decode cX10_pairs 122 = .ok (.iload 4, 2) := by decide +kernel
theorem dX10_pairs_124 : decode cX10_pairs 124 = .ok (.ireturn, 1) := by decide +kernel
theorem dX10_pairs_125 : decode cX10_pairs 125 = .ok (.iload 4, 2) := by decide +kernel
theorem dX10_pairs_127 : decode cX10_pairs 127 = .ok (.ifCond .ne 11, 3) := by decide +kernel
theorem dX10_pairs_130 : decode cX10_pairs 130 = .ok (.aload_n 0, 1) := by decide +kernel
theorem dX10_pairs_131 : decode cX10_pairs 131 = .ok (.iconst 5, 1) := by decide +kernel
theorem dX10_pairs_132 : decode cX10_pairs 132 = .ok (.invokevirtual 166, 3) := by decide +kernel
theorem dX10_pairs_135 : decode cX10_pairs 135 = .ok (.goto 15, 3) := by decide +kernel
theorem dX10_pairs_138 : decode cX10_pairs 138 = .ok (.iload_n 3, 1) := by decide +kernel
theorem dX10_pairs_139 : decode cX10_pairs 139 = .ok (.iconst 1, 1) := by decide +kernel
theorem dX10_pairs_140 : decode cX10_pairs 140 = .ok (.if_icmp .ne 8, 3) := by decide +kernel
theorem dX10_pairs_143 : decode cX10_pairs 143 = .ok (.iload 5, 2) := by decide +kernel
theorem dX10_pairs_145 : decode cX10_pairs 145 = .ok (.goto 5, 3) := by decide +kernel
theorem dX10_pairs_148 : decode cX10_pairs 148 = .ok (.iload 6, 2) := by decide +kernel
theorem dX10_pairs_150 : decode cX10_pairs 150 = .ok (.ireturn, 1) := by decide +kernel
theorem dX10_isBeyond_0 : decode cX10_isBeyond 0 = .ok (.iload_n 3, 1) := by decide +kernel
theorem dX10_isBeyond_1 : decode cX10_isBeyond 1 = .ok (.ldc 225, 2) := by decide +kernel
theorem dX10_isBeyond_3 : decode cX10_isBeyond 3 = .ok (.if_icmp .gt 18, 3) := by decide +kernel
theorem dX10_isBeyond_6 : decode cX10_isBeyond 6 = .ok (.aload_n 0, 1) := by decide +kernel
theorem dX10_isBeyond_7 : decode cX10_isBeyond 7 = .ok (.iload_n 1, 1) := by decide +kernel
theorem dX10_isBeyond_8 : decode cX10_isBeyond 8 = .ok (.iload_n 2, 1) := by decide +kernel
theorem dX10_isBeyond_9 : decode cX10_isBeyond 9 = .ok (.iload_n 3, 1) := by decide +kernel
theorem dX10_isBeyond_10 : decode cX10_isBeyond 10 = .ok (.iadd, 1) := by decide +kernel
theorem dX10_isBeyond_11 : decode cX10_isBeyond 11 = .ok (.invokevirtual 162, 3) := by decide +kernel
theorem dX10_isBeyond_14 : decode cX10_isBeyond 14 = .ok (.ifCond .eq 7, 3) := by decide +kernel
theorem dX10_isBeyond_17 : decode cX10_isBeyond 17 = .ok (.iconst 1, 1) := by decide +kernel
theorem dX10_isBeyond_18 : decode cX10_isBeyond 18 = .ok (.goto 4, 3) := by decide +kernel
theorem dX10_isBeyond_21 : decode cX10_isBeyond 21 = .ok (.iconst 0, 1) := by decide +kernel
theorem dX10_isBeyond_22 : decode cX10_isBeyond 22 = .ok (.ireturn, 1) := by decide +kernel
theorem dX10_triples_0 : decode cX10_triples 0 = .ok (.aload_n 0, 1) := by decide +kernel
theorem dX10_triples_1 : decode cX10_triples 1 = .ok (.aload_n 0, 1) := by decide +kernel
theorem dX10_triples_2 : decode cX10_triples 2 = .ok (.iload_n 1, 1) := by decide +kernel
theorem dX10_triples_3 : decode cX10_triples 3 = .ok (.iload_n 2, 1) := by decide +kernel
theorem dX10_triples_4 : decode cX10_triples 4 = .ok (.iconst 1, 1) := by decide +kernel
theorem dX10_triples_5 : decode cX10_triples 5 = .ok (.if_icmp .lt 12, 3) := by decide +kernel
theorem dX10_triples_8 : decode cX10_triples 8 = .ok (.iload_n 3, 1) := by decide +kernel
theorem dX10_triples_9 : decode cX10_triples 9 = .ok (.iload_n 2, 1) := by decide +kernel
theorem dX10_triples_10 : decode cX10_triples 10 = .ok (.if_icmp .le 7, 3) := by decide +kernel
theorem dX10_triples_13 : decode cX10_triples 13 = .ok (.iconst 1, 1) := by decide +kernel
theorem dX10_triples_14 : decode cX10_triples 14 = .ok (.goto 4, 3) := by decide +kernel
theorem dX10_triples_17 : decode cX10_triples 17 = .ok (.iconst 0, 1) := by decide +kernel
theorem dX10_triples_18 : decode cX10_triples 18 = .ok (.invokevirtual 190, 3) := by decide +kernel
theorem dX10_triples_21 : decode cX10_triples 21 = .ok (.invokevirtual 140, 3) := by decide +kernel
theorem dX10_triples_24 : decode cX10_triples 24 = .ok (.ifCond .ne 5, 3) := by decide +kernel
theorem dX10_triples_27 : decode cX10_triples 27 = .ok (.iconst (-1), 1) := by decide +kernel
theorem dX10_triples_28 : decode cX10_triples 28 = .ok (.ireturn, 1) := by decide +kernel
theorem dX10_triples_29 : decode cX10_triples 29 = .ok (.aload_n 0, 1) := by decide +kernel
theorem dX10_triples_30 : decode cX10_triples 30 = .ok (.iload_n 1, 1) := by decide +kernel
theorem dX10_triples_31 : decode cX10_triples 31 = .ok (.invokevirtual 120, 3) := by decide +kernel
theorem dX10_triples_34 : decode cX10_triples 34 = .ok (.iconst 0, 1) := by decide +kernel
theorem dX10_triples_35 : decode cX10_triples 35 = .ok (.istore 4, 2) := by decide +kernel
theorem dX10_triples_37 : decode cX10_triples 37 = .ok (.iconst 1, 1) := by decide +kernel
theorem dX10_triples_38 : decode cX10_triples 38 = .ok (.istore 5, 2) := by decide +kernel
theorem dX10_triples_40 : decode cX10_triples 40 = .ok (.iload 5, 2) := by decide +kernel
theorem dX10_triples_42 : decode cX10_triples 42 = .ok (.aload_n 0, 1) := by decide +kernel
theorem dX10_triples_43 : decode cX10_triples 43 = .ok (.getfield 107, 3) := by decide +kernel
theorem dX10_triples_46 : decode cX10_triples 46 = .ok (.if_icmp .gt 51, 3) := by decide +kernel
theorem dX10_triples_49 : decode cX10_triples 49 = .ok (.iload 4, 2) := by decide +kernel
theorem dX10_triples_51 : decode cX10_triples 51 = .ok (.aload_n 0, 1) := by decide +kernel
theorem dX10_triples_52 : decode cX10_triples 52 = .ok (.iload_n 1, 1) := by decide +kernel
theorem dX10_triples_53 : decode cX10_triples 53 = .ok (.aload_n 0, 1) := by decide +kernel
theorem dX10_triples_54 : decode cX10_triples 54 = .ok (.iload_n 1, 1) := by decide +kernel
theorem dX10_triples_55 : decode cX10_triples 55 = .ok (.iload 5, 2) := by decide +kernel
theorem dX10_triples_57 : decode cX10_triples 57 = .ok (.invokevirtual 117, 3) := by decide +kernel
theorem dX10_triples_60 : decode cX10_triples 60 = .ok (.iload_n 2, 1) := by decide +kernel
theorem dX10_triples_61 : decode cX10_triples 61 = .ok (.invokevirtual 222, 3) := by decide +kernel
theorem dX10_triples_64 : decode cX10_triples 64 = .ok (.ifCond .eq 23, 3) := by decide +kernel
theorem dX10_triples_67 : decode cX10_triples 67 = .ok (.aload_n 0, 1) := by decide +kernel
theorem dX10_triples_68 : decode cX10_triples 68 = .ok (.iload_n 1, 1) := by decide +kernel
theorem dX10_triples_69 : decode cX10_triples 69 = .ok (.aload_n 0, 1) := by decide +kernel
theorem dX10_triples_70 : decode cX10_triples 70 = .ok (.iload_n 1, 1) := by decide +kernel
theorem dX10_triples_71 : decode cX10_triples 71 = .ok (.iload 5, 2) := by decide +kernel
theorem dX10_triples_73 : decode cX10_triples 73 = .ok (.invokevirtual 117, 3) := by decide +kernel
theorem dX10_triples_76 : decode cX10_triples 76 = .ok (.iload_n 3, 1) := by decide +kernel
theorem dX10_triples_77 : decode cX10_triples 77 = .ok (.invokevirtual 222, 3) := by decide +kernel
theorem dX10_triples_80 : decode cX10_triples 80 = .ok (.ifCond .eq 7, 3) := by decide +kernel
theorem dX10_triples_83 : decode cX10_triples 83 = .ok (.iconst 1, 1) := by decide +kernel
theorem dX10_triples_84 : decode cX10_triples 84 = .ok (.goto 4, 3) := by decide +kernel
theorem dX10_triples_87 : decode cX10_triples 87 = .ok (.iconst 0, 1) := by decide +kernel
theorem dX10_triples_88 : decode cX10_triples 88 = .ok (.iadd, 1) := by decide +kernel
theorem dX10_triples_89 : decode cX10_triples 89 = .ok (.istore 4, 2) := by decide +kernel
theorem dX10_triples_91 : decode cX10_triples 91 = .ok (.iinc 5 1, 3) := by decide +kernel
theorem dX10_triples_94 : decode cX10_triples 94 = .ok (.goto (-54), 3) := by decide +kernel
theorem dX10_triples_97 : decode cX10_triples 97 = .ok (.iload 4, 2) := by decide +kernel
theorem dX10_triples_99 : decode cX10_triples 99 = .ok (.ireturn, 1) := by decide +kernel
theorem dX10_waysTo_0 : decode cX10_waysTo 0 = .ok (.iconst 0, 1) := by decide +kernel
theorem dX10_waysTo_1 : decode cX10_waysTo 1 = .ok (.istore_n 3, 1) := by decide +kernel
theorem dX10_waysTo_2 : decode cX10_waysTo 2 = .ok (.iconst 1, 1) := by decide +kernel
theorem dX10_waysTo_3 : decode cX10_waysTo 3 = .ok (.istore 4, 2) := by decide +kernel
theorem dX10_waysTo_5 : decode cX10_waysTo 5 = .ok (.iload 4, 2) := by decide +kernel
theorem dX10_waysTo_7 : decode cX10_waysTo 7 = .ok (.aload_n 0, 1) := by decide +kernel
theorem dX10_waysTo_8 : decode cX10_waysTo 8 = .ok (.getfield 107, 3) := by decide +kernel
theorem dX10_waysTo_11 : decode cX10_waysTo 11 = .ok (.if_icmp .gt 52, 3) := by decide +kernel
theorem dX10_waysTo_14 : decode cX10_waysTo 14 = .ok (.ldc2_w 138, 3) := by decide +kernel
theorem dX10_waysTo_17 : decode cX10_waysTo 17 = .ok (.aload_n 0, 1) := by decide +kernel
theorem dX10_waysTo_18 : decode cX10_waysTo 18 = .ok (.iload_n 1, 1) := by decide +kernel
theorem dX10_waysTo_19 : decode cX10_waysTo 19 = .ok (.iload 4, 2) := by decide +kernel
theorem dX10_waysTo_21 : decode cX10_waysTo 21 = .ok (.invokevirtual 117, 3) := by decide +kernel
theorem dX10_waysTo_24 : decode cX10_waysTo 24 = .ok (.i2l, 1) := by decide +kernel
theorem dX10_waysTo_25 : decode cX10_waysTo 25 = .ok (.lmul, 1) := by decide +kernel
theorem dX10_waysTo_26 : decode cX10_waysTo 26 = .ok (.iload_n 2, 1) := by decide +kernel
theorem dX10_waysTo_27 : decode cX10_waysTo 27 = .ok (.i2l, 1) := by decide +kernel
theorem dX10_waysTo_28 : decode cX10_waysTo 28 = .ok (.lcmp, 1) := by decide +kernel
theorem dX10_waysTo_29 : decode cX10_waysTo 29 = .ok (.ifCond .gt 34, 3) := by decide +kernel
theorem dX10_waysTo_32 : decode cX10_waysTo 32 = .ok (.iload_n 3, 1) := by decide +kernel
theorem dX10_waysTo_33 : decode cX10_waysTo 33 = .ok (.aload_n 0, 1) := by decide +kernel
theorem dX10_waysTo_34 : decode cX10_waysTo 34 = .ok (.iload_n 1, 1) := by decide +kernel
theorem dX10_waysTo_35 : decode cX10_waysTo 35 = .ok (.iload_n 2, 1) := by decide +kernel
theorem dX10_waysTo_36 : decode cX10_waysTo 36 = .ok (.aload_n 0, 1) := by decide +kernel
theorem dX10_waysTo_37 : decode cX10_waysTo 37 = .ok (.iload_n 1, 1) := by decide +kernel
theorem dX10_waysTo_38 : decode cX10_waysTo 38 = .ok (.iload 4, 2) := by decide +kernel
theorem dX10_waysTo_40 : decode cX10_waysTo 40 = .ok (.invokevirtual 117, 3) := by decide +kernel
theorem dX10_waysTo_43 : decode cX10_waysTo 43 = .ok (.isub, 1) := by decide +kernel
theorem dX10_waysTo_44 : decode cX10_waysTo 44 = .ok (.invokevirtual 162, 3) := by decide +kernel
theorem dX10_waysTo_47 : decode cX10_waysTo 47 = .ok (.ifCond .eq 7, 3) := by decide +kernel
theorem dX10_waysTo_50 : decode cX10_waysTo 50 = .ok (.iconst 1, 1) := by decide +kernel
theorem dX10_waysTo_51 : decode cX10_waysTo 51 = .ok (.goto 4, 3) := by decide +kernel
theorem dX10_waysTo_54 : decode cX10_waysTo 54 = .ok (.iconst 0, 1) := by decide +kernel
theorem dX10_waysTo_55 : decode cX10_waysTo 55 = .ok (.iadd, 1) := by decide +kernel
theorem dX10_waysTo_56 : decode cX10_waysTo 56 = .ok (.istore_n 3, 1) := by decide +kernel
theorem dX10_waysTo_57 : decode cX10_waysTo 57 = .ok (.iinc 4 1, 3) := by decide +kernel
theorem dX10_waysTo_60 : decode cX10_waysTo 60 = .ok (.goto (-55), 3) := by decide +kernel
theorem dX10_waysTo_63 : decode cX10_waysTo 63 = .ok (.iload_n 3, 1) := by decide +kernel
theorem dX10_waysTo_64 : decode cX10_waysTo 64 = .ok (.ireturn, 1) := by decide +kernel
theorem dX10_sums_0 : decode cX10_sums 0 = .ok (.aload_n 0, 1) := by decide +kernel
theorem dX10_sums_1 : decode cX10_sums 1 = .ok (.aload_n 0, 1) := by decide +kernel
theorem dX10_sums_2 : decode cX10_sums 2 = .ok (.iload_n 1, 1) := by decide +kernel
theorem dX10_sums_3 : decode cX10_sums 3 = .ok (.invokevirtual 152, 3) := by decide +kernel
theorem dX10_sums_6 : decode cX10_sums 6 = .ok (.ifCond .eq 7, 3) := by decide +kernel
theorem dX10_sums_9 : decode cX10_sums 9 = .ok (.iconst 0, 1) := by decide +kernel
theorem dX10_sums_10 : decode cX10_sums 10 = .ok (.goto 4, 3) := by decide +kernel
theorem dX10_sums_13 : decode cX10_sums 13 = .ok (.iconst 2, 1) := by decide +kernel
theorem dX10_sums_14 : decode cX10_sums 14 = .ok (.invokevirtual 140, 3) := by decide +kernel
theorem dX10_sums_17 : decode cX10_sums 17 = .ok (.ifCond .ne 5, 3) := by decide +kernel
theorem dX10_sums_20 : decode cX10_sums 20 = .ok (.iconst (-1), 1) := by decide +kernel
theorem dX10_sums_21 : decode cX10_sums 21 = .ok (.ireturn, 1) := by decide +kernel
theorem dX10_sums_22 : decode cX10_sums 22 = .ok (.aload_n 0, 1) := by decide +kernel
theorem dX10_sums_23 : decode cX10_sums 23 = .ok (.iload_n 1, 1) := by decide +kernel
theorem dX10_sums_24 : decode cX10_sums 24 = .ok (.invokevirtual 120, 3) := by decide +kernel
theorem dX10_sums_27 : decode cX10_sums 27 = .ok (.aload_n 0, 1) := by decide +kernel
theorem dX10_sums_28 : decode cX10_sums 28 = .ok (.iload_n 1, 1) := by decide +kernel
theorem dX10_sums_29 : decode cX10_sums 29 = .ok (.iload_n 2, 1) := by decide +kernel
theorem dX10_sums_30 : decode cX10_sums 30 = .ok (.invokevirtual 226, 3) := by decide +kernel
theorem dX10_sums_33 : decode cX10_sums 33 = .ok (.ireturn, 1) := by decide +kernel
theorem dX10_misses_0 : decode cX10_misses 0 = .ok (.aload_n 0, 1) := by decide +kernel
theorem dX10_misses_1 : decode cX10_misses 1 = .ok (.aload_n 0, 1) := by decide +kernel
theorem dX10_misses_2 : decode cX10_misses 2 = .ok (.iload_n 1, 1) := by decide +kernel
theorem dX10_misses_3 : decode cX10_misses 3 = .ok (.iload_n 2, 1) := by decide +kernel
theorem dX10_misses_4 : decode cX10_misses 4 = .ok (.i2l, 1) := by decide +kernel
theorem dX10_misses_5 : decode cX10_misses 5 = .ok (.lconst 1, 1) := by decide +kernel
theorem dX10_misses_6 : decode cX10_misses 6 = .ok (.ldc2_w 178, 3) := by decide +kernel
theorem dX10_misses_9 : decode cX10_misses 9 = .ok (.invokestatic 93, 3) := by decide +kernel
theorem dX10_misses_12 : decode cX10_misses 12 = .ok (.invokevirtual 190, 3) := by decide +kernel
theorem dX10_misses_15 : decode cX10_misses 15 = .ok (.invokevirtual 140, 3) := by decide +kernel
theorem dX10_misses_18 : decode cX10_misses 18 = .ok (.ifCond .ne 5, 3) := by decide +kernel
theorem dX10_misses_21 : decode cX10_misses 21 = .ok (.iconst (-1), 1) := by decide +kernel
theorem dX10_misses_22 : decode cX10_misses 22 = .ok (.ireturn, 1) := by decide +kernel
theorem dX10_misses_23 : decode cX10_misses 23 = .ok (.aload_n 0, 1) := by decide +kernel
theorem dX10_misses_24 : decode cX10_misses 24 = .ok (.iload_n 1, 1) := by decide +kernel
theorem dX10_misses_25 : decode cX10_misses 25 = .ok (.invokevirtual 120, 3) := by decide +kernel
theorem dX10_misses_28 : decode cX10_misses 28 = .ok (.iconst 2, 1) := by decide +kernel
theorem dX10_misses_29 : decode cX10_misses 29 = .ok (.aload_n 0, 1) := by decide +kernel
theorem dX10_misses_30 : decode cX10_misses 30 = .ok (.iload_n 1, 1) := by decide +kernel
theorem dX10_misses_31 : decode cX10_misses 31 = .ok (.iconst 1, 1) := by decide +kernel
theorem dX10_misses_32 : decode cX10_misses 32 = .ok (.invokevirtual 117, 3) := by decide +kernel
theorem dX10_misses_35 : decode cX10_misses 35 = .ok (.imul, 1) := by decide +kernel
theorem dX10_misses_36 : decode cX10_misses 36 = .ok (.istore_n 3, 1) := by decide +kernel
theorem dX10_misses_37 : decode cX10_misses 37 = .ok (.iload_n 3, 1) := by decide +kernel
theorem dX10_misses_38 : decode cX10_misses 38 = .ok (.iconst 2, 1) := by decide +kernel
theorem dX10_misses_39 : decode cX10_misses 39 = .ok (.aload_n 0, 1) := by decide +kernel
theorem dX10_misses_40 : decode cX10_misses 40 = .ok (.iload_n 1, 1) := by decide +kernel
theorem dX10_misses_41 : decode cX10_misses 41 = .ok (.aload_n 0, 1) := by decide +kernel
theorem dX10_misses_42 : decode cX10_misses 42 = .ok (.getfield 107, 3) := by decide +kernel
theorem dX10_misses_45 : decode cX10_misses 45 = .ok (.invokevirtual 117, 3) := by decide +kernel
theorem dX10_misses_48 : decode cX10_misses 48 = .ok (.imul, 1) := by decide +kernel
theorem dX10_misses_49 : decode cX10_misses 49 = .ok (.if_icmp .gt 21, 3) := by decide +kernel
theorem dX10_misses_52 : decode cX10_misses 52 = .ok (.aload_n 0, 1) := by decide +kernel
theorem dX10_misses_53 : decode cX10_misses 53 = .ok (.iload_n 1, 1) := by decide +kernel
theorem dX10_misses_54 : decode cX10_misses 54 = .ok (.iload_n 3, 1) := by decide +kernel
theorem dX10_misses_55 : decode cX10_misses 55 = .ok (.invokevirtual 226, 3) := by decide +kernel
theorem dX10_misses_58 : decode cX10_misses 58 = .ok (.ifCond .ne 5, 3) := by decide +kernel
theorem dX10_misses_61 : decode cX10_misses 61 = .ok (.iload_n 3, 1) := by decide +kernel
theorem dX10_misses_62 : decode cX10_misses 62 = .ok (.ireturn, 1) := by decide +kernel
theorem dX10_misses_63 : decode cX10_misses 63 = .ok (.iload_n 3, 1) := by decide +kernel
theorem dX10_misses_64 : decode cX10_misses 64 = .ok (.iload_n 2, 1) := by decide +kernel
theorem dX10_misses_65 : decode cX10_misses 65 = .ok (.iadd, 1) := by decide +kernel
theorem dX10_misses_66 : decode cX10_misses 66 = .ok (.istore_n 3, 1) := by decide +kernel
theorem dX10_misses_67 : decode cX10_misses 67 = .ok (.goto (-30), 3) := by decide +kernel
theorem dX10_misses_70 : decode cX10_misses 70 = .ok (.aload_n 0, 1) := by decide +kernel
theorem dX10_misses_71 : decode cX10_misses 71 = .ok (.iconst 5, 1) := by decide +kernel
theorem dX10_misses_72 : decode cX10_misses 72 = .ok (.invokevirtual 166, 3) := by decide +kernel
theorem dX10_misses_75 : decode cX10_misses 75 = .ok (.ireturn, 1) := by decide +kernel
theorem dX10_runFrom_0 : decode cX10_runFrom 0 = .ok (.iload_n 2, 1) := by decide +kernel
theorem dX10_runFrom_1 : decode cX10_runFrom 1 = .ok (.istore_n 3, 1) := by decide +kernel
theorem dX10_runFrom_2 : decode cX10_runFrom 2 = .ok (.iload_n 3, 1) := by decide +kernel
theorem dX10_runFrom_3 : decode cX10_runFrom 3 = .ok (.aload_n 0, 1) := by decide +kernel
theorem dX10_runFrom_4 : decode cX10_runFrom 4 = .ok (.getfield 107, 3) := by decide +kernel
theorem dX10_runFrom_7 : decode cX10_runFrom 7 = .ok (.if_icmp .ge 24, 3) := by decide +kernel
theorem dX10_runFrom_10 : decode cX10_runFrom 10 = .ok (.aload_n 0, 1) := by decide +kernel
theorem dX10_runFrom_11 : decode cX10_runFrom 11 = .ok (.iload_n 1, 1) := by decide +kernel
theorem dX10_runFrom_12 : decode cX10_runFrom 12 = .ok (.iload_n 3, 1) := by decide +kernel
theorem dX10_runFrom_13 : decode cX10_runFrom 13 = .ok (.invokevirtual 209, 3) := by decide +kernel
theorem dX10_runFrom_16 : decode cX10_runFrom 16 = .ok (.aload_n 0, 1) := by decide +kernel
theorem dX10_runFrom_17 : decode cX10_runFrom 17 = .ok (.iload_n 1, 1) := by decide +kernel
theorem dX10_runFrom_18 : decode cX10_runFrom 18 = .ok (.iconst 2, 1) := by decide +kernel
theorem dX10_runFrom_19 : decode cX10_runFrom 19 = .ok (.invokevirtual 97, 3) := by decide +kernel
theorem dX10_runFrom_22 : decode cX10_runFrom 22 = .ok (.if_icmp .ne 9, 3) := by decide +kernel
theorem dX10_runFrom_25 : decode cX10_runFrom 25 = .ok (.iinc 3 1, 3) := by decide +kernel
theorem dX10_runFrom_28 : decode cX10_runFrom 28 = .ok (.goto (-26), 3) := by decide +kernel
theorem dX10_runFrom_31 : decode cX10_runFrom 31 = .ok (.iload_n 3, 1) := by decide +kernel
theorem dX10_runFrom_32 : decode cX10_runFrom 32 = .ok (.iload_n 2, 1) := by decide +kernel
theorem dX10_runFrom_33 : decode cX10_runFrom 33 = .ok (.isub, 1) := by decide +kernel
theorem dX10_runFrom_34 : decode cX10_runFrom 34 = .ok (.iconst 1, 1) := by decide +kernel
theorem dX10_runFrom_35 : decode cX10_runFrom 35 = .ok (.iadd, 1) := by decide +kernel
theorem dX10_runFrom_36 : decode cX10_runFrom 36 = .ok (.ireturn, 1) := by decide +kernel
theorem dX10_run_0 : decode cX10_run 0 = .ok (.aload_n 0, 1) := by decide +kernel
theorem dX10_run_1 : decode cX10_run 1 = .ok (.iload_n 2, 1) := by decide +kernel
theorem dX10_run_2 : decode cX10_run 2 = .ok (.i2l, 1) := by decide +kernel
theorem dX10_run_3 : decode cX10_run 3 = .ok (.lconst 0, 1) := by decide +kernel
theorem dX10_run_4 : decode cX10_run 4 = .ok (.lconst 1, 1) := by decide +kernel
theorem dX10_run_5 : decode cX10_run 5 = .ok (.invokestatic 93, 3) := by decide +kernel
theorem dX10_run_8 : decode cX10_run 8 = .ok (.ifCond .ne 7, 3) := by decide +kernel
theorem dX10_run_11 : decode cX10_run 11 = .ok (.iconst 1, 1) := by decide +kernel
theorem dX10_run_12 : decode cX10_run 12 = .ok (.goto 16, 3) := by decide +kernel
theorem dX10_run_15 : decode cX10_run 15 = .ok (.aload_n 0, 1) := by decide +kernel
theorem dX10_run_16 : decode cX10_run 16 = .ok (.iload_n 1, 1) := by decide +kernel
theorem dX10_run_17 : decode cX10_run 17 = .ok (.invokevirtual 152, 3) := by decide +kernel
theorem dX10_run_20 : decode cX10_run 20 = .ok (.ifCond .eq 7, 3) := by decide +kernel
theorem dX10_run_23 : decode cX10_run 23 = .ok (.iconst 0, 1) := by decide +kernel
theorem dX10_run_24 : decode cX10_run 24 = .ok (.goto 4, 3) := by decide +kernel
theorem dX10_run_27 : decode cX10_run 27 = .ok (.iconst 2, 1) := by decide +kernel
theorem dX10_run_28 : decode cX10_run 28 = .ok (.invokevirtual 140, 3) := by decide +kernel
theorem dX10_run_31 : decode cX10_run 31 = .ok (.ifCond .ne 5, 3) := by decide +kernel
theorem dX10_run_34 : decode cX10_run 34 = .ok (.iconst (-1), 1) := by decide +kernel
theorem dX10_run_35 : decode cX10_run 35 = .ok (.ireturn, 1) := by decide +kernel
theorem dX10_run_36 : decode cX10_run 36 = .ok (.aload_n 0, 1) := by decide +kernel
theorem dX10_run_37 : decode cX10_run 37 = .ok (.iload_n 1, 1) := by decide +kernel
theorem dX10_run_38 : decode cX10_run 38 = .ok (.invokevirtual 120, 3) := by decide +kernel
theorem dX10_run_41 : decode cX10_run 41 = .ok (.iconst 1, 1) := by decide +kernel
theorem dX10_run_42 : decode cX10_run 42 = .ok (.istore_n 3, 1) := by decide +kernel
theorem dX10_run_43 : decode cX10_run 43 = .ok (.iconst 0, 1) := by decide +kernel
theorem dX10_run_44 : decode cX10_run 44 = .ok (.istore 4, 2) := by decide +kernel
theorem dX10_run_46 : decode cX10_run 46 = .ok (.iconst 1, 1) := by decide +kernel
theorem dX10_run_47 : decode cX10_run 47 = .ok (.istore 5, 2) := by decide +kernel
theorem dX10_run_49 : decode cX10_run 49 = .ok (.iload 5, 2) := by decide +kernel
theorem dX10_run_51 : decode cX10_run 51 = .ok (.aload_n 0, 1) := by decide +kernel
theorem dX10_run_52 : decode cX10_run 52 = .ok (.getfield 107, 3) := by decide +kernel
theorem dX10_run_55 : decode cX10_run 55 = .ok (.if_icmp .gt 35, 3) := by decide +kernel
theorem dX10_run_58 : decode cX10_run 58 = .ok (.aload_n 0, 1) := by decide +kernel
theorem dX10_run_59 : decode cX10_run 59 = .ok (.iload_n 1, 1) := by decide +kernel
theorem dX10_run_60 : decode cX10_run 60 = .ok (.iload 5, 2) := by decide +kernel
theorem dX10_run_62 : decode cX10_run 62 = .ok (.invokevirtual 229, 3) := by decide +kernel
theorem dX10_run_65 : decode cX10_run 65 = .ok (.istore 6, 2) := by decide +kernel
theorem dX10_run_67 : decode cX10_run 67 = .ok (.iload 6, 2) := by decide +kernel
theorem dX10_run_69 : decode cX10_run 69 = .ok (.iload 4, 2) := by decide +kernel
theorem dX10_run_71 : decode cX10_run 71 = .ok (.if_icmp .gt 6, 3) := by decide +kernel
theorem dX10_run_74 : decode cX10_run 74 = .ok (.goto 10, 3) := by decide +kernel
theorem dX10_run_77 : decode cX10_run 77 = .ok (.iload 6, 2) := by decide +kernel
theorem dX10_run_79 : decode cX10_run 79 = .ok (.istore 4, 2) := by decide +kernel
theorem dX10_run_81 : decode cX10_run 81 = .ok (.iload 5, 2) := by decide +kernel
theorem dX10_run_83 : decode cX10_run 83 = .ok (.istore_n 3, 1) := by decide +kernel
theorem dX10_run_84 : decode cX10_run 84 = .ok (.iinc 5 1, 3) := by decide +kernel
theorem dX10_run_87 : decode cX10_run 87 = .ok (.goto (-38), 3) := by decide +kernel
theorem dX10_run_90 : decode cX10_run 90 = .ok (.iload_n 2, 1) := by decide +kernel
theorem dX10_run_91 : decode cX10_run 91 = .ok (.ifCond .ne 8, 3) := by decide +kernel
theorem dX10_run_94 : decode cX10_run 94 = .ok (.iload 4, 2) := by decide +kernel
theorem dX10_run_96 : decode cX10_run 96 = .ok (.goto 4, 3) := by decide +kernel
theorem dX10_run_99 : decode cX10_run 99 = .ok (.iload_n 3, 1) := by decide +kernel
theorem dX10_run_100 : decode cX10_run 100 = .ok (.ireturn, 1) := by decide +kernel
theorem dX10_stepsFrom_0 : decode cX10_stepsFrom 0 = .ok (.iconst 1, 1) := by decide +kernel
theorem dX10_stepsFrom_1 : decode cX10_stepsFrom 1 = .ok (.istore 4, 2) := by decide +kernel
theorem dX10_stepsFrom_3 : decode cX10_stepsFrom 3 = .ok (.iload_n 2, 1) := by decide +kernel
theorem dX10_stepsFrom_4 : decode cX10_stepsFrom 4 = .ok (.istore 5, 2) := by decide +kernel
theorem dX10_stepsFrom_6 : decode cX10_stepsFrom 6 = .ok (.aload_n 0, 1) := by decide +kernel
theorem dX10_stepsFrom_7 : decode cX10_stepsFrom 7 = .ok (.iload_n 1, 1) := by decide +kernel
theorem dX10_stepsFrom_8 : decode cX10_stepsFrom 8 = .ok (.iload 5, 2) := by decide +kernel
theorem dX10_stepsFrom_10 : decode cX10_stepsFrom 10 = .ok (.iload_n 3, 1) := by decide +kernel
theorem dX10_stepsFrom_11 : decode cX10_stepsFrom 11 = .ok (.invokevirtual 222, 3) := by decide +kernel
theorem dX10_stepsFrom_14 : decode cX10_stepsFrom 14 = .ok (.ifCond .eq 15, 3) := by decide +kernel
theorem dX10_stepsFrom_17 : decode cX10_stepsFrom 17 = .ok (.iload 5, 2) := by decide +kernel
theorem dX10_stepsFrom_19 : decode cX10_stepsFrom 19 = .ok (.iload_n 3, 1) := by decide +kernel
theorem dX10_stepsFrom_20 : decode cX10_stepsFrom 20 = .ok (.iadd, 1) := by decide +kernel
theorem dX10_stepsFrom_21 : decode cX10_stepsFrom 21 = .ok (.istore 5, 2) := by decide +kernel
theorem dX10_stepsFrom_23 : decode cX10_stepsFrom 23 = .ok (.iinc 4 1, 3) := by decide +kernel
theorem dX10_stepsFrom_26 : decode cX10_stepsFrom 26 = .ok (.goto (-20), 3) := by decide +kernel
theorem dX10_stepsFrom_29 : decode cX10_stepsFrom 29 = .ok (.iload 4, 2) := by decide +kernel
theorem dX10_stepsFrom_31 : decode cX10_stepsFrom 31 = .ok (.ireturn, 1) := by decide +kernel
theorem dX10_progression_0 : decode cX10_progression 0 = .ok (.aload_n 0, 1) := by decide +kernel
theorem dX10_progression_1 : decode cX10_progression 1 = .ok (.aload_n 0, 1) := by decide +kernel
theorem dX10_progression_2 : decode cX10_progression 2 = .ok (.iload_n 1, 1) := by decide +kernel
theorem dX10_progression_3 : decode cX10_progression 3 = .ok (.iload_n 2, 1) := by decide +kernel
theorem dX10_progression_4 : decode cX10_progression 4 = .ok (.iconst 1, 1) := by decide +kernel
theorem dX10_progression_5 : decode cX10_progression 5 = .ok (.if_icmp .lt 17, 3) := by decide +kernel
theorem dX10_progression_8 : decode cX10_progression 8 = .ok (.iload_n 3, 1) := by decide +kernel
theorem dX10_progression_9 : decode cX10_progression 9 = .ok (.i2l, 1) := by decide +kernel
theorem dX10_progression_10 : decode cX10_progression 10 = .ok (.lconst 0, 1) := by decide +kernel
theorem dX10_progression_11 : decode cX10_progression 11 = .ok (.lconst 1, 1) := by decide +kernel
theorem dX10_progression_12 : decode cX10_progression 12 = .ok (.invokestatic 93, 3) := by decide +kernel
theorem dX10_progression_15 : decode cX10_progression 15 = .ok (.ifCond .eq 7, 3) := by decide +kernel
theorem dX10_progression_18 : decode cX10_progression 18 = .ok (.iconst 1, 1) := by decide +kernel
theorem dX10_progression_19 : decode cX10_progression 19 = .ok (.goto 4, 3) := by decide +kernel
theorem dX10_progression_22 : decode cX10_progression 22 = .ok (.iconst 0, 1) := by decide +kernel
theorem dX10_progression_23 : decode cX10_progression 23 = .ok (.invokevirtual 190, 3) := by decide +kernel
theorem dX10_progression_26 : decode cX10_progression 26 = .ok (.invokevirtual 140, 3) := by decide +kernel
theorem dX10_progression_29 : decode cX10_progression 29 = .ok (.ifCond .ne 5, 3) := by decide +kernel
theorem dX10_progression_32 : decode cX10_progression 32 = .ok (.iconst (-1), 1) := by decide +kernel
theorem dX10_progression_33 : decode cX10_progression 33 = .ok (.ireturn, 1) := by decide +kernel
theorem dX10_progression_34 : decode cX10_progression 34 = .ok (.aload_n 0, 1) := by decide +kernel
theorem dX10_progression_35 : decode cX10_progression 35 = .ok (.iload_n 1, 1) := by decide +kernel
theorem dX10_progression_36 : decode cX10_progression 36 = .ok (.invokevirtual 120, 3) := by decide +kernel
theorem dX10_progression_39 : decode cX10_progression 39 = .ok (.iconst 0, 1) := by decide +kernel
theorem dX10_progression_40 : decode cX10_progression 40 = .ok (.istore 4, 2) := by decide +kernel
theorem dX10_progression_42 : decode cX10_progression 42 = .ok (.iconst 0, 1) := by decide +kernel
theorem dX10_progression_43 : decode cX10_progression 43 = .ok (.istore 5, 2) := by decide +kernel
theorem dX10_progression_45 : decode cX10_progression 45 = .ok (.iconst 1, 1) := by decide +kernel
theorem dX10_progression_46 : decode cX10_progression 46 = .ok (.istore 6, 2) := by decide +kernel
theorem dX10_progression_48 : decode cX10_progression 48 = .ok (.iload 6, 2) := by decide +kernel
theorem dX10_progression_50 : decode cX10_progression 50 = .ok (.aload_n 0, 1) := by decide +kernel
theorem dX10_progression_51 : decode cX10_progression 51 = .ok (.getfield 107, 3) := by decide +kernel
theorem dX10_progression_54 : decode cX10_progression 54 = .ok (.if_icmp .gt 47, 3) := by decide +kernel
theorem dX10_progression_57 : decode cX10_progression 57 = .ok (.aload_n 0, 1) := by decide +kernel
theorem dX10_progression_58 : decode cX10_progression 58 = .ok (.iload_n 1, 1) := by decide +kernel
theorem dX10_progression_59 : decode cX10_progression 59 = .ok (.aload_n 0, 1) := by decide +kernel
theorem dX10_progression_60 : decode cX10_progression 60 = .ok (.iload_n 1, 1) := by decide +kernel
theorem dX10_progression_61 : decode cX10_progression 61 = .ok (.iload 6, 2) := by decide +kernel
theorem dX10_progression_63 : decode cX10_progression 63 = .ok (.invokevirtual 117, 3) := by decide +kernel
theorem dX10_progression_66 : decode cX10_progression 66 = .ok (.iload_n 2, 1) := by decide +kernel
theorem dX10_progression_67 : decode cX10_progression 67 = .ok (.invokevirtual 232, 3) := by decide +kernel
theorem dX10_progression_70 : decode cX10_progression 70 = .ok (.istore 7, 2) := by decide +kernel
theorem dX10_progression_72 : decode cX10_progression 72 = .ok (.iload 7, 2) := by decide +kernel
theorem dX10_progression_74 : decode cX10_progression 74 = .ok (.iload 5, 2) := by decide +kernel
theorem dX10_progression_76 : decode cX10_progression 76 = .ok (.if_icmp .gt 6, 3) := by decide +kernel
theorem dX10_progression_79 : decode cX10_progression 79 = .ok (.goto 16, 3) := by decide +kernel
theorem dX10_progression_82 : decode cX10_progression 82 = .ok (.iload 7, 2) := by decide +kernel
theorem dX10_progression_84 : decode cX10_progression 84 = .ok (.istore 5, 2) := by decide +kernel
theorem dX10_progression_86 : decode cX10_progression 86 = .ok (.aload_n 0, 1) := by decide +kernel
theorem dX10_progression_87 : decode cX10_progression 87 = .ok (.iload_n 1, 1) := by decide +kernel
theorem dX10_progression_88 : decode cX10_progression 88 = .ok (.iload 6, 2) := by decide +kernel
theorem dX10_progression_90 : decode cX10_progression 90 = .ok (.invokevirtual 117, 3) := by decide +kernel
theorem dX10_progression_93 : decode cX10_progression 93 = .ok (.istore 4, 2) := by decide +kernel
theorem dX10_progression_95 : decode cX10_progression 95 = .ok (.iinc 6 1, 3) := by decide +kernel
theorem dX10_progression_98 : decode cX10_progression 98 = .ok (.goto (-50), 3) := by decide +kernel
theorem dX10_progression_101 : decode cX10_progression 101 = .ok (.iload_n 3, 1) := by decide +kernel
theorem dX10_progression_102 : decode cX10_progression 102 = .ok (.ifCond .ne 8, 3) := by decide +kernel
theorem dX10_progression_105 : decode cX10_progression 105 = .ok (.iload 5, 2) := by decide +kernel
theorem dX10_progression_107 : decode cX10_progression 107 = .ok (.goto 5, 3) := by decide +kernel
theorem dX10_progression_110 : decode cX10_progression 110 = .ok (.iload 4, 2) := by decide +kernel
theorem dX10_progression_112 : decode cX10_progression 112 = .ok (.ireturn, 1) := by decide +kernel
theorem dX10_restMany_0 : decode cX10_restMany 0 = .ok (.iconst 0, 1) := by decide +kernel
theorem dX10_restMany_1 : decode cX10_restMany 1 = .ok (.istore 4, 2) := by decide +kernel
theorem dX10_restMany_3 : decode cX10_restMany 3 = .ok (.iconst 1, 1) := by decide +kernel
theorem dX10_restMany_4 : decode cX10_restMany 4 = .ok (.istore 5, 2) := by decide +kernel
theorem dX10_restMany_6 : decode cX10_restMany 6 = .ok (.iload 5, 2) := by decide +kernel
theorem dX10_restMany_8 : decode cX10_restMany 8 = .ok (.aload_n 0, 1) := by decide +kernel
theorem dX10_restMany_9 : decode cX10_restMany 9 = .ok (.getfield 107, 3) := by decide +kernel
theorem dX10_restMany_12 : decode cX10_restMany 12 = .ok (.if_icmp .gt 32, 3) := by decide +kernel
theorem dX10_restMany_15 : decode cX10_restMany 15 = .ok (.iload 4, 2) := by decide +kernel
theorem dX10_restMany_17 : decode cX10_restMany 17 = .ok (.aload_n 0, 1) := by decide +kernel
theorem dX10_restMany_18 : decode cX10_restMany 18 = .ok (.iload_n 1, 1) := by decide +kernel
theorem dX10_restMany_19 : decode cX10_restMany 19 = .ok (.iload 5, 2) := by decide +kernel
theorem dX10_restMany_21 : decode cX10_restMany 21 = .ok (.invokevirtual 117, 3) := by decide +kernel
theorem dX10_restMany_24 : decode cX10_restMany 24 = .ok (.iload_n 2, 1) := by decide +kernel
theorem dX10_restMany_25 : decode cX10_restMany 25 = .ok (.irem, 1) := by decide +kernel
theorem dX10_restMany_26 : decode cX10_restMany 26 = .ok (.iload_n 3, 1) := by decide +kernel
theorem dX10_restMany_27 : decode cX10_restMany 27 = .ok (.if_icmp .ne 7, 3) := by decide +kernel
theorem dX10_restMany_30 : decode cX10_restMany 30 = .ok (.iconst 1, 1) := by decide +kernel
theorem dX10_restMany_31 : decode cX10_restMany 31 = .ok (.goto 4, 3) := by decide +kernel
theorem dX10_restMany_34 : decode cX10_restMany 34 = .ok (.iconst 0, 1) := by decide +kernel
theorem dX10_restMany_35 : decode cX10_restMany 35 = .ok (.iadd, 1) := by decide +kernel
theorem dX10_restMany_36 : decode cX10_restMany 36 = .ok (.istore 4, 2) := by decide +kernel
theorem dX10_restMany_38 : decode cX10_restMany 38 = .ok (.iinc 5 1, 3) := by decide +kernel
theorem dX10_restMany_41 : decode cX10_restMany 41 = .ok (.goto (-35), 3) := by decide +kernel
theorem dX10_restMany_44 : decode cX10_restMany 44 = .ok (.iload 4, 2) := by decide +kernel
theorem dX10_restMany_46 : decode cX10_restMany 46 = .ok (.ireturn, 1) := by decide +kernel
theorem dX10_rests_0 : decode cX10_rests 0 = .ok (.aload_n 0, 1) := by decide +kernel
theorem dX10_rests_1 : decode cX10_rests 1 = .ok (.aload_n 0, 1) := by decide +kernel
theorem dX10_rests_2 : decode cX10_rests 2 = .ok (.iload_n 1, 1) := by decide +kernel
theorem dX10_rests_3 : decode cX10_rests 3 = .ok (.iload_n 2, 1) := by decide +kernel
theorem dX10_rests_4 : decode cX10_rests 4 = .ok (.i2l, 1) := by decide +kernel
theorem dX10_rests_5 : decode cX10_rests 5 = .ok (.lconst 1, 1) := by decide +kernel
theorem dX10_rests_6 : decode cX10_rests 6 = .ok (.ldc2_w 176, 3) := by decide +kernel
theorem dX10_rests_9 : decode cX10_rests 9 = .ok (.invokestatic 93, 3) := by decide +kernel
theorem dX10_rests_12 : decode cX10_rests 12 = .ok (.ifCond .eq 22, 3) := by decide +kernel
theorem dX10_rests_15 : decode cX10_rests 15 = .ok (.iload_n 3, 1) := by decide +kernel
theorem dX10_rests_16 : decode cX10_rests 16 = .ok (.i2l, 1) := by decide +kernel
theorem dX10_rests_17 : decode cX10_rests 17 = .ok (.ldc2_w 236, 3) := by decide +kernel
theorem dX10_rests_20 : decode cX10_rests 20 = .ok (.iload_n 2, 1) := by decide +kernel
theorem dX10_rests_21 : decode cX10_rests 21 = .ok (.iconst 1, 1) := by decide +kernel
theorem dX10_rests_22 : decode cX10_rests 22 = .ok (.isub, 1) := by decide +kernel
theorem dX10_rests_23 : decode cX10_rests 23 = .ok (.i2l, 1) := by decide +kernel
theorem dX10_rests_24 : decode cX10_rests 24 = .ok (.invokestatic 93, 3) := by decide +kernel
theorem dX10_rests_27 : decode cX10_rests 27 = .ok (.ifCond .eq 7, 3) := by decide +kernel
theorem dX10_rests_30 : decode cX10_rests 30 = .ok (.iconst 1, 1) := by decide +kernel
theorem dX10_rests_31 : decode cX10_rests 31 = .ok (.goto 4, 3) := by decide +kernel
theorem dX10_rests_34 : decode cX10_rests 34 = .ok (.iconst 0, 1) := by decide +kernel
theorem dX10_rests_35 : decode cX10_rests 35 = .ok (.invokevirtual 190, 3) := by decide +kernel
theorem dX10_rests_38 : decode cX10_rests 38 = .ok (.invokevirtual 140, 3) := by decide +kernel
theorem dX10_rests_41 : decode cX10_rests 41 = .ok (.ifCond .ne 5, 3) := by decide +kernel
theorem dX10_rests_44 : decode cX10_rests 44 = .ok (.iconst (-1), 1) := by decide +kernel
theorem dX10_rests_45 : decode cX10_rests 45 = .ok (.ireturn, 1) := by decide +kernel
theorem dX10_rests_46 : decode cX10_rests 46 = .ok (.aload_n 0, 1) := by decide +kernel
theorem dX10_rests_47 : decode cX10_rests 47 = .ok (.iload_n 1, 1) := by decide +kernel
theorem dX10_rests_48 : decode cX10_rests 48 = .ok (.invokevirtual 120, 3) := by decide +kernel
theorem dX10_rests_51 : decode cX10_rests 51 = .ok (.iload_n 3, 1) := by decide +kernel
theorem dX10_rests_52 : decode cX10_rests 52 = .ok (.ifCond .lt 11, 3) := by decide +kernel
theorem dX10_rests_55 : decode cX10_rests 55 = .ok (.aload_n 0, 1) := by decide +kernel
theorem dX10_rests_56 : decode cX10_rests 56 = .ok (.iload_n 1, 1) := by decide +kernel
theorem dX10_rests_57 : decode cX10_rests 57 = .ok (.iload_n 2, 1) := by decide +kernel
theorem dX10_rests_58 : decode cX10_rests 58 = .ok (.iload_n 3, 1) := by decide +kernel
theorem dX10_rests_59 : decode cX10_rests 59 = .ok (.invokevirtual 238, 3) := by decide +kernel
theorem dX10_rests_62 : decode cX10_rests 62 = .ok (.ireturn, 1) := by decide +kernel
theorem dX10_rests_63 : decode cX10_rests 63 = .ok (.iconst 0, 1) := by decide +kernel
theorem dX10_rests_64 : decode cX10_rests 64 = .ok (.istore 4, 2) := by decide +kernel
theorem dX10_rests_66 : decode cX10_rests 66 = .ok (.iconst 0, 1) := by decide +kernel
theorem dX10_rests_67 : decode cX10_rests 67 = .ok (.istore 5, 2) := by decide +kernel
theorem dX10_rests_69 : decode cX10_rests 69 = .ok (.iload 5, 2) := by decide +kernel
theorem dX10_rests_71 : decode cX10_rests 71 = .ok (.iload_n 2, 1) := by decide +kernel
theorem dX10_rests_72 : decode cX10_rests 72 = .ok (.if_icmp .ge 30, 3) := by decide +kernel
theorem dX10_rests_75 : decode cX10_rests 75 = .ok (.iload 4, 2) := by decide +kernel
theorem dX10_rests_77 : decode cX10_rests 77 = .ok (.aload_n 0, 1) := by decide +kernel
theorem dX10_rests_78 : decode cX10_rests 78 = .ok (.iload_n 1, 1) := by decide +kernel
theorem dX10_rests_79 : decode cX10_rests 79 = .ok (.iload_n 2, 1) := by decide +kernel
theorem dX10_rests_80 : decode cX10_rests 80 = .ok (.iload 5, 2) := by decide +kernel
theorem dX10_rests_82 : decode cX10_rests 82 = .ok (.invokevirtual 238, 3) := by decide +kernel
theorem dX10_rests_85 : decode cX10_rests 85 = .ok (.ifCond .le 7, 3) := by decide +kernel
theorem dX10_rests_88 : decode cX10_rests 88 = .ok (.iconst 1, 1) := by decide +kernel
theorem dX10_rests_89 : decode cX10_rests 89 = .ok (.goto 4, 3) := by decide +kernel
theorem dX10_rests_92 : decode cX10_rests 92 = .ok (.iconst 0, 1) := by decide +kernel
theorem dX10_rests_93 : decode cX10_rests 93 = .ok (.iadd, 1) := by decide +kernel
theorem dX10_rests_94 : decode cX10_rests 94 = .ok (.istore 4, 2) := by decide +kernel
theorem dX10_rests_96 : decode cX10_rests 96 = .ok (.iinc 5 1, 3) := by decide +kernel
theorem dX10_rests_99 : decode cX10_rests 99 = .ok (.goto (-30), 3) := by decide +kernel
theorem dX10_rests_102 : decode cX10_rests 102 = .ok (.iload 4, 2) := by decide +kernel
theorem dX10_rests_104 : decode cX10_rests 104 = .ok (.ireturn, 1) := by decide +kernel
theorem dX10_ring_0 : decode cX10_ring 0 = .ok (.aload_n 0, 1) := by decide +kernel
theorem dX10_ring_1 : decode cX10_ring 1 = .ok (.aload_n 0, 1) := by decide +kernel
theorem dX10_ring_2 : decode cX10_ring 2 = .ok (.iload_n 1, 1) := by decide +kernel
theorem dX10_ring_3 : decode cX10_ring 3 = .ok (.iload_n 2, 1) := by decide +kernel
theorem dX10_ring_4 : decode cX10_ring 4 = .ok (.iconst 1, 1) := by decide +kernel
theorem dX10_ring_5 : decode cX10_ring 5 = .ok (.if_icmp .lt 12, 3) := by decide +kernel
theorem dX10_ring_8 : decode cX10_ring 8 = .ok (.iload_n 3, 1) := by decide +kernel
theorem dX10_ring_9 : decode cX10_ring 9 = .ok (.iconst (-1), 1) := by decide +kernel
theorem dX10_ring_10 : decode cX10_ring 10 = .ok (.if_icmp .lt 7, 3) := by decide +kernel
theorem dX10_ring_13 : decode cX10_ring 13 = .ok (.iconst 1, 1) := by decide +kernel
theorem dX10_ring_14 : decode cX10_ring 14 = .ok (.goto 4, 3) := by decide +kernel
theorem dX10_ring_17 : decode cX10_ring 17 = .ok (.iconst 0, 1) := by decide +kernel
theorem dX10_ring_18 : decode cX10_ring 18 = .ok (.invokevirtual 190, 3) := by decide +kernel
theorem dX10_ring_21 : decode cX10_ring 21 = .ok (.invokevirtual 140, 3) := by decide +kernel
theorem dX10_ring_24 : decode cX10_ring 24 = .ok (.ifCond .ne 5, 3) := by decide +kernel
theorem dX10_ring_27 : decode cX10_ring 27 = .ok (.iconst (-1), 1) := by decide +kernel
theorem dX10_ring_28 : decode cX10_ring 28 = .ok (.ireturn, 1) := by decide +kernel
theorem dX10_ring_29 : decode cX10_ring 29 = .ok (.aload_n 0, 1) := by decide +kernel
theorem dX10_ring_30 : decode cX10_ring 30 = .ok (.iload_n 1, 1) := by decide +kernel
theorem dX10_ring_31 : decode cX10_ring 31 = .ok (.invokevirtual 120, 3) := by decide +kernel
theorem dX10_ring_34 : decode cX10_ring 34 = .ok (.iload_n 3, 1) := by decide +kernel
theorem dX10_ring_35 : decode cX10_ring 35 = .ok (.aload_n 0, 1) := by decide +kernel
theorem dX10_ring_36 : decode cX10_ring 36 = .ok (.getfield 107, 3) := by decide +kernel
theorem dX10_ring_39 : decode cX10_ring 39 = .ok (.if_icmp .lt 9, 3) := by decide +kernel
theorem dX10_ring_42 : decode cX10_ring 42 = .ok (.aload_n 0, 1) := by decide +kernel
theorem dX10_ring_43 : decode cX10_ring 43 = .ok (.iconst 5, 1) := by decide +kernel
theorem dX10_ring_44 : decode cX10_ring 44 = .ok (.invokevirtual 166, 3) := by decide +kernel
theorem dX10_ring_47 : decode cX10_ring 47 = .ok (.ireturn, 1) := by decide +kernel
theorem dX10_ring_48 : decode cX10_ring 48 = .ok (.iload_n 3, 1) := by decide +kernel
theorem dX10_ring_49 : decode cX10_ring 49 = .ok (.iconst (-1), 1) := by decide +kernel
theorem dX10_ring_50 : decode cX10_ring 50 = .ok (.if_icmp .ne 12, 3) := by decide +kernel
theorem dX10_ring_53 : decode cX10_ring 53 = .ok (.aload_n 0, 1) := by decide +kernel
theorem dX10_ring_54 : decode cX10_ring 54 = .ok (.getfield 107, 3) := by decide +kernel
theorem dX10_ring_57 : decode cX10_ring 57 = .ok (.iconst 1, 1) := by decide +kernel
theorem dX10_ring_58 : decode cX10_ring 58 = .ok (.isub, 1) := by decide +kernel
theorem dX10_ring_59 : decode cX10_ring 59 = .ok (.goto 4, 3) := by decide +kernel
theorem dX10_ring_62 : decode cX10_ring 62 = .ok (.iload_n 3, 1) := by decide +kernel
theorem dX10_ring_63 : decode cX10_ring 63 = .ok (.istore 4, 2) := by decide +kernel
theorem dX10_ring_65 : decode cX10_ring 65 = .ok (.iconst 0, 1) := by decide +kernel
theorem dX10_ring_66 : decode cX10_ring 66 = .ok (.istore 5, 2) := by decide +kernel
theorem dX10_ring_68 : decode cX10_ring 68 = .ok (.iconst 0, 1) := by decide +kernel
theorem dX10_ring_69 : decode cX10_ring 69 = .ok (.istore 6, 2) := by decide +kernel
theorem dX10_ring_71 : decode cX10_ring 71 = .ok (.iload 5, 2) := by decide +kernel
theorem dX10_ring_73 : decode cX10_ring 73 = .ok (.i2l, 1) := by decide +kernel
theorem dX10_ring_74 : decode cX10_ring 74 = .ok (.iload_n 2, 1) := by decide +kernel
theorem dX10_ring_75 : decode cX10_ring 75 = .ok (.i2l, 1) := by decide +kernel
theorem dX10_ring_76 : decode cX10_ring 76 = .ok (.lconst 1, 1) := by decide +kernel
theorem dX10_ring_77 : decode cX10_ring 77 = .ok (.lsub, 1) := by decide +kernel
theorem dX10_ring_78 : decode cX10_ring 78 = .ok (.ladd, 1) := by decide +kernel
theorem dX10_ring_79 : decode cX10_ring 79 = .ok (.aload_n 0, 1) := by decide +kernel
theorem dX10_ring_80 : decode cX10_ring 80 = .ok (.getfield 107, 3) := by decide +kernel
theorem dX10_ring_83 : decode cX10_ring 83 = .ok (.i2l, 1) := by decide +kernel
theorem dX10_ring_84 : decode cX10_ring 84 = .ok (.lrem, 1) := by decide +kernel
theorem dX10_ring_85 : decode cX10_ring 85 = .ok (.l2i, 1) := by decide +kernel
theorem dX10_ring_86 : decode cX10_ring 86 = .ok (.istore 5, 2) := by decide +kernel
theorem dX10_ring_88 : decode cX10_ring 88 = .ok (.iload 6, 2) := by decide +kernel
theorem dX10_ring_90 : decode cX10_ring 90 = .ok (.iload 4, 2) := by decide +kernel
theorem dX10_ring_92 : decode cX10_ring 92 = .ok (.if_icmp .ne 16, 3) := by decide +kernel
theorem dX10_ring_95 : decode cX10_ring 95 = .ok (.aload_n 0, 1) := by decide +kernel
theorem dX10_ring_96 : decode cX10_ring 96 = .ok (.iload_n 1, 1) := by decide +kernel
theorem dX10_ring_97 : decode cX10_ring 97 = .ok (.aload_n 0, 1) := by decide +kernel
theorem dX10_ring_98 : decode cX10_ring 98 = .ok (.getfield 29, 3) := by decide +kernel
theorem dX10_ring_101 : decode cX10_ring 101 = .ok (.iload 5, 2) := by decide +kernel
theorem dX10_ring_103 : decode cX10_ring 103 = .ok (.iaload, 1) := by decide +kernel
theorem dX10_ring_104 : decode cX10_ring 104 = .ok (.invokevirtual 114, 3) := by decide +kernel
theorem dX10_ring_107 : decode cX10_ring 107 = .ok (.ireturn, 1) := by decide +kernel
theorem dX10_ring_108 : decode cX10_ring 108 = .ok (.iload 5, 2) := by decide +kernel
theorem dX10_ring_110 : decode cX10_ring 110 = .ok (.istore 7, 2) := by decide +kernel
theorem dX10_ring_112 : decode cX10_ring 112 = .ok (.iload 7, 2) := by decide +kernel
theorem dX10_ring_114 : decode cX10_ring 114 = .ok (.iconst 1, 1) := by decide +kernel
theorem dX10_ring_115 : decode cX10_ring 115 = .ok (.iadd, 1) := by decide +kernel
theorem dX10_ring_116 : decode cX10_ring 116 = .ok (.aload_n 0, 1) := by decide +kernel
theorem dX10_ring_117 : decode cX10_ring 117 = .ok (.getfield 107, 3) := by decide +kernel
theorem dX10_ring_120 : decode cX10_ring 120 = .ok (.if_icmp .ge 25, 3) := by decide +kernel
theorem dX10_ring_123 : decode cX10_ring 123 = .ok (.aload_n 0, 1) := by decide +kernel
theorem dX10_ring_124 : decode cX10_ring 124 = .ok (.getfield 29, 3) := by decide +kernel
theorem dX10_ring_127 : decode cX10_ring 127 = .ok (.iload 7, 2) := by decide +kernel
theorem dX10_ring_129 : decode cX10_ring 129 = .ok (.aload_n 0, 1) := by decide +kernel
theorem dX10_ring_130 : decode cX10_ring 130 = .ok (.getfield 29, 3) := by decide +kernel
theorem dX10_ring_133 : decode cX10_ring 133 = .ok (.iload 7, 2) := by decide +kernel
theorem dX10_ring_135 : decode cX10_ring 135 = .ok (.iconst 1, 1) := by decide +kernel
theorem dX10_ring_136 : decode cX10_ring 136 = .ok (.iadd, 1) := by decide +kernel
theorem dX10_ring_137 : decode cX10_ring 137 = .ok (.iaload, 1) := by decide +kernel
theorem dX10_ring_138 : decode cX10_ring 138 = .ok (.iastore, 1) := by decide +kernel
theorem dX10_ring_139 : decode cX10_ring 139 = .ok (.iinc 7 1, 3) := by decide +kernel
theorem dX10_ring_142 : decode cX10_ring 142 = .ok (.goto (-30), 3) := by decide +kernel
theorem dX10_ring_145 : decode cX10_ring 145 = .ok (.aload_n 0, 1) := by decide +kernel
theorem dX10_ring_146 : decode cX10_ring 146 = .ok (.dup, 1) := by decide +kernel
theorem dX10_ring_147 : decode cX10_ring 147 = .ok (.getfield 107, 3) := by decide +kernel
theorem dX10_ring_150 : decode cX10_ring 150 = .ok (.iconst 1, 1) := by decide +kernel
theorem dX10_ring_151 : decode cX10_ring 151 = .ok (.isub, 1) := by decide +kernel
theorem dX10_ring_152 : decode cX10_ring 152 = .ok (.putfield 107, 3) := by decide +kernel
theorem dX10_ring_155 : decode cX10_ring 155 = .ok (.iload 5, 2) := by decide +kernel
theorem dX10_ring_157 : decode cX10_ring 157 = .ok (.aload_n 0, 1) := by decide +kernel
theorem dX10_ring_158 : decode cX10_ring 158 = .ok (.getfield 107, 3) := by decide +kernel
theorem dX10_ring_161 : decode cX10_ring 161 = .ok (.if_icmp .ne 7, 3) := by decide +kernel
theorem dX10_ring_164 : decode cX10_ring 164 = .ok (.iconst 0, 1) := by decide +kernel
theorem dX10_ring_165 : decode cX10_ring 165 = .ok (.goto 5, 3) := by decide +kernel
theorem dX10_ring_168 : decode cX10_ring 168 = .ok (.iload 5, 2) := by decide +kernel
theorem dX10_ring_170 : decode cX10_ring 170 = .ok (.istore 5, 2) := by decide +kernel
theorem dX10_ring_172 : decode cX10_ring 172 = .ok (.iinc 6 1, 3) := by decide +kernel
theorem dX10_ring_175 : decode cX10_ring 175 = .ok (.goto (-104), 3) := by decide +kernel
theorem dX10_chain_0 : decode cX10_chain 0 = .ok (.aload_n 0, 1) := by decide +kernel
theorem dX10_chain_1 : decode cX10_chain 1 = .ok (.iload_n 3, 1) := by decide +kernel
theorem dX10_chain_2 : decode cX10_chain 2 = .ok (.i2l, 1) := by decide +kernel
theorem dX10_chain_3 : decode cX10_chain 3 = .ok (.lconst 0, 1) := by decide +kernel
theorem dX10_chain_4 : decode cX10_chain 4 = .ok (.ldc2_w 138, 3) := by decide +kernel
theorem dX10_chain_7 : decode cX10_chain 7 = .ok (.invokestatic 93, 3) := by decide +kernel
theorem dX10_chain_10 : decode cX10_chain 10 = .ok (.ifCond .ne 7, 3) := by decide +kernel
theorem dX10_chain_13 : decode cX10_chain 13 = .ok (.iconst 1, 1) := by decide +kernel
theorem dX10_chain_14 : decode cX10_chain 14 = .ok (.goto 16, 3) := by decide +kernel
theorem dX10_chain_17 : decode cX10_chain 17 = .ok (.aload_n 0, 1) := by decide +kernel
theorem dX10_chain_18 : decode cX10_chain 18 = .ok (.iload_n 1, 1) := by decide +kernel
theorem dX10_chain_19 : decode cX10_chain 19 = .ok (.invokevirtual 152, 3) := by decide +kernel
theorem dX10_chain_22 : decode cX10_chain 22 = .ok (.ifCond .eq 7, 3) := by decide +kernel
theorem dX10_chain_25 : decode cX10_chain 25 = .ok (.iconst 0, 1) := by decide +kernel
theorem dX10_chain_26 : decode cX10_chain 26 = .ok (.goto 4, 3) := by decide +kernel
theorem dX10_chain_29 : decode cX10_chain 29 = .ok (.iconst 2, 1) := by decide +kernel
theorem dX10_chain_30 : decode cX10_chain 30 = .ok (.invokevirtual 140, 3) := by decide +kernel
theorem dX10_chain_33 : decode cX10_chain 33 = .ok (.ifCond .ne 5, 3) := by decide +kernel
theorem dX10_chain_36 : decode cX10_chain 36 = .ok (.iconst (-1), 1) := by decide +kernel
theorem dX10_chain_37 : decode cX10_chain 37 = .ok (.ireturn, 1) := by decide +kernel
theorem dX10_chain_38 : decode cX10_chain 38 = .ok (.aload_n 0, 1) := by decide +kernel
theorem dX10_chain_39 : decode cX10_chain 39 = .ok (.iload_n 1, 1) := by decide +kernel
theorem dX10_chain_40 : decode cX10_chain 40 = .ok (.iload_n 2, 1) := by decide +kernel
theorem dX10_chain_41 : decode cX10_chain 41 = .ok (.invokevirtual 162, 3) := by decide +kernel
theorem dX10_chain_44 : decode cX10_chain 44 = .ok (.ifCond .ne 9, 3) := by decide +kernel
theorem dX10_chain_47 : decode cX10_chain 47 = .ok (.aload_n 0, 1) := by decide +kernel
theorem dX10_chain_48 : decode cX10_chain 48 = .ok (.iconst 5, 1) := by decide +kernel
theorem dX10_chain_49 : decode cX10_chain 49 = .ok (.invokevirtual 166, 3) := by decide +kernel
theorem dX10_chain_52 : decode cX10_chain 52 = .ok (.ireturn, 1) := by decide +kernel
theorem dX10_chain_53 : decode cX10_chain 53 = .ok (.aload_n 0, 1) := by decide +kernel
theorem dX10_chain_54 : decode cX10_chain 54 = .ok (.iload_n 1, 1) := by decide +kernel
theorem dX10_chain_55 : decode cX10_chain 55 = .ok (.invokevirtual 120, 3) := by decide +kernel
theorem dX10_chain_58 : decode cX10_chain 58 = .ok (.iconst 0, 1) := by decide +kernel
theorem dX10_chain_59 : decode cX10_chain 59 = .ok (.istore 4, 2) := by decide +kernel
theorem dX10_chain_61 : decode cX10_chain 61 = .ok (.iload 4, 2) := by decide +kernel
theorem dX10_chain_63 : decode cX10_chain 63 = .ok (.sipush 600, 3) := by decide +kernel
theorem dX10_chain_66 : decode cX10_chain 66 = .ok (.if_icmp .ge 17, 3) := by decide +kernel
theorem dX10_chain_69 : decode cX10_chain 69 = .ok (.aload_n 0, 1) := by decide +kernel
theorem dX10_chain_70 : decode cX10_chain 70 = .ok (.getfield 32, 3) := by decide +kernel
theorem dX10_chain_73 : decode cX10_chain 73 = .ok (.iload 4, 2) := by decide +kernel
theorem dX10_chain_75 : decode cX10_chain 75 = .ok (.iconst 0, 1) := by decide +kernel
theorem dX10_chain_76 : decode cX10_chain 76 = .ok (.bastore, 1) := by decide +kernel
theorem dX10_chain_77 : decode cX10_chain 77 = .ok (.iinc 4 1, 3) := by decide +kernel
theorem dX10_chain_80 : decode cX10_chain 80 = .ok (.goto (-19), 3) := by decide +kernel
theorem dX10_chain_83 : decode cX10_chain 83 = .ok (.iconst 0, 1) := by decide +kernel
theorem dX10_chain_84 : decode cX10_chain 84 = .ok (.istore 4, 2) := by decide +kernel
theorem dX10_chain_86 : decode cX10_chain 86 = .ok (.iload_n 2, 1) := by decide +kernel
theorem dX10_chain_87 : decode cX10_chain 87 = .ok (.istore 5, 2) := by decide +kernel
theorem dX10_chain_89 : decode cX10_chain 89 = .ok (.iconst 0, 1) := by decide +kernel
theorem dX10_chain_90 : decode cX10_chain 90 = .ok (.istore 6, 2) := by decide +kernel
theorem dX10_chain_92 : decode cX10_chain 92 = .ok (.iconst 0, 1) := by decide +kernel
theorem dX10_chain_93 : decode cX10_chain 93 = .ok (.istore 7, 2) := by decide +kernel
theorem dX10_chain_95 : decode cX10_chain 95 = .ok (.iload 6, 2) := by decide +kernel
theorem dX10_chain_97 : decode cX10_chain 97 = .ok (.ifCond .ne 101, 3) := by decide +kernel
theorem dX10_chain_100 : decode cX10_chain 100 = .ok (.aload_n 0, 1) := by decide +kernel
theorem dX10_chain_101 : decode cX10_chain 101 = .ok (.getfield 32, 3) := by decide +kernel
theorem dX10_chain_104 : decode cX10_chain 104 = .ok (.aload_n 0, 1) := by decide +kernel
theorem dX10_chain_105 : decode cX10_chain 105 = .ok (.iload_n 1, 1) := by decide +kernel
theorem dX10_chain_106 : decode cX10_chain 106 = .ok (.iload 5, 2) := by decide +kernel
theorem dX10_chain_108 : decode cX10_chain 108 = .ok (.invokevirtual 101, 3) := by decide +kernel
theorem dX10_chain_111 : decode cX10_chain 111 = .ok (.iconst 1, 1) := by decide +kernel
theorem dX10_chain_112 : decode cX10_chain 112 = .ok (.bastore, 1) := by decide +kernel
theorem dX10_chain_113 : decode cX10_chain 113 = .ok (.iinc 4 1, 3) := by decide +kernel
theorem dX10_chain_116 : decode cX10_chain 116 = .ok (.iload 5, 2) := by decide +kernel
theorem dX10_chain_118 : decode cX10_chain 118 = .ok (.i2l, 1) := by decide +kernel
theorem dX10_chain_119 : decode cX10_chain 119 = .ok (.lconst 1, 1) := by decide +kernel
theorem dX10_chain_120 : decode cX10_chain 120 = .ok (.aload_n 0, 1) := by decide +kernel
theorem dX10_chain_121 : decode cX10_chain 121 = .ok (.getfield 107, 3) := by decide +kernel
theorem dX10_chain_124 : decode cX10_chain 124 = .ok (.i2l, 1) := by decide +kernel
theorem dX10_chain_125 : decode cX10_chain 125 = .ok (.invokestatic 93, 3) := by decide +kernel
theorem dX10_chain_128 : decode cX10_chain 128 = .ok (.istore 8, 2) := by decide +kernel
theorem dX10_chain_130 : decode cX10_chain 130 = .ok (.iload 8, 2) := by decide +kernel
theorem dX10_chain_132 : decode cX10_chain 132 = .ok (.ifCond .eq 24, 3) := by decide +kernel
theorem dX10_chain_135 : decode cX10_chain 135 = .ok (.aload_n 0, 1) := by decide +kernel
theorem dX10_chain_136 : decode cX10_chain 136 = .ok (.getfield 32, 3) := by decide +kernel
theorem dX10_chain_139 : decode cX10_chain 139 = .ok (.aload_n 0, 1) := by decide +kernel
theorem dX10_chain_140 : decode cX10_chain 140 = .ok (.getfield 29, 3) := by decide +kernel
theorem dX10_chain_143 : decode cX10_chain 143 = .ok (.iload 5, 2) := by decide +kernel
theorem dX10_chain_145 : decode cX10_chain 145 = .ok (.iconst 1, 1) := by decide +kernel
theorem dX10_chain_146 : decode cX10_chain 146 = .ok (.isub, 1) := by decide +kernel
theorem dX10_chain_147 : decode cX10_chain 147 = .ok (.iaload, 1) := by decide +kernel
theorem dX10_chain_148 : decode cX10_chain 148 = .ok (.baload, 1) := by decide +kernel
theorem dX10_chain_149 : decode cX10_chain 149 = .ok (.ifCond .eq 7, 3) := by decide +kernel
theorem dX10_chain_152 : decode cX10_chain 152 = .ok (.iconst 1, 1) := by decide +kernel
theorem dX10_chain_153 : decode cX10_chain 153 = .ok (.goto 4, 3) := by decide +kernel
theorem dX10_chain_156 : decode cX10_chain 156 = .ok (.iconst 0, 1) := by decide +kernel
theorem dX10_chain_157 : decode cX10_chain 157 = .ok (.istore 7, 2) := by decide +kernel
theorem dX10_chain_159 : decode cX10_chain 159 = .ok (.iload 8, 2) := by decide +kernel
theorem dX10_chain_161 : decode cX10_chain 161 = .ok (.ifCond .eq 8, 3) := by decide +kernel
theorem dX10_chain_164 : decode cX10_chain 164 = .ok (.iload 7, 2) := by decide +kernel
theorem dX10_chain_166 : decode cX10_chain 166 = .ok (.ifCond .eq 7, 3) := by decide +kernel
theorem dX10_chain_169 : decode cX10_chain 169 = .ok (.iconst 1, 1) := by decide +kernel
theorem dX10_chain_170 : decode cX10_chain 170 = .ok (.goto 4, 3) := by decide +kernel
theorem dX10_chain_173 : decode cX10_chain 173 = .ok (.iconst 0, 1) := by decide +kernel
theorem dX10_chain_174 : decode cX10_chain 174 = .ok (.istore 6, 2) := by decide +kernel
theorem dX10_chain_176 : decode cX10_chain 176 = .ok (.iload 6, 2) := by decide +kernel
theorem dX10_chain_178 : decode cX10_chain 178 = .ok (.ifCond .eq 8, 3) := by decide +kernel
theorem dX10_chain_181 : decode cX10_chain 181 = .ok (.iload 5, 2) := by decide +kernel
theorem dX10_chain_183 : decode cX10_chain 183 = .ok (.goto 10, 3) := by decide +kernel
theorem dX10_chain_186 : decode cX10_chain 186 = .ok (.aload_n 0, 1) := by decide +kernel
theorem dX10_chain_187 : decode cX10_chain 187 = .ok (.iload_n 1, 1) := by decide +kernel
theorem dX10_chain_188 : decode cX10_chain 188 = .ok (.iload 5, 2) := by decide +kernel
theorem dX10_chain_190 : decode cX10_chain 190 = .ok (.invokevirtual 117, 3) := by decide +kernel
theorem dX10_chain_193 : decode cX10_chain 193 = .ok (.istore 5, 2) := by decide +kernel
theorem dX10_chain_195 : decode cX10_chain 195 = .ok (.goto (-100), 3) := by decide +kernel
theorem dX10_chain_198 : decode cX10_chain 198 = .ok (.iload_n 3, 1) := by decide +kernel
theorem dX10_chain_199 : decode cX10_chain 199 = .ok (.ifCond .ne 8, 3) := by decide +kernel
theorem dX10_chain_202 : decode cX10_chain 202 = .ok (.iload 4, 2) := by decide +kernel
theorem dX10_chain_204 : decode cX10_chain 204 = .ok (.goto 23, 3) := by decide +kernel
theorem dX10_chain_207 : decode cX10_chain 207 = .ok (.iload_n 3, 1) := by decide +kernel
theorem dX10_chain_208 : decode cX10_chain 208 = .ok (.iconst 1, 1) := by decide +kernel
theorem dX10_chain_209 : decode cX10_chain 209 = .ok (.if_icmp .ne 8, 3) := by decide +kernel
theorem dX10_chain_212 : decode cX10_chain 212 = .ok (.iload 5, 2) := by decide +kernel
theorem dX10_chain_214 : decode cX10_chain 214 = .ok (.goto 13, 3) := by decide +kernel
theorem dX10_chain_217 : decode cX10_chain 217 = .ok (.iload 7, 2) := by decide +kernel
theorem dX10_chain_219 : decode cX10_chain 219 = .ok (.ifCond .eq 7, 3) := by decide +kernel
theorem dX10_chain_222 : decode cX10_chain 222 = .ok (.iconst 1, 1) := by decide +kernel
theorem dX10_chain_223 : decode cX10_chain 223 = .ok (.goto 4, 3) := by decide +kernel
theorem dX10_chain_226 : decode cX10_chain 226 = .ok (.iconst 0, 1) := by decide +kernel
theorem dX10_chain_227 : decode cX10_chain 227 = .ok (.ireturn, 1) := by decide +kernel
theorem dX10_spread_0 : decode cX10_spread 0 = .ok (.aload_n 0, 1) := by decide +kernel
theorem dX10_spread_1 : decode cX10_spread 1 = .ok (.aload_n 0, 1) := by decide +kernel
theorem dX10_spread_2 : decode cX10_spread 2 = .ok (.iload_n 1, 1) := by decide +kernel
theorem dX10_spread_3 : decode cX10_spread 3 = .ok (.iload_n 2, 1) := by decide +kernel
theorem dX10_spread_4 : decode cX10_spread 4 = .ok (.iconst 2, 1) := by decide +kernel
theorem dX10_spread_5 : decode cX10_spread 5 = .ok (.if_icmp .lt 17, 3) := by decide +kernel
theorem dX10_spread_8 : decode cX10_spread 8 = .ok (.iload_n 3, 1) := by decide +kernel
theorem dX10_spread_9 : decode cX10_spread 9 = .ok (.i2l, 1) := by decide +kernel
theorem dX10_spread_10 : decode cX10_spread 10 = .ok (.lconst 0, 1) := by decide +kernel
theorem dX10_spread_11 : decode cX10_spread 11 = .ok (.lconst 1, 1) := by decide +kernel
theorem dX10_spread_12 : decode cX10_spread 12 = .ok (.invokestatic 93, 3) := by decide +kernel
theorem dX10_spread_15 : decode cX10_spread 15 = .ok (.ifCond .eq 7, 3) := by decide +kernel
theorem dX10_spread_18 : decode cX10_spread 18 = .ok (.iconst 1, 1) := by decide +kernel
theorem dX10_spread_19 : decode cX10_spread 19 = .ok (.goto 4, 3) := by decide +kernel
theorem dX10_spread_22 : decode cX10_spread 22 = .ok (.iconst 0, 1) := by decide +kernel
theorem dX10_spread_23 : decode cX10_spread 23 = .ok (.invokevirtual 190, 3) := by decide +kernel
theorem dX10_spread_26 : decode cX10_spread 26 = .ok (.invokevirtual 140, 3) := by decide +kernel
theorem dX10_spread_29 : decode cX10_spread 29 = .ok (.ifCond .ne 5, 3) := by decide +kernel
theorem dX10_spread_32 : decode cX10_spread 32 = .ok (.iconst (-1), 1) := by decide +kernel
theorem dX10_spread_33 : decode cX10_spread 33 = .ok (.ireturn, 1) := by decide +kernel
theorem dX10_spread_34 : decode cX10_spread 34 = .ok (.aload_n 0, 1) := by decide +kernel
theorem dX10_spread_35 : decode cX10_spread 35 = .ok (.iload_n 1, 1) := by decide +kernel
theorem dX10_spread_36 : decode cX10_spread 36 = .ok (.invokevirtual 120, 3) := by decide +kernel
theorem dX10_spread_39 : decode cX10_spread 39 = .ok (.iload_n 2, 1) := by decide +kernel
theorem dX10_spread_40 : decode cX10_spread 40 = .ok (.aload_n 0, 1) := by decide +kernel
theorem dX10_spread_41 : decode cX10_spread 41 = .ok (.getfield 107, 3) := by decide +kernel
theorem dX10_spread_44 : decode cX10_spread 44 = .ok (.if_icmp .le 9, 3) := by decide +kernel
theorem dX10_spread_47 : decode cX10_spread 47 = .ok (.aload_n 0, 1) := by decide +kernel
theorem dX10_spread_48 : decode cX10_spread 48 = .ok (.iconst 5, 1) := by decide +kernel
theorem dX10_spread_49 : decode cX10_spread 49 = .ok (.invokevirtual 166, 3) := by decide +kernel
theorem dX10_spread_52 : decode cX10_spread 52 = .ok (.ireturn, 1) := by decide +kernel
theorem dX10_spread_53 : decode cX10_spread 53 = .ok (.iconst 1, 1) := by decide +kernel
theorem dX10_spread_54 : decode cX10_spread 54 = .ok (.istore 4, 2) := by decide +kernel
theorem dX10_spread_56 : decode cX10_spread 56 = .ok (.iconst (-1), 1) := by decide +kernel
theorem dX10_spread_57 : decode cX10_spread 57 = .ok (.istore 5, 2) := by decide +kernel
theorem dX10_spread_59 : decode cX10_spread 59 = .ok (.iconst 1, 1) := by decide +kernel
theorem dX10_spread_60 : decode cX10_spread 60 = .ok (.istore 6, 2) := by decide +kernel
theorem dX10_spread_62 : decode cX10_spread 62 = .ok (.iload 6, 2) := by decide +kernel
theorem dX10_spread_64 : decode cX10_spread 64 = .ok (.iload_n 2, 1) := by decide +kernel
theorem dX10_spread_65 : decode cX10_spread 65 = .ok (.iadd, 1) := by decide +kernel
theorem dX10_spread_66 : decode cX10_spread 66 = .ok (.iconst 1, 1) := by decide +kernel
theorem dX10_spread_67 : decode cX10_spread 67 = .ok (.isub, 1) := by decide +kernel
theorem dX10_spread_68 : decode cX10_spread 68 = .ok (.aload_n 0, 1) := by decide +kernel
theorem dX10_spread_69 : decode cX10_spread 69 = .ok (.getfield 107, 3) := by decide +kernel
theorem dX10_spread_72 : decode cX10_spread 72 = .ok (.if_icmp .gt 53, 3) := by decide +kernel
theorem dX10_spread_75 : decode cX10_spread 75 = .ok (.aload_n 0, 1) := by decide +kernel
theorem dX10_spread_76 : decode cX10_spread 76 = .ok (.iload_n 1, 1) := by decide +kernel
theorem dX10_spread_77 : decode cX10_spread 77 = .ok (.iload 6, 2) := by decide +kernel
theorem dX10_spread_79 : decode cX10_spread 79 = .ok (.iload_n 2, 1) := by decide +kernel
theorem dX10_spread_80 : decode cX10_spread 80 = .ok (.iadd, 1) := by decide +kernel
theorem dX10_spread_81 : decode cX10_spread 81 = .ok (.iconst 1, 1) := by decide +kernel
theorem dX10_spread_82 : decode cX10_spread 82 = .ok (.isub, 1) := by decide +kernel
theorem dX10_spread_83 : decode cX10_spread 83 = .ok (.invokevirtual 117, 3) := by decide +kernel
theorem dX10_spread_86 : decode cX10_spread 86 = .ok (.aload_n 0, 1) := by decide +kernel
theorem dX10_spread_87 : decode cX10_spread 87 = .ok (.iload_n 1, 1) := by decide +kernel
theorem dX10_spread_88 : decode cX10_spread 88 = .ok (.iload 6, 2) := by decide +kernel
theorem dX10_spread_90 : decode cX10_spread 90 = .ok (.invokevirtual 117, 3) := by decide +kernel
theorem dX10_spread_93 : decode cX10_spread 93 = .ok (.isub, 1) := by decide +kernel
theorem dX10_spread_94 : decode cX10_spread 94 = .ok (.istore 7, 2) := by decide +kernel
theorem dX10_spread_96 : decode cX10_spread 96 = .ok (.iload 5, 2) := by decide +kernel
theorem dX10_spread_98 : decode cX10_spread 98 = .ok (.ifCond .lt 13, 3) := by decide +kernel
theorem dX10_spread_101 : decode cX10_spread 101 = .ok (.iload 7, 2) := by decide +kernel
theorem dX10_spread_103 : decode cX10_spread 103 = .ok (.iload 5, 2) := by decide +kernel
theorem dX10_spread_105 : decode cX10_spread 105 = .ok (.if_icmp .lt 6, 3) := by decide +kernel
theorem dX10_spread_108 : decode cX10_spread 108 = .ok (.goto 11, 3) := by decide +kernel
theorem dX10_spread_111 : decode cX10_spread 111 = .ok (.iload 7, 2) := by decide +kernel
theorem dX10_spread_113 : decode cX10_spread 113 = .ok (.istore 5, 2) := by decide +kernel
theorem dX10_spread_115 : decode cX10_spread 115 = .ok (.iload 6, 2) := by decide +kernel
theorem dX10_spread_117 : decode cX10_spread 117 = .ok (.istore 4, 2) := by decide +kernel
theorem dX10_spread_119 : decode cX10_spread 119 = .ok (.iinc 6 1, 3) := by decide +kernel
theorem dX10_spread_122 : decode cX10_spread 122 = .ok (.goto (-60), 3) := by decide +kernel
theorem dX10_spread_125 : decode cX10_spread 125 = .ok (.iload_n 3, 1) := by decide +kernel
theorem dX10_spread_126 : decode cX10_spread 126 = .ok (.ifCond .ne 8, 3) := by decide +kernel
theorem dX10_spread_129 : decode cX10_spread 129 = .ok (.iload 5, 2) := by decide +kernel
theorem dX10_spread_131 : decode cX10_spread 131 = .ok (.goto 5, 3) := by decide +kernel
theorem dX10_spread_134 : decode cX10_spread 134 = .ok (.iload 4, 2) := by decide +kernel
theorem dX10_spread_136 : decode cX10_spread 136 = .ok (.ireturn, 1) := by decide +kernel
theorem dX10_sketch_0 : decode cX10_sketch 0 = .ok (.aload_n 0, 1) := by decide +kernel
theorem dX10_sketch_1 : decode cX10_sketch 1 = .ok (.aload_n 0, 1) := by decide +kernel
theorem dX10_sketch_2 : decode cX10_sketch 2 = .ok (.iload_n 1, 1) := by decide +kernel
theorem dX10_sketch_3 : decode cX10_sketch 3 = .ok (.iload_n 2, 1) := by decide +kernel
theorem dX10_sketch_4 : decode cX10_sketch 4 = .ok (.i2l, 1) := by decide +kernel
theorem dX10_sketch_5 : decode cX10_sketch 5 = .ok (.lconst 1, 1) := by decide +kernel
theorem dX10_sketch_6 : decode cX10_sketch 6 = .ok (.ldc2_w 169, 3) := by decide +kernel
theorem dX10_sketch_9 : decode cX10_sketch 9 = .ok (.invokestatic 93, 3) := by decide +kernel
theorem dX10_sketch_12 : decode cX10_sketch 12 = .ok (.ifCond .eq 12, 3) := by decide +kernel
theorem dX10_sketch_15 : decode cX10_sketch 15 = .ok (.iload_n 3, 1) := by decide +kernel
theorem dX10_sketch_16 : decode cX10_sketch 16 = .ok (.iconst (-1), 1) := by decide +kernel
theorem dX10_sketch_17 : decode cX10_sketch 17 = .ok (.if_icmp .lt 7, 3) := by decide +kernel
theorem dX10_sketch_20 : decode cX10_sketch 20 = .ok (.iconst 1, 1) := by decide +kernel
theorem dX10_sketch_21 : decode cX10_sketch 21 = .ok (.goto 4, 3) := by decide +kernel
theorem dX10_sketch_24 : decode cX10_sketch 24 = .ok (.iconst 0, 1) := by decide +kernel
theorem dX10_sketch_25 : decode cX10_sketch 25 = .ok (.invokevirtual 190, 3) := by decide +kernel
theorem dX10_sketch_28 : decode cX10_sketch 28 = .ok (.invokevirtual 140, 3) := by decide +kernel
theorem dX10_sketch_31 : decode cX10_sketch 31 = .ok (.ifCond .ne 5, 3) := by decide +kernel
theorem dX10_sketch_34 : decode cX10_sketch 34 = .ok (.iconst (-1), 1) := by decide +kernel
theorem dX10_sketch_35 : decode cX10_sketch 35 = .ok (.ireturn, 1) := by decide +kernel
theorem dX10_sketch_36 : decode cX10_sketch 36 = .ok (.aload_n 0, 1) := by decide +kernel
theorem dX10_sketch_37 : decode cX10_sketch 37 = .ok (.iload_n 1, 1) := by decide +kernel
theorem dX10_sketch_38 : decode cX10_sketch 38 = .ok (.iconst 3, 1) := by decide +kernel
theorem dX10_sketch_39 : decode cX10_sketch 39 = .ok (.invokevirtual 97, 3) := by decide +kernel
theorem dX10_sketch_42 : decode cX10_sketch 42 = .ok (.iload_n 2, 1) := by decide +kernel
theorem dX10_sketch_43 : decode cX10_sketch 43 = .ok (.iadd, 1) := by decide +kernel
theorem dX10_sketch_44 : decode cX10_sketch 44 = .ok (.iconst 1, 1) := by decide +kernel
theorem dX10_sketch_45 : decode cX10_sketch 45 = .ok (.isub, 1) := by decide +kernel
theorem dX10_sketch_46 : decode cX10_sketch 46 = .ok (.iload_n 2, 1) := by decide +kernel
theorem dX10_sketch_47 : decode cX10_sketch 47 = .ok (.idiv, 1) := by decide +kernel
theorem dX10_sketch_48 : decode cX10_sketch 48 = .ok (.istore 4, 2) := by decide +kernel
theorem dX10_sketch_50 : decode cX10_sketch 50 = .ok (.iload_n 3, 1) := by decide +kernel
theorem dX10_sketch_51 : decode cX10_sketch 51 = .ok (.iconst (-1), 1) := by decide +kernel
theorem dX10_sketch_52 : decode cX10_sketch 52 = .ok (.if_icmp .ne 6, 3) := by decide +kernel
theorem dX10_sketch_55 : decode cX10_sketch 55 = .ok (.iload 4, 2) := by decide +kernel
theorem dX10_sketch_57 : decode cX10_sketch 57 = .ok (.ireturn, 1) := by decide +kernel
theorem dX10_sketch_58 : decode cX10_sketch 58 = .ok (.iload_n 3, 1) := by decide +kernel
theorem dX10_sketch_59 : decode cX10_sketch 59 = .ok (.iload 4, 2) := by decide +kernel
theorem dX10_sketch_61 : decode cX10_sketch 61 = .ok (.if_icmp .lt 9, 3) := by decide +kernel
theorem dX10_sketch_64 : decode cX10_sketch 64 = .ok (.aload_n 0, 1) := by decide +kernel
theorem dX10_sketch_65 : decode cX10_sketch 65 = .ok (.iconst 5, 1) := by decide +kernel
theorem dX10_sketch_66 : decode cX10_sketch 66 = .ok (.invokevirtual 166, 3) := by decide +kernel
theorem dX10_sketch_69 : decode cX10_sketch 69 = .ok (.ireturn, 1) := by decide +kernel
theorem dX10_sketch_70 : decode cX10_sketch 70 = .ok (.aload_n 0, 1) := by decide +kernel
theorem dX10_sketch_71 : decode cX10_sketch 71 = .ok (.iload_n 1, 1) := by decide +kernel
theorem dX10_sketch_72 : decode cX10_sketch 72 = .ok (.invokevirtual 120, 3) := by decide +kernel
theorem dX10_sketch_75 : decode cX10_sketch 75 = .ok (.iconst 0, 1) := by decide +kernel
theorem dX10_sketch_76 : decode cX10_sketch 76 = .ok (.istore 5, 2) := by decide +kernel
theorem dX10_sketch_78 : decode cX10_sketch 78 = .ok (.iconst 1, 1) := by decide +kernel
theorem dX10_sketch_79 : decode cX10_sketch 79 = .ok (.istore 6, 2) := by decide +kernel
theorem dX10_sketch_81 : decode cX10_sketch 81 = .ok (.iload 6, 2) := by decide +kernel
theorem dX10_sketch_83 : decode cX10_sketch 83 = .ok (.aload_n 0, 1) := by decide +kernel
theorem dX10_sketch_84 : decode cX10_sketch 84 = .ok (.getfield 107, 3) := by decide +kernel
theorem dX10_sketch_87 : decode cX10_sketch 87 = .ok (.if_icmp .gt 34, 3) := by decide +kernel
theorem dX10_sketch_90 : decode cX10_sketch 90 = .ok (.iload 5, 2) := by decide +kernel
theorem dX10_sketch_92 : decode cX10_sketch 92 = .ok (.aload_n 0, 1) := by decide +kernel
theorem dX10_sketch_93 : decode cX10_sketch 93 = .ok (.getfield 29, 3) := by decide +kernel
theorem dX10_sketch_96 : decode cX10_sketch 96 = .ok (.iload 6, 2) := by decide +kernel
theorem dX10_sketch_98 : decode cX10_sketch 98 = .ok (.iconst 1, 1) := by decide +kernel
theorem dX10_sketch_99 : decode cX10_sketch 99 = .ok (.isub, 1) := by decide +kernel
theorem dX10_sketch_100 : decode cX10_sketch 100 = .ok (.iaload, 1) := by decide +kernel
theorem dX10_sketch_101 : decode cX10_sketch 101 = .ok (.iload_n 2, 1) := by decide +kernel
theorem dX10_sketch_102 : decode cX10_sketch 102 = .ok (.idiv, 1) := by decide +kernel
theorem dX10_sketch_103 : decode cX10_sketch 103 = .ok (.iload_n 3, 1) := by decide +kernel
theorem dX10_sketch_104 : decode cX10_sketch 104 = .ok (.if_icmp .ne 7, 3) := by decide +kernel
theorem dX10_sketch_107 : decode cX10_sketch 107 = .ok (.iconst 1, 1) := by decide +kernel
theorem dX10_sketch_108 : decode cX10_sketch 108 = .ok (.goto 4, 3) := by decide +kernel
theorem dX10_sketch_111 : decode cX10_sketch 111 = .ok (.iconst 0, 1) := by decide +kernel
theorem dX10_sketch_112 : decode cX10_sketch 112 = .ok (.iadd, 1) := by decide +kernel
theorem dX10_sketch_113 : decode cX10_sketch 113 = .ok (.istore 5, 2) := by decide +kernel
theorem dX10_sketch_115 : decode cX10_sketch 115 = .ok (.iinc 6 1, 3) := by decide +kernel
theorem dX10_sketch_118 : decode cX10_sketch 118 = .ok (.goto (-37), 3) := by decide +kernel
theorem dX10_sketch_121 : decode cX10_sketch 121 = .ok (.iload 5, 2) := by decide +kernel
theorem dX10_sketch_123 : decode cX10_sketch 123 = .ok (.ireturn, 1) := by decide +kernel
theorem dX10_balance_0 : decode cX10_balance 0 = .ok (.aload_n 0, 1) := by decide +kernel
theorem dX10_balance_1 : decode cX10_balance 1 = .ok (.aload_n 0, 1) := by decide +kernel
theorem dX10_balance_2 : decode cX10_balance 2 = .ok (.iload_n 1, 1) := by decide +kernel
theorem dX10_balance_3 : decode cX10_balance 3 = .ok (.iload_n 2, 1) := by decide +kernel
theorem dX10_balance_4 : decode cX10_balance 4 = .ok (.iconst 1, 1) := by decide +kernel
theorem dX10_balance_5 : decode cX10_balance 5 = .ok (.if_icmp .lt 7, 3) := by decide +kernel
theorem dX10_balance_8 : decode cX10_balance 8 = .ok (.iconst 1, 1) := by decide +kernel
theorem dX10_balance_9 : decode cX10_balance 9 = .ok (.goto 4, 3) := by decide +kernel
theorem dX10_balance_12 : decode cX10_balance 12 = .ok (.iconst 0, 1) := by decide +kernel
theorem dX10_balance_13 : decode cX10_balance 13 = .ok (.invokevirtual 190, 3) := by decide +kernel
theorem dX10_balance_16 : decode cX10_balance 16 = .ok (.invokevirtual 140, 3) := by decide +kernel
theorem dX10_balance_19 : decode cX10_balance 19 = .ok (.ifCond .ne 5, 3) := by decide +kernel
theorem dX10_balance_22 : decode cX10_balance 22 = .ok (.iconst (-1), 1) := by decide +kernel
theorem dX10_balance_23 : decode cX10_balance 23 = .ok (.ireturn, 1) := by decide +kernel
theorem dX10_balance_24 : decode cX10_balance 24 = .ok (.aload_n 0, 1) := by decide +kernel
theorem dX10_balance_25 : decode cX10_balance 25 = .ok (.iload_n 1, 1) := by decide +kernel
theorem dX10_balance_26 : decode cX10_balance 26 = .ok (.invokevirtual 120, 3) := by decide +kernel
theorem dX10_balance_29 : decode cX10_balance 29 = .ok (.iload_n 2, 1) := by decide +kernel
theorem dX10_balance_30 : decode cX10_balance 30 = .ok (.aload_n 0, 1) := by decide +kernel
theorem dX10_balance_31 : decode cX10_balance 31 = .ok (.getfield 107, 3) := by decide +kernel
theorem dX10_balance_34 : decode cX10_balance 34 = .ok (.if_icmp .gt 21, 3) := by decide +kernel
theorem dX10_balance_37 : decode cX10_balance 37 = .ok (.aload_n 0, 1) := by decide +kernel
theorem dX10_balance_38 : decode cX10_balance 38 = .ok (.iload_n 1, 1) := by decide +kernel
theorem dX10_balance_39 : decode cX10_balance 39 = .ok (.iload_n 2, 1) := by decide +kernel
theorem dX10_balance_40 : decode cX10_balance 40 = .ok (.invokevirtual 117, 3) := by decide +kernel
theorem dX10_balance_43 : decode cX10_balance 43 = .ok (.aload_n 0, 1) := by decide +kernel
theorem dX10_balance_44 : decode cX10_balance 44 = .ok (.iload_n 1, 1) := by decide +kernel
theorem dX10_balance_45 : decode cX10_balance 45 = .ok (.iload_n 2, 1) := by decide +kernel
theorem dX10_balance_46 : decode cX10_balance 46 = .ok (.iconst 1, 1) := by decide +kernel
theorem dX10_balance_47 : decode cX10_balance 47 = .ok (.isub, 1) := by decide +kernel
theorem dX10_balance_48 : decode cX10_balance 48 = .ok (.invokevirtual 114, 3) := by decide +kernel
theorem dX10_balance_51 : decode cX10_balance 51 = .ok (.isub, 1) := by decide +kernel
theorem dX10_balance_52 : decode cX10_balance 52 = .ok (.goto 8, 3) := by decide +kernel
theorem dX10_balance_55 : decode cX10_balance 55 = .ok (.aload_n 0, 1) := by decide +kernel
theorem dX10_balance_56 : decode cX10_balance 56 = .ok (.iconst 5, 1) := by decide +kernel
theorem dX10_balance_57 : decode cX10_balance 57 = .ok (.invokevirtual 166, 3) := by decide +kernel
theorem dX10_balance_60 : decode cX10_balance 60 = .ok (.ireturn, 1) := by decide +kernel
theorem dX10_half_0 : decode cX10_half 0 = .ok (.aload_n 0, 1) := by decide +kernel
theorem dX10_half_1 : decode cX10_half 1 = .ok (.aload_n 0, 1) := by decide +kernel
theorem dX10_half_2 : decode cX10_half 2 = .ok (.iload_n 1, 1) := by decide +kernel
theorem dX10_half_3 : decode cX10_half 3 = .ok (.invokevirtual 152, 3) := by decide +kernel
theorem dX10_half_6 : decode cX10_half 6 = .ok (.ifCond .eq 7, 3) := by decide +kernel
theorem dX10_half_9 : decode cX10_half 9 = .ok (.iconst 0, 1) := by decide +kernel
theorem dX10_half_10 : decode cX10_half 10 = .ok (.goto 4, 3) := by decide +kernel
theorem dX10_half_13 : decode cX10_half 13 = .ok (.iconst 2, 1) := by decide +kernel
theorem dX10_half_14 : decode cX10_half 14 = .ok (.invokevirtual 140, 3) := by decide +kernel
theorem dX10_half_17 : decode cX10_half 17 = .ok (.ifCond .ne 5, 3) := by decide +kernel
theorem dX10_half_20 : decode cX10_half 20 = .ok (.iconst (-1), 1) := by decide +kernel
theorem dX10_half_21 : decode cX10_half 21 = .ok (.ireturn, 1) := by decide +kernel
theorem dX10_half_22 : decode cX10_half 22 = .ok (.aload_n 0, 1) := by decide +kernel
theorem dX10_half_23 : decode cX10_half 23 = .ok (.iload_n 1, 1) := by decide +kernel
theorem dX10_half_24 : decode cX10_half 24 = .ok (.invokevirtual 120, 3) := by decide +kernel
theorem dX10_half_27 : decode cX10_half 27 = .ok (.aload_n 0, 1) := by decide +kernel
theorem dX10_half_28 : decode cX10_half 28 = .ok (.iload_n 1, 1) := by decide +kernel
theorem dX10_half_29 : decode cX10_half 29 = .ok (.aload_n 0, 1) := by decide +kernel
theorem dX10_half_30 : decode cX10_half 30 = .ok (.getfield 107, 3) := by decide +kernel
theorem dX10_half_33 : decode cX10_half 33 = .ok (.iconst 1, 1) := by decide +kernel
theorem dX10_half_34 : decode cX10_half 34 = .ok (.iadd, 1) := by decide +kernel
theorem dX10_half_35 : decode cX10_half 35 = .ok (.iconst 2, 1) := by decide +kernel
theorem dX10_half_36 : decode cX10_half 36 = .ok (.idiv, 1) := by decide +kernel
theorem dX10_half_37 : decode cX10_half 37 = .ok (.invokevirtual 117, 3) := by decide +kernel
theorem dX10_half_40 : decode cX10_half 40 = .ok (.ireturn, 1) := by decide +kernel
theorem dX10_inBoth_0 : decode cX10_inBoth 0 = .ok (.aload_n 0, 1) := by decide +kernel
theorem dX10_inBoth_1 : decode cX10_inBoth 1 = .ok (.iload_n 1, 1) := by decide +kernel
theorem dX10_inBoth_2 : decode cX10_inBoth 2 = .ok (.invokevirtual 120, 3) := by decide +kernel
theorem dX10_inBoth_5 : decode cX10_inBoth 5 = .ok (.iconst 0, 1) := by decide +kernel
theorem dX10_inBoth_6 : decode cX10_inBoth 6 = .ok (.istore_n 3, 1) := by decide +kernel
theorem dX10_inBoth_7 : decode cX10_inBoth 7 = .ok (.iconst 1, 1) := by decide +kernel
theorem dX10_inBoth_8 : decode cX10_inBoth 8 = .ok (.istore 4, 2) := by decide +kernel
theorem dX10_inBoth_10 : decode cX10_inBoth 10 = .ok (.iload 4, 2) := by decide +kernel
theorem dX10_inBoth_12 : decode cX10_inBoth 12 = .ok (.aload_n 0, 1) := by decide +kernel
theorem dX10_inBoth_13 : decode cX10_inBoth 13 = .ok (.getfield 107, 3) := by decide +kernel
theorem dX10_inBoth_16 : decode cX10_inBoth 16 = .ok (.if_icmp .gt 32, 3) := by decide +kernel
theorem dX10_inBoth_19 : decode cX10_inBoth 19 = .ok (.iload_n 3, 1) := by decide +kernel
theorem dX10_inBoth_20 : decode cX10_inBoth 20 = .ok (.aload_n 0, 1) := by decide +kernel
theorem dX10_inBoth_21 : decode cX10_inBoth 21 = .ok (.iload_n 2, 1) := by decide +kernel
theorem dX10_inBoth_22 : decode cX10_inBoth 22 = .ok (.aload_n 0, 1) := by decide +kernel
theorem dX10_inBoth_23 : decode cX10_inBoth 23 = .ok (.iload_n 1, 1) := by decide +kernel
theorem dX10_inBoth_24 : decode cX10_inBoth 24 = .ok (.iload 4, 2) := by decide +kernel
theorem dX10_inBoth_26 : decode cX10_inBoth 26 = .ok (.invokevirtual 117, 3) := by decide +kernel
theorem dX10_inBoth_29 : decode cX10_inBoth 29 = .ok (.invokevirtual 162, 3) := by decide +kernel
theorem dX10_inBoth_32 : decode cX10_inBoth 32 = .ok (.ifCond .eq 7, 3) := by decide +kernel
theorem dX10_inBoth_35 : decode cX10_inBoth 35 = .ok (.iconst 1, 1) := by decide +kernel
theorem dX10_inBoth_36 : decode cX10_inBoth 36 = .ok (.goto 4, 3) := by decide +kernel
theorem dX10_inBoth_39 : decode cX10_inBoth 39 = .ok (.iconst 0, 1) := by decide +kernel
theorem dX10_inBoth_40 : decode cX10_inBoth 40 = .ok (.iadd, 1) := by decide +kernel
theorem dX10_inBoth_41 : decode cX10_inBoth 41 = .ok (.istore_n 3, 1) := by decide +kernel
theorem dX10_inBoth_42 : decode cX10_inBoth 42 = .ok (.iinc 4 1, 3) := by decide +kernel
theorem dX10_inBoth_45 : decode cX10_inBoth 45 = .ok (.goto (-35), 3) := by decide +kernel
theorem dX10_inBoth_48 : decode cX10_inBoth 48 = .ok (.iload_n 3, 1) := by decide +kernel
theorem dX10_inBoth_49 : decode cX10_inBoth 49 = .ok (.ireturn, 1) := by decide +kernel
theorem dX10_manyOf_0 : decode cX10_manyOf 0 = .ok (.aload_n 0, 1) := by decide +kernel
theorem dX10_manyOf_1 : decode cX10_manyOf 1 = .ok (.iload_n 1, 1) := by decide +kernel
theorem dX10_manyOf_2 : decode cX10_manyOf 2 = .ok (.invokevirtual 120, 3) := by decide +kernel
theorem dX10_manyOf_5 : decode cX10_manyOf 5 = .ok (.aload_n 0, 1) := by decide +kernel
theorem dX10_manyOf_6 : decode cX10_manyOf 6 = .ok (.getfield 107, 3) := by decide +kernel
theorem dX10_manyOf_9 : decode cX10_manyOf 9 = .ok (.ireturn, 1) := by decide +kernel
theorem dX10_leastAlone_0 : decode cX10_leastAlone 0 = .ok (.aload_n 0, 1) := by decide +kernel
theorem dX10_leastAlone_1 : decode cX10_leastAlone 1 = .ok (.iload_n 1, 1) := by decide +kernel
theorem dX10_leastAlone_2 : decode cX10_leastAlone 2 = .ok (.invokevirtual 120, 3) := by decide +kernel
theorem dX10_leastAlone_5 : decode cX10_leastAlone 5 = .ok (.iconst 1, 1) := by decide +kernel
theorem dX10_leastAlone_6 : decode cX10_leastAlone 6 = .ok (.istore_n 3, 1) := by decide +kernel
theorem dX10_leastAlone_7 : decode cX10_leastAlone 7 = .ok (.iload_n 3, 1) := by decide +kernel
theorem dX10_leastAlone_8 : decode cX10_leastAlone 8 = .ok (.aload_n 0, 1) := by decide +kernel
theorem dX10_leastAlone_9 : decode cX10_leastAlone 9 = .ok (.getfield 107, 3) := by decide +kernel
theorem dX10_leastAlone_12 : decode cX10_leastAlone 12 = .ok (.if_icmp .gt 30, 3) := by decide +kernel
theorem dX10_leastAlone_15 : decode cX10_leastAlone 15 = .ok (.aload_n 0, 1) := by decide +kernel
theorem dX10_leastAlone_16 : decode cX10_leastAlone 16 = .ok (.iload_n 2, 1) := by decide +kernel
theorem dX10_leastAlone_17 : decode cX10_leastAlone 17 = .ok (.aload_n 0, 1) := by decide +kernel
theorem dX10_leastAlone_18 : decode cX10_leastAlone 18 = .ok (.iload_n 1, 1) := by decide +kernel
theorem dX10_leastAlone_19 : decode cX10_leastAlone 19 = .ok (.iload_n 3, 1) := by decide +kernel
theorem dX10_leastAlone_20 : decode cX10_leastAlone 20 = .ok (.invokevirtual 117, 3) := by decide +kernel
theorem dX10_leastAlone_23 : decode cX10_leastAlone 23 = .ok (.invokevirtual 162, 3) := by decide +kernel
theorem dX10_leastAlone_26 : decode cX10_leastAlone 26 = .ok (.ifCond .ne 10, 3) := by decide +kernel
theorem dX10_leastAlone_29 : decode cX10_leastAlone 29 = .ok (.aload_n 0, 1) := by decide +kernel
theorem dX10_leastAlone_30 : decode cX10_leastAlone 30 = .ok (.iload_n 1, 1) := by decide +kernel
theorem dX10_leastAlone_31 : decode cX10_leastAlone 31 = .ok (.iload_n 3, 1) := by decide +kernel
theorem dX10_leastAlone_32 : decode cX10_leastAlone 32 = .ok (.invokevirtual 117, 3) := by decide +kernel
theorem dX10_leastAlone_35 : decode cX10_leastAlone 35 = .ok (.ireturn, 1) := by decide +kernel
theorem dX10_leastAlone_36 : decode cX10_leastAlone 36 = .ok (.iinc 3 1, 3) := by decide +kernel
theorem dX10_leastAlone_39 : decode cX10_leastAlone 39 = .ok (.goto (-32), 3) := by decide +kernel
theorem dX10_leastAlone_42 : decode cX10_leastAlone 42 = .ok (.iconst (-1), 1) := by decide +kernel
theorem dX10_leastAlone_43 : decode cX10_leastAlone 43 = .ok (.ireturn, 1) := by decide +kernel
theorem dX10_whyTwo_0 : decode cX10_whyTwo 0 = .ok (.iload_n 1, 1) := by decide +kernel
theorem dX10_whyTwo_1 : decode cX10_whyTwo 1 = .ok (.ifCond .ne 7, 3) := by decide +kernel
theorem dX10_whyTwo_4 : decode cX10_whyTwo 4 = .ok (.iconst 1, 1) := by decide +kernel
theorem dX10_whyTwo_5 : decode cX10_whyTwo 5 = .ok (.goto 24, 3) := by decide +kernel
theorem dX10_whyTwo_8 : decode cX10_whyTwo 8 = .ok (.aload_n 0, 1) := by decide +kernel
theorem dX10_whyTwo_9 : decode cX10_whyTwo 9 = .ok (.iload_n 2, 1) := by decide +kernel
theorem dX10_whyTwo_10 : decode cX10_whyTwo 10 = .ok (.invokevirtual 152, 3) := by decide +kernel
theorem dX10_whyTwo_13 : decode cX10_whyTwo 13 = .ok (.ifCond .eq 15, 3) := by decide +kernel
theorem dX10_whyTwo_16 : decode cX10_whyTwo 16 = .ok (.aload_n 0, 1) := by decide +kernel
theorem dX10_whyTwo_17 : decode cX10_whyTwo 17 = .ok (.iload_n 3, 1) := by decide +kernel
theorem dX10_whyTwo_18 : decode cX10_whyTwo 18 = .ok (.invokevirtual 152, 3) := by decide +kernel
theorem dX10_whyTwo_21 : decode cX10_whyTwo 21 = .ok (.ifCond .eq 7, 3) := by decide +kernel
theorem dX10_whyTwo_24 : decode cX10_whyTwo 24 = .ok (.iconst 0, 1) := by decide +kernel
theorem dX10_whyTwo_25 : decode cX10_whyTwo 25 = .ok (.goto 4, 3) := by decide +kernel
theorem dX10_whyTwo_28 : decode cX10_whyTwo 28 = .ok (.iconst 2, 1) := by decide +kernel
theorem dX10_whyTwo_29 : decode cX10_whyTwo 29 = .ok (.ireturn, 1) := by decide +kernel
theorem dX10_both_0 : decode cX10_both 0 = .ok (.aload_n 0, 1) := by decide +kernel
theorem dX10_both_1 : decode cX10_both 1 = .ok (.aload_n 0, 1) := by decide +kernel
theorem dX10_both_2 : decode cX10_both 2 = .ok (.iload_n 3, 1) := by decide +kernel
theorem dX10_both_3 : decode cX10_both 3 = .ok (.i2l, 1) := by decide +kernel
theorem dX10_both_4 : decode cX10_both 4 = .ok (.lconst 0, 1) := by decide +kernel
theorem dX10_both_5 : decode cX10_both 5 = .ok (.ldc2_w 174, 3) := by decide +kernel
theorem dX10_both_8 : decode cX10_both 8 = .ok (.invokestatic 93, 3) := by decide +kernel
theorem dX10_both_11 : decode cX10_both 11 = .ok (.iload_n 1, 1) := by decide +kernel
theorem dX10_both_12 : decode cX10_both 12 = .ok (.iload_n 2, 1) := by decide +kernel
theorem dX10_both_13 : decode cX10_both 13 = .ok (.invokevirtual 241, 3) := by decide +kernel
theorem dX10_both_16 : decode cX10_both 16 = .ok (.invokevirtual 140, 3) := by decide +kernel
theorem dX10_both_19 : decode cX10_both 19 = .ok (.ifCond .ne 5, 3) := by decide +kernel
theorem dX10_both_22 : decode cX10_both 22 = .ok (.iconst (-1), 1) := by decide +kernel
theorem dX10_both_23 : decode cX10_both 23 = .ok (.ireturn, 1) := by decide +kernel
theorem dX10_both_24 : decode cX10_both 24 = .ok (.aload_n 0, 1) := by decide +kernel
theorem dX10_both_25 : decode cX10_both 25 = .ok (.iload_n 1, 1) := by decide +kernel
theorem dX10_both_26 : decode cX10_both 26 = .ok (.iload_n 2, 1) := by decide +kernel
theorem dX10_both_27 : decode cX10_both 27 = .ok (.invokevirtual 245, 3) := by decide +kernel
theorem dX10_both_30 : decode cX10_both 30 = .ok (.istore 4, 2) := by decide +kernel
theorem dX10_both_32 : decode cX10_both 32 = .ok (.iload_n 3, 1) := by decide +kernel
theorem dX10_both_33 : decode cX10_both 33 = .ok (.ifCond .ne 6, 3) := by decide +kernel
theorem dX10_both_36 : decode cX10_both 36 = .ok (.iload 4, 2) := by decide +kernel
theorem dX10_both_38 : decode cX10_both 38 = .ok (.ireturn, 1) := by decide +kernel
theorem dX10_both_39 : decode cX10_both 39 = .ok (.iload_n 3, 1) := by decide +kernel
theorem dX10_both_40 : decode cX10_both 40 = .ok (.iconst 3, 1) := by decide +kernel
theorem dX10_both_41 : decode cX10_both 41 = .ok (.if_icmp .ge 21, 3) := by decide +kernel
theorem dX10_both_44 : decode cX10_both 44 = .ok (.aload_n 0, 1) := by decide +kernel
theorem dX10_both_45 : decode cX10_both 45 = .ok (.iload_n 3, 1) := by decide +kernel
theorem dX10_both_46 : decode cX10_both 46 = .ok (.iconst 1, 1) := by decide +kernel
theorem dX10_both_47 : decode cX10_both 47 = .ok (.if_icmp .ne 7, 3) := by decide +kernel
theorem dX10_both_50 : decode cX10_both 50 = .ok (.iload_n 1, 1) := by decide +kernel
theorem dX10_both_51 : decode cX10_both 51 = .ok (.goto 4, 3) := by decide +kernel
theorem dX10_both_54 : decode cX10_both 54 = .ok (.iload_n 2, 1) := by decide +kernel
theorem dX10_both_55 : decode cX10_both 55 = .ok (.invokevirtual 248, 3) := by decide +kernel
theorem dX10_both_58 : decode cX10_both 58 = .ok (.iload 4, 2) := by decide +kernel
theorem dX10_both_60 : decode cX10_both 60 = .ok (.isub, 1) := by decide +kernel
theorem dX10_both_61 : decode cX10_both 61 = .ok (.ireturn, 1) := by decide +kernel
theorem dX10_both_62 : decode cX10_both 62 = .ok (.aload_n 0, 1) := by decide +kernel
theorem dX10_both_63 : decode cX10_both 63 = .ok (.iload_n 1, 1) := by decide +kernel
theorem dX10_both_64 : decode cX10_both 64 = .ok (.iload_n 2, 1) := by decide +kernel
theorem dX10_both_65 : decode cX10_both 65 = .ok (.invokevirtual 251, 3) := by decide +kernel
theorem dX10_both_68 : decode cX10_both 68 = .ok (.istore 5, 2) := by decide +kernel
theorem dX10_both_70 : decode cX10_both 70 = .ok (.aload_n 0, 1) := by decide +kernel
theorem dX10_both_71 : decode cX10_both 71 = .ok (.iload_n 2, 1) := by decide +kernel
theorem dX10_both_72 : decode cX10_both 72 = .ok (.iload_n 1, 1) := by decide +kernel
theorem dX10_both_73 : decode cX10_both 73 = .ok (.invokevirtual 251, 3) := by decide +kernel
theorem dX10_both_76 : decode cX10_both 76 = .ok (.istore 6, 2) := by decide +kernel
theorem dX10_both_78 : decode cX10_both 78 = .ok (.iload 5, 2) := by decide +kernel
theorem dX10_both_80 : decode cX10_both 80 = .ok (.ifCond .ge 16, 3) := by decide +kernel
theorem dX10_both_83 : decode cX10_both 83 = .ok (.iload 6, 2) := by decide +kernel
theorem dX10_both_85 : decode cX10_both 85 = .ok (.ifCond .ge 11, 3) := by decide +kernel
theorem dX10_both_88 : decode cX10_both 88 = .ok (.aload_n 0, 1) := by decide +kernel
theorem dX10_both_89 : decode cX10_both 89 = .ok (.iconst 5, 1) := by decide +kernel
theorem dX10_both_90 : decode cX10_both 90 = .ok (.invokevirtual 166, 3) := by decide +kernel
theorem dX10_both_93 : decode cX10_both 93 = .ok (.goto 27, 3) := by decide +kernel
theorem dX10_both_96 : decode cX10_both 96 = .ok (.iload 5, 2) := by decide +kernel
theorem dX10_both_98 : decode cX10_both 98 = .ok (.ifCond .lt 15, 3) := by decide +kernel
theorem dX10_both_101 : decode cX10_both 101 = .ok (.iload 6, 2) := by decide +kernel
theorem dX10_both_103 : decode cX10_both 103 = .ok (.ifCond .lt 15, 3) := by decide +kernel
theorem dX10_both_106 : decode cX10_both 106 = .ok (.iload 6, 2) := by decide +kernel
theorem dX10_both_108 : decode cX10_both 108 = .ok (.iload 5, 2) := by decide +kernel
theorem dX10_both_110 : decode cX10_both 110 = .ok (.if_icmp .ge 8, 3) := by decide +kernel
theorem dX10_both_113 : decode cX10_both 113 = .ok (.iload 6, 2) := by decide +kernel
theorem dX10_both_115 : decode cX10_both 115 = .ok (.goto 5, 3) := by decide +kernel
theorem dX10_both_118 : decode cX10_both 118 = .ok (.iload 5, 2) := by decide +kernel
theorem dX10_both_120 : decode cX10_both 120 = .ok (.ireturn, 1) := by decide +kernel
theorem dX10_lastOf_0 : decode cX10_lastOf 0 = .ok (.aload_n 0, 1) := by decide +kernel
theorem dX10_lastOf_1 : decode cX10_lastOf 1 = .ok (.iload_n 1, 1) := by decide +kernel
theorem dX10_lastOf_2 : decode cX10_lastOf 2 = .ok (.invokevirtual 120, 3) := by decide +kernel
theorem dX10_lastOf_5 : decode cX10_lastOf 5 = .ok (.aload_n 0, 1) := by decide +kernel
theorem dX10_lastOf_6 : decode cX10_lastOf 6 = .ok (.iload_n 1, 1) := by decide +kernel
theorem dX10_lastOf_7 : decode cX10_lastOf 7 = .ok (.aload_n 0, 1) := by decide +kernel
theorem dX10_lastOf_8 : decode cX10_lastOf 8 = .ok (.getfield 107, 3) := by decide +kernel
theorem dX10_lastOf_11 : decode cX10_lastOf 11 = .ok (.invokevirtual 117, 3) := by decide +kernel
theorem dX10_lastOf_14 : decode cX10_lastOf 14 = .ok (.ireturn, 1) := by decide +kernel
theorem dX10_lead_0 : decode cX10_lead 0 = .ok (.aload_n 0, 1) := by decide +kernel
theorem dX10_lead_1 : decode cX10_lead 1 = .ok (.aload_n 0, 1) := by decide +kernel
theorem dX10_lead_2 : decode cX10_lead 2 = .ok (.iload_n 3, 1) := by decide +kernel
theorem dX10_lead_3 : decode cX10_lead 3 = .ok (.i2l, 1) := by decide +kernel
theorem dX10_lead_4 : decode cX10_lead 4 = .ok (.lconst 0, 1) := by decide +kernel
theorem dX10_lead_5 : decode cX10_lead 5 = .ok (.ldc2_w 254, 3) := by decide +kernel
theorem dX10_lead_8 : decode cX10_lead 8 = .ok (.invokestatic 93, 3) := by decide +kernel
theorem dX10_lead_11 : decode cX10_lead 11 = .ok (.iload_n 1, 1) := by decide +kernel
theorem dX10_lead_12 : decode cX10_lead 12 = .ok (.iload_n 2, 1) := by decide +kernel
theorem dX10_lead_13 : decode cX10_lead 13 = .ok (.invokevirtual 241, 3) := by decide +kernel
theorem dX10_lead_16 : decode cX10_lead 16 = .ok (.invokevirtual 140, 3) := by decide +kernel
theorem dX10_lead_19 : decode cX10_lead 19 = .ok (.ifCond .ne 5, 3) := by decide +kernel
theorem dX10_lead_22 : decode cX10_lead 22 = .ok (.iconst (-1), 1) := by decide +kernel
theorem dX10_lead_23 : decode cX10_lead 23 = .ok (.ireturn, 1) := by decide +kernel
theorem dX10_lead_24 : decode cX10_lead 24 = .ok (.aload_n 0, 1) := by decide +kernel
theorem dX10_lead_25 : decode cX10_lead 25 = .ok (.iload_n 1, 1) := by decide +kernel
theorem dX10_lead_26 : decode cX10_lead 26 = .ok (.invokevirtual 256, 3) := by decide +kernel
theorem dX10_lead_29 : decode cX10_lead 29 = .ok (.istore 4, 2) := by decide +kernel
theorem dX10_lead_31 : decode cX10_lead 31 = .ok (.aload_n 0, 1) := by decide +kernel
theorem dX10_lead_32 : decode cX10_lead 32 = .ok (.iload_n 2, 1) := by decide +kernel
theorem dX10_lead_33 : decode cX10_lead 33 = .ok (.invokevirtual 256, 3) := by decide +kernel
theorem dX10_lead_36 : decode cX10_lead 36 = .ok (.istore 5, 2) := by decide +kernel
theorem dX10_lead_38 : decode cX10_lead 38 = .ok (.iload 4, 2) := by decide +kernel
theorem dX10_lead_40 : decode cX10_lead 40 = .ok (.iload 5, 2) := by decide +kernel
theorem dX10_lead_42 : decode cX10_lead 42 = .ok (.if_icmp .le 8, 3) := by decide +kernel
theorem dX10_lead_45 : decode cX10_lead 45 = .ok (.iload 4, 2) := by decide +kernel
theorem dX10_lead_47 : decode cX10_lead 47 = .ok (.goto 5, 3) := by decide +kernel
theorem dX10_lead_50 : decode cX10_lead 50 = .ok (.iload 5, 2) := by decide +kernel
theorem dX10_lead_52 : decode cX10_lead 52 = .ok (.istore 6, 2) := by decide +kernel
theorem dX10_lead_54 : decode cX10_lead 54 = .ok (.iconst 0, 1) := by decide +kernel
theorem dX10_lead_55 : decode cX10_lead 55 = .ok (.istore 7, 2) := by decide +kernel
theorem dX10_lead_57 : decode cX10_lead 57 = .ok (.iconst 0, 1) := by decide +kernel
theorem dX10_lead_58 : decode cX10_lead 58 = .ok (.istore 8, 2) := by decide +kernel
theorem dX10_lead_60 : decode cX10_lead 60 = .ok (.iconst 0, 1) := by decide +kernel
theorem dX10_lead_61 : decode cX10_lead 61 = .ok (.istore 9, 2) := by decide +kernel
theorem dX10_lead_63 : decode cX10_lead 63 = .ok (.iconst 0, 1) := by decide +kernel
theorem dX10_lead_64 : decode cX10_lead 64 = .ok (.istore 10, 2) := by decide +kernel
theorem dX10_lead_66 : decode cX10_lead 66 = .ok (.iconst 0, 1) := by decide +kernel
theorem dX10_lead_67 : decode cX10_lead 67 = .ok (.istore 11, 2) := by decide +kernel
theorem dX10_lead_69 : decode cX10_lead 69 = .ok (.iconst 0, 1) := by decide +kernel
theorem dX10_lead_70 : decode cX10_lead 70 = .ok (.istore 12, 2) := by decide +kernel
theorem dX10_lead_72 : decode cX10_lead 72 = .ok (.iconst 0, 1) := by decide +kernel
theorem dX10_lead_73 : decode cX10_lead 73 = .ok (.istore 13, 2) := by decide +kernel
theorem dX10_lead_75 : decode cX10_lead 75 = .ok (.iload 13, 2) := by decide +kernel
theorem dX10_lead_77 : decode cX10_lead 77 = .ok (.iload 6, 2) := by decide +kernel
theorem dX10_lead_79 : decode cX10_lead 79 = .ok (.if_icmp .gt 139, 3) := by decide +kernel
theorem dX10_lead_82 : decode cX10_lead 82 = .ok (.iload 7, 2) := by decide +kernel
theorem dX10_lead_84 : decode cX10_lead 84 = .ok (.aload_n 0, 1) := by decide +kernel
theorem dX10_lead_85 : decode cX10_lead 85 = .ok (.iload_n 1, 1) := by decide +kernel
theorem dX10_lead_86 : decode cX10_lead 86 = .ok (.iload 13, 2) := by decide +kernel
theorem dX10_lead_88 : decode cX10_lead 88 = .ok (.invokevirtual 162, 3) := by decide +kernel
theorem dX10_lead_91 : decode cX10_lead 91 = .ok (.ifCond .eq 7, 3) := by decide +kernel
theorem dX10_lead_94 : decode cX10_lead 94 = .ok (.iconst 1, 1) := by decide +kernel
theorem dX10_lead_95 : decode cX10_lead 95 = .ok (.goto 4, 3) := by decide +kernel
theorem dX10_lead_98 : decode cX10_lead 98 = .ok (.iconst 0, 1) := by decide +kernel
theorem dX10_lead_99 : decode cX10_lead 99 = .ok (.aload_n 0, 1) := by decide +kernel
theorem dX10_lead_100 : decode cX10_lead 100 = .ok (.iload_n 2, 1) := by decide +kernel
theorem dX10_lead_101 : decode cX10_lead 101 = .ok (.iload 13, 2) := by decide +kernel
theorem dX10_lead_103 : decode cX10_lead 103 = .ok (.invokevirtual 162, 3) := by decide +kernel
theorem dX10_lead_106 : decode cX10_lead 106 = .ok (.ifCond .eq 7, 3) := by decide +kernel
theorem dX10_lead_109 : decode cX10_lead 109 = .ok (.iconst 1, 1) := by decide +kernel
theorem dX10_lead_110 : decode cX10_lead 110 = .ok (.goto 4, 3) := by decide +kernel
theorem dX10_lead_113 : decode cX10_lead 113 = .ok (.iconst 0, 1) := by decide +kernel
theorem dX10_lead_114 : decode cX10_lead 114 = .ok (.isub, 1) := by decide +kernel
theorem dX10_lead_115 : decode cX10_lead 115 = .ok (.iadd, 1) := by decide +kernel
theorem dX10_lead_116 : decode cX10_lead 116 = .ok (.istore 7, 2) := by decide +kernel
theorem dX10_lead_118 : decode cX10_lead 118 = .ok (.iload 13, 2) := by decide +kernel
theorem dX10_lead_120 : decode cX10_lead 120 = .ok (.ifCond .eq 10, 3) := by decide +kernel
theorem dX10_lead_123 : decode cX10_lead 123 = .ok (.iload 7, 2) := by decide +kernel
theorem dX10_lead_125 : decode cX10_lead 125 = .ok (.iload 8, 2) := by decide +kernel
theorem dX10_lead_127 : decode cX10_lead 127 = .ok (.if_icmp .le 11, 3) := by decide +kernel
theorem dX10_lead_130 : decode cX10_lead 130 = .ok (.iload 7, 2) := by decide +kernel
theorem dX10_lead_132 : decode cX10_lead 132 = .ok (.istore 8, 2) := by decide +kernel
theorem dX10_lead_134 : decode cX10_lead 134 = .ok (.iload 13, 2) := by decide +kernel
theorem dX10_lead_136 : decode cX10_lead 136 = .ok (.istore 9, 2) := by decide +kernel
theorem dX10_lead_138 : decode cX10_lead 138 = .ok (.iload 13, 2) := by decide +kernel
theorem dX10_lead_140 : decode cX10_lead 140 = .ok (.ifCond .eq 10, 3) := by decide +kernel
theorem dX10_lead_143 : decode cX10_lead 143 = .ok (.iload 7, 2) := by decide +kernel
theorem dX10_lead_145 : decode cX10_lead 145 = .ok (.iload 10, 2) := by decide +kernel
theorem dX10_lead_147 : decode cX10_lead 147 = .ok (.if_icmp .ge 8, 3) := by decide +kernel
theorem dX10_lead_150 : decode cX10_lead 150 = .ok (.iload 7, 2) := by decide +kernel
theorem dX10_lead_152 : decode cX10_lead 152 = .ok (.goto 5, 3) := by decide +kernel
theorem dX10_lead_155 : decode cX10_lead 155 = .ok (.iload 10, 2) := by decide +kernel
theorem dX10_lead_157 : decode cX10_lead 157 = .ok (.istore 10, 2) := by decide +kernel
theorem dX10_lead_159 : decode cX10_lead 159 = .ok (.iload 7, 2) := by decide +kernel
theorem dX10_lead_161 : decode cX10_lead 161 = .ok (.ifCond .le 7, 3) := by decide +kernel
theorem dX10_lead_164 : decode cX10_lead 164 = .ok (.iconst 1, 1) := by decide +kernel
theorem dX10_lead_165 : decode cX10_lead 165 = .ok (.goto 13, 3) := by decide +kernel
theorem dX10_lead_168 : decode cX10_lead 168 = .ok (.iload 7, 2) := by decide +kernel
theorem dX10_lead_170 : decode cX10_lead 170 = .ok (.ifCond .ge 7, 3) := by decide +kernel
theorem dX10_lead_173 : decode cX10_lead 173 = .ok (.iconst (-1), 1) := by decide +kernel
theorem dX10_lead_174 : decode cX10_lead 174 = .ok (.goto 4, 3) := by decide +kernel
theorem dX10_lead_177 : decode cX10_lead 177 = .ok (.iconst 0, 1) := by decide +kernel
theorem dX10_lead_178 : decode cX10_lead 178 = .ok (.istore 14, 2) := by decide +kernel
theorem dX10_lead_180 : decode cX10_lead 180 = .ok (.iload 11, 2) := by decide +kernel
theorem dX10_lead_182 : decode cX10_lead 182 = .ok (.iload 14, 2) := by decide +kernel
theorem dX10_lead_184 : decode cX10_lead 184 = .ok (.iload 12, 2) := by decide +kernel
theorem dX10_lead_186 : decode cX10_lead 186 = .ok (.imul, 1) := by decide +kernel
theorem dX10_lead_187 : decode cX10_lead 187 = .ok (.ifCond .ge 7, 3) := by decide +kernel
theorem dX10_lead_190 : decode cX10_lead 190 = .ok (.iconst 1, 1) := by decide +kernel
theorem dX10_lead_191 : decode cX10_lead 191 = .ok (.goto 4, 3) := by decide +kernel
theorem dX10_lead_194 : decode cX10_lead 194 = .ok (.iconst 0, 1) := by decide +kernel
theorem dX10_lead_195 : decode cX10_lead 195 = .ok (.iadd, 1) := by decide +kernel
theorem dX10_lead_196 : decode cX10_lead 196 = .ok (.istore 11, 2) := by decide +kernel
theorem dX10_lead_198 : decode cX10_lead 198 = .ok (.iload 14, 2) := by decide +kernel
theorem dX10_lead_200 : decode cX10_lead 200 = .ok (.ifCond .ne 8, 3) := by decide +kernel
theorem dX10_lead_203 : decode cX10_lead 203 = .ok (.iload 12, 2) := by decide +kernel
theorem dX10_lead_205 : decode cX10_lead 205 = .ok (.goto 5, 3) := by decide +kernel
theorem dX10_lead_208 : decode cX10_lead 208 = .ok (.iload 14, 2) := by decide +kernel
theorem dX10_lead_210 : decode cX10_lead 210 = .ok (.istore 12, 2) := by decide +kernel
theorem dX10_lead_212 : decode cX10_lead 212 = .ok (.iinc 13 1, 3) := by decide +kernel
theorem dX10_lead_215 : decode cX10_lead 215 = .ok (.goto (-140), 3) := by decide +kernel
theorem dX10_lead_218 : decode cX10_lead 218 = .ok (.iload_n 3, 1) := by decide +kernel
theorem dX10_lead_219 : decode cX10_lead 219 = .ok (.tableswitch 41 0 3 #[29, 32, 35, 38], 29) := by decide +kernel
theorem dX10_lead_248 : decode cX10_lead 248 = .ok (.iload 8, 2) := by decide +kernel
theorem dX10_lead_250 : decode cX10_lead 250 = .ok (.ireturn, 1) := by decide +kernel
theorem dX10_lead_251 : decode cX10_lead 251 = .ok (.iload 9, 2) := by decide +kernel
theorem dX10_lead_253 : decode cX10_lead 253 = .ok (.ireturn, 1) := by decide +kernel
theorem dX10_lead_254 : decode cX10_lead 254 = .ok (.iload 10, 2) := by decide +kernel
theorem dX10_lead_256 : decode cX10_lead 256 = .ok (.ireturn, 1) := by decide +kernel
theorem dX10_lead_257 : decode cX10_lead 257 = .ok (.iload 11, 2) := by decide +kernel
theorem dX10_lead_259 : decode cX10_lead 259 = .ok (.ireturn, 1) := by decide +kernel
theorem dX10_lead_260 : decode cX10_lead 260 = .ok (.iload 7, 2) := by decide +kernel
theorem dX10_lead_262 : decode cX10_lead 262 = .ok (.ireturn, 1) := by decide +kernel
theorem dX10_alike_0 : decode cX10_alike 0 = .ok (.aload_n 0, 1) := by decide +kernel
theorem dX10_alike_1 : decode cX10_alike 1 = .ok (.aload_n 0, 1) := by decide +kernel
theorem dX10_alike_2 : decode cX10_alike 2 = .ok (.iconst 1, 1) := by decide +kernel
theorem dX10_alike_3 : decode cX10_alike 3 = .ok (.iload_n 1, 1) := by decide +kernel
theorem dX10_alike_4 : decode cX10_alike 4 = .ok (.iload_n 2, 1) := by decide +kernel
theorem dX10_alike_5 : decode cX10_alike 5 = .ok (.invokevirtual 241, 3) := by decide +kernel
theorem dX10_alike_8 : decode cX10_alike 8 = .ok (.invokevirtual 140, 3) := by decide +kernel
theorem dX10_alike_11 : decode cX10_alike 11 = .ok (.ifCond .ne 5, 3) := by decide +kernel
theorem dX10_alike_14 : decode cX10_alike 14 = .ok (.iconst (-1), 1) := by decide +kernel
theorem dX10_alike_15 : decode cX10_alike 15 = .ok (.ireturn, 1) := by decide +kernel
theorem dX10_alike_16 : decode cX10_alike 16 = .ok (.iconst 0, 1) := by decide +kernel
theorem dX10_alike_17 : decode cX10_alike 17 = .ok (.istore_n 3, 1) := by decide +kernel
theorem dX10_alike_18 : decode cX10_alike 18 = .ok (.aload_n 0, 1) := by decide +kernel
theorem dX10_alike_19 : decode cX10_alike 19 = .ok (.iload_n 1, 1) := by decide +kernel
theorem dX10_alike_20 : decode cX10_alike 20 = .ok (.iload_n 3, 1) := by decide +kernel
theorem dX10_alike_21 : decode cX10_alike 21 = .ok (.iconst 1, 1) := by decide +kernel
theorem dX10_alike_22 : decode cX10_alike 22 = .ok (.iadd, 1) := by decide +kernel
theorem dX10_alike_23 : decode cX10_alike 23 = .ok (.invokevirtual 183, 3) := by decide +kernel
theorem dX10_alike_26 : decode cX10_alike 26 = .ok (.ifCond .eq 47, 3) := by decide +kernel
theorem dX10_alike_29 : decode cX10_alike 29 = .ok (.aload_n 0, 1) := by decide +kernel
theorem dX10_alike_30 : decode cX10_alike 30 = .ok (.iload_n 2, 1) := by decide +kernel
theorem dX10_alike_31 : decode cX10_alike 31 = .ok (.iload_n 3, 1) := by decide +kernel
theorem dX10_alike_32 : decode cX10_alike 32 = .ok (.iconst 1, 1) := by decide +kernel
theorem dX10_alike_33 : decode cX10_alike 33 = .ok (.iadd, 1) := by decide +kernel
theorem dX10_alike_34 : decode cX10_alike 34 = .ok (.invokevirtual 183, 3) := by decide +kernel
theorem dX10_alike_37 : decode cX10_alike 37 = .ok (.ifCond .eq 36, 3) := by decide +kernel
theorem dX10_alike_40 : decode cX10_alike 40 = .ok (.aload_n 0, 1) := by decide +kernel
theorem dX10_alike_41 : decode cX10_alike 41 = .ok (.iload_n 1, 1) := by decide +kernel
theorem dX10_alike_42 : decode cX10_alike 42 = .ok (.sipush 1222, 3) := by decide +kernel
theorem dX10_alike_45 : decode cX10_alike 45 = .ok (.iload_n 3, 1) := by decide +kernel
theorem dX10_alike_46 : decode cX10_alike 46 = .ok (.iadd, 1) := by decide +kernel
theorem dX10_alike_47 : decode cX10_alike 47 = .ok (.iconst 1, 1) := by decide +kernel
theorem dX10_alike_48 : decode cX10_alike 48 = .ok (.iadd, 1) := by decide +kernel
theorem dX10_alike_49 : decode cX10_alike 49 = .ok (.invokevirtual 97, 3) := by decide +kernel
theorem dX10_alike_52 : decode cX10_alike 52 = .ok (.aload_n 0, 1) := by decide +kernel
theorem dX10_alike_53 : decode cX10_alike 53 = .ok (.iload_n 2, 1) := by decide +kernel
theorem dX10_alike_54 : decode cX10_alike 54 = .ok (.sipush 1222, 3) := by decide +kernel
theorem dX10_alike_57 : decode cX10_alike 57 = .ok (.iload_n 3, 1) := by decide +kernel
theorem dX10_alike_58 : decode cX10_alike 58 = .ok (.iadd, 1) := by decide +kernel
theorem dX10_alike_59 : decode cX10_alike 59 = .ok (.iconst 1, 1) := by decide +kernel
theorem dX10_alike_60 : decode cX10_alike 60 = .ok (.iadd, 1) := by decide +kernel
theorem dX10_alike_61 : decode cX10_alike 61 = .ok (.invokevirtual 97, 3) := by decide +kernel
theorem dX10_alike_64 : decode cX10_alike 64 = .ok (.if_icmp .ne 9, 3) := by decide +kernel
theorem dX10_alike_67 : decode cX10_alike 67 = .ok (.iinc 3 1, 3) := by decide +kernel
theorem dX10_alike_70 : decode cX10_alike 70 = .ok (.goto (-52), 3) := by decide +kernel
theorem dX10_alike_73 : decode cX10_alike 73 = .ok (.iload_n 3, 1) := by decide +kernel
theorem dX10_alike_74 : decode cX10_alike 74 = .ok (.ireturn, 1) := by decide +kernel
theorem dX10_through_0 : decode cX10_through 0 = .ok (.aload_n 0, 1) := by decide +kernel
theorem dX10_through_1 : decode cX10_through 1 = .ok (.aload_n 0, 1) := by decide +kernel
theorem dX10_through_2 : decode cX10_through 2 = .ok (.iload_n 3, 1) := by decide +kernel
theorem dX10_through_3 : decode cX10_through 3 = .ok (.iconst (-1), 1) := by decide +kernel
theorem dX10_through_4 : decode cX10_through 4 = .ok (.if_icmp .lt 7, 3) := by decide +kernel
theorem dX10_through_7 : decode cX10_through 7 = .ok (.iconst 1, 1) := by decide +kernel
theorem dX10_through_8 : decode cX10_through 8 = .ok (.goto 4, 3) := by decide +kernel
theorem dX10_through_11 : decode cX10_through 11 = .ok (.iconst 0, 1) := by decide +kernel
theorem dX10_through_12 : decode cX10_through 12 = .ok (.iload_n 1, 1) := by decide +kernel
theorem dX10_through_13 : decode cX10_through 13 = .ok (.iload_n 2, 1) := by decide +kernel
theorem dX10_through_14 : decode cX10_through 14 = .ok (.invokevirtual 241, 3) := by decide +kernel
theorem dX10_through_17 : decode cX10_through 17 = .ok (.invokevirtual 140, 3) := by decide +kernel
theorem dX10_through_20 : decode cX10_through 20 = .ok (.ifCond .ne 5, 3) := by decide +kernel
theorem dX10_through_23 : decode cX10_through 23 = .ok (.iconst (-1), 1) := by decide +kernel
theorem dX10_through_24 : decode cX10_through 24 = .ok (.ireturn, 1) := by decide +kernel
theorem dX10_through_25 : decode cX10_through 25 = .ok (.aload_n 0, 1) := by decide +kernel
theorem dX10_through_26 : decode cX10_through 26 = .ok (.iload_n 1, 1) := by decide +kernel
theorem dX10_through_27 : decode cX10_through 27 = .ok (.invokevirtual 120, 3) := by decide +kernel
theorem dX10_through_30 : decode cX10_through 30 = .ok (.iconst 0, 1) := by decide +kernel
theorem dX10_through_31 : decode cX10_through 31 = .ok (.istore 4, 2) := by decide +kernel
theorem dX10_through_33 : decode cX10_through 33 = .ok (.iconst 1, 1) := by decide +kernel
theorem dX10_through_34 : decode cX10_through 34 = .ok (.istore 5, 2) := by decide +kernel
theorem dX10_through_36 : decode cX10_through 36 = .ok (.iload 5, 2) := by decide +kernel
theorem dX10_through_38 : decode cX10_through 38 = .ok (.aload_n 0, 1) := by decide +kernel
theorem dX10_through_39 : decode cX10_through 39 = .ok (.getfield 107, 3) := by decide +kernel
theorem dX10_through_42 : decode cX10_through 42 = .ok (.if_icmp .gt 39, 3) := by decide +kernel
theorem dX10_through_45 : decode cX10_through 45 = .ok (.aload_n 0, 1) := by decide +kernel
theorem dX10_through_46 : decode cX10_through 46 = .ok (.iload_n 2, 1) := by decide +kernel
theorem dX10_through_47 : decode cX10_through 47 = .ok (.iload 5, 2) := by decide +kernel
theorem dX10_through_49 : decode cX10_through 49 = .ok (.invokevirtual 162, 3) := by decide +kernel
theorem dX10_through_52 : decode cX10_through 52 = .ok (.ifCond .ne 6, 3) := by decide +kernel
theorem dX10_through_55 : decode cX10_through 55 = .ok (.goto 20, 3) := by decide +kernel
theorem dX10_through_58 : decode cX10_through 58 = .ok (.iload 4, 2) := by decide +kernel
theorem dX10_through_60 : decode cX10_through 60 = .ok (.iload_n 3, 1) := by decide +kernel
theorem dX10_through_61 : decode cX10_through 61 = .ok (.if_icmp .ne 11, 3) := by decide +kernel
theorem dX10_through_64 : decode cX10_through 64 = .ok (.aload_n 0, 1) := by decide +kernel
theorem dX10_through_65 : decode cX10_through 65 = .ok (.iload_n 1, 1) := by decide +kernel
theorem dX10_through_66 : decode cX10_through 66 = .ok (.iload 5, 2) := by decide +kernel
theorem dX10_through_68 : decode cX10_through 68 = .ok (.invokevirtual 117, 3) := by decide +kernel
theorem dX10_through_71 : decode cX10_through 71 = .ok (.ireturn, 1) := by decide +kernel
theorem dX10_through_72 : decode cX10_through 72 = .ok (.iinc 4 1, 3) := by decide +kernel
theorem dX10_through_75 : decode cX10_through 75 = .ok (.iinc 5 1, 3) := by decide +kernel
theorem dX10_through_78 : decode cX10_through 78 = .ok (.goto (-42), 3) := by decide +kernel
theorem dX10_through_81 : decode cX10_through 81 = .ok (.iload_n 3, 1) := by decide +kernel
theorem dX10_through_82 : decode cX10_through 82 = .ok (.iconst (-1), 1) := by decide +kernel
theorem dX10_through_83 : decode cX10_through 83 = .ok (.if_icmp .ne 8, 3) := by decide +kernel
theorem dX10_through_86 : decode cX10_through 86 = .ok (.iload 4, 2) := by decide +kernel
theorem dX10_through_88 : decode cX10_through 88 = .ok (.goto 8, 3) := by decide +kernel
theorem dX10_through_91 : decode cX10_through 91 = .ok (.aload_n 0, 1) := by decide +kernel
theorem dX10_through_92 : decode cX10_through 92 = .ok (.iconst 5, 1) := by decide +kernel
theorem dX10_through_93 : decode cX10_through 93 = .ok (.invokevirtual 166, 3) := by decide +kernel
theorem dX10_through_96 : decode cX10_through 96 = .ok (.ireturn, 1) := by decide +kernel
theorem dX10_meets_0 : decode cX10_meets 0 = .ok (.aload_n 0, 1) := by decide +kernel
theorem dX10_meets_1 : decode cX10_meets 1 = .ok (.aload_n 0, 1) := by decide +kernel
theorem dX10_meets_2 : decode cX10_meets 2 = .ok (.iload 4, 2) := by decide +kernel
theorem dX10_meets_4 : decode cX10_meets 4 = .ok (.i2l, 1) := by decide +kernel
theorem dX10_meets_5 : decode cX10_meets 5 = .ok (.lconst 0, 1) := by decide +kernel
theorem dX10_meets_6 : decode cX10_meets 6 = .ok (.lconst 1, 1) := by decide +kernel
theorem dX10_meets_7 : decode cX10_meets 7 = .ok (.invokestatic 93, 3) := by decide +kernel
theorem dX10_meets_10 : decode cX10_meets 10 = .ok (.iload_n 1, 1) := by decide +kernel
theorem dX10_meets_11 : decode cX10_meets 11 = .ok (.iload_n 2, 1) := by decide +kernel
theorem dX10_meets_12 : decode cX10_meets 12 = .ok (.invokevirtual 241, 3) := by decide +kernel
theorem dX10_meets_15 : decode cX10_meets 15 = .ok (.invokevirtual 140, 3) := by decide +kernel
theorem dX10_meets_18 : decode cX10_meets 18 = .ok (.ifCond .ne 5, 3) := by decide +kernel
theorem dX10_meets_21 : decode cX10_meets 21 = .ok (.iconst (-1), 1) := by decide +kernel
theorem dX10_meets_22 : decode cX10_meets 22 = .ok (.ireturn, 1) := by decide +kernel
theorem dX10_meets_23 : decode cX10_meets 23 = .ok (.aload_n 0, 1) := by decide +kernel
theorem dX10_meets_24 : decode cX10_meets 24 = .ok (.iload_n 1, 1) := by decide +kernel
theorem dX10_meets_25 : decode cX10_meets 25 = .ok (.invokevirtual 120, 3) := by decide +kernel
theorem dX10_meets_28 : decode cX10_meets 28 = .ok (.iconst 0, 1) := by decide +kernel
theorem dX10_meets_29 : decode cX10_meets 29 = .ok (.istore 5, 2) := by decide +kernel
theorem dX10_meets_31 : decode cX10_meets 31 = .ok (.iconst 1, 1) := by decide +kernel
theorem dX10_meets_32 : decode cX10_meets 32 = .ok (.istore 6, 2) := by decide +kernel
theorem dX10_meets_34 : decode cX10_meets 34 = .ok (.iload 6, 2) := by decide +kernel
theorem dX10_meets_36 : decode cX10_meets 36 = .ok (.aload_n 0, 1) := by decide +kernel
theorem dX10_meets_37 : decode cX10_meets 37 = .ok (.getfield 107, 3) := by decide +kernel
theorem dX10_meets_40 : decode cX10_meets 40 = .ok (.if_icmp .gt 74, 3) := by decide +kernel
theorem dX10_meets_43 : decode cX10_meets 43 = .ok (.iload 4, 2) := by decide +kernel
theorem dX10_meets_45 : decode cX10_meets 45 = .ok (.ifCond .ne 17, 3) := by decide +kernel
theorem dX10_meets_48 : decode cX10_meets 48 = .ok (.iload_n 3, 1) := by decide +kernel
theorem dX10_meets_49 : decode cX10_meets 49 = .ok (.i2l, 1) := by decide +kernel
theorem dX10_meets_50 : decode cX10_meets 50 = .ok (.aload_n 0, 1) := by decide +kernel
theorem dX10_meets_51 : decode cX10_meets 51 = .ok (.iload_n 1, 1) := by decide +kernel
theorem dX10_meets_52 : decode cX10_meets 52 = .ok (.iload 6, 2) := by decide +kernel
theorem dX10_meets_54 : decode cX10_meets 54 = .ok (.invokevirtual 117, 3) := by decide +kernel
theorem dX10_meets_57 : decode cX10_meets 57 = .ok (.i2l, 1) := by decide +kernel
theorem dX10_meets_58 : decode cX10_meets 58 = .ok (.lsub, 1) := by decide +kernel
theorem dX10_meets_59 : decode cX10_meets 59 = .ok (.goto 14, 3) := by decide +kernel
theorem dX10_meets_62 : decode cX10_meets 62 = .ok (.aload_n 0, 1) := by decide +kernel
theorem dX10_meets_63 : decode cX10_meets 63 = .ok (.iload_n 1, 1) := by decide +kernel
theorem dX10_meets_64 : decode cX10_meets 64 = .ok (.iload 6, 2) := by decide +kernel
theorem dX10_meets_66 : decode cX10_meets 66 = .ok (.invokevirtual 117, 3) := by decide +kernel
theorem dX10_meets_69 : decode cX10_meets 69 = .ok (.i2l, 1) := by decide +kernel
theorem dX10_meets_70 : decode cX10_meets 70 = .ok (.iload_n 3, 1) := by decide +kernel
theorem dX10_meets_71 : decode cX10_meets 71 = .ok (.i2l, 1) := by decide +kernel
theorem dX10_meets_72 : decode cX10_meets 72 = .ok (.lsub, 1) := by decide +kernel
theorem dX10_meets_73 : decode cX10_meets 73 = .ok (.lstore 7, 2) := by decide +kernel
theorem dX10_meets_75 : decode cX10_meets 75 = .ok (.iload 5, 2) := by decide +kernel
theorem dX10_meets_77 : decode cX10_meets 77 = .ok (.lload 7, 2) := by decide +kernel
theorem dX10_meets_79 : decode cX10_meets 79 = .ok (.lconst 0, 1) := by decide +kernel
theorem dX10_meets_80 : decode cX10_meets 80 = .ok (.ldc2_w 259, 3) := by decide +kernel
theorem dX10_meets_83 : decode cX10_meets 83 = .ok (.invokestatic 93, 3) := by decide +kernel
theorem dX10_meets_86 : decode cX10_meets 86 = .ok (.ifCond .eq 18, 3) := by decide +kernel
theorem dX10_meets_89 : decode cX10_meets 89 = .ok (.aload_n 0, 1) := by decide +kernel
theorem dX10_meets_90 : decode cX10_meets 90 = .ok (.iload_n 2, 1) := by decide +kernel
theorem dX10_meets_91 : decode cX10_meets 91 = .ok (.lload 7, 2) := by decide +kernel
theorem dX10_meets_93 : decode cX10_meets 93 = .ok (.l2i, 1) := by decide +kernel
theorem dX10_meets_94 : decode cX10_meets 94 = .ok (.invokevirtual 162, 3) := by decide +kernel
theorem dX10_meets_97 : decode cX10_meets 97 = .ok (.ifCond .eq 7, 3) := by decide +kernel
theorem dX10_meets_100 : decode cX10_meets 100 = .ok (.iconst 1, 1) := by decide +kernel
theorem dX10_meets_101 : decode cX10_meets 101 = .ok (.goto 4, 3) := by decide +kernel
theorem dX10_meets_104 : decode cX10_meets 104 = .ok (.iconst 0, 1) := by decide +kernel
theorem dX10_meets_105 : decode cX10_meets 105 = .ok (.iadd, 1) := by decide +kernel
theorem dX10_meets_106 : decode cX10_meets 106 = .ok (.istore 5, 2) := by decide +kernel
theorem dX10_meets_108 : decode cX10_meets 108 = .ok (.iinc 6 1, 3) := by decide +kernel
theorem dX10_meets_111 : decode cX10_meets 111 = .ok (.goto (-77), 3) := by decide +kernel
theorem dX10_meets_114 : decode cX10_meets 114 = .ok (.iload 5, 2) := by decide +kernel
theorem dX10_meets_116 : decode cX10_meets 116 = .ok (.ireturn, 1) := by decide +kernel
theorem dX10_apart_0 : decode cX10_apart 0 = .ok (.aload_n 0, 1) := by decide +kernel
theorem dX10_apart_1 : decode cX10_apart 1 = .ok (.aload_n 0, 1) := by decide +kernel
theorem dX10_apart_2 : decode cX10_apart 2 = .ok (.iload_n 3, 1) := by decide +kernel
theorem dX10_apart_3 : decode cX10_apart 3 = .ok (.i2l, 1) := by decide +kernel
theorem dX10_apart_4 : decode cX10_apart 4 = .ok (.lconst 0, 1) := by decide +kernel
theorem dX10_apart_5 : decode cX10_apart 5 = .ok (.lconst 1, 1) := by decide +kernel
theorem dX10_apart_6 : decode cX10_apart 6 = .ok (.invokestatic 93, 3) := by decide +kernel
theorem dX10_apart_9 : decode cX10_apart 9 = .ok (.iload_n 1, 1) := by decide +kernel
theorem dX10_apart_10 : decode cX10_apart 10 = .ok (.iload_n 2, 1) := by decide +kernel
theorem dX10_apart_11 : decode cX10_apart 11 = .ok (.invokevirtual 241, 3) := by decide +kernel
theorem dX10_apart_14 : decode cX10_apart 14 = .ok (.invokevirtual 140, 3) := by decide +kernel
theorem dX10_apart_17 : decode cX10_apart 17 = .ok (.ifCond .ne 5, 3) := by decide +kernel
theorem dX10_apart_20 : decode cX10_apart 20 = .ok (.iconst (-1), 1) := by decide +kernel
theorem dX10_apart_21 : decode cX10_apart 21 = .ok (.ireturn, 1) := by decide +kernel
theorem dX10_apart_22 : decode cX10_apart 22 = .ok (.aload_n 0, 1) := by decide +kernel
theorem dX10_apart_23 : decode cX10_apart 23 = .ok (.iload_n 2, 1) := by decide +kernel
theorem dX10_apart_24 : decode cX10_apart 24 = .ok (.invokevirtual 120, 3) := by decide +kernel
theorem dX10_apart_27 : decode cX10_apart 27 = .ok (.aload_n 0, 1) := by decide +kernel
theorem dX10_apart_28 : decode cX10_apart 28 = .ok (.getfield 107, 3) := by decide +kernel
theorem dX10_apart_31 : decode cX10_apart 31 = .ok (.istore 4, 2) := by decide +kernel
theorem dX10_apart_33 : decode cX10_apart 33 = .ok (.iconst 0, 1) := by decide +kernel
theorem dX10_apart_34 : decode cX10_apart 34 = .ok (.istore 5, 2) := by decide +kernel
theorem dX10_apart_36 : decode cX10_apart 36 = .ok (.iload 5, 2) := by decide +kernel
theorem dX10_apart_38 : decode cX10_apart 38 = .ok (.iload 4, 2) := by decide +kernel
theorem dX10_apart_40 : decode cX10_apart 40 = .ok (.if_icmp .ge 28, 3) := by decide +kernel
theorem dX10_apart_43 : decode cX10_apart 43 = .ok (.aload_n 0, 1) := by decide +kernel
theorem dX10_apart_44 : decode cX10_apart 44 = .ok (.getfield 36, 3) := by decide +kernel
theorem dX10_apart_47 : decode cX10_apart 47 = .ok (.iload 5, 2) := by decide +kernel
theorem dX10_apart_49 : decode cX10_apart 49 = .ok (.aload_n 0, 1) := by decide +kernel
theorem dX10_apart_50 : decode cX10_apart 50 = .ok (.iload_n 2, 1) := by decide +kernel
theorem dX10_apart_51 : decode cX10_apart 51 = .ok (.aload_n 0, 1) := by decide +kernel
theorem dX10_apart_52 : decode cX10_apart 52 = .ok (.getfield 29, 3) := by decide +kernel
theorem dX10_apart_55 : decode cX10_apart 55 = .ok (.iload 5, 2) := by decide +kernel
theorem dX10_apart_57 : decode cX10_apart 57 = .ok (.iaload, 1) := by decide +kernel
theorem dX10_apart_58 : decode cX10_apart 58 = .ok (.invokevirtual 114, 3) := by decide +kernel
theorem dX10_apart_61 : decode cX10_apart 61 = .ok (.iastore, 1) := by decide +kernel
theorem dX10_apart_62 : decode cX10_apart 62 = .ok (.iinc 5 1, 3) := by decide +kernel
theorem dX10_apart_65 : decode cX10_apart 65 = .ok (.goto (-29), 3) := by decide +kernel
theorem dX10_apart_68 : decode cX10_apart 68 = .ok (.aload_n 0, 1) := by decide +kernel
theorem dX10_apart_69 : decode cX10_apart 69 = .ok (.iload_n 1, 1) := by decide +kernel
theorem dX10_apart_70 : decode cX10_apart 70 = .ok (.invokevirtual 120, 3) := by decide +kernel
theorem dX10_apart_73 : decode cX10_apart 73 = .ok (.iconst 0, 1) := by decide +kernel
theorem dX10_apart_74 : decode cX10_apart 74 = .ok (.istore 5, 2) := by decide +kernel
theorem dX10_apart_76 : decode cX10_apart 76 = .ok (.iconst (-1), 1) := by decide +kernel
theorem dX10_apart_77 : decode cX10_apart 77 = .ok (.istore 6, 2) := by decide +kernel
theorem dX10_apart_79 : decode cX10_apart 79 = .ok (.aload_n 0, 1) := by decide +kernel
theorem dX10_apart_80 : decode cX10_apart 80 = .ok (.getfield 107, 3) := by decide +kernel
theorem dX10_apart_83 : decode cX10_apart 83 = .ok (.iload 4, 2) := by decide +kernel
theorem dX10_apart_85 : decode cX10_apart 85 = .ok (.if_icmp .le 10, 3) := by decide +kernel
theorem dX10_apart_88 : decode cX10_apart 88 = .ok (.aload_n 0, 1) := by decide +kernel
theorem dX10_apart_89 : decode cX10_apart 89 = .ok (.getfield 107, 3) := by decide +kernel
theorem dX10_apart_92 : decode cX10_apart 92 = .ok (.goto 5, 3) := by decide +kernel
theorem dX10_apart_95 : decode cX10_apart 95 = .ok (.iload 4, 2) := by decide +kernel
theorem dX10_apart_97 : decode cX10_apart 97 = .ok (.istore 7, 2) := by decide +kernel
theorem dX10_apart_99 : decode cX10_apart 99 = .ok (.iconst 1, 1) := by decide +kernel
theorem dX10_apart_100 : decode cX10_apart 100 = .ok (.istore 8, 2) := by decide +kernel
theorem dX10_apart_102 : decode cX10_apart 102 = .ok (.iload 8, 2) := by decide +kernel
theorem dX10_apart_104 : decode cX10_apart 104 = .ok (.iload 7, 2) := by decide +kernel
theorem dX10_apart_106 : decode cX10_apart 106 = .ok (.if_icmp .gt 85, 3) := by decide +kernel
theorem dX10_apart_109 : decode cX10_apart 109 = .ok (.iload 8, 2) := by decide +kernel
theorem dX10_apart_111 : decode cX10_apart 111 = .ok (.aload_n 0, 1) := by decide +kernel
theorem dX10_apart_112 : decode cX10_apart 112 = .ok (.getfield 107, 3) := by decide +kernel
theorem dX10_apart_115 : decode cX10_apart 115 = .ok (.if_icmp .gt 33, 3) := by decide +kernel
theorem dX10_apart_118 : decode cX10_apart 118 = .ok (.iload 8, 2) := by decide +kernel
theorem dX10_apart_120 : decode cX10_apart 120 = .ok (.iload 4, 2) := by decide +kernel
theorem dX10_apart_122 : decode cX10_apart 122 = .ok (.if_icmp .gt 26, 3) := by decide +kernel
theorem dX10_apart_125 : decode cX10_apart 125 = .ok (.aload_n 0, 1) := by decide +kernel
theorem dX10_apart_126 : decode cX10_apart 126 = .ok (.iload_n 1, 1) := by decide +kernel
theorem dX10_apart_127 : decode cX10_apart 127 = .ok (.iload 8, 2) := by decide +kernel
theorem dX10_apart_129 : decode cX10_apart 129 = .ok (.invokevirtual 117, 3) := by decide +kernel
theorem dX10_apart_132 : decode cX10_apart 132 = .ok (.aload_n 0, 1) := by decide +kernel
theorem dX10_apart_133 : decode cX10_apart 133 = .ok (.getfield 36, 3) := by decide +kernel
theorem dX10_apart_136 : decode cX10_apart 136 = .ok (.iload 8, 2) := by decide +kernel
theorem dX10_apart_138 : decode cX10_apart 138 = .ok (.iconst 1, 1) := by decide +kernel
theorem dX10_apart_139 : decode cX10_apart 139 = .ok (.isub, 1) := by decide +kernel
theorem dX10_apart_140 : decode cX10_apart 140 = .ok (.iaload, 1) := by decide +kernel
theorem dX10_apart_141 : decode cX10_apart 141 = .ok (.if_icmp .ne 7, 3) := by decide +kernel
theorem dX10_apart_144 : decode cX10_apart 144 = .ok (.iconst 1, 1) := by decide +kernel
theorem dX10_apart_145 : decode cX10_apart 145 = .ok (.goto 4, 3) := by decide +kernel
theorem dX10_apart_148 : decode cX10_apart 148 = .ok (.iconst 0, 1) := by decide +kernel
theorem dX10_apart_149 : decode cX10_apart 149 = .ok (.istore 9, 2) := by decide +kernel
theorem dX10_apart_151 : decode cX10_apart 151 = .ok (.iload 5, 2) := by decide +kernel
theorem dX10_apart_153 : decode cX10_apart 153 = .ok (.iload 9, 2) := by decide +kernel
theorem dX10_apart_155 : decode cX10_apart 155 = .ok (.ifCond .eq 7, 3) := by decide +kernel
theorem dX10_apart_158 : decode cX10_apart 158 = .ok (.iconst 1, 1) := by decide +kernel
theorem dX10_apart_159 : decode cX10_apart 159 = .ok (.goto 4, 3) := by decide +kernel
theorem dX10_apart_162 : decode cX10_apart 162 = .ok (.iconst 0, 1) := by decide +kernel
theorem dX10_apart_163 : decode cX10_apart 163 = .ok (.iadd, 1) := by decide +kernel
theorem dX10_apart_164 : decode cX10_apart 164 = .ok (.istore 5, 2) := by decide +kernel
theorem dX10_apart_166 : decode cX10_apart 166 = .ok (.iload 6, 2) := by decide +kernel
theorem dX10_apart_168 : decode cX10_apart 168 = .ok (.ifCond .ge 13, 3) := by decide +kernel
theorem dX10_apart_171 : decode cX10_apart 171 = .ok (.iload 9, 2) := by decide +kernel
theorem dX10_apart_173 : decode cX10_apart 173 = .ok (.ifCond .ne 8, 3) := by decide +kernel
theorem dX10_apart_176 : decode cX10_apart 176 = .ok (.iload 8, 2) := by decide +kernel
theorem dX10_apart_178 : decode cX10_apart 178 = .ok (.goto 5, 3) := by decide +kernel
theorem dX10_apart_181 : decode cX10_apart 181 = .ok (.iload 6, 2) := by decide +kernel
theorem dX10_apart_183 : decode cX10_apart 183 = .ok (.istore 6, 2) := by decide +kernel
theorem dX10_apart_185 : decode cX10_apart 185 = .ok (.iinc 8 1, 3) := by decide +kernel
theorem dX10_apart_188 : decode cX10_apart 188 = .ok (.goto (-86), 3) := by decide +kernel
theorem dX10_apart_191 : decode cX10_apart 191 = .ok (.iload_n 3, 1) := by decide +kernel
theorem dX10_apart_192 : decode cX10_apart 192 = .ok (.iconst 1, 1) := by decide +kernel
theorem dX10_apart_193 : decode cX10_apart 193 = .ok (.if_icmp .ne 8, 3) := by decide +kernel
theorem dX10_apart_196 : decode cX10_apart 196 = .ok (.iload 5, 2) := by decide +kernel
theorem dX10_apart_198 : decode cX10_apart 198 = .ok (.goto 18, 3) := by decide +kernel
theorem dX10_apart_201 : decode cX10_apart 201 = .ok (.iload 6, 2) := by decide +kernel
theorem dX10_apart_203 : decode cX10_apart 203 = .ok (.ifCond .ge 11, 3) := by decide +kernel
theorem dX10_apart_206 : decode cX10_apart 206 = .ok (.aload_n 0, 1) := by decide +kernel
theorem dX10_apart_207 : decode cX10_apart 207 = .ok (.iconst 5, 1) := by decide +kernel
theorem dX10_apart_208 : decode cX10_apart 208 = .ok (.invokevirtual 166, 3) := by decide +kernel
theorem dX10_apart_211 : decode cX10_apart 211 = .ok (.goto 5, 3) := by decide +kernel
theorem dX10_apart_214 : decode cX10_apart 214 = .ok (.iload 6, 2) := by decide +kernel
theorem dX10_apart_216 : decode cX10_apart 216 = .ok (.ireturn, 1) := by decide +kernel
theorem dX10_isList_0 : decode cX10_isList 0 = .ok (.iload_n 1, 1) := by decide +kernel
theorem dX10_isList_1 : decode cX10_isList 1 = .ok (.i2l, 1) := by decide +kernel
theorem dX10_isList_2 : decode cX10_isList 2 = .ok (.lconst 0, 1) := by decide +kernel
theorem dX10_isList_3 : decode cX10_isList 3 = .ok (.aload_n 0, 1) := by decide +kernel
theorem dX10_isList_4 : decode cX10_isList 4 = .ok (.getfield 147, 3) := by decide +kernel
theorem dX10_isList_7 : decode cX10_isList 7 = .ok (.iconst 1, 1) := by decide +kernel
theorem dX10_isList_8 : decode cX10_isList 8 = .ok (.isub, 1) := by decide +kernel
theorem dX10_isList_9 : decode cX10_isList 9 = .ok (.i2l, 1) := by decide +kernel
theorem dX10_isList_10 : decode cX10_isList 10 = .ok (.invokestatic 93, 3) := by decide +kernel
theorem dX10_isList_13 : decode cX10_isList 13 = .ok (.ireturn, 1) := by decide +kernel
theorem dX10_listMany_0 : decode cX10_listMany 0 = .ok (.aload_n 0, 1) := by decide +kernel
theorem dX10_listMany_1 : decode cX10_listMany 1 = .ok (.getfield 23, 3) := by decide +kernel
theorem dX10_listMany_4 : decode cX10_listMany 4 = .ok (.bipush 11, 2) := by decide +kernel
theorem dX10_listMany_6 : decode cX10_listMany 6 = .ok (.iload_n 1, 1) := by decide +kernel
theorem dX10_listMany_7 : decode cX10_listMany 7 = .ok (.imul, 1) := by decide +kernel
theorem dX10_listMany_8 : decode cX10_listMany 8 = .ok (.iaload, 1) := by decide +kernel
theorem dX10_listMany_9 : decode cX10_listMany 9 = .ok (.ireturn, 1) := by decide +kernel
theorem dX10_listAt_0 : decode cX10_listAt 0 = .ok (.aload_n 0, 1) := by decide +kernel
theorem dX10_listAt_1 : decode cX10_listAt 1 = .ok (.getfield 23, 3) := by decide +kernel
theorem dX10_listAt_4 : decode cX10_listAt 4 = .ok (.bipush 11, 2) := by decide +kernel
theorem dX10_listAt_6 : decode cX10_listAt 6 = .ok (.iload_n 1, 1) := by decide +kernel
theorem dX10_listAt_7 : decode cX10_listAt 7 = .ok (.imul, 1) := by decide +kernel
theorem dX10_listAt_8 : decode cX10_listAt 8 = .ok (.iconst 1, 1) := by decide +kernel
theorem dX10_listAt_9 : decode cX10_listAt 9 = .ok (.iadd, 1) := by decide +kernel
theorem dX10_listAt_10 : decode cX10_listAt 10 = .ok (.iload_n 2, 1) := by decide +kernel
theorem dX10_listAt_11 : decode cX10_listAt 11 = .ok (.iadd, 1) := by decide +kernel
theorem dX10_listAt_12 : decode cX10_listAt 12 = .ok (.iaload, 1) := by decide +kernel
theorem dX10_listAt_13 : decode cX10_listAt 13 = .ok (.ireturn, 1) := by decide +kernel
theorem dX10_list_0 : decode cX10_list 0 = .ok (.aload_n 0, 1) := by decide +kernel
theorem dX10_list_1 : decode cX10_list 1 = .ok (.iload_n 2, 1) := by decide +kernel
theorem dX10_list_2 : decode cX10_list 2 = .ok (.iconst (-1), 1) := by decide +kernel
theorem dX10_list_3 : decode cX10_list 3 = .ok (.if_icmp .ge 7, 3) := by decide +kernel
theorem dX10_list_6 : decode cX10_list 6 = .ok (.iconst 1, 1) := by decide +kernel
theorem dX10_list_7 : decode cX10_list 7 = .ok (.goto 16, 3) := by decide +kernel
theorem dX10_list_10 : decode cX10_list 10 = .ok (.aload_n 0, 1) := by decide +kernel
theorem dX10_list_11 : decode cX10_list 11 = .ok (.iload_n 1, 1) := by decide +kernel
theorem dX10_list_12 : decode cX10_list 12 = .ok (.invokevirtual 261, 3) := by decide +kernel
theorem dX10_list_15 : decode cX10_list 15 = .ok (.ifCond .eq 7, 3) := by decide +kernel
theorem dX10_list_18 : decode cX10_list 18 = .ok (.iconst 0, 1) := by decide +kernel
theorem dX10_list_19 : decode cX10_list 19 = .ok (.goto 4, 3) := by decide +kernel
theorem dX10_list_22 : decode cX10_list 22 = .ok (.iconst 2, 1) := by decide +kernel
theorem dX10_list_23 : decode cX10_list 23 = .ok (.invokevirtual 140, 3) := by decide +kernel
theorem dX10_list_26 : decode cX10_list 26 = .ok (.ifCond .ne 5, 3) := by decide +kernel
theorem dX10_list_29 : decode cX10_list 29 = .ok (.iconst (-1), 1) := by decide +kernel
theorem dX10_list_30 : decode cX10_list 30 = .ok (.ireturn, 1) := by decide +kernel
theorem dX10_list_31 : decode cX10_list 31 = .ok (.iload_n 2, 1) := by decide +kernel
theorem dX10_list_32 : decode cX10_list 32 = .ok (.iconst (-1), 1) := by decide +kernel
theorem dX10_list_33 : decode cX10_list 33 = .ok (.if_icmp .ne 11, 3) := by decide +kernel
theorem dX10_list_36 : decode cX10_list 36 = .ok (.aload_n 0, 1) := by decide +kernel
theorem dX10_list_37 : decode cX10_list 37 = .ok (.iload_n 1, 1) := by decide +kernel
theorem dX10_list_38 : decode cX10_list 38 = .ok (.invokevirtual 264, 3) := by decide +kernel
theorem dX10_list_41 : decode cX10_list 41 = .ok (.goto 26, 3) := by decide +kernel
theorem dX10_list_44 : decode cX10_list 44 = .ok (.iload_n 2, 1) := by decide +kernel
theorem dX10_list_45 : decode cX10_list 45 = .ok (.aload_n 0, 1) := by decide +kernel
theorem dX10_list_46 : decode cX10_list 46 = .ok (.iload_n 1, 1) := by decide +kernel
theorem dX10_list_47 : decode cX10_list 47 = .ok (.invokevirtual 264, 3) := by decide +kernel
theorem dX10_list_50 : decode cX10_list 50 = .ok (.if_icmp .ge 12, 3) := by decide +kernel
theorem dX10_list_53 : decode cX10_list 53 = .ok (.aload_n 0, 1) := by decide +kernel
theorem dX10_list_54 : decode cX10_list 54 = .ok (.iload_n 1, 1) := by decide +kernel
theorem dX10_list_55 : decode cX10_list 55 = .ok (.iload_n 2, 1) := by decide +kernel
theorem dX10_list_56 : decode cX10_list 56 = .ok (.invokevirtual 267, 3) := by decide +kernel
theorem dX10_list_59 : decode cX10_list 59 = .ok (.goto 8, 3) := by decide +kernel
theorem dX10_list_62 : decode cX10_list 62 = .ok (.aload_n 0, 1) := by decide +kernel
theorem dX10_list_63 : decode cX10_list 63 = .ok (.iconst 5, 1) := by decide +kernel
theorem dX10_list_64 : decode cX10_list 64 = .ok (.invokevirtual 166, 3) := by decide +kernel
theorem dX10_list_67 : decode cX10_list 67 = .ok (.ireturn, 1) := by decide +kernel
theorem dX10_isBeside_0 : decode cX10_isBeside 0 = .ok (.aload_n 0, 1) := by decide +kernel
theorem dX10_isBeside_1 : decode cX10_isBeside 1 = .ok (.iload_n 1, 1) := by decide +kernel
theorem dX10_isBeside_2 : decode cX10_isBeside 2 = .ok (.aload_n 0, 1) := by decide +kernel
theorem dX10_isBeside_3 : decode cX10_isBeside 3 = .ok (.iload_n 2, 1) := by decide +kernel
theorem dX10_isBeside_4 : decode cX10_isBeside 4 = .ok (.iconst 0, 1) := by decide +kernel
theorem dX10_isBeside_5 : decode cX10_isBeside 5 = .ok (.invokevirtual 267, 3) := by decide +kernel
theorem dX10_isBeside_8 : decode cX10_isBeside 8 = .ok (.invokevirtual 101, 3) := by decide +kernel
theorem dX10_isBeside_11 : decode cX10_isBeside 11 = .ok (.istore_n 3, 1) := by decide +kernel
theorem dX10_isBeside_12 : decode cX10_isBeside 12 = .ok (.iload_n 3, 1) := by decide +kernel
theorem dX10_isBeside_13 : decode cX10_isBeside 13 = .ok (.ifCond .ge 7, 3) := by decide +kernel
theorem dX10_isBeside_16 : decode cX10_isBeside 16 = .ok (.iconst (-1), 1) := by decide +kernel
theorem dX10_isBeside_17 : decode cX10_isBeside 17 = .ok (.goto 9, 3) := by decide +kernel
theorem dX10_isBeside_20 : decode cX10_isBeside 20 = .ok (.aload_n 0, 1) := by decide +kernel
theorem dX10_isBeside_21 : decode cX10_isBeside 21 = .ok (.iload_n 1, 1) := by decide +kernel
theorem dX10_isBeside_22 : decode cX10_isBeside 22 = .ok (.iload_n 3, 1) := by decide +kernel
theorem dX10_isBeside_23 : decode cX10_isBeside 23 = .ok (.invokevirtual 194, 3) := by decide +kernel
theorem dX10_isBeside_26 : decode cX10_isBeside 26 = .ok (.istore 4, 2) := by decide +kernel
theorem dX10_isBeside_28 : decode cX10_isBeside 28 = .ok (.iload 4, 2) := by decide +kernel
theorem dX10_isBeside_30 : decode cX10_isBeside 30 = .ok (.ifCond .lt 20, 3) := by decide +kernel
theorem dX10_isBeside_33 : decode cX10_isBeside 33 = .ok (.iload 4, 2) := by decide +kernel
theorem dX10_isBeside_35 : decode cX10_isBeside 35 = .ok (.aload_n 0, 1) := by decide +kernel
theorem dX10_isBeside_36 : decode cX10_isBeside 36 = .ok (.iload_n 2, 1) := by decide +kernel
theorem dX10_isBeside_37 : decode cX10_isBeside 37 = .ok (.invokevirtual 264, 3) := by decide +kernel
theorem dX10_isBeside_40 : decode cX10_isBeside 40 = .ok (.iadd, 1) := by decide +kernel
theorem dX10_isBeside_41 : decode cX10_isBeside 41 = .ok (.iconst 1, 1) := by decide +kernel
theorem dX10_isBeside_42 : decode cX10_isBeside 42 = .ok (.isub, 1) := by decide +kernel
theorem dX10_isBeside_43 : decode cX10_isBeside 43 = .ok (.aload_n 0, 1) := by decide +kernel
theorem dX10_isBeside_44 : decode cX10_isBeside 44 = .ok (.getfield 107, 3) := by decide +kernel
theorem dX10_isBeside_47 : decode cX10_isBeside 47 = .ok (.if_icmp .le 5, 3) := by decide +kernel
theorem dX10_isBeside_50 : decode cX10_isBeside 50 = .ok (.iconst 0, 1) := by decide +kernel
theorem dX10_isBeside_51 : decode cX10_isBeside 51 = .ok (.ireturn, 1) := by decide +kernel
theorem dX10_isBeside_52 : decode cX10_isBeside 52 = .ok (.iconst 0, 1) := by decide +kernel
theorem dX10_isBeside_53 : decode cX10_isBeside 53 = .ok (.istore 5, 2) := by decide +kernel
theorem dX10_isBeside_55 : decode cX10_isBeside 55 = .ok (.iload 5, 2) := by decide +kernel
theorem dX10_isBeside_57 : decode cX10_isBeside 57 = .ok (.aload_n 0, 1) := by decide +kernel
theorem dX10_isBeside_58 : decode cX10_isBeside 58 = .ok (.iload_n 2, 1) := by decide +kernel
theorem dX10_isBeside_59 : decode cX10_isBeside 59 = .ok (.invokevirtual 264, 3) := by decide +kernel
theorem dX10_isBeside_62 : decode cX10_isBeside 62 = .ok (.if_icmp .ge 31, 3) := by decide +kernel
theorem dX10_isBeside_65 : decode cX10_isBeside 65 = .ok (.aload_n 0, 1) := by decide +kernel
theorem dX10_isBeside_66 : decode cX10_isBeside 66 = .ok (.iload_n 1, 1) := by decide +kernel
theorem dX10_isBeside_67 : decode cX10_isBeside 67 = .ok (.iload 4, 2) := by decide +kernel
theorem dX10_isBeside_69 : decode cX10_isBeside 69 = .ok (.iload 5, 2) := by decide +kernel
theorem dX10_isBeside_71 : decode cX10_isBeside 71 = .ok (.iadd, 1) := by decide +kernel
theorem dX10_isBeside_72 : decode cX10_isBeside 72 = .ok (.invokevirtual 117, 3) := by decide +kernel
theorem dX10_isBeside_75 : decode cX10_isBeside 75 = .ok (.aload_n 0, 1) := by decide +kernel
theorem dX10_isBeside_76 : decode cX10_isBeside 76 = .ok (.iload_n 2, 1) := by decide +kernel
theorem dX10_isBeside_77 : decode cX10_isBeside 77 = .ok (.iload 5, 2) := by decide +kernel
theorem dX10_isBeside_79 : decode cX10_isBeside 79 = .ok (.invokevirtual 267, 3) := by decide +kernel
theorem dX10_isBeside_82 : decode cX10_isBeside 82 = .ok (.if_icmp .eq 5, 3) := by decide +kernel
theorem dX10_isBeside_85 : decode cX10_isBeside 85 = .ok (.iconst 0, 1) := by decide +kernel
theorem dX10_isBeside_86 : decode cX10_isBeside 86 = .ok (.ireturn, 1) := by decide +kernel
theorem dX10_isBeside_87 : decode cX10_isBeside 87 = .ok (.iinc 5 1, 3) := by decide +kernel
theorem dX10_isBeside_90 : decode cX10_isBeside 90 = .ok (.goto (-35), 3) := by decide +kernel
theorem dX10_isBeside_93 : decode cX10_isBeside 93 = .ok (.iconst 1, 1) := by decide +kernel
theorem dX10_isBeside_94 : decode cX10_isBeside 94 = .ok (.ireturn, 1) := by decide +kernel
theorem dX10_fits_0 : decode cX10_fits 0 = .ok (.aload_n 0, 1) := by decide +kernel
theorem dX10_fits_1 : decode cX10_fits 1 = .ok (.iload_n 3, 1) := by decide +kernel
theorem dX10_fits_2 : decode cX10_fits 2 = .ok (.i2l, 1) := by decide +kernel
theorem dX10_fits_3 : decode cX10_fits 3 = .ok (.lconst 0, 1) := by decide +kernel
theorem dX10_fits_4 : decode cX10_fits 4 = .ok (.ldc2_w 138, 3) := by decide +kernel
theorem dX10_fits_7 : decode cX10_fits 7 = .ok (.invokestatic 93, 3) := by decide +kernel
theorem dX10_fits_10 : decode cX10_fits 10 = .ok (.ifCond .ne 7, 3) := by decide +kernel
theorem dX10_fits_13 : decode cX10_fits 13 = .ok (.iconst 1, 1) := by decide +kernel
theorem dX10_fits_14 : decode cX10_fits 14 = .ok (.goto 24, 3) := by decide +kernel
theorem dX10_fits_17 : decode cX10_fits 17 = .ok (.aload_n 0, 1) := by decide +kernel
theorem dX10_fits_18 : decode cX10_fits 18 = .ok (.iload_n 1, 1) := by decide +kernel
theorem dX10_fits_19 : decode cX10_fits 19 = .ok (.invokevirtual 152, 3) := by decide +kernel
theorem dX10_fits_22 : decode cX10_fits 22 = .ok (.ifCond .eq 15, 3) := by decide +kernel
theorem dX10_fits_25 : decode cX10_fits 25 = .ok (.aload_n 0, 1) := by decide +kernel
theorem dX10_fits_26 : decode cX10_fits 26 = .ok (.iload_n 2, 1) := by decide +kernel
theorem dX10_fits_27 : decode cX10_fits 27 = .ok (.invokevirtual 261, 3) := by decide +kernel
theorem dX10_fits_30 : decode cX10_fits 30 = .ok (.ifCond .eq 7, 3) := by decide +kernel
theorem dX10_fits_33 : decode cX10_fits 33 = .ok (.iconst 0, 1) := by decide +kernel
theorem dX10_fits_34 : decode cX10_fits 34 = .ok (.goto 4, 3) := by decide +kernel
theorem dX10_fits_37 : decode cX10_fits 37 = .ok (.iconst 2, 1) := by decide +kernel
theorem dX10_fits_38 : decode cX10_fits 38 = .ok (.invokevirtual 140, 3) := by decide +kernel
theorem dX10_fits_41 : decode cX10_fits 41 = .ok (.ifCond .ne 5, 3) := by decide +kernel
theorem dX10_fits_44 : decode cX10_fits 44 = .ok (.iconst (-1), 1) := by decide +kernel
theorem dX10_fits_45 : decode cX10_fits 45 = .ok (.ireturn, 1) := by decide +kernel
theorem dX10_fits_46 : decode cX10_fits 46 = .ok (.aload_n 0, 1) := by decide +kernel
theorem dX10_fits_47 : decode cX10_fits 47 = .ok (.iload_n 1, 1) := by decide +kernel
theorem dX10_fits_48 : decode cX10_fits 48 = .ok (.invokevirtual 120, 3) := by decide +kernel
theorem dX10_fits_51 : decode cX10_fits 51 = .ok (.iconst 0, 1) := by decide +kernel
theorem dX10_fits_52 : decode cX10_fits 52 = .ok (.istore 4, 2) := by decide +kernel
theorem dX10_fits_54 : decode cX10_fits 54 = .ok (.iconst (-1), 1) := by decide +kernel
theorem dX10_fits_55 : decode cX10_fits 55 = .ok (.istore 5, 2) := by decide +kernel
theorem dX10_fits_57 : decode cX10_fits 57 = .ok (.iconst 0, 1) := by decide +kernel
theorem dX10_fits_58 : decode cX10_fits 58 = .ok (.istore 6, 2) := by decide +kernel
theorem dX10_fits_60 : decode cX10_fits 60 = .ok (.iload 6, 2) := by decide +kernel
theorem dX10_fits_62 : decode cX10_fits 62 = .ok (.aload_n 0, 1) := by decide +kernel
theorem dX10_fits_63 : decode cX10_fits 63 = .ok (.iload_n 2, 1) := by decide +kernel
theorem dX10_fits_64 : decode cX10_fits 64 = .ok (.invokevirtual 264, 3) := by decide +kernel
theorem dX10_fits_67 : decode cX10_fits 67 = .ok (.if_icmp .ge 62, 3) := by decide +kernel
theorem dX10_fits_70 : decode cX10_fits 70 = .ok (.aload_n 0, 1) := by decide +kernel
theorem dX10_fits_71 : decode cX10_fits 71 = .ok (.iload_n 1, 1) := by decide +kernel
theorem dX10_fits_72 : decode cX10_fits 72 = .ok (.aload_n 0, 1) := by decide +kernel
theorem dX10_fits_73 : decode cX10_fits 73 = .ok (.iload_n 2, 1) := by decide +kernel
theorem dX10_fits_74 : decode cX10_fits 74 = .ok (.iload 6, 2) := by decide +kernel
theorem dX10_fits_76 : decode cX10_fits 76 = .ok (.invokevirtual 267, 3) := by decide +kernel
theorem dX10_fits_79 : decode cX10_fits 79 = .ok (.invokevirtual 162, 3) := by decide +kernel
theorem dX10_fits_82 : decode cX10_fits 82 = .ok (.istore 7, 2) := by decide +kernel
theorem dX10_fits_84 : decode cX10_fits 84 = .ok (.iload 4, 2) := by decide +kernel
theorem dX10_fits_86 : decode cX10_fits 86 = .ok (.iload 7, 2) := by decide +kernel
theorem dX10_fits_88 : decode cX10_fits 88 = .ok (.ifCond .eq 7, 3) := by decide +kernel
theorem dX10_fits_91 : decode cX10_fits 91 = .ok (.iconst 1, 1) := by decide +kernel
theorem dX10_fits_92 : decode cX10_fits 92 = .ok (.goto 4, 3) := by decide +kernel
theorem dX10_fits_95 : decode cX10_fits 95 = .ok (.iconst 0, 1) := by decide +kernel
theorem dX10_fits_96 : decode cX10_fits 96 = .ok (.iadd, 1) := by decide +kernel
theorem dX10_fits_97 : decode cX10_fits 97 = .ok (.istore 4, 2) := by decide +kernel
theorem dX10_fits_99 : decode cX10_fits 99 = .ok (.iload 5, 2) := by decide +kernel
theorem dX10_fits_101 : decode cX10_fits 101 = .ok (.ifCond .ge 18, 3) := by decide +kernel
theorem dX10_fits_104 : decode cX10_fits 104 = .ok (.iload 7, 2) := by decide +kernel
theorem dX10_fits_106 : decode cX10_fits 106 = .ok (.ifCond .ne 13, 3) := by decide +kernel
theorem dX10_fits_109 : decode cX10_fits 109 = .ok (.aload_n 0, 1) := by decide +kernel
theorem dX10_fits_110 : decode cX10_fits 110 = .ok (.iload_n 2, 1) := by decide +kernel
theorem dX10_fits_111 : decode cX10_fits 111 = .ok (.iload 6, 2) := by decide +kernel
theorem dX10_fits_113 : decode cX10_fits 113 = .ok (.invokevirtual 267, 3) := by decide +kernel
theorem dX10_fits_116 : decode cX10_fits 116 = .ok (.goto 5, 3) := by decide +kernel
theorem dX10_fits_119 : decode cX10_fits 119 = .ok (.iload 5, 2) := by decide +kernel
theorem dX10_fits_121 : decode cX10_fits 121 = .ok (.istore 5, 2) := by decide +kernel
theorem dX10_fits_123 : decode cX10_fits 123 = .ok (.iinc 6 1, 3) := by decide +kernel
theorem dX10_fits_126 : decode cX10_fits 126 = .ok (.goto (-66), 3) := by decide +kernel
theorem dX10_fits_129 : decode cX10_fits 129 = .ok (.iload_n 3, 1) := by decide +kernel
theorem dX10_fits_130 : decode cX10_fits 130 = .ok (.iconst 2, 1) := by decide +kernel
theorem dX10_fits_131 : decode cX10_fits 131 = .ok (.if_icmp .ne 18, 3) := by decide +kernel
theorem dX10_fits_134 : decode cX10_fits 134 = .ok (.aload_n 0, 1) := by decide +kernel
theorem dX10_fits_135 : decode cX10_fits 135 = .ok (.iload_n 1, 1) := by decide +kernel
theorem dX10_fits_136 : decode cX10_fits 136 = .ok (.iload_n 2, 1) := by decide +kernel
theorem dX10_fits_137 : decode cX10_fits 137 = .ok (.invokevirtual 270, 3) := by decide +kernel
theorem dX10_fits_140 : decode cX10_fits 140 = .ok (.ifCond .eq 7, 3) := by decide +kernel
theorem dX10_fits_143 : decode cX10_fits 143 = .ok (.iconst 1, 1) := by decide +kernel
theorem dX10_fits_144 : decode cX10_fits 144 = .ok (.goto 4, 3) := by decide +kernel
theorem dX10_fits_147 : decode cX10_fits 147 = .ok (.iconst 0, 1) := by decide +kernel
theorem dX10_fits_148 : decode cX10_fits 148 = .ok (.ireturn, 1) := by decide +kernel
theorem dX10_fits_149 : decode cX10_fits 149 = .ok (.iload_n 3, 1) := by decide +kernel
theorem dX10_fits_150 : decode cX10_fits 150 = .ok (.ifCond .ne 8, 3) := by decide +kernel
theorem dX10_fits_153 : decode cX10_fits 153 = .ok (.iload 4, 2) := by decide +kernel
theorem dX10_fits_155 : decode cX10_fits 155 = .ok (.goto 18, 3) := by decide +kernel
theorem dX10_fits_158 : decode cX10_fits 158 = .ok (.iload 5, 2) := by decide +kernel
theorem dX10_fits_160 : decode cX10_fits 160 = .ok (.ifCond .ge 11, 3) := by decide +kernel
theorem dX10_fits_163 : decode cX10_fits 163 = .ok (.aload_n 0, 1) := by decide +kernel
theorem dX10_fits_164 : decode cX10_fits 164 = .ok (.iconst 5, 1) := by decide +kernel
theorem dX10_fits_165 : decode cX10_fits 165 = .ok (.invokevirtual 166, 3) := by decide +kernel
theorem dX10_fits_168 : decode cX10_fits 168 = .ok (.goto 5, 3) := by decide +kernel
theorem dX10_fits_171 : decode cX10_fits 171 = .ok (.iload 5, 2) := by decide +kernel
theorem dX10_fits_173 : decode cX10_fits 173 = .ok (.ireturn, 1) := by decide +kernel
theorem dX10_guess_0 : decode cX10_guess 0 = .ok (.aload_n 0, 1) := by decide +kernel
theorem dX10_guess_1 : decode cX10_guess 1 = .ok (.aload_n 0, 1) := by decide +kernel
theorem dX10_guess_2 : decode cX10_guess 2 = .ok (.iload_n 1, 1) := by decide +kernel
theorem dX10_guess_3 : decode cX10_guess 3 = .ok (.invokevirtual 261, 3) := by decide +kernel
theorem dX10_guess_6 : decode cX10_guess 6 = .ok (.ifCond .eq 7, 3) := by decide +kernel
theorem dX10_guess_9 : decode cX10_guess 9 = .ok (.iconst 0, 1) := by decide +kernel
theorem dX10_guess_10 : decode cX10_guess 10 = .ok (.goto 4, 3) := by decide +kernel
theorem dX10_guess_13 : decode cX10_guess 13 = .ok (.iconst 2, 1) := by decide +kernel
theorem dX10_guess_14 : decode cX10_guess 14 = .ok (.invokevirtual 140, 3) := by decide +kernel
theorem dX10_guess_17 : decode cX10_guess 17 = .ok (.ifCond .ne 5, 3) := by decide +kernel
theorem dX10_guess_20 : decode cX10_guess 20 = .ok (.iconst (-1), 1) := by decide +kernel
theorem dX10_guess_21 : decode cX10_guess 21 = .ok (.ireturn, 1) := by decide +kernel
theorem dX10_guess_22 : decode cX10_guess 22 = .ok (.iconst 0, 1) := by decide +kernel
theorem dX10_guess_23 : decode cX10_guess 23 = .ok (.istore_n 2, 1) := by decide +kernel
theorem dX10_guess_24 : decode cX10_guess 24 = .ok (.iload_n 2, 1) := by decide +kernel
theorem dX10_guess_25 : decode cX10_guess 25 = .ok (.aload_n 0, 1) := by decide +kernel
theorem dX10_guess_26 : decode cX10_guess 26 = .ok (.getfield 90, 3) := by decide +kernel
theorem dX10_guess_29 : decode cX10_guess 29 = .ok (.if_icmp .ge 36, 3) := by decide +kernel
theorem dX10_guess_32 : decode cX10_guess 32 = .ok (.aload_n 0, 1) := by decide +kernel
theorem dX10_guess_33 : decode cX10_guess 33 = .ok (.iload_n 2, 1) := by decide +kernel
theorem dX10_guess_34 : decode cX10_guess 34 = .ok (.invokevirtual 200, 3) := by decide +kernel
theorem dX10_guess_37 : decode cX10_guess 37 = .ok (.aload_n 0, 1) := by decide +kernel
theorem dX10_guess_38 : decode cX10_guess 38 = .ok (.iconst 4, 1) := by decide +kernel
theorem dX10_guess_39 : decode cX10_guess 39 = .ok (.invokevirtual 159, 3) := by decide +kernel
theorem dX10_guess_42 : decode cX10_guess 42 = .ok (.pop, 1) := by decide +kernel
theorem dX10_guess_43 : decode cX10_guess 43 = .ok (.aload_n 0, 1) := by decide +kernel
theorem dX10_guess_44 : decode cX10_guess 44 = .ok (.iconst 4, 1) := by decide +kernel
theorem dX10_guess_45 : decode cX10_guess 45 = .ok (.invokevirtual 120, 3) := by decide +kernel
theorem dX10_guess_48 : decode cX10_guess 48 = .ok (.aload_n 0, 1) := by decide +kernel
theorem dX10_guess_49 : decode cX10_guess 49 = .ok (.iconst 4, 1) := by decide +kernel
theorem dX10_guess_50 : decode cX10_guess 50 = .ok (.iload_n 1, 1) := by decide +kernel
theorem dX10_guess_51 : decode cX10_guess 51 = .ok (.invokevirtual 270, 3) := by decide +kernel
theorem dX10_guess_54 : decode cX10_guess 54 = .ok (.ifCond .eq 5, 3) := by decide +kernel
theorem dX10_guess_57 : decode cX10_guess 57 = .ok (.iload_n 2, 1) := by decide +kernel
theorem dX10_guess_58 : decode cX10_guess 58 = .ok (.ireturn, 1) := by decide +kernel
theorem dX10_guess_59 : decode cX10_guess 59 = .ok (.iinc 2 1, 3) := by decide +kernel
theorem dX10_guess_62 : decode cX10_guess 62 = .ok (.goto (-38), 3) := by decide +kernel
theorem dX10_guess_65 : decode cX10_guess 65 = .ok (.aload_n 0, 1) := by decide +kernel
theorem dX10_guess_66 : decode cX10_guess 66 = .ok (.iconst 5, 1) := by decide +kernel
theorem dX10_guess_67 : decode cX10_guess 67 = .ok (.invokevirtual 166, 3) := by decide +kernel
theorem dX10_guess_70 : decode cX10_guess 70 = .ok (.ireturn, 1) := by decide +kernel
theorem dX10_says_0 : decode cX10_says 0 = .ok (.aload_n 0, 1) := by decide +kernel
theorem dX10_says_1 : decode cX10_says 1 = .ok (.getfield 39, 3) := by decide +kernel
theorem dX10_says_4 : decode cX10_says 4 = .ok (.aload_n 0, 1) := by decide +kernel
theorem dX10_says_5 : decode cX10_says 5 = .ok (.getfield 273, 3) := by decide +kernel
theorem dX10_says_8 : decode cX10_says 8 = .ok (.iload_n 1, 1) := by decide +kernel
theorem dX10_says_9 : decode cX10_says 9 = .ok (.iastore, 1) := by decide +kernel
theorem dX10_says_10 : decode cX10_says 10 = .ok (.aload_n 0, 1) := by decide +kernel
theorem dX10_says_11 : decode cX10_says 11 = .ok (.dup, 1) := by decide +kernel
theorem dX10_says_12 : decode cX10_says 12 = .ok (.getfield 273, 3) := by decide +kernel
theorem dX10_says_15 : decode cX10_says 15 = .ok (.iconst 1, 1) := by decide +kernel
theorem dX10_says_16 : decode cX10_says 16 = .ok (.iadd, 1) := by decide +kernel
theorem dX10_says_17 : decode cX10_says 17 = .ok (.putfield 273, 3) := by decide +kernel
theorem dX10_says_20 : decode cX10_says 20 = .ok (.return_, 1) := by decide +kernel
theorem dX10_saysNumber_0 : decode cX10_saysNumber 0 = .ok (.iconst 1, 1) := by decide +kernel
theorem dX10_saysNumber_1 : decode cX10_saysNumber 1 = .ok (.istore_n 2, 1) := by decide +kernel
theorem dX10_saysNumber_2 : decode cX10_saysNumber 2 = .ok (.iload_n 1, 1) := by decide +kernel
theorem dX10_saysNumber_3 : decode cX10_saysNumber 3 = .ok (.iload_n 2, 1) := by decide +kernel
theorem dX10_saysNumber_4 : decode cX10_saysNumber 4 = .ok (.idiv, 1) := by decide +kernel
theorem dX10_saysNumber_5 : decode cX10_saysNumber 5 = .ok (.bipush 10, 2) := by decide +kernel
theorem dX10_saysNumber_7 : decode cX10_saysNumber 7 = .ok (.if_icmp .lt 11, 3) := by decide +kernel
theorem dX10_saysNumber_10 : decode cX10_saysNumber 10 = .ok (.iload_n 2, 1) := by decide +kernel
theorem dX10_saysNumber_11 : decode cX10_saysNumber 11 = .ok (.bipush 10, 2) := by decide +kernel
theorem dX10_saysNumber_13 : decode cX10_saysNumber 13 = .ok (.imul, 1) := by decide +kernel
theorem dX10_saysNumber_14 : decode cX10_saysNumber 14 = .ok (.istore_n 2, 1) := by decide +kernel
theorem dX10_saysNumber_15 : decode cX10_saysNumber 15 = .ok (.goto (-13), 3) := by decide +kernel
theorem dX10_saysNumber_18 : decode cX10_saysNumber 18 = .ok (.iload_n 2, 1) := by decide +kernel
theorem dX10_saysNumber_19 : decode cX10_saysNumber 19 = .ok (.ifCond .le 24, 3) := by decide +kernel
theorem dX10_saysNumber_22 : decode cX10_saysNumber 22 = .ok (.aload_n 0, 1) := by decide +kernel
theorem dX10_saysNumber_23 : decode cX10_saysNumber 23 = .ok (.bipush 48, 2) := by decide +kernel
theorem dX10_saysNumber_25 : decode cX10_saysNumber 25 = .ok (.iload_n 1, 1) := by decide +kernel
theorem dX10_saysNumber_26 : decode cX10_saysNumber 26 = .ok (.iload_n 2, 1) := by decide +kernel
theorem dX10_saysNumber_27 : decode cX10_saysNumber 27 = .ok (.idiv, 1) := by decide +kernel
theorem dX10_saysNumber_28 : decode cX10_saysNumber 28 = .ok (.bipush 10, 2) := by decide +kernel
theorem dX10_saysNumber_30 : decode cX10_saysNumber 30 = .ok (.irem, 1) := by decide +kernel
theorem dX10_saysNumber_31 : decode cX10_saysNumber 31 = .ok (.iadd, 1) := by decide +kernel
theorem dX10_saysNumber_32 : decode cX10_saysNumber 32 = .ok (.invokevirtual 276, 3) := by decide +kernel
theorem dX10_saysNumber_35 : decode cX10_saysNumber 35 = .ok (.iload_n 2, 1) := by decide +kernel
theorem dX10_saysNumber_36 : decode cX10_saysNumber 36 = .ok (.bipush 10, 2) := by decide +kernel
theorem dX10_saysNumber_38 : decode cX10_saysNumber 38 = .ok (.idiv, 1) := by decide +kernel
theorem dX10_saysNumber_39 : decode cX10_saysNumber 39 = .ok (.istore_n 2, 1) := by decide +kernel
theorem dX10_saysNumber_40 : decode cX10_saysNumber 40 = .ok (.goto (-22), 3) := by decide +kernel
theorem dX10_saysNumber_43 : decode cX10_saysNumber 43 = .ok (.return_, 1) := by decide +kernel
theorem dX10_print_0 : decode cX10_print 0 = .ok (.aload_n 0, 1) := by decide +kernel
theorem dX10_print_1 : decode cX10_print 1 = .ok (.aload_n 0, 1) := by decide +kernel
theorem dX10_print_2 : decode cX10_print 2 = .ok (.iload_n 1, 1) := by decide +kernel
theorem dX10_print_3 : decode cX10_print 3 = .ok (.invokevirtual 152, 3) := by decide +kernel
theorem dX10_print_6 : decode cX10_print 6 = .ok (.ifCond .eq 7, 3) := by decide +kernel
theorem dX10_print_9 : decode cX10_print 9 = .ok (.iconst 0, 1) := by decide +kernel
theorem dX10_print_10 : decode cX10_print 10 = .ok (.goto 4, 3) := by decide +kernel
theorem dX10_print_13 : decode cX10_print 13 = .ok (.iconst 2, 1) := by decide +kernel
theorem dX10_print_14 : decode cX10_print 14 = .ok (.invokevirtual 140, 3) := by decide +kernel
theorem dX10_print_17 : decode cX10_print 17 = .ok (.ifCond .ne 5, 3) := by decide +kernel
theorem dX10_print_20 : decode cX10_print 20 = .ok (.iconst (-1), 1) := by decide +kernel
theorem dX10_print_21 : decode cX10_print 21 = .ok (.ireturn, 1) := by decide +kernel
theorem dX10_print_22 : decode cX10_print 22 = .ok (.aload_n 0, 1) := by decide +kernel
theorem dX10_print_23 : decode cX10_print 23 = .ok (.iconst 0, 1) := by decide +kernel
theorem dX10_print_24 : decode cX10_print 24 = .ok (.putfield 273, 3) := by decide +kernel
theorem dX10_print_27 : decode cX10_print 27 = .ok (.aload_n 0, 1) := by decide +kernel
theorem dX10_print_28 : decode cX10_print 28 = .ok (.iload_n 1, 1) := by decide +kernel
theorem dX10_print_29 : decode cX10_print 29 = .ok (.invokevirtual 120, 3) := by decide +kernel
theorem dX10_print_32 : decode cX10_print 32 = .ok (.iconst 1, 1) := by decide +kernel
theorem dX10_print_33 : decode cX10_print 33 = .ok (.istore_n 2, 1) := by decide +kernel
theorem dX10_print_34 : decode cX10_print 34 = .ok (.iload_n 2, 1) := by decide +kernel
theorem dX10_print_35 : decode cX10_print 35 = .ok (.aload_n 0, 1) := by decide +kernel
theorem dX10_print_36 : decode cX10_print 36 = .ok (.getfield 107, 3) := by decide +kernel
theorem dX10_print_39 : decode cX10_print 39 = .ok (.if_icmp .gt 69, 3) := by decide +kernel
theorem dX10_print_42 : decode cX10_print 42 = .ok (.iload_n 2, 1) := by decide +kernel
theorem dX10_print_43 : decode cX10_print 43 = .ok (.iconst 1, 1) := by decide +kernel
theorem dX10_print_44 : decode cX10_print 44 = .ok (.if_icmp .le 9, 3) := by decide +kernel
theorem dX10_print_47 : decode cX10_print 47 = .ok (.aload_n 0, 1) := by decide +kernel
theorem dX10_print_48 : decode cX10_print 48 = .ok (.bipush 32, 2) := by decide +kernel
theorem dX10_print_50 : decode cX10_print 50 = .ok (.invokevirtual 276, 3) := by decide +kernel
theorem dX10_print_53 : decode cX10_print 53 = .ok (.aload_n 0, 1) := by decide +kernel
theorem dX10_print_54 : decode cX10_print 54 = .ok (.aload_n 0, 1) := by decide +kernel
theorem dX10_print_55 : decode cX10_print 55 = .ok (.iload_n 1, 1) := by decide +kernel
theorem dX10_print_56 : decode cX10_print 56 = .ok (.iload_n 2, 1) := by decide +kernel
theorem dX10_print_57 : decode cX10_print 57 = .ok (.invokevirtual 117, 3) := by decide +kernel
theorem dX10_print_60 : decode cX10_print 60 = .ok (.invokevirtual 279, 3) := by decide +kernel
theorem dX10_print_63 : decode cX10_print 63 = .ok (.aload_n 0, 1) := by decide +kernel
theorem dX10_print_64 : decode cX10_print 64 = .ok (.iload_n 1, 1) := by decide +kernel
theorem dX10_print_65 : decode cX10_print 65 = .ok (.iload_n 2, 1) := by decide +kernel
theorem dX10_print_66 : decode cX10_print 66 = .ok (.invokevirtual 229, 3) := by decide +kernel
theorem dX10_print_69 : decode cX10_print 69 = .ok (.istore_n 3, 1) := by decide +kernel
theorem dX10_print_70 : decode cX10_print 70 = .ok (.iload_n 3, 1) := by decide +kernel
theorem dX10_print_71 : decode cX10_print 71 = .ok (.iconst 3, 1) := by decide +kernel
theorem dX10_print_72 : decode cX10_print 72 = .ok (.if_icmp .lt 30, 3) := by decide +kernel
theorem dX10_print_75 : decode cX10_print 75 = .ok (.aload_n 0, 1) := by decide +kernel
theorem dX10_print_76 : decode cX10_print 76 = .ok (.bipush 45, 2) := by decide +kernel
theorem dX10_print_78 : decode cX10_print 78 = .ok (.invokevirtual 276, 3) := by decide +kernel
theorem dX10_print_81 : decode cX10_print 81 = .ok (.aload_n 0, 1) := by decide +kernel
theorem dX10_print_82 : decode cX10_print 82 = .ok (.aload_n 0, 1) := by decide +kernel
theorem dX10_print_83 : decode cX10_print 83 = .ok (.iload_n 1, 1) := by decide +kernel
theorem dX10_print_84 : decode cX10_print 84 = .ok (.iload_n 2, 1) := by decide +kernel
theorem dX10_print_85 : decode cX10_print 85 = .ok (.iload_n 3, 1) := by decide +kernel
theorem dX10_print_86 : decode cX10_print 86 = .ok (.iadd, 1) := by decide +kernel
theorem dX10_print_87 : decode cX10_print 87 = .ok (.iconst 1, 1) := by decide +kernel
theorem dX10_print_88 : decode cX10_print 88 = .ok (.isub, 1) := by decide +kernel
theorem dX10_print_89 : decode cX10_print 89 = .ok (.invokevirtual 117, 3) := by decide +kernel
theorem dX10_print_92 : decode cX10_print 92 = .ok (.invokevirtual 279, 3) := by decide +kernel
theorem dX10_print_95 : decode cX10_print 95 = .ok (.iload_n 2, 1) := by decide +kernel
theorem dX10_print_96 : decode cX10_print 96 = .ok (.iload_n 3, 1) := by decide +kernel
theorem dX10_print_97 : decode cX10_print 97 = .ok (.iadd, 1) := by decide +kernel
theorem dX10_print_98 : decode cX10_print 98 = .ok (.istore_n 2, 1) := by decide +kernel
theorem dX10_print_99 : decode cX10_print 99 = .ok (.goto 6, 3) := by decide +kernel
theorem dX10_print_102 : decode cX10_print 102 = .ok (.iinc 2 1, 3) := by decide +kernel
theorem dX10_print_105 : decode cX10_print 105 = .ok (.goto (-71), 3) := by decide +kernel
theorem dX10_print_108 : decode cX10_print 108 = .ok (.aload_n 0, 1) := by decide +kernel
theorem dX10_print_109 : decode cX10_print 109 = .ok (.getfield 273, 3) := by decide +kernel
theorem dX10_print_112 : decode cX10_print 112 = .ok (.ireturn, 1) := by decide +kernel
theorem dX10_out_0 : decode cX10_out 0 = .ok (.aload_n 0, 1) := by decide +kernel
theorem dX10_out_1 : decode cX10_out 1 = .ok (.iload_n 1, 1) := by decide +kernel
theorem dX10_out_2 : decode cX10_out 2 = .ok (.ifCond .ge 7, 3) := by decide +kernel
theorem dX10_out_5 : decode cX10_out 5 = .ok (.iconst 1, 1) := by decide +kernel
theorem dX10_out_6 : decode cX10_out 6 = .ok (.goto 16, 3) := by decide +kernel
theorem dX10_out_9 : decode cX10_out 9 = .ok (.iload_n 1, 1) := by decide +kernel
theorem dX10_out_10 : decode cX10_out 10 = .ok (.aload_n 0, 1) := by decide +kernel
theorem dX10_out_11 : decode cX10_out 11 = .ok (.getfield 273, 3) := by decide +kernel
theorem dX10_out_14 : decode cX10_out 14 = .ok (.if_icmp .lt 7, 3) := by decide +kernel
theorem dX10_out_17 : decode cX10_out 17 = .ok (.iconst 5, 1) := by decide +kernel
theorem dX10_out_18 : decode cX10_out 18 = .ok (.goto 4, 3) := by decide +kernel
theorem dX10_out_21 : decode cX10_out 21 = .ok (.iconst 0, 1) := by decide +kernel
theorem dX10_out_22 : decode cX10_out 22 = .ok (.invokevirtual 140, 3) := by decide +kernel
theorem dX10_out_25 : decode cX10_out 25 = .ok (.ifCond .eq 12, 3) := by decide +kernel
theorem dX10_out_28 : decode cX10_out 28 = .ok (.aload_n 0, 1) := by decide +kernel
theorem dX10_out_29 : decode cX10_out 29 = .ok (.getfield 39, 3) := by decide +kernel
theorem dX10_out_32 : decode cX10_out 32 = .ok (.iload_n 1, 1) := by decide +kernel
theorem dX10_out_33 : decode cX10_out 33 = .ok (.iaload, 1) := by decide +kernel
theorem dX10_out_34 : decode cX10_out 34 = .ok (.goto 4, 3) := by decide +kernel
theorem dX10_out_37 : decode cX10_out 37 = .ok (.iconst (-1), 1) := by decide +kernel
theorem dX10_out_38 : decode cX10_out 38 = .ok (.ireturn, 1) := by decide +kernel
theorem dX10_feeds_0 : decode cX10_feeds 0 = .ok (.bipush 24, 2) := by decide +kernel
theorem dX10_feeds_2 : decode cX10_feeds 2 = .ok (.istore_n 2, 1) := by decide +kernel
theorem dX10_feeds_3 : decode cX10_feeds 3 = .ok (.iload_n 2, 1) := by decide +kernel
theorem dX10_feeds_4 : decode cX10_feeds 4 = .ok (.ifCond .lt 32, 3) := by decide +kernel
theorem dX10_feeds_7 : decode cX10_feeds 7 = .ok (.aload_n 0, 1) := by decide +kernel
theorem dX10_feeds_8 : decode cX10_feeds 8 = .ok (.getfield 42, 3) := by decide +kernel
theorem dX10_feeds_11 : decode cX10_feeds 11 = .ok (.aload_n 0, 1) := by decide +kernel
theorem dX10_feeds_12 : decode cX10_feeds 12 = .ok (.getfield 282, 3) := by decide +kernel
theorem dX10_feeds_15 : decode cX10_feeds 15 = .ok (.iload_n 1, 1) := by decide +kernel
theorem dX10_feeds_16 : decode cX10_feeds 16 = .ok (.iload_n 2, 1) := by decide +kernel
theorem dX10_feeds_17 : decode cX10_feeds 17 = .ok (.ishr, 1) := by decide +kernel
theorem dX10_feeds_18 : decode cX10_feeds 18 = .ok (.i2b, 1) := by decide +kernel
theorem dX10_feeds_19 : decode cX10_feeds 19 = .ok (.bastore, 1) := by decide +kernel
theorem dX10_feeds_20 : decode cX10_feeds 20 = .ok (.aload_n 0, 1) := by decide +kernel
theorem dX10_feeds_21 : decode cX10_feeds 21 = .ok (.dup, 1) := by decide +kernel
theorem dX10_feeds_22 : decode cX10_feeds 22 = .ok (.getfield 282, 3) := by decide +kernel
theorem dX10_feeds_25 : decode cX10_feeds 25 = .ok (.iconst 1, 1) := by decide +kernel
theorem dX10_feeds_26 : decode cX10_feeds 26 = .ok (.iadd, 1) := by decide +kernel
theorem dX10_feeds_27 : decode cX10_feeds 27 = .ok (.putfield 282, 3) := by decide +kernel
theorem dX10_feeds_30 : decode cX10_feeds 30 = .ok (.iinc 2 (-8), 3) := by decide +kernel
theorem dX10_feeds_33 : decode cX10_feeds 33 = .ok (.goto (-30), 3) := by decide +kernel
theorem dX10_feeds_36 : decode cX10_feeds 36 = .ok (.return_, 1) := by decide +kernel
theorem dX10_feed_0 : decode cX10_feed 0 = .ok (.aload_n 0, 1) := by decide +kernel
theorem dX10_feed_1 : decode cX10_feed 1 = .ok (.iconst 0, 1) := by decide +kernel
theorem dX10_feed_2 : decode cX10_feed 2 = .ok (.putfield 84, 3) := by decide +kernel
theorem dX10_feed_5 : decode cX10_feed 5 = .ok (.aload_n 0, 1) := by decide +kernel
theorem dX10_feed_6 : decode cX10_feed 6 = .ok (.getfield 282, 3) := by decide +kernel
theorem dX10_feed_9 : decode cX10_feed 9 = .ok (.bipush 20, 2) := by decide +kernel
theorem dX10_feed_11 : decode cX10_feed 11 = .ok (.iadd, 1) := by decide +kernel
theorem dX10_feed_12 : decode cX10_feed 12 = .ok (.sipush 600, 3) := by decide +kernel
theorem dX10_feed_15 : decode cX10_feed 15 = .ok (.if_icmp .le 5, 3) := by decide +kernel
theorem dX10_feed_18 : decode cX10_feed 18 = .ok (.iconst (-1), 1) := by decide +kernel
theorem dX10_feed_19 : decode cX10_feed 19 = .ok (.ireturn, 1) := by decide +kernel
theorem dX10_feed_20 : decode cX10_feed 20 = .ok (.aload_n 0, 1) := by decide +kernel
theorem dX10_feed_21 : decode cX10_feed 21 = .ok (.iload_n 1, 1) := by decide +kernel
theorem dX10_feed_22 : decode cX10_feed 22 = .ok (.invokevirtual 285, 3) := by decide +kernel
theorem dX10_feed_25 : decode cX10_feed 25 = .ok (.aload_n 0, 1) := by decide +kernel
theorem dX10_feed_26 : decode cX10_feed 26 = .ok (.iload_n 2, 1) := by decide +kernel
theorem dX10_feed_27 : decode cX10_feed 27 = .ok (.invokevirtual 285, 3) := by decide +kernel
theorem dX10_feed_30 : decode cX10_feed 30 = .ok (.aload_n 0, 1) := by decide +kernel
theorem dX10_feed_31 : decode cX10_feed 31 = .ok (.iload_n 3, 1) := by decide +kernel
theorem dX10_feed_32 : decode cX10_feed 32 = .ok (.invokevirtual 285, 3) := by decide +kernel
theorem dX10_feed_35 : decode cX10_feed 35 = .ok (.aload_n 0, 1) := by decide +kernel
theorem dX10_feed_36 : decode cX10_feed 36 = .ok (.iload 4, 2) := by decide +kernel
theorem dX10_feed_38 : decode cX10_feed 38 = .ok (.invokevirtual 285, 3) := by decide +kernel
theorem dX10_feed_41 : decode cX10_feed 41 = .ok (.aload_n 0, 1) := by decide +kernel
theorem dX10_feed_42 : decode cX10_feed 42 = .ok (.iload 5, 2) := by decide +kernel
theorem dX10_feed_44 : decode cX10_feed 44 = .ok (.invokevirtual 285, 3) := by decide +kernel
theorem dX10_feed_47 : decode cX10_feed 47 = .ok (.aload_n 0, 1) := by decide +kernel
theorem dX10_feed_48 : decode cX10_feed 48 = .ok (.getfield 282, 3) := by decide +kernel
theorem dX10_feed_51 : decode cX10_feed 51 = .ok (.ireturn, 1) := by decide +kernel
theorem dX10_isOf_0 : decode cX10_isOf 0 = .ok (.iload_n 1, 1) := by decide +kernel
theorem dX10_isOf_1 : decode cX10_isOf 1 = .ok (.aload_n 0, 1) := by decide +kernel
theorem dX10_isOf_2 : decode cX10_isOf 2 = .ok (.getfield 288, 3) := by decide +kernel
theorem dX10_isOf_5 : decode cX10_isOf 5 = .ok (.if_icmp .ge 24, 3) := by decide +kernel
theorem dX10_isOf_8 : decode cX10_isOf 8 = .ok (.aload_n 0, 1) := by decide +kernel
theorem dX10_isOf_9 : decode cX10_isOf 9 = .ok (.getfield 42, 3) := by decide +kernel
theorem dX10_isOf_12 : decode cX10_isOf 12 = .ok (.iload_n 1, 1) := by decide +kernel
theorem dX10_isOf_13 : decode cX10_isOf 13 = .ok (.baload, 1) := by decide +kernel
theorem dX10_isOf_14 : decode cX10_isOf 14 = .ok (.i2l, 1) := by decide +kernel
theorem dX10_isOf_15 : decode cX10_isOf 15 = .ok (.iload_n 2, 1) := by decide +kernel
theorem dX10_isOf_16 : decode cX10_isOf 16 = .ok (.i2l, 1) := by decide +kernel
theorem dX10_isOf_17 : decode cX10_isOf 17 = .ok (.iload_n 3, 1) := by decide +kernel
theorem dX10_isOf_18 : decode cX10_isOf 18 = .ok (.i2l, 1) := by decide +kernel
theorem dX10_isOf_19 : decode cX10_isOf 19 = .ok (.invokestatic 93, 3) := by decide +kernel
theorem dX10_isOf_22 : decode cX10_isOf 22 = .ok (.ifCond .eq 7, 3) := by decide +kernel
theorem dX10_isOf_25 : decode cX10_isOf 25 = .ok (.iconst 1, 1) := by decide +kernel
theorem dX10_isOf_26 : decode cX10_isOf 26 = .ok (.goto 4, 3) := by decide +kernel
theorem dX10_isOf_29 : decode cX10_isOf 29 = .ok (.iconst 0, 1) := by decide +kernel
theorem dX10_isOf_30 : decode cX10_isOf 30 = .ok (.ireturn, 1) := by decide +kernel
theorem dX10_reads_0 : decode cX10_reads 0 = .ok (.aload_n 0, 1) := by decide +kernel
theorem dX10_reads_1 : decode cX10_reads 1 = .ok (.aload_n 0, 1) := by decide +kernel
theorem dX10_reads_2 : decode cX10_reads 2 = .ok (.getfield 291, 3) := by decide +kernel
theorem dX10_reads_5 : decode cX10_reads 5 = .ok (.putfield 294, 3) := by decide +kernel
theorem dX10_reads_8 : decode cX10_reads 8 = .ok (.aload_n 0, 1) := by decide +kernel
theorem dX10_reads_9 : decode cX10_reads 9 = .ok (.aload_n 0, 1) := by decide +kernel
theorem dX10_reads_10 : decode cX10_reads 10 = .ok (.getfield 294, 3) := by decide +kernel
theorem dX10_reads_13 : decode cX10_reads 13 = .ok (.bipush 32, 2) := by decide +kernel
theorem dX10_reads_15 : decode cX10_reads 15 = .ok (.bipush 32, 2) := by decide +kernel
theorem dX10_reads_17 : decode cX10_reads 17 = .ok (.invokevirtual 297, 3) := by decide +kernel
theorem dX10_reads_20 : decode cX10_reads 20 = .ok (.ifCond .ne 18, 3) := by decide +kernel
theorem dX10_reads_23 : decode cX10_reads 23 = .ok (.aload_n 0, 1) := by decide +kernel
theorem dX10_reads_24 : decode cX10_reads 24 = .ok (.aload_n 0, 1) := by decide +kernel
theorem dX10_reads_25 : decode cX10_reads 25 = .ok (.getfield 294, 3) := by decide +kernel
theorem dX10_reads_28 : decode cX10_reads 28 = .ok (.bipush 10, 2) := by decide +kernel
theorem dX10_reads_30 : decode cX10_reads 30 = .ok (.bipush 10, 2) := by decide +kernel
theorem dX10_reads_32 : decode cX10_reads 32 = .ok (.invokevirtual 297, 3) := by decide +kernel
theorem dX10_reads_35 : decode cX10_reads 35 = .ok (.ifCond .eq 16, 3) := by decide +kernel
theorem dX10_reads_38 : decode cX10_reads 38 = .ok (.aload_n 0, 1) := by decide +kernel
theorem dX10_reads_39 : decode cX10_reads 39 = .ok (.dup, 1) := by decide +kernel
theorem dX10_reads_40 : decode cX10_reads 40 = .ok (.getfield 294, 3) := by decide +kernel
theorem dX10_reads_43 : decode cX10_reads 43 = .ok (.iconst 1, 1) := by decide +kernel
theorem dX10_reads_44 : decode cX10_reads 44 = .ok (.iadd, 1) := by decide +kernel
theorem dX10_reads_45 : decode cX10_reads 45 = .ok (.putfield 294, 3) := by decide +kernel
theorem dX10_reads_48 : decode cX10_reads 48 = .ok (.goto (-40), 3) := by decide +kernel
theorem dX10_reads_51 : decode cX10_reads 51 = .ok (.aload_n 0, 1) := by decide +kernel
theorem dX10_reads_52 : decode cX10_reads 52 = .ok (.aload_n 0, 1) := by decide +kernel
theorem dX10_reads_53 : decode cX10_reads 53 = .ok (.getfield 294, 3) := by decide +kernel
theorem dX10_reads_56 : decode cX10_reads 56 = .ok (.iconst 1, 1) := by decide +kernel
theorem dX10_reads_57 : decode cX10_reads 57 = .ok (.iadd, 1) := by decide +kernel
theorem dX10_reads_58 : decode cX10_reads 58 = .ok (.putfield 291, 3) := by decide +kernel
theorem dX10_reads_61 : decode cX10_reads 61 = .ok (.aload_n 0, 1) := by decide +kernel
theorem dX10_reads_62 : decode cX10_reads 62 = .ok (.aload_n 0, 1) := by decide +kernel
theorem dX10_reads_63 : decode cX10_reads 63 = .ok (.getfield 294, 3) := by decide +kernel
theorem dX10_reads_66 : decode cX10_reads 66 = .ok (.aload_n 0, 1) := by decide +kernel
theorem dX10_reads_67 : decode cX10_reads 67 = .ok (.getfield 288, 3) := by decide +kernel
theorem dX10_reads_70 : decode cX10_reads 70 = .ok (.if_icmp .lt 7, 3) := by decide +kernel
theorem dX10_reads_73 : decode cX10_reads 73 = .ok (.iconst 0, 1) := by decide +kernel
theorem dX10_reads_74 : decode cX10_reads 74 = .ok (.goto 22, 3) := by decide +kernel
theorem dX10_reads_77 : decode cX10_reads 77 = .ok (.aload_n 0, 1) := by decide +kernel
theorem dX10_reads_78 : decode cX10_reads 78 = .ok (.getfield 42, 3) := by decide +kernel
theorem dX10_reads_81 : decode cX10_reads 81 = .ok (.aload_n 0, 1) := by decide +kernel
theorem dX10_reads_82 : decode cX10_reads 82 = .ok (.getfield 294, 3) := by decide +kernel
theorem dX10_reads_85 : decode cX10_reads 85 = .ok (.baload, 1) := by decide +kernel
theorem dX10_reads_86 : decode cX10_reads 86 = .ok (.bipush 59, 2) := by decide +kernel
theorem dX10_reads_88 : decode cX10_reads 88 = .ok (.if_icmp .ne 7, 3) := by decide +kernel
theorem dX10_reads_91 : decode cX10_reads 91 = .ok (.iconst 3, 1) := by decide +kernel
theorem dX10_reads_92 : decode cX10_reads 92 = .ok (.goto 4, 3) := by decide +kernel
theorem dX10_reads_95 : decode cX10_reads 95 = .ok (.iconst 4, 1) := by decide +kernel
theorem dX10_reads_96 : decode cX10_reads 96 = .ok (.putfield 300, 3) := by decide +kernel
theorem dX10_reads_99 : decode cX10_reads 99 = .ok (.aload_n 0, 1) := by decide +kernel
theorem dX10_reads_100 : decode cX10_reads 100 = .ok (.aload_n 0, 1) := by decide +kernel
theorem dX10_reads_101 : decode cX10_reads 101 = .ok (.getfield 294, 3) := by decide +kernel
theorem dX10_reads_104 : decode cX10_reads 104 = .ok (.bipush 97, 2) := by decide +kernel
theorem dX10_reads_106 : decode cX10_reads 106 = .ok (.bipush 122, 2) := by decide +kernel
theorem dX10_reads_108 : decode cX10_reads 108 = .ok (.invokevirtual 297, 3) := by decide +kernel
theorem dX10_reads_111 : decode cX10_reads 111 = .ok (.ifCond .eq 115, 3) := by decide +kernel
theorem dX10_reads_114 : decode cX10_reads 114 = .ok (.aload_n 0, 1) := by decide +kernel
theorem dX10_reads_115 : decode cX10_reads 115 = .ok (.lconst 0, 1) := by decide +kernel
theorem dX10_reads_116 : decode cX10_reads 116 = .ok (.putfield 303, 3) := by decide +kernel
theorem dX10_reads_119 : decode cX10_reads 119 = .ok (.aload_n 0, 1) := by decide +kernel
theorem dX10_reads_120 : decode cX10_reads 120 = .ok (.aload_n 0, 1) := by decide +kernel
theorem dX10_reads_121 : decode cX10_reads 121 = .ok (.getfield 294, 3) := by decide +kernel
theorem dX10_reads_124 : decode cX10_reads 124 = .ok (.putfield 291, 3) := by decide +kernel
theorem dX10_reads_127 : decode cX10_reads 127 = .ok (.aload_n 0, 1) := by decide +kernel
theorem dX10_reads_128 : decode cX10_reads 128 = .ok (.aload_n 0, 1) := by decide +kernel
theorem dX10_reads_129 : decode cX10_reads 129 = .ok (.getfield 291, 3) := by decide +kernel
theorem dX10_reads_132 : decode cX10_reads 132 = .ok (.bipush 97, 2) := by decide +kernel
theorem dX10_reads_134 : decode cX10_reads 134 = .ok (.bipush 122, 2) := by decide +kernel
theorem dX10_reads_136 : decode cX10_reads 136 = .ok (.invokevirtual 297, 3) := by decide +kernel
theorem dX10_reads_139 : decode cX10_reads 139 = .ok (.ifCond .eq 61, 3) := by decide +kernel
theorem dX10_reads_142 : decode cX10_reads 142 = .ok (.aload_n 0, 1) := by decide +kernel
theorem dX10_reads_143 : decode cX10_reads 143 = .ok (.aload_n 0, 1) := by decide +kernel
theorem dX10_reads_144 : decode cX10_reads 144 = .ok (.getfield 291, 3) := by decide +kernel
theorem dX10_reads_147 : decode cX10_reads 147 = .ok (.aload_n 0, 1) := by decide +kernel
theorem dX10_reads_148 : decode cX10_reads 148 = .ok (.getfield 294, 3) := by decide +kernel
theorem dX10_reads_151 : decode cX10_reads 151 = .ok (.isub, 1) := by decide +kernel
theorem dX10_reads_152 : decode cX10_reads 152 = .ok (.bipush 8, 2) := by decide +kernel
theorem dX10_reads_154 : decode cX10_reads 154 = .ok (.if_icmp .ge 29, 3) := by decide +kernel
theorem dX10_reads_157 : decode cX10_reads 157 = .ok (.ldc2_w 307, 3) := by decide +kernel
theorem dX10_reads_160 : decode cX10_reads 160 = .ok (.aload_n 0, 1) := by decide +kernel
theorem dX10_reads_161 : decode cX10_reads 161 = .ok (.getfield 303, 3) := by decide +kernel
theorem dX10_reads_164 : decode cX10_reads 164 = .ok (.lmul, 1) := by decide +kernel
theorem dX10_reads_165 : decode cX10_reads 165 = .ok (.aload_n 0, 1) := by decide +kernel
theorem dX10_reads_166 : decode cX10_reads 166 = .ok (.getfield 42, 3) := by decide +kernel
theorem dX10_reads_169 : decode cX10_reads 169 = .ok (.aload_n 0, 1) := by decide +kernel
theorem dX10_reads_170 : decode cX10_reads 170 = .ok (.getfield 291, 3) := by decide +kernel
theorem dX10_reads_173 : decode cX10_reads 173 = .ok (.baload, 1) := by decide +kernel
theorem dX10_reads_174 : decode cX10_reads 174 = .ok (.i2l, 1) := by decide +kernel
theorem dX10_reads_175 : decode cX10_reads 175 = .ok (.ladd, 1) := by decide +kernel
theorem dX10_reads_176 : decode cX10_reads 176 = .ok (.ldc2_w 309, 3) := by decide +kernel
theorem dX10_reads_179 : decode cX10_reads 179 = .ok (.lsub, 1) := by decide +kernel
theorem dX10_reads_180 : decode cX10_reads 180 = .ok (.goto 4, 3) := by decide +kernel
theorem dX10_reads_183 : decode cX10_reads 183 = .ok (.lconst 0, 1) := by decide +kernel
theorem dX10_reads_184 : decode cX10_reads 184 = .ok (.putfield 303, 3) := by decide +kernel
theorem dX10_reads_187 : decode cX10_reads 187 = .ok (.aload_n 0, 1) := by decide +kernel
theorem dX10_reads_188 : decode cX10_reads 188 = .ok (.dup, 1) := by decide +kernel
theorem dX10_reads_189 : decode cX10_reads 189 = .ok (.getfield 291, 3) := by decide +kernel
theorem dX10_reads_192 : decode cX10_reads 192 = .ok (.iconst 1, 1) := by decide +kernel
theorem dX10_reads_193 : decode cX10_reads 193 = .ok (.iadd, 1) := by decide +kernel
theorem dX10_reads_194 : decode cX10_reads 194 = .ok (.putfield 291, 3) := by decide +kernel
theorem dX10_reads_197 : decode cX10_reads 197 = .ok (.goto (-70), 3) := by decide +kernel
theorem dX10_reads_200 : decode cX10_reads 200 = .ok (.aload_n 0, 1) := by decide +kernel
theorem dX10_reads_201 : decode cX10_reads 201 = .ok (.aload_n 0, 1) := by decide +kernel
theorem dX10_reads_202 : decode cX10_reads 202 = .ok (.getfield 291, 3) := by decide +kernel
theorem dX10_reads_205 : decode cX10_reads 205 = .ok (.aload_n 0, 1) := by decide +kernel
theorem dX10_reads_206 : decode cX10_reads 206 = .ok (.getfield 294, 3) := by decide +kernel
theorem dX10_reads_209 : decode cX10_reads 209 = .ok (.isub, 1) := by decide +kernel
theorem dX10_reads_210 : decode cX10_reads 210 = .ok (.bipush 8, 2) := by decide +kernel
theorem dX10_reads_212 : decode cX10_reads 212 = .ok (.if_icmp .le 7, 3) := by decide +kernel
theorem dX10_reads_215 : decode cX10_reads 215 = .ok (.iconst 4, 1) := by decide +kernel
theorem dX10_reads_216 : decode cX10_reads 216 = .ok (.goto 4, 3) := by decide +kernel
theorem dX10_reads_219 : decode cX10_reads 219 = .ok (.iconst 1, 1) := by decide +kernel
theorem dX10_reads_220 : decode cX10_reads 220 = .ok (.putfield 300, 3) := by decide +kernel
theorem dX10_reads_223 : decode cX10_reads 223 = .ok (.goto 125, 3) := by decide +kernel
theorem dX10_reads_226 : decode cX10_reads 226 = .ok (.aload_n 0, 1) := by decide +kernel
theorem dX10_reads_227 : decode cX10_reads 227 = .ok (.aload_n 0, 1) := by decide +kernel
theorem dX10_reads_228 : decode cX10_reads 228 = .ok (.getfield 294, 3) := by decide +kernel
theorem dX10_reads_231 : decode cX10_reads 231 = .ok (.bipush 48, 2) := by decide +kernel
theorem dX10_reads_233 : decode cX10_reads 233 = .ok (.bipush 57, 2) := by decide +kernel
theorem dX10_reads_235 : decode cX10_reads 235 = .ok (.invokevirtual 297, 3) := by decide +kernel
theorem dX10_reads_238 : decode cX10_reads 238 = .ok (.ifCond .eq 110, 3) := by decide +kernel
theorem dX10_reads_241 : decode cX10_reads 241 = .ok (.aload_n 0, 1) := by decide +kernel
theorem dX10_reads_242 : decode cX10_reads 242 = .ok (.iconst 0, 1) := by decide +kernel
theorem dX10_reads_243 : decode cX10_reads 243 = .ok (.putfield 311, 3) := by decide +kernel
theorem dX10_reads_246 : decode cX10_reads 246 = .ok (.aload_n 0, 1) := by decide +kernel
theorem dX10_reads_247 : decode cX10_reads 247 = .ok (.aload_n 0, 1) := by decide +kernel
theorem dX10_reads_248 : decode cX10_reads 248 = .ok (.getfield 294, 3) := by decide +kernel
theorem dX10_reads_251 : decode cX10_reads 251 = .ok (.putfield 291, 3) := by decide +kernel
theorem dX10_reads_254 : decode cX10_reads 254 = .ok (.aload_n 0, 1) := by decide +kernel
theorem dX10_reads_255 : decode cX10_reads 255 = .ok (.aload_n 0, 1) := by decide +kernel
theorem dX10_reads_256 : decode cX10_reads 256 = .ok (.getfield 291, 3) := by decide +kernel
theorem dX10_reads_259 : decode cX10_reads 259 = .ok (.bipush 48, 2) := by decide +kernel
theorem dX10_reads_261 : decode cX10_reads 261 = .ok (.bipush 57, 2) := by decide +kernel
theorem dX10_reads_263 : decode cX10_reads 263 = .ok (.invokevirtual 297, 3) := by decide +kernel
theorem dX10_reads_266 : decode cX10_reads 266 = .ok (.ifCond .eq 60, 3) := by decide +kernel
theorem dX10_reads_269 : decode cX10_reads 269 = .ok (.aload_n 0, 1) := by decide +kernel
theorem dX10_reads_270 : decode cX10_reads 270 = .ok (.aload_n 0, 1) := by decide +kernel
theorem dX10_reads_271 : decode cX10_reads 271 = .ok (.getfield 291, 3) := by decide +kernel
theorem dX10_reads_274 : decode cX10_reads 274 = .ok (.aload_n 0, 1) := by decide +kernel
theorem dX10_reads_275 : decode cX10_reads 275 = .ok (.getfield 294, 3) := by decide +kernel
theorem dX10_reads_278 : decode cX10_reads 278 = .ok (.isub, 1) := by decide +kernel
theorem dX10_reads_279 : decode cX10_reads 279 = .ok (.iconst 4, 1) := by decide +kernel
theorem dX10_reads_280 : decode cX10_reads 280 = .ok (.if_icmp .ge 26, 3) := by decide +kernel
theorem dX10_reads_283 : decode cX10_reads 283 = .ok (.bipush 10, 2) := by decide +kernel
theorem dX10_reads_285 : decode cX10_reads 285 = .ok (.aload_n 0, 1) := by decide +kernel
theorem dX10_reads_286 : decode cX10_reads 286 = .ok (.getfield 311, 3) := by decide +kernel
theorem dX10_reads_289 : decode cX10_reads 289 = .ok (.imul, 1) := by decide +kernel
theorem dX10_reads_290 : decode cX10_reads 290 = .ok (.aload_n 0, 1) := by decide +kernel
theorem dX10_reads_291 : decode cX10_reads 291 = .ok (.getfield 42, 3) := by decide +kernel
theorem dX10_reads_294 : decode cX10_reads 294 = .ok (.aload_n 0, 1) := by decide +kernel
theorem dX10_reads_295 : decode cX10_reads 295 = .ok (.getfield 291, 3) := by decide +kernel
theorem dX10_reads_298 : decode cX10_reads 298 = .ok (.baload, 1) := by decide +kernel
theorem dX10_reads_299 : decode cX10_reads 299 = .ok (.iadd, 1) := by decide +kernel
theorem dX10_reads_300 : decode cX10_reads 300 = .ok (.bipush 48, 2) := by decide +kernel
theorem dX10_reads_302 : decode cX10_reads 302 = .ok (.isub, 1) := by decide +kernel
theorem dX10_reads_303 : decode cX10_reads 303 = .ok (.goto 7, 3) := by decide +kernel
theorem dX10_reads_306 : decode cX10_reads 306 = .ok (.aload_n 0, 1) := by decide +kernel
theorem dX10_reads_307 : decode cX10_reads 307 = .ok (.getfield 311, 3) := by decide +kernel
theorem dX10_reads_310 : decode cX10_reads 310 = .ok (.putfield 311, 3) := by decide +kernel
theorem dX10_reads_313 : decode cX10_reads 313 = .ok (.aload_n 0, 1) := by decide +kernel
theorem dX10_reads_314 : decode cX10_reads 314 = .ok (.dup, 1) := by decide +kernel
theorem dX10_reads_315 : decode cX10_reads 315 = .ok (.getfield 291, 3) := by decide +kernel
theorem dX10_reads_318 : decode cX10_reads 318 = .ok (.iconst 1, 1) := by decide +kernel
theorem dX10_reads_319 : decode cX10_reads 319 = .ok (.iadd, 1) := by decide +kernel
theorem dX10_reads_320 : decode cX10_reads 320 = .ok (.putfield 291, 3) := by decide +kernel
theorem dX10_reads_323 : decode cX10_reads 323 = .ok (.goto (-69), 3) := by decide +kernel
theorem dX10_reads_326 : decode cX10_reads 326 = .ok (.aload_n 0, 1) := by decide +kernel
theorem dX10_reads_327 : decode cX10_reads 327 = .ok (.aload_n 0, 1) := by decide +kernel
theorem dX10_reads_328 : decode cX10_reads 328 = .ok (.getfield 291, 3) := by decide +kernel
theorem dX10_reads_331 : decode cX10_reads 331 = .ok (.aload_n 0, 1) := by decide +kernel
theorem dX10_reads_332 : decode cX10_reads 332 = .ok (.getfield 294, 3) := by decide +kernel
theorem dX10_reads_335 : decode cX10_reads 335 = .ok (.isub, 1) := by decide +kernel
theorem dX10_reads_336 : decode cX10_reads 336 = .ok (.iconst 4, 1) := by decide +kernel
theorem dX10_reads_337 : decode cX10_reads 337 = .ok (.if_icmp .le 7, 3) := by decide +kernel
theorem dX10_reads_340 : decode cX10_reads 340 = .ok (.iconst 4, 1) := by decide +kernel
theorem dX10_reads_341 : decode cX10_reads 341 = .ok (.goto 4, 3) := by decide +kernel
theorem dX10_reads_344 : decode cX10_reads 344 = .ok (.iconst 2, 1) := by decide +kernel
theorem dX10_reads_345 : decode cX10_reads 345 = .ok (.putfield 300, 3) := by decide +kernel
theorem dX10_reads_348 : decode cX10_reads 348 = .ok (.return_, 1) := by decide +kernel
theorem dX10_good_0 : decode cX10_good 0 = .ok (.aload_n 0, 1) := by decide +kernel
theorem dX10_good_1 : decode cX10_good 1 = .ok (.getfield 314, 3) := by decide +kernel
theorem dX10_good_4 : decode cX10_good 4 = .ok (.ifCond .ne 7, 3) := by decide +kernel
theorem dX10_good_7 : decode cX10_good 7 = .ok (.iconst 1, 1) := by decide +kernel
theorem dX10_good_8 : decode cX10_good 8 = .ok (.goto 4, 3) := by decide +kernel
theorem dX10_good_11 : decode cX10_good 11 = .ok (.iconst 0, 1) := by decide +kernel
theorem dX10_good_12 : decode cX10_good 12 = .ok (.ireturn, 1) := by decide +kernel
theorem dX10_must_0 : decode cX10_must 0 = .ok (.iload_n 1, 1) := by decide +kernel
theorem dX10_must_1 : decode cX10_must 1 = .ok (.ifCond .ne 10, 3) := by decide +kernel
theorem dX10_must_4 : decode cX10_must 4 = .ok (.aload_n 0, 1) := by decide +kernel
theorem dX10_must_5 : decode cX10_must 5 = .ok (.getfield 314, 3) := by decide +kernel
theorem dX10_must_8 : decode cX10_must 8 = .ok (.ifCond .le 4, 3) := by decide +kernel
theorem dX10_must_11 : decode cX10_must 11 = .ok (.return_, 1) := by decide +kernel
theorem dX10_must_12 : decode cX10_must 12 = .ok (.aload_n 0, 1) := by decide +kernel
theorem dX10_must_13 : decode cX10_must 13 = .ok (.iload_n 2, 1) := by decide +kernel
theorem dX10_must_14 : decode cX10_must 14 = .ok (.iconst 2, 1) := by decide +kernel
theorem dX10_must_15 : decode cX10_must 15 = .ok (.if_icmp .ne 15, 3) := by decide +kernel
theorem dX10_must_18 : decode cX10_must 18 = .ok (.aload_n 0, 1) := by decide +kernel
theorem dX10_must_19 : decode cX10_must 19 = .ok (.getfield 300, 3) := by decide +kernel
theorem dX10_must_22 : decode cX10_must 22 = .ok (.iconst 4, 1) := by decide +kernel
theorem dX10_must_23 : decode cX10_must 23 = .ok (.if_icmp .ne 7, 3) := by decide +kernel
theorem dX10_must_26 : decode cX10_must 26 = .ok (.iconst 1, 1) := by decide +kernel
theorem dX10_must_27 : decode cX10_must 27 = .ok (.goto 4, 3) := by decide +kernel
theorem dX10_must_30 : decode cX10_must 30 = .ok (.iload_n 2, 1) := by decide +kernel
theorem dX10_must_31 : decode cX10_must 31 = .ok (.putfield 314, 3) := by decide +kernel
theorem dX10_must_34 : decode cX10_must 34 = .ok (.aload_n 0, 1) := by decide +kernel
theorem dX10_must_35 : decode cX10_must 35 = .ok (.aload_n 0, 1) := by decide +kernel
theorem dX10_must_36 : decode cX10_must 36 = .ok (.getfield 294, 3) := by decide +kernel
theorem dX10_must_39 : decode cX10_must 39 = .ok (.putfield 317, 3) := by decide +kernel
theorem dX10_must_42 : decode cX10_must 42 = .ok (.return_, 1) := by decide +kernel
theorem dX10_goesOn_0 : decode cX10_goesOn 0 = .ok (.aload_n 0, 1) := by decide +kernel
theorem dX10_goesOn_1 : decode cX10_goesOn 1 = .ok (.invokevirtual 320, 3) := by decide +kernel
theorem dX10_goesOn_4 : decode cX10_goesOn 4 = .ok (.ifCond .eq 7, 3) := by decide +kernel
theorem dX10_goesOn_7 : decode cX10_goesOn 7 = .ok (.aload_n 0, 1) := by decide +kernel
theorem dX10_goesOn_8 : decode cX10_goesOn 8 = .ok (.invokevirtual 324, 3) := by decide +kernel
theorem dX10_goesOn_11 : decode cX10_goesOn 11 = .ok (.return_, 1) := by decide +kernel
theorem dX10_isWord_0 : decode cX10_isWord 0 = .ok (.aload_n 0, 1) := by decide +kernel
theorem dX10_isWord_1 : decode cX10_isWord 1 = .ok (.invokevirtual 320, 3) := by decide +kernel
theorem dX10_isWord_4 : decode cX10_isWord 4 = .ok (.ifCond .eq 29, 3) := by decide +kernel
theorem dX10_isWord_7 : decode cX10_isWord 7 = .ok (.aload_n 0, 1) := by decide +kernel
theorem dX10_isWord_8 : decode cX10_isWord 8 = .ok (.getfield 300, 3) := by decide +kernel
theorem dX10_isWord_11 : decode cX10_isWord 11 = .ok (.iconst 1, 1) := by decide +kernel
theorem dX10_isWord_12 : decode cX10_isWord 12 = .ok (.if_icmp .ne 21, 3) := by decide +kernel
theorem dX10_isWord_15 : decode cX10_isWord 15 = .ok (.aload_n 0, 1) := by decide +kernel
theorem dX10_isWord_16 : decode cX10_isWord 16 = .ok (.getfield 303, 3) := by decide +kernel
theorem dX10_isWord_19 : decode cX10_isWord 19 = .ok (.aload_n 0, 1) := by decide +kernel
theorem dX10_isWord_20 : decode cX10_isWord 20 = .ok (.getfield 81, 3) := by decide +kernel
theorem dX10_isWord_23 : decode cX10_isWord 23 = .ok (.iload_n 1, 1) := by decide +kernel
theorem dX10_isWord_24 : decode cX10_isWord 24 = .ok (.laload, 1) := by decide +kernel
theorem dX10_isWord_25 : decode cX10_isWord 25 = .ok (.lcmp, 1) := by decide +kernel
theorem dX10_isWord_26 : decode cX10_isWord 26 = .ok (.ifCond .ne 7, 3) := by decide +kernel
theorem dX10_isWord_29 : decode cX10_isWord 29 = .ok (.iconst 1, 1) := by decide +kernel
theorem dX10_isWord_30 : decode cX10_isWord 30 = .ok (.goto 4, 3) := by decide +kernel
theorem dX10_isWord_33 : decode cX10_isWord 33 = .ok (.iconst 0, 1) := by decide +kernel
theorem dX10_isWord_34 : decode cX10_isWord 34 = .ok (.ireturn, 1) := by decide +kernel
theorem dX10_isName_0 : decode cX10_isName 0 = .ok (.aload_n 0, 1) := by decide +kernel
theorem dX10_isName_1 : decode cX10_isName 1 = .ok (.invokevirtual 320, 3) := by decide +kernel
theorem dX10_isName_4 : decode cX10_isName 4 = .ok (.ifCond .eq 11, 3) := by decide +kernel
theorem dX10_isName_7 : decode cX10_isName 7 = .ok (.aload_n 0, 1) := by decide +kernel
theorem dX10_isName_8 : decode cX10_isName 8 = .ok (.getfield 300, 3) := by decide +kernel
theorem dX10_isName_11 : decode cX10_isName 11 = .ok (.iconst 1, 1) := by decide +kernel
theorem dX10_isName_12 : decode cX10_isName 12 = .ok (.if_icmp .eq 5, 3) := by decide +kernel
theorem dX10_isName_15 : decode cX10_isName 15 = .ok (.iconst 0, 1) := by decide +kernel
theorem dX10_isName_16 : decode cX10_isName 16 = .ok (.ireturn, 1) := by decide +kernel
theorem dX10_isName_17 : decode cX10_isName 17 = .ok (.iconst 0, 1) := by decide +kernel
theorem dX10_isName_18 : decode cX10_isName 18 = .ok (.istore_n 1, 1) := by decide +kernel
theorem dX10_isName_19 : decode cX10_isName 19 = .ok (.iload_n 1, 1) := by decide +kernel
theorem dX10_isName_20 : decode cX10_isName 20 = .ok (.aload_n 0, 1) := by decide +kernel
theorem dX10_isName_21 : decode cX10_isName 21 = .ok (.getfield 81, 3) := by decide +kernel
theorem dX10_isName_24 : decode cX10_isName 24 = .ok (.arraylength, 1) := by decide +kernel
theorem dX10_isName_25 : decode cX10_isName 25 = .ok (.if_icmp .ge 25, 3) := by decide +kernel
theorem dX10_isName_28 : decode cX10_isName 28 = .ok (.aload_n 0, 1) := by decide +kernel
theorem dX10_isName_29 : decode cX10_isName 29 = .ok (.getfield 303, 3) := by decide +kernel
theorem dX10_isName_32 : decode cX10_isName 32 = .ok (.aload_n 0, 1) := by decide +kernel
theorem dX10_isName_33 : decode cX10_isName 33 = .ok (.getfield 81, 3) := by decide +kernel
theorem dX10_isName_36 : decode cX10_isName 36 = .ok (.iload_n 1, 1) := by decide +kernel
theorem dX10_isName_37 : decode cX10_isName 37 = .ok (.laload, 1) := by decide +kernel
theorem dX10_isName_38 : decode cX10_isName 38 = .ok (.lcmp, 1) := by decide +kernel
theorem dX10_isName_39 : decode cX10_isName 39 = .ok (.ifCond .ne 5, 3) := by decide +kernel
theorem dX10_isName_42 : decode cX10_isName 42 = .ok (.iconst 0, 1) := by decide +kernel
theorem dX10_isName_43 : decode cX10_isName 43 = .ok (.ireturn, 1) := by decide +kernel
theorem dX10_isName_44 : decode cX10_isName 44 = .ok (.iinc 1 1, 3) := by decide +kernel
theorem dX10_isName_47 : decode cX10_isName 47 = .ok (.goto (-28), 3) := by decide +kernel
theorem dX10_isName_50 : decode cX10_isName 50 = .ok (.iconst 1, 1) := by decide +kernel
theorem dX10_isName_51 : decode cX10_isName 51 = .ok (.ireturn, 1) := by decide +kernel
theorem dX10_takes_0 : decode cX10_takes 0 = .ok (.aload_n 0, 1) := by decide +kernel
theorem dX10_takes_1 : decode cX10_takes 1 = .ok (.iload_n 1, 1) := by decide +kernel
theorem dX10_takes_2 : decode cX10_takes 2 = .ok (.iconst 2, 1) := by decide +kernel
theorem dX10_takes_3 : decode cX10_takes 3 = .ok (.invokevirtual 327, 3) := by decide +kernel
theorem dX10_takes_6 : decode cX10_takes 6 = .ok (.aload_n 0, 1) := by decide +kernel
theorem dX10_takes_7 : decode cX10_takes 7 = .ok (.invokevirtual 331, 3) := by decide +kernel
theorem dX10_takes_10 : decode cX10_takes 10 = .ok (.return_, 1) := by decide +kernel
theorem dX10_takesNumber_0 : decode cX10_takesNumber 0 = .ok (.aload_n 0, 1) := by decide +kernel
theorem dX10_takesNumber_1 : decode cX10_takesNumber 1 = .ok (.aload_n 0, 1) := by decide +kernel
theorem dX10_takesNumber_2 : decode cX10_takesNumber 2 = .ok (.getfield 300, 3) := by decide +kernel
theorem dX10_takesNumber_5 : decode cX10_takesNumber 5 = .ok (.iconst 2, 1) := by decide +kernel
theorem dX10_takesNumber_6 : decode cX10_takesNumber 6 = .ok (.if_icmp .ne 7, 3) := by decide +kernel
theorem dX10_takesNumber_9 : decode cX10_takesNumber 9 = .ok (.iconst 1, 1) := by decide +kernel
theorem dX10_takesNumber_10 : decode cX10_takesNumber 10 = .ok (.goto 4, 3) := by decide +kernel
theorem dX10_takesNumber_13 : decode cX10_takesNumber 13 = .ok (.iconst 0, 1) := by decide +kernel
theorem dX10_takesNumber_14 : decode cX10_takesNumber 14 = .ok (.iconst 2, 1) := by decide +kernel
theorem dX10_takesNumber_15 : decode cX10_takesNumber 15 = .ok (.invokevirtual 327, 3) := by decide +kernel
theorem dX10_takesNumber_18 : decode cX10_takesNumber 18 = .ok (.aload_n 0, 1) := by decide +kernel
theorem dX10_takesNumber_19 : decode cX10_takesNumber 19 = .ok (.aload_n 0, 1) := by decide +kernel
theorem dX10_takesNumber_20 : decode cX10_takesNumber 20 = .ok (.getfield 311, 3) := by decide +kernel
theorem dX10_takesNumber_23 : decode cX10_takesNumber 23 = .ok (.i2l, 1) := by decide +kernel
theorem dX10_takesNumber_24 : decode cX10_takesNumber 24 = .ok (.iload_n 1, 1) := by decide +kernel
theorem dX10_takesNumber_25 : decode cX10_takesNumber 25 = .ok (.i2l, 1) := by decide +kernel
theorem dX10_takesNumber_26 : decode cX10_takesNumber 26 = .ok (.iload_n 2, 1) := by decide +kernel
theorem dX10_takesNumber_27 : decode cX10_takesNumber 27 = .ok (.i2l, 1) := by decide +kernel
theorem dX10_takesNumber_28 : decode cX10_takesNumber 28 = .ok (.invokestatic 93, 3) := by decide +kernel
theorem dX10_takesNumber_31 : decode cX10_takesNumber 31 = .ok (.iconst 3, 1) := by decide +kernel
theorem dX10_takesNumber_32 : decode cX10_takesNumber 32 = .ok (.invokevirtual 327, 3) := by decide +kernel
theorem dX10_takesNumber_35 : decode cX10_takesNumber 35 = .ok (.aload_n 0, 1) := by decide +kernel
theorem dX10_takesNumber_36 : decode cX10_takesNumber 36 = .ok (.getfield 311, 3) := by decide +kernel
theorem dX10_takesNumber_39 : decode cX10_takesNumber 39 = .ok (.istore_n 3, 1) := by decide +kernel
theorem dX10_takesNumber_40 : decode cX10_takesNumber 40 = .ok (.aload_n 0, 1) := by decide +kernel
theorem dX10_takesNumber_41 : decode cX10_takesNumber 41 = .ok (.invokevirtual 331, 3) := by decide +kernel
theorem dX10_takesNumber_44 : decode cX10_takesNumber 44 = .ok (.aload_n 0, 1) := by decide +kernel
theorem dX10_takesNumber_45 : decode cX10_takesNumber 45 = .ok (.invokevirtual 320, 3) := by decide +kernel
theorem dX10_takesNumber_48 : decode cX10_takesNumber 48 = .ok (.ifCond .eq 7, 3) := by decide +kernel
theorem dX10_takesNumber_51 : decode cX10_takesNumber 51 = .ok (.iload_n 3, 1) := by decide +kernel
theorem dX10_takesNumber_52 : decode cX10_takesNumber 52 = .ok (.goto 4, 3) := by decide +kernel
theorem dX10_takesNumber_55 : decode cX10_takesNumber 55 = .ok (.iload_n 1, 1) := by decide +kernel
theorem dX10_takesNumber_56 : decode cX10_takesNumber 56 = .ok (.ireturn, 1) := by decide +kernel
theorem dX10_takesName_0 : decode cX10_takesName 0 = .ok (.aload_n 0, 1) := by decide +kernel
theorem dX10_takesName_1 : decode cX10_takesName 1 = .ok (.aload_n 0, 1) := by decide +kernel
theorem dX10_takesName_2 : decode cX10_takesName 2 = .ok (.invokevirtual 334, 3) := by decide +kernel
theorem dX10_takesName_5 : decode cX10_takesName 5 = .ok (.iconst 2, 1) := by decide +kernel
theorem dX10_takesName_6 : decode cX10_takesName 6 = .ok (.invokevirtual 327, 3) := by decide +kernel
theorem dX10_takesName_9 : decode cX10_takesName 9 = .ok (.iconst 0, 1) := by decide +kernel
theorem dX10_takesName_10 : decode cX10_takesName 10 = .ok (.istore_n 1, 1) := by decide +kernel
theorem dX10_takesName_11 : decode cX10_takesName 11 = .ok (.iload_n 1, 1) := by decide +kernel
theorem dX10_takesName_12 : decode cX10_takesName 12 = .ok (.aload_n 0, 1) := by decide +kernel
theorem dX10_takesName_13 : decode cX10_takesName 13 = .ok (.getfield 337, 3) := by decide +kernel
theorem dX10_takesName_16 : decode cX10_takesName 16 = .ok (.if_icmp .ge 40, 3) := by decide +kernel
theorem dX10_takesName_19 : decode cX10_takesName 19 = .ok (.aload_n 0, 1) := by decide +kernel
theorem dX10_takesName_20 : decode cX10_takesName 20 = .ok (.invokevirtual 320, 3) := by decide +kernel
theorem dX10_takesName_23 : decode cX10_takesName 23 = .ok (.ifCond .eq 33, 3) := by decide +kernel
theorem dX10_takesName_26 : decode cX10_takesName 26 = .ok (.aload_n 0, 1) := by decide +kernel
theorem dX10_takesName_27 : decode cX10_takesName 27 = .ok (.aload_n 0, 1) := by decide +kernel
theorem dX10_takesName_28 : decode cX10_takesName 28 = .ok (.getfield 53, 3) := by decide +kernel
theorem dX10_takesName_31 : decode cX10_takesName 31 = .ok (.iload_n 1, 1) := by decide +kernel
theorem dX10_takesName_32 : decode cX10_takesName 32 = .ok (.laload, 1) := by decide +kernel
theorem dX10_takesName_33 : decode cX10_takesName 33 = .ok (.aload_n 0, 1) := by decide +kernel
theorem dX10_takesName_34 : decode cX10_takesName 34 = .ok (.getfield 303, 3) := by decide +kernel
theorem dX10_takesName_37 : decode cX10_takesName 37 = .ok (.lcmp, 1) := by decide +kernel
theorem dX10_takesName_38 : decode cX10_takesName 38 = .ok (.ifCond .eq 7, 3) := by decide +kernel
theorem dX10_takesName_41 : decode cX10_takesName 41 = .ok (.iconst 1, 1) := by decide +kernel
theorem dX10_takesName_42 : decode cX10_takesName 42 = .ok (.goto 4, 3) := by decide +kernel
theorem dX10_takesName_45 : decode cX10_takesName 45 = .ok (.iconst 0, 1) := by decide +kernel
theorem dX10_takesName_46 : decode cX10_takesName 46 = .ok (.iconst 4, 1) := by decide +kernel
theorem dX10_takesName_47 : decode cX10_takesName 47 = .ok (.invokevirtual 327, 3) := by decide +kernel
theorem dX10_takesName_50 : decode cX10_takesName 50 = .ok (.iinc 1 1, 3) := by decide +kernel
theorem dX10_takesName_53 : decode cX10_takesName 53 = .ok (.goto (-42), 3) := by decide +kernel
theorem dX10_takesName_56 : decode cX10_takesName 56 = .ok (.aload_n 0, 1) := by decide +kernel
theorem dX10_takesName_57 : decode cX10_takesName 57 = .ok (.invokevirtual 320, 3) := by decide +kernel
theorem dX10_takesName_60 : decode cX10_takesName 60 = .ok (.ifCond .ne 4, 3) := by decide +kernel
theorem dX10_takesName_63 : decode cX10_takesName 63 = .ok (.return_, 1) := by decide +kernel
theorem dX10_takesName_64 : decode cX10_takesName 64 = .ok (.aload_n 0, 1) := by decide +kernel
theorem dX10_takesName_65 : decode cX10_takesName 65 = .ok (.getfield 53, 3) := by decide +kernel
theorem dX10_takesName_68 : decode cX10_takesName 68 = .ok (.aload_n 0, 1) := by decide +kernel
theorem dX10_takesName_69 : decode cX10_takesName 69 = .ok (.getfield 337, 3) := by decide +kernel
theorem dX10_takesName_72 : decode cX10_takesName 72 = .ok (.aload_n 0, 1) := by decide +kernel
theorem dX10_takesName_73 : decode cX10_takesName 73 = .ok (.getfield 303, 3) := by decide +kernel
theorem dX10_takesName_76 : decode cX10_takesName 76 = .ok (.lastore, 1) := by decide +kernel
theorem dX10_takesName_77 : decode cX10_takesName 77 = .ok (.aload_n 0, 1) := by decide +kernel
theorem dX10_takesName_78 : decode cX10_takesName 78 = .ok (.dup, 1) := by decide +kernel
theorem dX10_takesName_79 : decode cX10_takesName 79 = .ok (.getfield 337, 3) := by decide +kernel
theorem dX10_takesName_82 : decode cX10_takesName 82 = .ok (.iconst 1, 1) := by decide +kernel
theorem dX10_takesName_83 : decode cX10_takesName 83 = .ok (.iadd, 1) := by decide +kernel
theorem dX10_takesName_84 : decode cX10_takesName 84 = .ok (.putfield 337, 3) := by decide +kernel
theorem dX10_takesName_87 : decode cX10_takesName 87 = .ok (.aload_n 0, 1) := by decide +kernel
theorem dX10_takesName_88 : decode cX10_takesName 88 = .ok (.invokevirtual 324, 3) := by decide +kernel
theorem dX10_takesName_91 : decode cX10_takesName 91 = .ok (.return_, 1) := by decide +kernel
theorem dX10_readsLaw_0 : decode cX10_readsLaw 0 = .ok (.iconst (-1), 1) := by decide +kernel
theorem dX10_readsLaw_1 : decode cX10_readsLaw 1 = .ok (.istore_n 2, 1) := by decide +kernel
theorem dX10_readsLaw_2 : decode cX10_readsLaw 2 = .ok (.iconst 0, 1) := by decide +kernel
theorem dX10_readsLaw_3 : decode cX10_readsLaw 3 = .ok (.istore_n 3, 1) := by decide +kernel
theorem dX10_readsLaw_4 : decode cX10_readsLaw 4 = .ok (.iload_n 3, 1) := by decide +kernel
theorem dX10_readsLaw_5 : decode cX10_readsLaw 5 = .ok (.iconst 3, 1) := by decide +kernel
theorem dX10_readsLaw_6 : decode cX10_readsLaw 6 = .ok (.if_icmp .gt 21, 3) := by decide +kernel
theorem dX10_readsLaw_9 : decode cX10_readsLaw 9 = .ok (.aload_n 0, 1) := by decide +kernel
theorem dX10_readsLaw_10 : decode cX10_readsLaw 10 = .ok (.iconst 4, 1) := by decide +kernel
theorem dX10_readsLaw_11 : decode cX10_readsLaw 11 = .ok (.iload_n 3, 1) := by decide +kernel
theorem dX10_readsLaw_12 : decode cX10_readsLaw 12 = .ok (.iadd, 1) := by decide +kernel
theorem dX10_readsLaw_13 : decode cX10_readsLaw 13 = .ok (.invokevirtual 340, 3) := by decide +kernel
theorem dX10_readsLaw_16 : decode cX10_readsLaw 16 = .ok (.ifCond .eq 5, 3) := by decide +kernel
theorem dX10_readsLaw_19 : decode cX10_readsLaw 19 = .ok (.iload_n 3, 1) := by decide +kernel
theorem dX10_readsLaw_20 : decode cX10_readsLaw 20 = .ok (.istore_n 2, 1) := by decide +kernel
theorem dX10_readsLaw_21 : decode cX10_readsLaw 21 = .ok (.iinc 3 1, 3) := by decide +kernel
theorem dX10_readsLaw_24 : decode cX10_readsLaw 24 = .ok (.goto (-20), 3) := by decide +kernel
theorem dX10_readsLaw_27 : decode cX10_readsLaw 27 = .ok (.aload_n 0, 1) := by decide +kernel
theorem dX10_readsLaw_28 : decode cX10_readsLaw 28 = .ok (.bipush 8, 2) := by decide +kernel
theorem dX10_readsLaw_30 : decode cX10_readsLaw 30 = .ok (.invokevirtual 340, 3) := by decide +kernel
theorem dX10_readsLaw_33 : decode cX10_readsLaw 33 = .ok (.ifCond .eq 5, 3) := by decide +kernel
theorem dX10_readsLaw_36 : decode cX10_readsLaw 36 = .ok (.iconst 4, 1) := by decide +kernel
theorem dX10_readsLaw_37 : decode cX10_readsLaw 37 = .ok (.istore_n 2, 1) := by decide +kernel
theorem dX10_readsLaw_38 : decode cX10_readsLaw 38 = .ok (.aload_n 0, 1) := by decide +kernel
theorem dX10_readsLaw_39 : decode cX10_readsLaw 39 = .ok (.bipush 10, 2) := by decide +kernel
theorem dX10_readsLaw_41 : decode cX10_readsLaw 41 = .ok (.invokevirtual 340, 3) := by decide +kernel
theorem dX10_readsLaw_44 : decode cX10_readsLaw 44 = .ok (.ifCond .eq 5, 3) := by decide +kernel
theorem dX10_readsLaw_47 : decode cX10_readsLaw 47 = .ok (.iconst 5, 1) := by decide +kernel
theorem dX10_readsLaw_48 : decode cX10_readsLaw 48 = .ok (.istore_n 2, 1) := by decide +kernel
theorem dX10_readsLaw_49 : decode cX10_readsLaw 49 = .ok (.aload_n 0, 1) := by decide +kernel
theorem dX10_readsLaw_50 : decode cX10_readsLaw 50 = .ok (.iload_n 2, 1) := by decide +kernel
theorem dX10_readsLaw_51 : decode cX10_readsLaw 51 = .ok (.ifCond .lt 7, 3) := by decide +kernel
theorem dX10_readsLaw_54 : decode cX10_readsLaw 54 = .ok (.iconst 1, 1) := by decide +kernel
theorem dX10_readsLaw_55 : decode cX10_readsLaw 55 = .ok (.goto 4, 3) := by decide +kernel
theorem dX10_readsLaw_58 : decode cX10_readsLaw 58 = .ok (.iconst 0, 1) := by decide +kernel
theorem dX10_readsLaw_59 : decode cX10_readsLaw 59 = .ok (.invokevirtual 343, 3) := by decide +kernel
theorem dX10_readsLaw_62 : decode cX10_readsLaw 62 = .ok (.aload_n 0, 1) := by decide +kernel
theorem dX10_readsLaw_63 : decode cX10_readsLaw 63 = .ok (.invokevirtual 320, 3) := by decide +kernel
theorem dX10_readsLaw_66 : decode cX10_readsLaw 66 = .ok (.ifCond .ne 4, 3) := by decide +kernel
theorem dX10_readsLaw_69 : decode cX10_readsLaw 69 = .ok (.return_, 1) := by decide +kernel
theorem dX10_readsLaw_70 : decode cX10_readsLaw 70 = .ok (.aload_n 0, 1) := by decide +kernel
theorem dX10_readsLaw_71 : decode cX10_readsLaw 71 = .ok (.getfield 13, 3) := by decide +kernel
theorem dX10_readsLaw_74 : decode cX10_readsLaw 74 = .ok (.iload_n 1, 1) := by decide +kernel
theorem dX10_readsLaw_75 : decode cX10_readsLaw 75 = .ok (.iconst 0, 1) := by decide +kernel
theorem dX10_readsLaw_76 : decode cX10_readsLaw 76 = .ok (.iadd, 1) := by decide +kernel
theorem dX10_readsLaw_77 : decode cX10_readsLaw 77 = .ok (.iload_n 2, 1) := by decide +kernel
theorem dX10_readsLaw_78 : decode cX10_readsLaw 78 = .ok (.iastore, 1) := by decide +kernel
theorem dX10_readsLaw_79 : decode cX10_readsLaw 79 = .ok (.iload_n 2, 1) := by decide +kernel
theorem dX10_readsLaw_80 : decode cX10_readsLaw 80 = .ok (.iconst 4, 1) := by decide +kernel
theorem dX10_readsLaw_81 : decode cX10_readsLaw 81 = .ok (.if_icmp .ne 54, 3) := by decide +kernel
theorem dX10_readsLaw_84 : decode cX10_readsLaw 84 = .ok (.aload_n 0, 1) := by decide +kernel
theorem dX10_readsLaw_85 : decode cX10_readsLaw 85 = .ok (.getfield 13, 3) := by decide +kernel
theorem dX10_readsLaw_88 : decode cX10_readsLaw 88 = .ok (.iload_n 1, 1) := by decide +kernel
theorem dX10_readsLaw_89 : decode cX10_readsLaw 89 = .ok (.bipush 8, 2) := by decide +kernel
theorem dX10_readsLaw_91 : decode cX10_readsLaw 91 = .ok (.iadd, 1) := by decide +kernel
theorem dX10_readsLaw_92 : decode cX10_readsLaw 92 = .ok (.aload_n 0, 1) := by decide +kernel
theorem dX10_readsLaw_93 : decode cX10_readsLaw 93 = .ok (.iconst 2, 1) := by decide +kernel
theorem dX10_readsLaw_94 : decode cX10_readsLaw 94 = .ok (.bipush 99, 2) := by decide +kernel
theorem dX10_readsLaw_96 : decode cX10_readsLaw 96 = .ok (.invokevirtual 347, 3) := by decide +kernel
theorem dX10_readsLaw_99 : decode cX10_readsLaw 99 = .ok (.iastore, 1) := by decide +kernel
theorem dX10_readsLaw_100 : decode cX10_readsLaw 100 = .ok (.aload_n 0, 1) := by decide +kernel
theorem dX10_readsLaw_101 : decode cX10_readsLaw 101 = .ok (.aload_n 0, 1) := by decide +kernel
theorem dX10_readsLaw_102 : decode cX10_readsLaw 102 = .ok (.bipush 9, 2) := by decide +kernel
theorem dX10_readsLaw_104 : decode cX10_readsLaw 104 = .ok (.invokevirtual 340, 3) := by decide +kernel
theorem dX10_readsLaw_107 : decode cX10_readsLaw 107 = .ok (.invokevirtual 343, 3) := by decide +kernel
theorem dX10_readsLaw_110 : decode cX10_readsLaw 110 = .ok (.aload_n 0, 1) := by decide +kernel
theorem dX10_readsLaw_111 : decode cX10_readsLaw 111 = .ok (.invokevirtual 320, 3) := by decide +kernel
theorem dX10_readsLaw_114 : decode cX10_readsLaw 114 = .ok (.ifCond .eq 21, 3) := by decide +kernel
theorem dX10_readsLaw_117 : decode cX10_readsLaw 117 = .ok (.aload_n 0, 1) := by decide +kernel
theorem dX10_readsLaw_118 : decode cX10_readsLaw 118 = .ok (.getfield 13, 3) := by decide +kernel
theorem dX10_readsLaw_121 : decode cX10_readsLaw 121 = .ok (.iload_n 1, 1) := by decide +kernel
theorem dX10_readsLaw_122 : decode cX10_readsLaw 122 = .ok (.bipush 8, 2) := by decide +kernel
theorem dX10_readsLaw_124 : decode cX10_readsLaw 124 = .ok (.iadd, 1) := by decide +kernel
theorem dX10_readsLaw_125 : decode cX10_readsLaw 125 = .ok (.iconst 1, 1) := by decide +kernel
theorem dX10_readsLaw_126 : decode cX10_readsLaw 126 = .ok (.iadd, 1) := by decide +kernel
theorem dX10_readsLaw_127 : decode cX10_readsLaw 127 = .ok (.aload_n 0, 1) := by decide +kernel
theorem dX10_readsLaw_128 : decode cX10_readsLaw 128 = .ok (.iconst 1, 1) := by decide +kernel
theorem dX10_readsLaw_129 : decode cX10_readsLaw 129 = .ok (.bipush 60, 2) := by decide +kernel
theorem dX10_readsLaw_131 : decode cX10_readsLaw 131 = .ok (.invokevirtual 347, 3) := by decide +kernel
theorem dX10_readsLaw_134 : decode cX10_readsLaw 134 = .ok (.iastore, 1) := by decide +kernel
theorem dX10_readsLaw_135 : decode cX10_readsLaw 135 = .ok (.iload_n 2, 1) := by decide +kernel
theorem dX10_readsLaw_136 : decode cX10_readsLaw 136 = .ok (.iconst 5, 1) := by decide +kernel
theorem dX10_readsLaw_137 : decode cX10_readsLaw 137 = .ok (.if_icmp .ne 142, 3) := by decide +kernel
theorem dX10_readsLaw_140 : decode cX10_readsLaw 140 = .ok (.aload_n 0, 1) := by decide +kernel
theorem dX10_readsLaw_141 : decode cX10_readsLaw 141 = .ok (.invokevirtual 320, 3) := by decide +kernel
theorem dX10_readsLaw_144 : decode cX10_readsLaw 144 = .ok (.ifCond .eq 135, 3) := by decide +kernel
theorem dX10_readsLaw_147 : decode cX10_readsLaw 147 = .ok (.aload_n 0, 1) := by decide +kernel
theorem dX10_readsLaw_148 : decode cX10_readsLaw 148 = .ok (.getfield 13, 3) := by decide +kernel
theorem dX10_readsLaw_151 : decode cX10_readsLaw 151 = .ok (.iload_n 1, 1) := by decide +kernel
theorem dX10_readsLaw_152 : decode cX10_readsLaw 152 = .ok (.bipush 7, 2) := by decide +kernel
theorem dX10_readsLaw_154 : decode cX10_readsLaw 154 = .ok (.iadd, 1) := by decide +kernel
theorem dX10_readsLaw_155 : decode cX10_readsLaw 155 = .ok (.iaload, 1) := by decide +kernel
theorem dX10_readsLaw_156 : decode cX10_readsLaw 156 = .ok (.ifCond .eq 11, 3) := by decide +kernel
theorem dX10_readsLaw_159 : decode cX10_readsLaw 159 = .ok (.aload_n 0, 1) := by decide +kernel
theorem dX10_readsLaw_160 : decode cX10_readsLaw 160 = .ok (.getfield 300, 3) := by decide +kernel
theorem dX10_readsLaw_163 : decode cX10_readsLaw 163 = .ok (.iconst 2, 1) := by decide +kernel
theorem dX10_readsLaw_164 : decode cX10_readsLaw 164 = .ok (.if_icmp .ne 115, 3) := by decide +kernel
theorem dX10_readsLaw_167 : decode cX10_readsLaw 167 = .ok (.aload_n 0, 1) := by decide +kernel
theorem dX10_readsLaw_168 : decode cX10_readsLaw 168 = .ok (.aload_n 0, 1) := by decide +kernel
theorem dX10_readsLaw_169 : decode cX10_readsLaw 169 = .ok (.getfield 300, 3) := by decide +kernel
theorem dX10_readsLaw_172 : decode cX10_readsLaw 172 = .ok (.iconst 2, 1) := by decide +kernel
theorem dX10_readsLaw_173 : decode cX10_readsLaw 173 = .ok (.if_icmp .ne 7, 3) := by decide +kernel
theorem dX10_readsLaw_176 : decode cX10_readsLaw 176 = .ok (.iconst 1, 1) := by decide +kernel
theorem dX10_readsLaw_177 : decode cX10_readsLaw 177 = .ok (.goto 4, 3) := by decide +kernel
theorem dX10_readsLaw_180 : decode cX10_readsLaw 180 = .ok (.iconst 0, 1) := by decide +kernel
theorem dX10_readsLaw_181 : decode cX10_readsLaw 181 = .ok (.iconst 2, 1) := by decide +kernel
theorem dX10_readsLaw_182 : decode cX10_readsLaw 182 = .ok (.invokevirtual 327, 3) := by decide +kernel
theorem dX10_readsLaw_185 : decode cX10_readsLaw 185 = .ok (.aload_n 0, 1) := by decide +kernel
theorem dX10_readsLaw_186 : decode cX10_readsLaw 186 = .ok (.aload_n 0, 1) := by decide +kernel
theorem dX10_readsLaw_187 : decode cX10_readsLaw 187 = .ok (.getfield 311, 3) := by decide +kernel
theorem dX10_readsLaw_190 : decode cX10_readsLaw 190 = .ok (.i2l, 1) := by decide +kernel
theorem dX10_readsLaw_191 : decode cX10_readsLaw 191 = .ok (.ldc2_w 138, 3) := by decide +kernel
theorem dX10_readsLaw_194 : decode cX10_readsLaw 194 = .ok (.ldc2_w 176, 3) := by decide +kernel
theorem dX10_readsLaw_197 : decode cX10_readsLaw 197 = .ok (.invokestatic 93, 3) := by decide +kernel
theorem dX10_readsLaw_200 : decode cX10_readsLaw 200 = .ok (.iconst 3, 1) := by decide +kernel
theorem dX10_readsLaw_201 : decode cX10_readsLaw 201 = .ok (.invokevirtual 327, 3) := by decide +kernel
theorem dX10_readsLaw_204 : decode cX10_readsLaw 204 = .ok (.aload_n 0, 1) := by decide +kernel
theorem dX10_readsLaw_205 : decode cX10_readsLaw 205 = .ok (.aload_n 0, 1) := by decide +kernel
theorem dX10_readsLaw_206 : decode cX10_readsLaw 206 = .ok (.getfield 13, 3) := by decide +kernel
theorem dX10_readsLaw_209 : decode cX10_readsLaw 209 = .ok (.iload_n 1, 1) := by decide +kernel
theorem dX10_readsLaw_210 : decode cX10_readsLaw 210 = .ok (.bipush 7, 2) := by decide +kernel
theorem dX10_readsLaw_212 : decode cX10_readsLaw 212 = .ok (.iadd, 1) := by decide +kernel
theorem dX10_readsLaw_213 : decode cX10_readsLaw 213 = .ok (.iaload, 1) := by decide +kernel
theorem dX10_readsLaw_214 : decode cX10_readsLaw 214 = .ok (.bipush 12, 2) := by decide +kernel
theorem dX10_readsLaw_216 : decode cX10_readsLaw 216 = .ok (.if_icmp .ge 7, 3) := by decide +kernel
theorem dX10_readsLaw_219 : decode cX10_readsLaw 219 = .ok (.iconst 1, 1) := by decide +kernel
theorem dX10_readsLaw_220 : decode cX10_readsLaw 220 = .ok (.goto 4, 3) := by decide +kernel
theorem dX10_readsLaw_223 : decode cX10_readsLaw 223 = .ok (.iconst 0, 1) := by decide +kernel
theorem dX10_readsLaw_224 : decode cX10_readsLaw 224 = .ok (.iconst 5, 1) := by decide +kernel
theorem dX10_readsLaw_225 : decode cX10_readsLaw 225 = .ok (.invokevirtual 327, 3) := by decide +kernel
theorem dX10_readsLaw_228 : decode cX10_readsLaw 228 = .ok (.aload_n 0, 1) := by decide +kernel
theorem dX10_readsLaw_229 : decode cX10_readsLaw 229 = .ok (.invokevirtual 320, 3) := by decide +kernel
theorem dX10_readsLaw_232 : decode cX10_readsLaw 232 = .ok (.ifCond .ne 4, 3) := by decide +kernel
theorem dX10_readsLaw_235 : decode cX10_readsLaw 235 = .ok (.return_, 1) := by decide +kernel
theorem dX10_readsLaw_236 : decode cX10_readsLaw 236 = .ok (.aload_n 0, 1) := by decide +kernel
theorem dX10_readsLaw_237 : decode cX10_readsLaw 237 = .ok (.getfield 13, 3) := by decide +kernel
theorem dX10_readsLaw_240 : decode cX10_readsLaw 240 = .ok (.iload_n 1, 1) := by decide +kernel
theorem dX10_readsLaw_241 : decode cX10_readsLaw 241 = .ok (.bipush 8, 2) := by decide +kernel
theorem dX10_readsLaw_243 : decode cX10_readsLaw 243 = .ok (.iadd, 1) := by decide +kernel
theorem dX10_readsLaw_244 : decode cX10_readsLaw 244 = .ok (.aload_n 0, 1) := by decide +kernel
theorem dX10_readsLaw_245 : decode cX10_readsLaw 245 = .ok (.getfield 13, 3) := by decide +kernel
theorem dX10_readsLaw_248 : decode cX10_readsLaw 248 = .ok (.iload_n 1, 1) := by decide +kernel
theorem dX10_readsLaw_249 : decode cX10_readsLaw 249 = .ok (.bipush 7, 2) := by decide +kernel
theorem dX10_readsLaw_251 : decode cX10_readsLaw 251 = .ok (.iadd, 1) := by decide +kernel
theorem dX10_readsLaw_252 : decode cX10_readsLaw 252 = .ok (.iaload, 1) := by decide +kernel
theorem dX10_readsLaw_253 : decode cX10_readsLaw 253 = .ok (.iadd, 1) := by decide +kernel
theorem dX10_readsLaw_254 : decode cX10_readsLaw 254 = .ok (.aload_n 0, 1) := by decide +kernel
theorem dX10_readsLaw_255 : decode cX10_readsLaw 255 = .ok (.getfield 311, 3) := by decide +kernel
theorem dX10_readsLaw_258 : decode cX10_readsLaw 258 = .ok (.iastore, 1) := by decide +kernel
theorem dX10_readsLaw_259 : decode cX10_readsLaw 259 = .ok (.aload_n 0, 1) := by decide +kernel
theorem dX10_readsLaw_260 : decode cX10_readsLaw 260 = .ok (.getfield 13, 3) := by decide +kernel
theorem dX10_readsLaw_263 : decode cX10_readsLaw 263 = .ok (.iload_n 1, 1) := by decide +kernel
theorem dX10_readsLaw_264 : decode cX10_readsLaw 264 = .ok (.bipush 7, 2) := by decide +kernel
theorem dX10_readsLaw_266 : decode cX10_readsLaw 266 = .ok (.iadd, 1) := by decide +kernel
theorem dX10_readsLaw_267 : decode cX10_readsLaw 267 = .ok (.dup2, 1) := by decide +kernel
theorem dX10_readsLaw_268 : decode cX10_readsLaw 268 = .ok (.iaload, 1) := by decide +kernel
theorem dX10_readsLaw_269 : decode cX10_readsLaw 269 = .ok (.iconst 1, 1) := by decide +kernel
theorem dX10_readsLaw_270 : decode cX10_readsLaw 270 = .ok (.iadd, 1) := by decide +kernel
theorem dX10_readsLaw_271 : decode cX10_readsLaw 271 = .ok (.iastore, 1) := by decide +kernel
theorem dX10_readsLaw_272 : decode cX10_readsLaw 272 = .ok (.aload_n 0, 1) := by decide +kernel
theorem dX10_readsLaw_273 : decode cX10_readsLaw 273 = .ok (.invokevirtual 324, 3) := by decide +kernel
theorem dX10_readsLaw_276 : decode cX10_readsLaw 276 = .ok (.goto (-141), 3) := by decide +kernel
theorem dX10_readsLaw_279 : decode cX10_readsLaw 279 = .ok (.return_, 1) := by decide +kernel
theorem dX10_readsSieve_0 : decode cX10_readsSieve 0 = .ok (.aload_n 0, 1) := by decide +kernel
theorem dX10_readsSieve_1 : decode cX10_readsSieve 1 = .ok (.aload_n 0, 1) := by decide +kernel
theorem dX10_readsSieve_2 : decode cX10_readsSieve 2 = .ok (.getfield 350, 3) := by decide +kernel
theorem dX10_readsSieve_5 : decode cX10_readsSieve 5 = .ok (.iconst 4, 1) := by decide +kernel
theorem dX10_readsSieve_6 : decode cX10_readsSieve 6 = .ok (.if_icmp .ge 7, 3) := by decide +kernel
theorem dX10_readsSieve_9 : decode cX10_readsSieve 9 = .ok (.iconst 1, 1) := by decide +kernel
theorem dX10_readsSieve_10 : decode cX10_readsSieve 10 = .ok (.goto 4, 3) := by decide +kernel
theorem dX10_readsSieve_13 : decode cX10_readsSieve 13 = .ok (.iconst 0, 1) := by decide +kernel
theorem dX10_readsSieve_14 : decode cX10_readsSieve 14 = .ok (.iconst 5, 1) := by decide +kernel
theorem dX10_readsSieve_15 : decode cX10_readsSieve 15 = .ok (.invokevirtual 327, 3) := by decide +kernel
theorem dX10_readsSieve_18 : decode cX10_readsSieve 18 = .ok (.aload_n 0, 1) := by decide +kernel
theorem dX10_readsSieve_19 : decode cX10_readsSieve 19 = .ok (.invokevirtual 331, 3) := by decide +kernel
theorem dX10_readsSieve_22 : decode cX10_readsSieve 22 = .ok (.aload_n 0, 1) := by decide +kernel
theorem dX10_readsSieve_23 : decode cX10_readsSieve 23 = .ok (.invokevirtual 353, 3) := by decide +kernel
theorem dX10_readsSieve_26 : decode cX10_readsSieve 26 = .ok (.sipush 1824, 3) := by decide +kernel
theorem dX10_readsSieve_29 : decode cX10_readsSieve 29 = .ok (.aload_n 0, 1) := by decide +kernel
theorem dX10_readsSieve_30 : decode cX10_readsSieve 30 = .ok (.getfield 350, 3) := by decide +kernel
theorem dX10_readsSieve_33 : decode cX10_readsSieve 33 = .ok (.imul, 1) := by decide +kernel
theorem dX10_readsSieve_34 : decode cX10_readsSieve 34 = .ok (.istore_n 1, 1) := by decide +kernel
theorem dX10_readsSieve_35 : decode cX10_readsSieve 35 = .ok (.aload_n 0, 1) := by decide +kernel
theorem dX10_readsSieve_36 : decode cX10_readsSieve 36 = .ok (.aload_n 0, 1) := by decide +kernel
theorem dX10_readsSieve_37 : decode cX10_readsSieve 37 = .ok (.iconst 1, 1) := by decide +kernel
theorem dX10_readsSieve_38 : decode cX10_readsSieve 38 = .ok (.invokevirtual 340, 3) := by decide +kernel
theorem dX10_readsSieve_41 : decode cX10_readsSieve 41 = .ok (.invokevirtual 343, 3) := by decide +kernel
theorem dX10_readsSieve_44 : decode cX10_readsSieve 44 = .ok (.aload_n 0, 1) := by decide +kernel
theorem dX10_readsSieve_45 : decode cX10_readsSieve 45 = .ok (.iconst 0, 1) := by decide +kernel
theorem dX10_readsSieve_46 : decode cX10_readsSieve 46 = .ok (.sipush 999, 3) := by decide +kernel
theorem dX10_readsSieve_49 : decode cX10_readsSieve 49 = .ok (.invokevirtual 347, 3) := by decide +kernel
theorem dX10_readsSieve_52 : decode cX10_readsSieve 52 = .ok (.istore_n 2, 1) := by decide +kernel
theorem dX10_readsSieve_53 : decode cX10_readsSieve 53 = .ok (.aload_n 0, 1) := by decide +kernel
theorem dX10_readsSieve_54 : decode cX10_readsSieve 54 = .ok (.aload_n 0, 1) := by decide +kernel
theorem dX10_readsSieve_55 : decode cX10_readsSieve 55 = .ok (.iconst 2, 1) := by decide +kernel
theorem dX10_readsSieve_56 : decode cX10_readsSieve 56 = .ok (.invokevirtual 340, 3) := by decide +kernel
theorem dX10_readsSieve_59 : decode cX10_readsSieve 59 = .ok (.invokevirtual 343, 3) := by decide +kernel
theorem dX10_readsSieve_62 : decode cX10_readsSieve 62 = .ok (.aload_n 0, 1) := by decide +kernel
theorem dX10_readsSieve_63 : decode cX10_readsSieve 63 = .ok (.iconst 1, 1) := by decide +kernel
theorem dX10_readsSieve_64 : decode cX10_readsSieve 64 = .ok (.bipush 99, 2) := by decide +kernel
theorem dX10_readsSieve_66 : decode cX10_readsSieve 66 = .ok (.invokevirtual 347, 3) := by decide +kernel
theorem dX10_readsSieve_69 : decode cX10_readsSieve 69 = .ok (.istore_n 3, 1) := by decide +kernel
theorem dX10_readsSieve_70 : decode cX10_readsSieve 70 = .ok (.aload_n 0, 1) := by decide +kernel
theorem dX10_readsSieve_71 : decode cX10_readsSieve 71 = .ok (.aload_n 0, 1) := by decide +kernel
theorem dX10_readsSieve_72 : decode cX10_readsSieve 72 = .ok (.iconst 3, 1) := by decide +kernel
theorem dX10_readsSieve_73 : decode cX10_readsSieve 73 = .ok (.invokevirtual 340, 3) := by decide +kernel
theorem dX10_readsSieve_76 : decode cX10_readsSieve 76 = .ok (.invokevirtual 343, 3) := by decide +kernel
theorem dX10_readsSieve_79 : decode cX10_readsSieve 79 = .ok (.aload_n 0, 1) := by decide +kernel
theorem dX10_readsSieve_80 : decode cX10_readsSieve 80 = .ok (.iconst 2, 1) := by decide +kernel
theorem dX10_readsSieve_81 : decode cX10_readsSieve 81 = .ok (.sipush 600, 3) := by decide +kernel
theorem dX10_readsSieve_84 : decode cX10_readsSieve 84 = .ok (.invokevirtual 347, 3) := by decide +kernel
theorem dX10_readsSieve_87 : decode cX10_readsSieve 87 = .ok (.istore 4, 2) := by decide +kernel
theorem dX10_readsSieve_89 : decode cX10_readsSieve 89 = .ok (.aload_n 0, 1) := by decide +kernel
theorem dX10_readsSieve_90 : decode cX10_readsSieve 90 = .ok (.invokevirtual 320, 3) := by decide +kernel
theorem dX10_readsSieve_93 : decode cX10_readsSieve 93 = .ok (.ifCond .ne 4, 3) := by decide +kernel
theorem dX10_readsSieve_96 : decode cX10_readsSieve 96 = .ok (.return_, 1) := by decide +kernel
theorem dX10_readsSieve_97 : decode cX10_readsSieve 97 = .ok (.aload_n 0, 1) := by decide +kernel
theorem dX10_readsSieve_98 : decode cX10_readsSieve 98 = .ok (.getfield 13, 3) := by decide +kernel
theorem dX10_readsSieve_101 : decode cX10_readsSieve 101 = .ok (.iload_n 1, 1) := by decide +kernel
theorem dX10_readsSieve_102 : decode cX10_readsSieve 102 = .ok (.iconst 1, 1) := by decide +kernel
theorem dX10_readsSieve_103 : decode cX10_readsSieve 103 = .ok (.iadd, 1) := by decide +kernel
theorem dX10_readsSieve_104 : decode cX10_readsSieve 104 = .ok (.iload_n 2, 1) := by decide +kernel
theorem dX10_readsSieve_105 : decode cX10_readsSieve 105 = .ok (.iastore, 1) := by decide +kernel
theorem dX10_readsSieve_106 : decode cX10_readsSieve 106 = .ok (.aload_n 0, 1) := by decide +kernel
theorem dX10_readsSieve_107 : decode cX10_readsSieve 107 = .ok (.getfield 13, 3) := by decide +kernel
theorem dX10_readsSieve_110 : decode cX10_readsSieve 110 = .ok (.iload_n 1, 1) := by decide +kernel
theorem dX10_readsSieve_111 : decode cX10_readsSieve 111 = .ok (.iconst 2, 1) := by decide +kernel
theorem dX10_readsSieve_112 : decode cX10_readsSieve 112 = .ok (.iadd, 1) := by decide +kernel
theorem dX10_readsSieve_113 : decode cX10_readsSieve 113 = .ok (.iload_n 3, 1) := by decide +kernel
theorem dX10_readsSieve_114 : decode cX10_readsSieve 114 = .ok (.iastore, 1) := by decide +kernel
theorem dX10_readsSieve_115 : decode cX10_readsSieve 115 = .ok (.aload_n 0, 1) := by decide +kernel
theorem dX10_readsSieve_116 : decode cX10_readsSieve 116 = .ok (.getfield 13, 3) := by decide +kernel
theorem dX10_readsSieve_119 : decode cX10_readsSieve 119 = .ok (.iload_n 1, 1) := by decide +kernel
theorem dX10_readsSieve_120 : decode cX10_readsSieve 120 = .ok (.iconst 3, 1) := by decide +kernel
theorem dX10_readsSieve_121 : decode cX10_readsSieve 121 = .ok (.iadd, 1) := by decide +kernel
theorem dX10_readsSieve_122 : decode cX10_readsSieve 122 = .ok (.iload 4, 2) := by decide +kernel
theorem dX10_readsSieve_124 : decode cX10_readsSieve 124 = .ok (.iastore, 1) := by decide +kernel
theorem dX10_readsSieve_125 : decode cX10_readsSieve 125 = .ok (.aload_n 0, 1) := by decide +kernel
theorem dX10_readsSieve_126 : decode cX10_readsSieve 126 = .ok (.iload_n 1, 1) := by decide +kernel
theorem dX10_readsSieve_127 : decode cX10_readsSieve 127 = .ok (.invokevirtual 356, 3) := by decide +kernel
theorem dX10_readsSieve_130 : decode cX10_readsSieve 130 = .ok (.aload_n 0, 1) := by decide +kernel
theorem dX10_readsSieve_131 : decode cX10_readsSieve 131 = .ok (.dup, 1) := by decide +kernel
theorem dX10_readsSieve_132 : decode cX10_readsSieve 132 = .ok (.getfield 350, 3) := by decide +kernel
theorem dX10_readsSieve_135 : decode cX10_readsSieve 135 = .ok (.iconst 1, 1) := by decide +kernel
theorem dX10_readsSieve_136 : decode cX10_readsSieve 136 = .ok (.iadd, 1) := by decide +kernel
theorem dX10_readsSieve_137 : decode cX10_readsSieve 137 = .ok (.putfield 350, 3) := by decide +kernel
theorem dX10_readsSieve_140 : decode cX10_readsSieve 140 = .ok (.return_, 1) := by decide +kernel
theorem dX10_readsList_0 : decode cX10_readsList 0 = .ok (.aload_n 0, 1) := by decide +kernel
theorem dX10_readsList_1 : decode cX10_readsList 1 = .ok (.aload_n 0, 1) := by decide +kernel
theorem dX10_readsList_2 : decode cX10_readsList 2 = .ok (.getfield 359, 3) := by decide +kernel
theorem dX10_readsList_5 : decode cX10_readsList 5 = .ok (.iconst 3, 1) := by decide +kernel
theorem dX10_readsList_6 : decode cX10_readsList 6 = .ok (.if_icmp .ge 7, 3) := by decide +kernel
theorem dX10_readsList_9 : decode cX10_readsList 9 = .ok (.iconst 1, 1) := by decide +kernel
theorem dX10_readsList_10 : decode cX10_readsList 10 = .ok (.goto 4, 3) := by decide +kernel
theorem dX10_readsList_13 : decode cX10_readsList 13 = .ok (.iconst 0, 1) := by decide +kernel
theorem dX10_readsList_14 : decode cX10_readsList 14 = .ok (.iconst 5, 1) := by decide +kernel
theorem dX10_readsList_15 : decode cX10_readsList 15 = .ok (.invokevirtual 327, 3) := by decide +kernel
theorem dX10_readsList_18 : decode cX10_readsList 18 = .ok (.aload_n 0, 1) := by decide +kernel
theorem dX10_readsList_19 : decode cX10_readsList 19 = .ok (.invokevirtual 331, 3) := by decide +kernel
theorem dX10_readsList_22 : decode cX10_readsList 22 = .ok (.aload_n 0, 1) := by decide +kernel
theorem dX10_readsList_23 : decode cX10_readsList 23 = .ok (.invokevirtual 353, 3) := by decide +kernel
theorem dX10_readsList_26 : decode cX10_readsList 26 = .ok (.aload_n 0, 1) := by decide +kernel
theorem dX10_readsList_27 : decode cX10_readsList 27 = .ok (.invokevirtual 320, 3) := by decide +kernel
theorem dX10_readsList_30 : decode cX10_readsList 30 = .ok (.ifCond .ne 4, 3) := by decide +kernel
theorem dX10_readsList_33 : decode cX10_readsList 33 = .ok (.return_, 1) := by decide +kernel
theorem dX10_readsList_34 : decode cX10_readsList 34 = .ok (.bipush 11, 2) := by decide +kernel
theorem dX10_readsList_36 : decode cX10_readsList 36 = .ok (.aload_n 0, 1) := by decide +kernel
theorem dX10_readsList_37 : decode cX10_readsList 37 = .ok (.getfield 359, 3) := by decide +kernel
theorem dX10_readsList_40 : decode cX10_readsList 40 = .ok (.imul, 1) := by decide +kernel
theorem dX10_readsList_41 : decode cX10_readsList 41 = .ok (.istore_n 1, 1) := by decide +kernel
theorem dX10_readsList_42 : decode cX10_readsList 42 = .ok (.aload_n 0, 1) := by decide +kernel
theorem dX10_readsList_43 : decode cX10_readsList 43 = .ok (.getfield 26, 3) := by decide +kernel
theorem dX10_readsList_46 : decode cX10_readsList 46 = .ok (.iload_n 1, 1) := by decide +kernel
theorem dX10_readsList_47 : decode cX10_readsList 47 = .ok (.iconst 0, 1) := by decide +kernel
theorem dX10_readsList_48 : decode cX10_readsList 48 = .ok (.iastore, 1) := by decide +kernel
theorem dX10_readsList_49 : decode cX10_readsList 49 = .ok (.iconst (-1), 1) := by decide +kernel
theorem dX10_readsList_50 : decode cX10_readsList 50 = .ok (.istore_n 2, 1) := by decide +kernel
theorem dX10_readsList_51 : decode cX10_readsList 51 = .ok (.aload_n 0, 1) := by decide +kernel
theorem dX10_readsList_52 : decode cX10_readsList 52 = .ok (.invokevirtual 320, 3) := by decide +kernel
theorem dX10_readsList_55 : decode cX10_readsList 55 = .ok (.ifCond .eq 126, 3) := by decide +kernel
theorem dX10_readsList_58 : decode cX10_readsList 58 = .ok (.aload_n 0, 1) := by decide +kernel
theorem dX10_readsList_59 : decode cX10_readsList 59 = .ok (.getfield 26, 3) := by decide +kernel
theorem dX10_readsList_62 : decode cX10_readsList 62 = .ok (.iload_n 1, 1) := by decide +kernel
theorem dX10_readsList_63 : decode cX10_readsList 63 = .ok (.iaload, 1) := by decide +kernel
theorem dX10_readsList_64 : decode cX10_readsList 64 = .ok (.ifCond .eq 11, 3) := by decide +kernel
theorem dX10_readsList_67 : decode cX10_readsList 67 = .ok (.aload_n 0, 1) := by decide +kernel
theorem dX10_readsList_68 : decode cX10_readsList 68 = .ok (.getfield 300, 3) := by decide +kernel
theorem dX10_readsList_71 : decode cX10_readsList 71 = .ok (.iconst 2, 1) := by decide +kernel
theorem dX10_readsList_72 : decode cX10_readsList 72 = .ok (.if_icmp .ne 109, 3) := by decide +kernel
theorem dX10_readsList_75 : decode cX10_readsList 75 = .ok (.aload_n 0, 1) := by decide +kernel
theorem dX10_readsList_76 : decode cX10_readsList 76 = .ok (.aload_n 0, 1) := by decide +kernel
theorem dX10_readsList_77 : decode cX10_readsList 77 = .ok (.getfield 300, 3) := by decide +kernel
theorem dX10_readsList_80 : decode cX10_readsList 80 = .ok (.iconst 2, 1) := by decide +kernel
theorem dX10_readsList_81 : decode cX10_readsList 81 = .ok (.if_icmp .ne 7, 3) := by decide +kernel
theorem dX10_readsList_84 : decode cX10_readsList 84 = .ok (.iconst 1, 1) := by decide +kernel
theorem dX10_readsList_85 : decode cX10_readsList 85 = .ok (.goto 4, 3) := by decide +kernel
theorem dX10_readsList_88 : decode cX10_readsList 88 = .ok (.iconst 0, 1) := by decide +kernel
theorem dX10_readsList_89 : decode cX10_readsList 89 = .ok (.iconst 2, 1) := by decide +kernel
theorem dX10_readsList_90 : decode cX10_readsList 90 = .ok (.invokevirtual 327, 3) := by decide +kernel
theorem dX10_readsList_93 : decode cX10_readsList 93 = .ok (.aload_n 0, 1) := by decide +kernel
theorem dX10_readsList_94 : decode cX10_readsList 94 = .ok (.aload_n 0, 1) := by decide +kernel
theorem dX10_readsList_95 : decode cX10_readsList 95 = .ok (.getfield 311, 3) := by decide +kernel
theorem dX10_readsList_98 : decode cX10_readsList 98 = .ok (.i2l, 1) := by decide +kernel
theorem dX10_readsList_99 : decode cX10_readsList 99 = .ok (.iload_n 2, 1) := by decide +kernel
theorem dX10_readsList_100 : decode cX10_readsList 100 = .ok (.iconst 1, 1) := by decide +kernel
theorem dX10_readsList_101 : decode cX10_readsList 101 = .ok (.iadd, 1) := by decide +kernel
theorem dX10_readsList_102 : decode cX10_readsList 102 = .ok (.i2l, 1) := by decide +kernel
theorem dX10_readsList_103 : decode cX10_readsList 103 = .ok (.ldc2_w 362, 3) := by decide +kernel
theorem dX10_readsList_106 : decode cX10_readsList 106 = .ok (.invokestatic 93, 3) := by decide +kernel
theorem dX10_readsList_109 : decode cX10_readsList 109 = .ok (.iconst 3, 1) := by decide +kernel
theorem dX10_readsList_110 : decode cX10_readsList 110 = .ok (.invokevirtual 327, 3) := by decide +kernel
theorem dX10_readsList_113 : decode cX10_readsList 113 = .ok (.aload_n 0, 1) := by decide +kernel
theorem dX10_readsList_114 : decode cX10_readsList 114 = .ok (.aload_n 0, 1) := by decide +kernel
theorem dX10_readsList_115 : decode cX10_readsList 115 = .ok (.getfield 26, 3) := by decide +kernel
theorem dX10_readsList_118 : decode cX10_readsList 118 = .ok (.iload_n 1, 1) := by decide +kernel
theorem dX10_readsList_119 : decode cX10_readsList 119 = .ok (.iaload, 1) := by decide +kernel
theorem dX10_readsList_120 : decode cX10_readsList 120 = .ok (.bipush 10, 2) := by decide +kernel
theorem dX10_readsList_122 : decode cX10_readsList 122 = .ok (.if_icmp .ge 7, 3) := by decide +kernel
theorem dX10_readsList_125 : decode cX10_readsList 125 = .ok (.iconst 1, 1) := by decide +kernel
theorem dX10_readsList_126 : decode cX10_readsList 126 = .ok (.goto 4, 3) := by decide +kernel
theorem dX10_readsList_129 : decode cX10_readsList 129 = .ok (.iconst 0, 1) := by decide +kernel
theorem dX10_readsList_130 : decode cX10_readsList 130 = .ok (.iconst 5, 1) := by decide +kernel
theorem dX10_readsList_131 : decode cX10_readsList 131 = .ok (.invokevirtual 327, 3) := by decide +kernel
theorem dX10_readsList_134 : decode cX10_readsList 134 = .ok (.aload_n 0, 1) := by decide +kernel
theorem dX10_readsList_135 : decode cX10_readsList 135 = .ok (.invokevirtual 320, 3) := by decide +kernel
theorem dX10_readsList_138 : decode cX10_readsList 138 = .ok (.ifCond .ne 4, 3) := by decide +kernel
theorem dX10_readsList_141 : decode cX10_readsList 141 = .ok (.return_, 1) := by decide +kernel
theorem dX10_readsList_142 : decode cX10_readsList 142 = .ok (.aload_n 0, 1) := by decide +kernel
theorem dX10_readsList_143 : decode cX10_readsList 143 = .ok (.getfield 311, 3) := by decide +kernel
theorem dX10_readsList_146 : decode cX10_readsList 146 = .ok (.istore_n 2, 1) := by decide +kernel
theorem dX10_readsList_147 : decode cX10_readsList 147 = .ok (.aload_n 0, 1) := by decide +kernel
theorem dX10_readsList_148 : decode cX10_readsList 148 = .ok (.getfield 26, 3) := by decide +kernel
theorem dX10_readsList_151 : decode cX10_readsList 151 = .ok (.iload_n 1, 1) := by decide +kernel
theorem dX10_readsList_152 : decode cX10_readsList 152 = .ok (.dup2, 1) := by decide +kernel
theorem dX10_readsList_153 : decode cX10_readsList 153 = .ok (.iaload, 1) := by decide +kernel
theorem dX10_readsList_154 : decode cX10_readsList 154 = .ok (.iconst 1, 1) := by decide +kernel
theorem dX10_readsList_155 : decode cX10_readsList 155 = .ok (.iadd, 1) := by decide +kernel
theorem dX10_readsList_156 : decode cX10_readsList 156 = .ok (.iastore, 1) := by decide +kernel
theorem dX10_readsList_157 : decode cX10_readsList 157 = .ok (.aload_n 0, 1) := by decide +kernel
theorem dX10_readsList_158 : decode cX10_readsList 158 = .ok (.getfield 26, 3) := by decide +kernel
theorem dX10_readsList_161 : decode cX10_readsList 161 = .ok (.iload_n 1, 1) := by decide +kernel
theorem dX10_readsList_162 : decode cX10_readsList 162 = .ok (.aload_n 0, 1) := by decide +kernel
theorem dX10_readsList_163 : decode cX10_readsList 163 = .ok (.getfield 26, 3) := by decide +kernel
theorem dX10_readsList_166 : decode cX10_readsList 166 = .ok (.iload_n 1, 1) := by decide +kernel
theorem dX10_readsList_167 : decode cX10_readsList 167 = .ok (.iaload, 1) := by decide +kernel
theorem dX10_readsList_168 : decode cX10_readsList 168 = .ok (.iadd, 1) := by decide +kernel
theorem dX10_readsList_169 : decode cX10_readsList 169 = .ok (.aload_n 0, 1) := by decide +kernel
theorem dX10_readsList_170 : decode cX10_readsList 170 = .ok (.getfield 311, 3) := by decide +kernel
theorem dX10_readsList_173 : decode cX10_readsList 173 = .ok (.iastore, 1) := by decide +kernel
theorem dX10_readsList_174 : decode cX10_readsList 174 = .ok (.aload_n 0, 1) := by decide +kernel
theorem dX10_readsList_175 : decode cX10_readsList 175 = .ok (.invokevirtual 324, 3) := by decide +kernel
theorem dX10_readsList_178 : decode cX10_readsList 178 = .ok (.goto (-127), 3) := by decide +kernel
theorem dX10_readsList_181 : decode cX10_readsList 181 = .ok (.aload_n 0, 1) := by decide +kernel
theorem dX10_readsList_182 : decode cX10_readsList 182 = .ok (.dup, 1) := by decide +kernel
theorem dX10_readsList_183 : decode cX10_readsList 183 = .ok (.getfield 359, 3) := by decide +kernel
theorem dX10_readsList_186 : decode cX10_readsList 186 = .ok (.iconst 1, 1) := by decide +kernel
theorem dX10_readsList_187 : decode cX10_readsList 187 = .ok (.iadd, 1) := by decide +kernel
theorem dX10_readsList_188 : decode cX10_readsList 188 = .ok (.putfield 359, 3) := by decide +kernel
theorem dX10_readsList_191 : decode cX10_readsList 191 = .ok (.return_, 1) := by decide +kernel
theorem dX10_load_0 : decode cX10_load 0 = .ok (.aload_n 0, 1) := by decide +kernel
theorem dX10_load_1 : decode cX10_load 1 = .ok (.iload_n 1, 1) := by decide +kernel
theorem dX10_load_2 : decode cX10_load 2 = .ok (.i2l, 1) := by decide +kernel
theorem dX10_load_3 : decode cX10_load 3 = .ok (.lconst 0, 1) := by decide +kernel
theorem dX10_load_4 : decode cX10_load 4 = .ok (.aload_n 0, 1) := by decide +kernel
theorem dX10_load_5 : decode cX10_load 5 = .ok (.getfield 282, 3) := by decide +kernel
theorem dX10_load_8 : decode cX10_load 8 = .ok (.i2l, 1) := by decide +kernel
theorem dX10_load_9 : decode cX10_load 9 = .ok (.invokestatic 93, 3) := by decide +kernel
theorem dX10_load_12 : decode cX10_load 12 = .ok (.ifCond .eq 7, 3) := by decide +kernel
theorem dX10_load_15 : decode cX10_load 15 = .ok (.iconst 0, 1) := by decide +kernel
theorem dX10_load_16 : decode cX10_load 16 = .ok (.goto 4, 3) := by decide +kernel
theorem dX10_load_19 : decode cX10_load 19 = .ok (.iconst 1, 1) := by decide +kernel
theorem dX10_load_20 : decode cX10_load 20 = .ok (.invokevirtual 140, 3) := by decide +kernel
theorem dX10_load_23 : decode cX10_load 23 = .ok (.ifCond .ne 5, 3) := by decide +kernel
theorem dX10_load_26 : decode cX10_load 26 = .ok (.iconst (-1), 1) := by decide +kernel
theorem dX10_load_27 : decode cX10_load 27 = .ok (.ireturn, 1) := by decide +kernel
theorem dX10_load_28 : decode cX10_load 28 = .ok (.aload_n 0, 1) := by decide +kernel
theorem dX10_load_29 : decode cX10_load 29 = .ok (.iload_n 1, 1) := by decide +kernel
theorem dX10_load_30 : decode cX10_load 30 = .ok (.putfield 288, 3) := by decide +kernel
theorem dX10_load_33 : decode cX10_load 33 = .ok (.aload_n 0, 1) := by decide +kernel
theorem dX10_load_34 : decode cX10_load 34 = .ok (.iconst 0, 1) := by decide +kernel
theorem dX10_load_35 : decode cX10_load 35 = .ok (.putfield 291, 3) := by decide +kernel
theorem dX10_load_38 : decode cX10_load 38 = .ok (.aload_n 0, 1) := by decide +kernel
theorem dX10_load_39 : decode cX10_load 39 = .ok (.iconst 0, 1) := by decide +kernel
theorem dX10_load_40 : decode cX10_load 40 = .ok (.putfield 314, 3) := by decide +kernel
theorem dX10_load_43 : decode cX10_load 43 = .ok (.aload_n 0, 1) := by decide +kernel
theorem dX10_load_44 : decode cX10_load 44 = .ok (.iconst 0, 1) := by decide +kernel
theorem dX10_load_45 : decode cX10_load 45 = .ok (.putfield 350, 3) := by decide +kernel
theorem dX10_load_48 : decode cX10_load 48 = .ok (.aload_n 0, 1) := by decide +kernel
theorem dX10_load_49 : decode cX10_load 49 = .ok (.iconst 0, 1) := by decide +kernel
theorem dX10_load_50 : decode cX10_load 50 = .ok (.putfield 359, 3) := by decide +kernel
theorem dX10_load_53 : decode cX10_load 53 = .ok (.aload_n 0, 1) := by decide +kernel
theorem dX10_load_54 : decode cX10_load 54 = .ok (.iconst 0, 1) := by decide +kernel
theorem dX10_load_55 : decode cX10_load 55 = .ok (.putfield 337, 3) := by decide +kernel
theorem dX10_load_58 : decode cX10_load 58 = .ok (.iconst 0, 1) := by decide +kernel
theorem dX10_load_59 : decode cX10_load 59 = .ok (.istore_n 2, 1) := by decide +kernel
theorem dX10_load_60 : decode cX10_load 60 = .ok (.iload_n 2, 1) := by decide +kernel
theorem dX10_load_61 : decode cX10_load 61 = .ok (.sipush 7296, 3) := by decide +kernel
theorem dX10_load_64 : decode cX10_load 64 = .ok (.if_icmp .ge 16, 3) := by decide +kernel
theorem dX10_load_67 : decode cX10_load 67 = .ok (.aload_n 0, 1) := by decide +kernel
theorem dX10_load_68 : decode cX10_load 68 = .ok (.getfield 13, 3) := by decide +kernel
theorem dX10_load_71 : decode cX10_load 71 = .ok (.iload_n 2, 1) := by decide +kernel
theorem dX10_load_72 : decode cX10_load 72 = .ok (.iconst 0, 1) := by decide +kernel
theorem dX10_load_73 : decode cX10_load 73 = .ok (.iastore, 1) := by decide +kernel
theorem dX10_load_74 : decode cX10_load 74 = .ok (.iinc 2 1, 3) := by decide +kernel
theorem dX10_load_77 : decode cX10_load 77 = .ok (.goto (-17), 3) := by decide +kernel
theorem dX10_load_80 : decode cX10_load 80 = .ok (.aload_n 0, 1) := by decide +kernel
theorem dX10_load_81 : decode cX10_load 81 = .ok (.invokevirtual 324, 3) := by decide +kernel
theorem dX10_load_84 : decode cX10_load 84 = .ok (.aload_n 0, 1) := by decide +kernel
theorem dX10_load_85 : decode cX10_load 85 = .ok (.invokevirtual 320, 3) := by decide +kernel
theorem dX10_load_88 : decode cX10_load 88 = .ok (.ifCond .eq 67, 3) := by decide +kernel
theorem dX10_load_91 : decode cX10_load 91 = .ok (.aload_n 0, 1) := by decide +kernel
theorem dX10_load_92 : decode cX10_load 92 = .ok (.getfield 300, 3) := by decide +kernel
theorem dX10_load_95 : decode cX10_load 95 = .ok (.ifCond .eq 60, 3) := by decide +kernel
theorem dX10_load_98 : decode cX10_load 98 = .ok (.aload_n 0, 1) := by decide +kernel
theorem dX10_load_99 : decode cX10_load 99 = .ok (.iconst 0, 1) := by decide +kernel
theorem dX10_load_100 : decode cX10_load 100 = .ok (.invokevirtual 340, 3) := by decide +kernel
theorem dX10_load_103 : decode cX10_load 103 = .ok (.ifCond .eq 10, 3) := by decide +kernel
theorem dX10_load_106 : decode cX10_load 106 = .ok (.aload_n 0, 1) := by decide +kernel
theorem dX10_load_107 : decode cX10_load 107 = .ok (.invokevirtual 364, 3) := by decide +kernel
theorem dX10_load_110 : decode cX10_load 110 = .ok (.goto 25, 3) := by decide +kernel
theorem dX10_load_113 : decode cX10_load 113 = .ok (.aload_n 0, 1) := by decide +kernel
theorem dX10_load_114 : decode cX10_load 114 = .ok (.bipush 11, 2) := by decide +kernel
theorem dX10_load_116 : decode cX10_load 116 = .ok (.invokevirtual 340, 3) := by decide +kernel
theorem dX10_load_119 : decode cX10_load 119 = .ok (.ifCond .eq 10, 3) := by decide +kernel
theorem dX10_load_122 : decode cX10_load 122 = .ok (.aload_n 0, 1) := by decide +kernel
theorem dX10_load_123 : decode cX10_load 123 = .ok (.invokevirtual 367, 3) := by decide +kernel
theorem dX10_load_126 : decode cX10_load 126 = .ok (.goto 9, 3) := by decide +kernel
theorem dX10_load_129 : decode cX10_load 129 = .ok (.aload_n 0, 1) := by decide +kernel
theorem dX10_load_130 : decode cX10_load 130 = .ok (.iconst 0, 1) := by decide +kernel
theorem dX10_load_131 : decode cX10_load 131 = .ok (.iconst 2, 1) := by decide +kernel
theorem dX10_load_132 : decode cX10_load 132 = .ok (.invokevirtual 327, 3) := by decide +kernel
theorem dX10_load_135 : decode cX10_load 135 = .ok (.aload_n 0, 1) := by decide +kernel
theorem dX10_load_136 : decode cX10_load 136 = .ok (.aload_n 0, 1) := by decide +kernel
theorem dX10_load_137 : decode cX10_load 137 = .ok (.getfield 300, 3) := by decide +kernel
theorem dX10_load_140 : decode cX10_load 140 = .ok (.iconst 3, 1) := by decide +kernel
theorem dX10_load_141 : decode cX10_load 141 = .ok (.if_icmp .ne 7, 3) := by decide +kernel
theorem dX10_load_144 : decode cX10_load 144 = .ok (.iconst 1, 1) := by decide +kernel
theorem dX10_load_145 : decode cX10_load 145 = .ok (.goto 4, 3) := by decide +kernel
theorem dX10_load_148 : decode cX10_load 148 = .ok (.iconst 0, 1) := by decide +kernel
theorem dX10_load_149 : decode cX10_load 149 = .ok (.invokevirtual 343, 3) := by decide +kernel
theorem dX10_load_152 : decode cX10_load 152 = .ok (.goto (-68), 3) := by decide +kernel
theorem dX10_load_155 : decode cX10_load 155 = .ok (.aload_n 0, 1) := by decide +kernel
theorem dX10_load_156 : decode cX10_load 156 = .ok (.iconst 0, 1) := by decide +kernel
theorem dX10_load_157 : decode cX10_load 157 = .ok (.putfield 282, 3) := by decide +kernel
theorem dX10_load_160 : decode cX10_load 160 = .ok (.aload_n 0, 1) := by decide +kernel
theorem dX10_load_161 : decode cX10_load 161 = .ok (.aload_n 0, 1) := by decide +kernel
theorem dX10_load_162 : decode cX10_load 162 = .ok (.getfield 314, 3) := by decide +kernel
theorem dX10_load_165 : decode cX10_load 165 = .ok (.putfield 46, 3) := by decide +kernel
theorem dX10_load_168 : decode cX10_load 168 = .ok (.aload_n 0, 1) := by decide +kernel
theorem dX10_load_169 : decode cX10_load 169 = .ok (.aload_n 0, 1) := by decide +kernel
theorem dX10_load_170 : decode cX10_load 170 = .ok (.getfield 314, 3) := by decide +kernel
theorem dX10_load_173 : decode cX10_load 173 = .ok (.ifCond .le 10, 3) := by decide +kernel
theorem dX10_load_176 : decode cX10_load 176 = .ok (.aload_n 0, 1) := by decide +kernel
theorem dX10_load_177 : decode cX10_load 177 = .ok (.getfield 317, 3) := by decide +kernel
theorem dX10_load_180 : decode cX10_load 180 = .ok (.goto 4, 3) := by decide +kernel
theorem dX10_load_183 : decode cX10_load 183 = .ok (.iconst (-1), 1) := by decide +kernel
theorem dX10_load_184 : decode cX10_load 184 = .ok (.putfield 50, 3) := by decide +kernel
theorem dX10_load_187 : decode cX10_load 187 = .ok (.aload_n 0, 1) := by decide +kernel
theorem dX10_load_188 : decode cX10_load 188 = .ok (.getfield 314, 3) := by decide +kernel
theorem dX10_load_191 : decode cX10_load 191 = .ok (.ifCond .le 10, 3) := by decide +kernel
theorem dX10_load_194 : decode cX10_load 194 = .ok (.aload_n 0, 1) := by decide +kernel
theorem dX10_load_195 : decode cX10_load 195 = .ok (.bipush 9, 2) := by decide +kernel
theorem dX10_load_197 : decode cX10_load 197 = .ok (.invokevirtual 166, 3) := by decide +kernel
theorem dX10_load_200 : decode cX10_load 200 = .ok (.ireturn, 1) := by decide +kernel
theorem dX10_load_201 : decode cX10_load 201 = .ok (.iconst 0, 1) := by decide +kernel
theorem dX10_load_202 : decode cX10_load 202 = .ok (.istore_n 2, 1) := by decide +kernel
theorem dX10_load_203 : decode cX10_load 203 = .ok (.iload_n 2, 1) := by decide +kernel
theorem dX10_load_204 : decode cX10_load 204 = .ok (.sipush 7296, 3) := by decide +kernel
theorem dX10_load_207 : decode cX10_load 207 = .ok (.if_icmp .ge 21, 3) := by decide +kernel
theorem dX10_load_210 : decode cX10_load 210 = .ok (.aload_n 0, 1) := by decide +kernel
theorem dX10_load_211 : decode cX10_load 211 = .ok (.getfield 7, 3) := by decide +kernel
theorem dX10_load_214 : decode cX10_load 214 = .ok (.iload_n 2, 1) := by decide +kernel
theorem dX10_load_215 : decode cX10_load 215 = .ok (.aload_n 0, 1) := by decide +kernel
theorem dX10_load_216 : decode cX10_load 216 = .ok (.getfield 13, 3) := by decide +kernel
theorem dX10_load_219 : decode cX10_load 219 = .ok (.iload_n 2, 1) := by decide +kernel
theorem dX10_load_220 : decode cX10_load 220 = .ok (.iaload, 1) := by decide +kernel
theorem dX10_load_221 : decode cX10_load 221 = .ok (.iastore, 1) := by decide +kernel
theorem dX10_load_222 : decode cX10_load 222 = .ok (.iinc 2 1, 3) := by decide +kernel
theorem dX10_load_225 : decode cX10_load 225 = .ok (.goto (-22), 3) := by decide +kernel
theorem dX10_load_228 : decode cX10_load 228 = .ok (.iconst 0, 1) := by decide +kernel
theorem dX10_load_229 : decode cX10_load 229 = .ok (.istore_n 2, 1) := by decide +kernel
theorem dX10_load_230 : decode cX10_load 230 = .ok (.iload_n 2, 1) := by decide +kernel
theorem dX10_load_231 : decode cX10_load 231 = .ok (.aload_n 0, 1) := by decide +kernel
theorem dX10_load_232 : decode cX10_load 232 = .ok (.getfield 23, 3) := by decide +kernel
theorem dX10_load_235 : decode cX10_load 235 = .ok (.arraylength, 1) := by decide +kernel
theorem dX10_load_236 : decode cX10_load 236 = .ok (.if_icmp .ge 21, 3) := by decide +kernel
theorem dX10_load_239 : decode cX10_load 239 = .ok (.aload_n 0, 1) := by decide +kernel
theorem dX10_load_240 : decode cX10_load 240 = .ok (.getfield 23, 3) := by decide +kernel
theorem dX10_load_243 : decode cX10_load 243 = .ok (.iload_n 2, 1) := by decide +kernel
theorem dX10_load_244 : decode cX10_load 244 = .ok (.aload_n 0, 1) := by decide +kernel
theorem dX10_load_245 : decode cX10_load 245 = .ok (.getfield 26, 3) := by decide +kernel
theorem dX10_load_248 : decode cX10_load 248 = .ok (.iload_n 2, 1) := by decide +kernel
theorem dX10_load_249 : decode cX10_load 249 = .ok (.iaload, 1) := by decide +kernel
theorem dX10_load_250 : decode cX10_load 250 = .ok (.iastore, 1) := by decide +kernel
theorem dX10_load_251 : decode cX10_load 251 = .ok (.iinc 2 1, 3) := by decide +kernel
theorem dX10_load_254 : decode cX10_load 254 = .ok (.goto (-24), 3) := by decide +kernel
theorem dX10_load_257 : decode cX10_load 257 = .ok (.aload_n 0, 1) := by decide +kernel
theorem dX10_load_258 : decode cX10_load 258 = .ok (.aload_n 0, 1) := by decide +kernel
theorem dX10_load_259 : decode cX10_load 259 = .ok (.getfield 350, 3) := by decide +kernel
theorem dX10_load_262 : decode cX10_load 262 = .ok (.putfield 90, 3) := by decide +kernel
theorem dX10_load_265 : decode cX10_load 265 = .ok (.aload_n 0, 1) := by decide +kernel
theorem dX10_load_266 : decode cX10_load 266 = .ok (.aload_n 0, 1) := by decide +kernel
theorem dX10_load_267 : decode cX10_load 267 = .ok (.getfield 359, 3) := by decide +kernel
theorem dX10_load_270 : decode cX10_load 270 = .ok (.putfield 147, 3) := by decide +kernel
theorem dX10_load_273 : decode cX10_load 273 = .ok (.aload_n 0, 1) := by decide +kernel
theorem dX10_load_274 : decode cX10_load 274 = .ok (.iconst 0, 1) := by decide +kernel
theorem dX10_load_275 : decode cX10_load 275 = .ok (.putfield 144, 3) := by decide +kernel
theorem dX10_load_278 : decode cX10_load 278 = .ok (.aload_n 0, 1) := by decide +kernel
theorem dX10_load_279 : decode cX10_load 279 = .ok (.getfield 90, 3) := by decide +kernel
theorem dX10_load_282 : decode cX10_load 282 = .ok (.ireturn, 1) := by decide +kernel
theorem dX10_fault_0 : decode cX10_fault 0 = .ok (.aload_n 0, 1) := by decide +kernel
theorem dX10_fault_1 : decode cX10_fault 1 = .ok (.iconst 0, 1) := by decide +kernel
theorem dX10_fault_2 : decode cX10_fault 2 = .ok (.putfield 84, 3) := by decide +kernel
theorem dX10_fault_5 : decode cX10_fault 5 = .ok (.iload_n 1, 1) := by decide +kernel
theorem dX10_fault_6 : decode cX10_fault 6 = .ok (.ifCond .ne 10, 3) := by decide +kernel
theorem dX10_fault_9 : decode cX10_fault 9 = .ok (.aload_n 0, 1) := by decide +kernel
theorem dX10_fault_10 : decode cX10_fault 10 = .ok (.getfield 46, 3) := by decide +kernel
theorem dX10_fault_13 : decode cX10_fault 13 = .ok (.goto 16, 3) := by decide +kernel
theorem dX10_fault_16 : decode cX10_fault 16 = .ok (.iload_n 1, 1) := by decide +kernel
theorem dX10_fault_17 : decode cX10_fault 17 = .ok (.iconst 1, 1) := by decide +kernel
theorem dX10_fault_18 : decode cX10_fault 18 = .ok (.if_icmp .ne 10, 3) := by decide +kernel
theorem dX10_fault_21 : decode cX10_fault 21 = .ok (.aload_n 0, 1) := by decide +kernel
theorem dX10_fault_22 : decode cX10_fault 22 = .ok (.getfield 50, 3) := by decide +kernel
theorem dX10_fault_25 : decode cX10_fault 25 = .ok (.goto 4, 3) := by decide +kernel
theorem dX10_fault_28 : decode cX10_fault 28 = .ok (.iconst (-1), 1) := by decide +kernel
theorem dX10_fault_29 : decode cX10_fault 29 = .ok (.ireturn, 1) := by decide +kernel
