theorem dX0_pairsBy_0 : decode cX0_pairsBy 0 = .ok (.iconst 0, 1) := by decide +kernel
theorem dX0_pairsBy_1 : decode cX0_pairsBy 1 = .ok (.istore_n 3, 1) := by decide +kernel
theorem dX0_pairsBy_2 : decode cX0_pairsBy 2 = .ok (.iconst (-1), 1) := by decide +kernel
theorem dX0_pairsBy_3 : decode cX0_pairsBy 3 = .ok (.istore 4, 2) := by decide +kernel
theorem dX0_pairsBy_5 : decode cX0_pairsBy 5 = .ok (.iconst (-1), 1) := by decide +kernel
theorem dX0_pairsBy_6 : decode cX0_pairsBy 6 = .ok (.istore 5, 2) := by decide +kernel
theorem dX0_pairsBy_8 : decode cX0_pairsBy 8 = .ok (.iconst 1, 1) := by decide +kernel
theorem dX0_pairsBy_9 : decode cX0_pairsBy 9 = .ok (.istore 6, 2) := by decide +kernel
theorem dX0_pairsBy_11 : decode cX0_pairsBy 11 = .ok (.iload 6, 2) := by decide +kernel
theorem dX0_pairsBy_13 : decode cX0_pairsBy 13 = .ok (.aload_n 0, 1) := by decide +kernel
theorem dX0_pairsBy_14 : decode cX0_pairsBy 14 = .ok (.getfield 9, 3) := by decide +kernel
theorem dX0_pairsBy_17 : decode cX0_pairsBy 17 = .ok (.if_icmp .gt 50, 3) := by decide +kernel
theorem dX0_pairsBy_20 : decode cX0_pairsBy 20 = .ok (.aload_n 0, 1) := by decide +kernel
theorem dX0_pairsBy_21 : decode cX0_pairsBy 21 = .ok (.iload 6, 2) := by decide +kernel
theorem dX0_pairsBy_23 : decode cX0_pairsBy 23 = .ok (.invokevirtual 15, 3) := by decide +kernel
theorem dX0_pairsBy_26 : decode cX0_pairsBy 26 = .ok (.istore 7, 2) := by decide +kernel
theorem dX0_pairsBy_28 : decode cX0_pairsBy 28 = .ok (.aload_n 0, 1) := by decide +kernel
theorem dX0_pairsBy_29 : decode cX0_pairsBy 29 = .ok (.iload 7, 2) := by decide +kernel
theorem dX0_pairsBy_31 : decode cX0_pairsBy 31 = .ok (.i2l, 1) := by decide +kernel
theorem dX0_pairsBy_32 : decode cX0_pairsBy 32 = .ok (.iload_n 1, 1) := by decide +kernel
theorem dX0_pairsBy_33 : decode cX0_pairsBy 33 = .ok (.i2l, 1) := by decide +kernel
theorem dX0_pairsBy_34 : decode cX0_pairsBy 34 = .ok (.ladd, 1) := by decide +kernel
theorem dX0_pairsBy_35 : decode cX0_pairsBy 35 = .ok (.invokevirtual 19, 3) := by decide +kernel
theorem dX0_pairsBy_38 : decode cX0_pairsBy 38 = .ok (.ifCond .ne 6, 3) := by decide +kernel
theorem dX0_pairsBy_41 : decode cX0_pairsBy 41 = .ok (.goto 20, 3) := by decide +kernel
theorem dX0_pairsBy_44 : decode cX0_pairsBy 44 = .ok (.iload 4, 2) := by decide +kernel
theorem dX0_pairsBy_46 : decode cX0_pairsBy 46 = .ok (.iconst (-1), 1) := by decide +kernel
theorem dX0_pairsBy_47 : decode cX0_pairsBy 47 = .ok (.if_icmp .ne 7, 3) := by decide +kernel
theorem dX0_pairsBy_50 : decode cX0_pairsBy 50 = .ok (.iload 7, 2) := by decide +kernel
theorem dX0_pairsBy_52 : decode cX0_pairsBy 52 = .ok (.istore 4, 2) := by decide +kernel
theorem dX0_pairsBy_54 : decode cX0_pairsBy 54 = .ok (.iload 7, 2) := by decide +kernel
theorem dX0_pairsBy_56 : decode cX0_pairsBy 56 = .ok (.istore 5, 2) := by decide +kernel
theorem dX0_pairsBy_58 : decode cX0_pairsBy 58 = .ok (.iinc 3 1, 3) := by decide +kernel
theorem dX0_pairsBy_61 : decode cX0_pairsBy 61 = .ok (.iinc 6 1, 3) := by decide +kernel
theorem dX0_pairsBy_64 : decode cX0_pairsBy 64 = .ok (.goto (-53), 3) := by decide +kernel
theorem dX0_pairsBy_67 : decode cX0_pairsBy 67 = .ok (.iload_n 2, 1) := by decide +kernel
theorem dX0_pairsBy_68 : decode cX0_pairsBy 68 = .ok (.ifCond .ne 5, 3) := by decide +kernel
theorem dX0_pairsBy_71 : decode cX0_pairsBy 71 = .ok (.iload_n 3, 1) := by decide +kernel
theorem dX0_pairsBy_72 : decode cX0_pairsBy 72 = .ok (.ireturn, 1) := by decide +kernel
theorem dX0_pairsBy_73 : decode cX0_pairsBy 73 = .ok (.iload_n 2, 1) := by decide +kernel
theorem dX0_pairsBy_74 : decode cX0_pairsBy 74 = .ok (.iconst 1, 1) := by decide +kernel
theorem dX0_pairsBy_75 : decode cX0_pairsBy 75 = .ok (.if_icmp .ne 8, 3) := by decide +kernel
theorem dX0_pairsBy_78 : decode cX0_pairsBy 78 = .ok (.iload 4, 2) := by decide +kernel
theorem dX0_pairsBy_80 : decode cX0_pairsBy 80 = .ok (.goto 5, 3) := by decide +kernel
theorem dX0_pairsBy_83 : decode cX0_pairsBy 83 = .ok (.iload 5, 2) := by decide +kernel
theorem dX0_pairsBy_85 : decode cX0_pairsBy 85 = .ok (.ireturn, 1) := by decide +kernel
theorem dX0_triplesBy_0 : decode cX0_triplesBy 0 = .ok (.iconst 0, 1) := by decide +kernel
theorem dX0_triplesBy_1 : decode cX0_triplesBy 1 = .ok (.istore_n 3, 1) := by decide +kernel
theorem dX0_triplesBy_2 : decode cX0_triplesBy 2 = .ok (.iconst 1, 1) := by decide +kernel
theorem dX0_triplesBy_3 : decode cX0_triplesBy 3 = .ok (.istore 4, 2) := by decide +kernel
theorem dX0_triplesBy_5 : decode cX0_triplesBy 5 = .ok (.iload 4, 2) := by decide +kernel
theorem dX0_triplesBy_7 : decode cX0_triplesBy 7 = .ok (.aload_n 0, 1) := by decide +kernel
theorem dX0_triplesBy_8 : decode cX0_triplesBy 8 = .ok (.getfield 9, 3) := by decide +kernel
theorem dX0_triplesBy_11 : decode cX0_triplesBy 11 = .ok (.if_icmp .gt 45, 3) := by decide +kernel
theorem dX0_triplesBy_14 : decode cX0_triplesBy 14 = .ok (.aload_n 0, 1) := by decide +kernel
theorem dX0_triplesBy_15 : decode cX0_triplesBy 15 = .ok (.iload 4, 2) := by decide +kernel
theorem dX0_triplesBy_17 : decode cX0_triplesBy 17 = .ok (.invokevirtual 15, 3) := by decide +kernel
theorem dX0_triplesBy_20 : decode cX0_triplesBy 20 = .ok (.i2l, 1) := by decide +kernel
theorem dX0_triplesBy_21 : decode cX0_triplesBy 21 = .ok (.lstore 5, 2) := by decide +kernel
theorem dX0_triplesBy_23 : decode cX0_triplesBy 23 = .ok (.aload_n 0, 1) := by decide +kernel
theorem dX0_triplesBy_24 : decode cX0_triplesBy 24 = .ok (.lload 5, 2) := by decide +kernel
theorem dX0_triplesBy_26 : decode cX0_triplesBy 26 = .ok (.iload_n 1, 1) := by decide +kernel
theorem dX0_triplesBy_27 : decode cX0_triplesBy 27 = .ok (.i2l, 1) := by decide +kernel
theorem dX0_triplesBy_28 : decode cX0_triplesBy 28 = .ok (.ladd, 1) := by decide +kernel
theorem dX0_triplesBy_29 : decode cX0_triplesBy 29 = .ok (.invokevirtual 19, 3) := by decide +kernel
theorem dX0_triplesBy_32 : decode cX0_triplesBy 32 = .ok (.ifCond .eq 18, 3) := by decide +kernel
theorem dX0_triplesBy_35 : decode cX0_triplesBy 35 = .ok (.aload_n 0, 1) := by decide +kernel
theorem dX0_triplesBy_36 : decode cX0_triplesBy 36 = .ok (.lload 5, 2) := by decide +kernel
theorem dX0_triplesBy_38 : decode cX0_triplesBy 38 = .ok (.iload_n 2, 1) := by decide +kernel
theorem dX0_triplesBy_39 : decode cX0_triplesBy 39 = .ok (.i2l, 1) := by decide +kernel
theorem dX0_triplesBy_40 : decode cX0_triplesBy 40 = .ok (.ladd, 1) := by decide +kernel
theorem dX0_triplesBy_41 : decode cX0_triplesBy 41 = .ok (.invokevirtual 19, 3) := by decide +kernel
theorem dX0_triplesBy_44 : decode cX0_triplesBy 44 = .ok (.ifCond .eq 6, 3) := by decide +kernel
theorem dX0_triplesBy_47 : decode cX0_triplesBy 47 = .ok (.iinc 3 1, 3) := by decide +kernel
theorem dX0_triplesBy_50 : decode cX0_triplesBy 50 = .ok (.iinc 4 1, 3) := by decide +kernel
theorem dX0_triplesBy_53 : decode cX0_triplesBy 53 = .ok (.goto (-48), 3) := by decide +kernel
theorem dX0_triplesBy_56 : decode cX0_triplesBy 56 = .ok (.iload_n 3, 1) := by decide +kernel
theorem dX0_triplesBy_57 : decode cX0_triplesBy 57 = .ok (.ireturn, 1) := by decide +kernel
theorem dX0_waysToSum_0 : decode cX0_waysToSum 0 = .ok (.iconst 1, 1) := by decide +kernel
theorem dX0_waysToSum_1 : decode cX0_waysToSum 1 = .ok (.istore_n 2, 1) := by decide +kernel
theorem dX0_waysToSum_2 : decode cX0_waysToSum 2 = .ok (.aload_n 0, 1) := by decide +kernel
theorem dX0_waysToSum_3 : decode cX0_waysToSum 3 = .ok (.getfield 9, 3) := by decide +kernel
theorem dX0_waysToSum_6 : decode cX0_waysToSum 6 = .ok (.istore_n 3, 1) := by decide +kernel
theorem dX0_waysToSum_7 : decode cX0_waysToSum 7 = .ok (.iconst 0, 1) := by decide +kernel
theorem dX0_waysToSum_8 : decode cX0_waysToSum 8 = .ok (.istore 4, 2) := by decide +kernel
theorem dX0_waysToSum_10 : decode cX0_waysToSum 10 = .ok (.iload_n 2, 1) := by decide +kernel
theorem dX0_waysToSum_11 : decode cX0_waysToSum 11 = .ok (.iload_n 3, 1) := by decide +kernel
theorem dX0_waysToSum_12 : decode cX0_waysToSum 12 = .ok (.if_icmp .gt 43, 3) := by decide +kernel
theorem dX0_waysToSum_15 : decode cX0_waysToSum 15 = .ok (.aload_n 0, 1) := by decide +kernel
theorem dX0_waysToSum_16 : decode cX0_waysToSum 16 = .ok (.iload_n 2, 1) := by decide +kernel
theorem dX0_waysToSum_17 : decode cX0_waysToSum 17 = .ok (.invokevirtual 15, 3) := by decide +kernel
theorem dX0_waysToSum_20 : decode cX0_waysToSum 20 = .ok (.aload_n 0, 1) := by decide +kernel
theorem dX0_waysToSum_21 : decode cX0_waysToSum 21 = .ok (.iload_n 3, 1) := by decide +kernel
theorem dX0_waysToSum_22 : decode cX0_waysToSum 22 = .ok (.invokevirtual 15, 3) := by decide +kernel
theorem dX0_waysToSum_25 : decode cX0_waysToSum 25 = .ok (.iadd, 1) := by decide +kernel
theorem dX0_waysToSum_26 : decode cX0_waysToSum 26 = .ok (.istore 5, 2) := by decide +kernel
theorem dX0_waysToSum_28 : decode cX0_waysToSum 28 = .ok (.iload 5, 2) := by decide +kernel
theorem dX0_waysToSum_30 : decode cX0_waysToSum 30 = .ok (.iload_n 1, 1) := by decide +kernel
theorem dX0_waysToSum_31 : decode cX0_waysToSum 31 = .ok (.if_icmp .ne 6, 3) := by decide +kernel
theorem dX0_waysToSum_34 : decode cX0_waysToSum 34 = .ok (.iinc 4 1, 3) := by decide +kernel
theorem dX0_waysToSum_37 : decode cX0_waysToSum 37 = .ok (.iload 5, 2) := by decide +kernel
theorem dX0_waysToSum_39 : decode cX0_waysToSum 39 = .ok (.iload_n 1, 1) := by decide +kernel
theorem dX0_waysToSum_40 : decode cX0_waysToSum 40 = .ok (.if_icmp .gt 9, 3) := by decide +kernel
theorem dX0_waysToSum_43 : decode cX0_waysToSum 43 = .ok (.iinc 2 1, 3) := by decide +kernel
theorem dX0_waysToSum_46 : decode cX0_waysToSum 46 = .ok (.goto 6, 3) := by decide +kernel
theorem dX0_waysToSum_49 : decode cX0_waysToSum 49 = .ok (.iinc 3 (-1), 3) := by decide +kernel
theorem dX0_waysToSum_52 : decode cX0_waysToSum 52 = .ok (.goto (-42), 3) := by decide +kernel
theorem dX0_waysToSum_55 : decode cX0_waysToSum 55 = .ok (.iload 4, 2) := by decide +kernel
theorem dX0_waysToSum_57 : decode cX0_waysToSum 57 = .ok (.ireturn, 1) := by decide +kernel
theorem dX0_firstNoSum_0 : decode cX0_firstNoSum 0 = .ok (.iconst 2, 1) := by decide +kernel
theorem dX0_firstNoSum_1 : decode cX0_firstNoSum 1 = .ok (.aload_n 0, 1) := by decide +kernel
theorem dX0_firstNoSum_2 : decode cX0_firstNoSum 2 = .ok (.aload_n 0, 1) := by decide +kernel
theorem dX0_firstNoSum_3 : decode cX0_firstNoSum 3 = .ok (.getfield 9, 3) := by decide +kernel
theorem dX0_firstNoSum_6 : decode cX0_firstNoSum 6 = .ok (.invokevirtual 15, 3) := by decide +kernel
theorem dX0_firstNoSum_9 : decode cX0_firstNoSum 9 = .ok (.imul, 1) := by decide +kernel
theorem dX0_firstNoSum_10 : decode cX0_firstNoSum 10 = .ok (.istore_n 2, 1) := by decide +kernel
theorem dX0_firstNoSum_11 : decode cX0_firstNoSum 11 = .ok (.iload_n 1, 1) := by decide +kernel
theorem dX0_firstNoSum_12 : decode cX0_firstNoSum 12 = .ok (.iconst 1, 1) := by decide +kernel
theorem dX0_firstNoSum_13 : decode cX0_firstNoSum 13 = .ok (.invokestatic 23, 3) := by decide +kernel
theorem dX0_firstNoSum_16 : decode cX0_firstNoSum 16 = .ok (.istore_n 3, 1) := by decide +kernel
theorem dX0_firstNoSum_17 : decode cX0_firstNoSum 17 = .ok (.iconst 1, 1) := by decide +kernel
theorem dX0_firstNoSum_18 : decode cX0_firstNoSum 18 = .ok (.istore 4, 2) := by decide +kernel
theorem dX0_firstNoSum_20 : decode cX0_firstNoSum 20 = .ok (.iconst 2, 1) := by decide +kernel
theorem dX0_firstNoSum_21 : decode cX0_firstNoSum 21 = .ok (.aload_n 0, 1) := by decide +kernel
theorem dX0_firstNoSum_22 : decode cX0_firstNoSum 22 = .ok (.iconst 1, 1) := by decide +kernel
theorem dX0_firstNoSum_23 : decode cX0_firstNoSum 23 = .ok (.invokevirtual 15, 3) := by decide +kernel
theorem dX0_firstNoSum_26 : decode cX0_firstNoSum 26 = .ok (.imul, 1) := by decide +kernel
theorem dX0_firstNoSum_27 : decode cX0_firstNoSum 27 = .ok (.istore 5, 2) := by decide +kernel
theorem dX0_firstNoSum_29 : decode cX0_firstNoSum 29 = .ok (.iload 5, 2) := by decide +kernel
theorem dX0_firstNoSum_31 : decode cX0_firstNoSum 31 = .ok (.iload_n 2, 1) := by decide +kernel
theorem dX0_firstNoSum_32 : decode cX0_firstNoSum 32 = .ok (.if_icmp .gt 56, 3) := by decide +kernel
theorem dX0_firstNoSum_35 : decode cX0_firstNoSum 35 = .ok (.iload 4, 2) := by decide +kernel
theorem dX0_firstNoSum_37 : decode cX0_firstNoSum 37 = .ok (.aload_n 0, 1) := by decide +kernel
theorem dX0_firstNoSum_38 : decode cX0_firstNoSum 38 = .ok (.getfield 9, 3) := by decide +kernel
theorem dX0_firstNoSum_41 : decode cX0_firstNoSum 41 = .ok (.if_icmp .ge 24, 3) := by decide +kernel
theorem dX0_firstNoSum_44 : decode cX0_firstNoSum 44 = .ok (.iconst 2, 1) := by decide +kernel
theorem dX0_firstNoSum_45 : decode cX0_firstNoSum 45 = .ok (.aload_n 0, 1) := by decide +kernel
theorem dX0_firstNoSum_46 : decode cX0_firstNoSum 46 = .ok (.iload 4, 2) := by decide +kernel
theorem dX0_firstNoSum_48 : decode cX0_firstNoSum 48 = .ok (.iconst 1, 1) := by decide +kernel
theorem dX0_firstNoSum_49 : decode cX0_firstNoSum 49 = .ok (.iadd, 1) := by decide +kernel
theorem dX0_firstNoSum_50 : decode cX0_firstNoSum 50 = .ok (.invokevirtual 15, 3) := by decide +kernel
theorem dX0_firstNoSum_53 : decode cX0_firstNoSum 53 = .ok (.imul, 1) := by decide +kernel
theorem dX0_firstNoSum_54 : decode cX0_firstNoSum 54 = .ok (.iload 5, 2) := by decide +kernel
theorem dX0_firstNoSum_56 : decode cX0_firstNoSum 56 = .ok (.if_icmp .gt 9, 3) := by decide +kernel
theorem dX0_firstNoSum_59 : decode cX0_firstNoSum 59 = .ok (.iinc 4 1, 3) := by decide +kernel
theorem dX0_firstNoSum_62 : decode cX0_firstNoSum 62 = .ok (.goto (-27), 3) := by decide +kernel
theorem dX0_firstNoSum_65 : decode cX0_firstNoSum 65 = .ok (.aload_n 0, 1) := by decide +kernel
theorem dX0_firstNoSum_66 : decode cX0_firstNoSum 66 = .ok (.iload 5, 2) := by decide +kernel
theorem dX0_firstNoSum_68 : decode cX0_firstNoSum 68 = .ok (.iload 4, 2) := by decide +kernel
theorem dX0_firstNoSum_70 : decode cX0_firstNoSum 70 = .ok (.invokestatic 29, 3) := by decide +kernel
theorem dX0_firstNoSum_73 : decode cX0_firstNoSum 73 = .ok (.ifCond .ne 6, 3) := by decide +kernel
theorem dX0_firstNoSum_76 : decode cX0_firstNoSum 76 = .ok (.iload 5, 2) := by decide +kernel
theorem dX0_firstNoSum_78 : decode cX0_firstNoSum 78 = .ok (.ireturn, 1) := by decide +kernel
theorem dX0_firstNoSum_79 : decode cX0_firstNoSum 79 = .ok (.iload 5, 2) := by decide +kernel
theorem dX0_firstNoSum_81 : decode cX0_firstNoSum 81 = .ok (.iload_n 3, 1) := by decide +kernel
theorem dX0_firstNoSum_82 : decode cX0_firstNoSum 82 = .ok (.iadd, 1) := by decide +kernel
theorem dX0_firstNoSum_83 : decode cX0_firstNoSum 83 = .ok (.istore 5, 2) := by decide +kernel
theorem dX0_firstNoSum_85 : decode cX0_firstNoSum 85 = .ok (.goto (-56), 3) := by decide +kernel
theorem dX0_firstNoSum_88 : decode cX0_firstNoSum 88 = .ok (.iconst (-1), 1) := by decide +kernel
theorem dX0_firstNoSum_89 : decode cX0_firstNoSum 89 = .ok (.ireturn, 1) := by decide +kernel
theorem dX0_isSum_0 : decode cX0_isSum 0 = .ok (.iload_n 2, 1) := by decide +kernel
theorem dX0_isSum_1 : decode cX0_isSum 1 = .ok (.istore_n 3, 1) := by decide +kernel
theorem dX0_isSum_2 : decode cX0_isSum 2 = .ok (.iload_n 3, 1) := by decide +kernel
theorem dX0_isSum_3 : decode cX0_isSum 3 = .ok (.iconst 1, 1) := by decide +kernel
theorem dX0_isSum_4 : decode cX0_isSum 4 = .ok (.if_icmp .lt 26, 3) := by decide +kernel
theorem dX0_isSum_7 : decode cX0_isSum 7 = .ok (.aload_n 0, 1) := by decide +kernel
theorem dX0_isSum_8 : decode cX0_isSum 8 = .ok (.iload_n 1, 1) := by decide +kernel
theorem dX0_isSum_9 : decode cX0_isSum 9 = .ok (.aload_n 0, 1) := by decide +kernel
theorem dX0_isSum_10 : decode cX0_isSum 10 = .ok (.iload_n 3, 1) := by decide +kernel
theorem dX0_isSum_11 : decode cX0_isSum 11 = .ok (.invokevirtual 15, 3) := by decide +kernel
theorem dX0_isSum_14 : decode cX0_isSum 14 = .ok (.isub, 1) := by decide +kernel
theorem dX0_isSum_15 : decode cX0_isSum 15 = .ok (.i2l, 1) := by decide +kernel
theorem dX0_isSum_16 : decode cX0_isSum 16 = .ok (.invokevirtual 19, 3) := by decide +kernel
theorem dX0_isSum_19 : decode cX0_isSum 19 = .ok (.ifCond .eq 5, 3) := by decide +kernel
theorem dX0_isSum_22 : decode cX0_isSum 22 = .ok (.iconst 1, 1) := by decide +kernel
theorem dX0_isSum_23 : decode cX0_isSum 23 = .ok (.ireturn, 1) := by decide +kernel
theorem dX0_isSum_24 : decode cX0_isSum 24 = .ok (.iinc 3 (-1), 3) := by decide +kernel
theorem dX0_isSum_27 : decode cX0_isSum 27 = .ok (.goto (-25), 3) := by decide +kernel
theorem dX0_isSum_30 : decode cX0_isSum 30 = .ok (.iconst 0, 1) := by decide +kernel
theorem dX0_isSum_31 : decode cX0_isSum 31 = .ok (.ireturn, 1) := by decide +kernel
theorem dX0_progressionLength_0 : decode cX0_progressionLength 0 = .ok (.iconst 1, 1) := by decide +kernel
theorem dX0_progressionLength_1 : decode cX0_progressionLength 1 = .ok (.istore_n 3, 1) := by decide +kernel
theorem dX0_progressionLength_2 : decode cX0_progressionLength 2 = .ok (.iload_n 1, 1) := by decide +kernel
theorem dX0_progressionLength_3 : decode cX0_progressionLength 3 = .ok (.i2l, 1) := by decide +kernel
theorem dX0_progressionLength_4 : decode cX0_progressionLength 4 = .ok (.iload_n 2, 1) := by decide +kernel
theorem dX0_progressionLength_5 : decode cX0_progressionLength 5 = .ok (.i2l, 1) := by decide +kernel
theorem dX0_progressionLength_6 : decode cX0_progressionLength 6 = .ok (.ladd, 1) := by decide +kernel
theorem dX0_progressionLength_7 : decode cX0_progressionLength 7 = .ok (.lstore 4, 2) := by decide +kernel
theorem dX0_progressionLength_9 : decode cX0_progressionLength 9 = .ok (.iload_n 3, 1) := by decide +kernel
theorem dX0_progressionLength_10 : decode cX0_progressionLength 10 = .ok (.aload_n 0, 1) := by decide +kernel
theorem dX0_progressionLength_11 : decode cX0_progressionLength 11 = .ok (.getfield 9, 3) := by decide +kernel
theorem dX0_progressionLength_14 : decode cX0_progressionLength 14 = .ok (.if_icmp .ge 25, 3) := by decide +kernel
theorem dX0_progressionLength_17 : decode cX0_progressionLength 17 = .ok (.aload_n 0, 1) := by decide +kernel
theorem dX0_progressionLength_18 : decode cX0_progressionLength 18 = .ok (.lload 4, 2) := by decide +kernel
theorem dX0_progressionLength_20 : decode cX0_progressionLength 20 = .ok (.invokevirtual 19, 3) := by decide +kernel
theorem dX0_progressionLength_23 : decode cX0_progressionLength 23 = .ok (.ifCond .eq 16, 3) := by decide +kernel
theorem dX0_progressionLength_26 : decode cX0_progressionLength 26 = .ok (.iinc 3 1, 3) := by decide +kernel
theorem dX0_progressionLength_29 : decode cX0_progressionLength 29 = .ok (.lload 4, 2) := by decide +kernel
theorem dX0_progressionLength_31 : decode cX0_progressionLength 31 = .ok (.iload_n 2, 1) := by decide +kernel
theorem dX0_progressionLength_32 : decode cX0_progressionLength 32 = .ok (.i2l, 1) := by decide +kernel
theorem dX0_progressionLength_33 : decode cX0_progressionLength 33 = .ok (.ladd, 1) := by decide +kernel
theorem dX0_progressionLength_34 : decode cX0_progressionLength 34 = .ok (.lstore 4, 2) := by decide +kernel
theorem dX0_progressionLength_36 : decode cX0_progressionLength 36 = .ok (.goto (-27), 3) := by decide +kernel
theorem dX0_progressionLength_39 : decode cX0_progressionLength 39 = .ok (.iload_n 3, 1) := by decide +kernel
theorem dX0_progressionLength_40 : decode cX0_progressionLength 40 = .ok (.ireturn, 1) := by decide +kernel
theorem dX0_longestProgressionStart_0 : decode cX0_longestProgressionStart 0 = .ok (.aload_n 0, 1) := by decide +kernel
theorem dX0_longestProgressionStart_1 : decode cX0_longestProgressionStart 1 = .ok (.iconst 1, 1) := by decide +kernel
theorem dX0_longestProgressionStart_2 : decode cX0_longestProgressionStart 2 = .ok (.invokevirtual 15, 3) := by decide +kernel
theorem dX0_longestProgressionStart_5 : decode cX0_longestProgressionStart 5 = .ok (.istore_n 2, 1) := by decide +kernel
theorem dX0_longestProgressionStart_6 : decode cX0_longestProgressionStart 6 = .ok (.iconst 0, 1) := by decide +kernel
theorem dX0_longestProgressionStart_7 : decode cX0_longestProgressionStart 7 = .ok (.istore_n 3, 1) := by decide +kernel
theorem dX0_longestProgressionStart_8 : decode cX0_longestProgressionStart 8 = .ok (.iconst 1, 1) := by decide +kernel
theorem dX0_longestProgressionStart_9 : decode cX0_longestProgressionStart 9 = .ok (.istore 4, 2) := by decide +kernel
theorem dX0_longestProgressionStart_11 : decode cX0_longestProgressionStart 11 = .ok (.iload 4, 2) := by decide +kernel
theorem dX0_longestProgressionStart_13 : decode cX0_longestProgressionStart 13 = .ok (.aload_n 0, 1) := by decide +kernel
theorem dX0_longestProgressionStart_14 : decode cX0_longestProgressionStart 14 = .ok (.getfield 9, 3) := by decide +kernel
theorem dX0_longestProgressionStart_17 : decode cX0_longestProgressionStart 17 = .ok (.if_icmp .gt 54, 3) := by decide +kernel
theorem dX0_longestProgressionStart_20 : decode cX0_longestProgressionStart 20 = .ok (.aload_n 0, 1) := by decide +kernel
theorem dX0_longestProgressionStart_21 : decode cX0_longestProgressionStart 21 = .ok (.iload 4, 2) := by decide +kernel
theorem dX0_longestProgressionStart_23 : decode cX0_longestProgressionStart 23 = .ok (.invokevirtual 15, 3) := by decide +kernel
theorem dX0_longestProgressionStart_26 : decode cX0_longestProgressionStart 26 = .ok (.istore 5, 2) := by decide +kernel
theorem dX0_longestProgressionStart_28 : decode cX0_longestProgressionStart 28 = .ok (.aload_n 0, 1) := by decide +kernel
theorem dX0_longestProgressionStart_29 : decode cX0_longestProgressionStart 29 = .ok (.iload 5, 2) := by decide +kernel
theorem dX0_longestProgressionStart_31 : decode cX0_longestProgressionStart 31 = .ok (.i2l, 1) := by decide +kernel
theorem dX0_longestProgressionStart_32 : decode cX0_longestProgressionStart 32 = .ok (.iload_n 1, 1) := by decide +kernel
theorem dX0_longestProgressionStart_33 : decode cX0_longestProgressionStart 33 = .ok (.i2l, 1) := by decide +kernel
theorem dX0_longestProgressionStart_34 : decode cX0_longestProgressionStart 34 = .ok (.lsub, 1) := by decide +kernel
theorem dX0_longestProgressionStart_35 : decode cX0_longestProgressionStart 35 = .ok (.invokevirtual 19, 3) := by decide +kernel
theorem dX0_longestProgressionStart_38 : decode cX0_longestProgressionStart 38 = .ok (.ifCond .eq 6, 3) := by decide +kernel
theorem dX0_longestProgressionStart_41 : decode cX0_longestProgressionStart 41 = .ok (.goto 24, 3) := by decide +kernel
theorem dX0_longestProgressionStart_44 : decode cX0_longestProgressionStart 44 = .ok (.aload_n 0, 1) := by decide +kernel
theorem dX0_longestProgressionStart_45 : decode cX0_longestProgressionStart 45 = .ok (.iload 5, 2) := by decide +kernel
theorem dX0_longestProgressionStart_47 : decode cX0_longestProgressionStart 47 = .ok (.iload_n 1, 1) := by decide +kernel
theorem dX0_longestProgressionStart_48 : decode cX0_longestProgressionStart 48 = .ok (.invokestatic 35, 3) := by decide +kernel
theorem dX0_longestProgressionStart_51 : decode cX0_longestProgressionStart 51 = .ok (.istore 6, 2) := by decide +kernel
theorem dX0_longestProgressionStart_53 : decode cX0_longestProgressionStart 53 = .ok (.iload 6, 2) := by decide +kernel
theorem dX0_longestProgressionStart_55 : decode cX0_longestProgressionStart 55 = .ok (.iload_n 3, 1) := by decide +kernel
theorem dX0_longestProgressionStart_56 : decode cX0_longestProgressionStart 56 = .ok (.if_icmp .le 9, 3) := by decide +kernel
theorem dX0_longestProgressionStart_59 : decode cX0_longestProgressionStart 59 = .ok (.iload 6, 2) := by decide +kernel
theorem dX0_longestProgressionStart_61 : decode cX0_longestProgressionStart 61 = .ok (.istore_n 3, 1) := by decide +kernel
theorem dX0_longestProgressionStart_62 : decode cX0_longestProgressionStart 62 = .ok (.iload 5, 2) := by decide +kernel
theorem dX0_longestProgressionStart_64 : decode cX0_longestProgressionStart 64 = .ok (.istore_n 2, 1) := by decide +kernel
theorem dX0_longestProgressionStart_65 : decode cX0_longestProgressionStart 65 = .ok (.iinc 4 1, 3) := by decide +kernel
theorem dX0_longestProgressionStart_68 : decode cX0_longestProgressionStart 68 = .ok (.goto (-57), 3) := by decide +kernel
theorem dX0_longestProgressionStart_71 : decode cX0_longestProgressionStart 71 = .ok (.iload_n 2, 1) := by decide +kernel
theorem dX0_longestProgressionStart_72 : decode cX0_longestProgressionStart 72 = .ok (.ireturn, 1) := by decide +kernel
theorem dX0_restsBy_0 : decode cX0_restsBy 0 = .ok (.aload_n 3, 1) := by decide +kernel
theorem dX0_restsBy_1 : decode cX0_restsBy 1 = .ok (.invokestatic 39, 3) := by decide +kernel
theorem dX0_restsBy_4 : decode cX0_restsBy 4 = .ok (.iconst 0, 1) := by decide +kernel
theorem dX0_restsBy_5 : decode cX0_restsBy 5 = .ok (.istore 4, 2) := by decide +kernel
theorem dX0_restsBy_7 : decode cX0_restsBy 7 = .ok (.iconst 1, 1) := by decide +kernel
theorem dX0_restsBy_8 : decode cX0_restsBy 8 = .ok (.istore 5, 2) := by decide +kernel
theorem dX0_restsBy_10 : decode cX0_restsBy 10 = .ok (.iload 5, 2) := by decide +kernel
theorem dX0_restsBy_12 : decode cX0_restsBy 12 = .ok (.aload_n 0, 1) := by decide +kernel
theorem dX0_restsBy_13 : decode cX0_restsBy 13 = .ok (.getfield 9, 3) := by decide +kernel
theorem dX0_restsBy_16 : decode cX0_restsBy 16 = .ok (.if_icmp .gt 47, 3) := by decide +kernel
theorem dX0_restsBy_19 : decode cX0_restsBy 19 = .ok (.aload_n 0, 1) := by decide +kernel
theorem dX0_restsBy_20 : decode cX0_restsBy 20 = .ok (.iload 5, 2) := by decide +kernel
theorem dX0_restsBy_22 : decode cX0_restsBy 22 = .ok (.invokevirtual 15, 3) := by decide +kernel
theorem dX0_restsBy_25 : decode cX0_restsBy 25 = .ok (.iload_n 1, 1) := by decide +kernel
theorem dX0_restsBy_26 : decode cX0_restsBy 26 = .ok (.invokestatic 43, 3) := by decide +kernel
theorem dX0_restsBy_29 : decode cX0_restsBy 29 = .ok (.istore 6, 2) := by decide +kernel
theorem dX0_restsBy_31 : decode cX0_restsBy 31 = .ok (.aload_n 3, 1) := by decide +kernel
theorem dX0_restsBy_32 : decode cX0_restsBy 32 = .ok (.iload 6, 2) := by decide +kernel
theorem dX0_restsBy_34 : decode cX0_restsBy 34 = .ok (.invokestatic 46, 3) := by decide +kernel
theorem dX0_restsBy_37 : decode cX0_restsBy 37 = .ok (.ifCond .ne 6, 3) := by decide +kernel
theorem dX0_restsBy_40 : decode cX0_restsBy 40 = .ok (.iinc 4 1, 3) := by decide +kernel
theorem dX0_restsBy_43 : decode cX0_restsBy 43 = .ok (.aload_n 3, 1) := by decide +kernel
theorem dX0_restsBy_44 : decode cX0_restsBy 44 = .ok (.iload 6, 2) := by decide +kernel
theorem dX0_restsBy_46 : decode cX0_restsBy 46 = .ok (.aload_n 3, 1) := by decide +kernel
theorem dX0_restsBy_47 : decode cX0_restsBy 47 = .ok (.iload 6, 2) := by decide +kernel
theorem dX0_restsBy_49 : decode cX0_restsBy 49 = .ok (.invokestatic 46, 3) := by decide +kernel
theorem dX0_restsBy_52 : decode cX0_restsBy 52 = .ok (.iconst 1, 1) := by decide +kernel
theorem dX0_restsBy_53 : decode cX0_restsBy 53 = .ok (.iadd, 1) := by decide +kernel
theorem dX0_restsBy_54 : decode cX0_restsBy 54 = .ok (.invokestatic 50, 3) := by decide +kernel
theorem dX0_restsBy_57 : decode cX0_restsBy 57 = .ok (.iinc 5 1, 3) := by decide +kernel
theorem dX0_restsBy_60 : decode cX0_restsBy 60 = .ok (.goto (-50), 3) := by decide +kernel
theorem dX0_restsBy_63 : decode cX0_restsBy 63 = .ok (.iload_n 2, 1) := by decide +kernel
theorem dX0_restsBy_64 : decode cX0_restsBy 64 = .ok (.iconst (-1), 1) := by decide +kernel
theorem dX0_restsBy_65 : decode cX0_restsBy 65 = .ok (.if_icmp .ne 8, 3) := by decide +kernel
theorem dX0_restsBy_68 : decode cX0_restsBy 68 = .ok (.iload 4, 2) := by decide +kernel
theorem dX0_restsBy_70 : decode cX0_restsBy 70 = .ok (.goto 8, 3) := by decide +kernel
theorem dX0_restsBy_73 : decode cX0_restsBy 73 = .ok (.aload_n 3, 1) := by decide +kernel
theorem dX0_restsBy_74 : decode cX0_restsBy 74 = .ok (.iload_n 2, 1) := by decide +kernel
theorem dX0_restsBy_75 : decode cX0_restsBy 75 = .ok (.invokestatic 46, 3) := by decide +kernel
theorem dX0_restsBy_78 : decode cX0_restsBy 78 = .ok (.ireturn, 1) := by decide +kernel
theorem dX1_countCommon_0 : decode cX1_countCommon 0 = .ok (.iconst 0, 1) := by decide +kernel
theorem dX1_countCommon_1 : decode cX1_countCommon 1 = .ok (.istore_n 2, 1) := by decide +kernel
theorem dX1_countCommon_2 : decode cX1_countCommon 2 = .ok (.iconst 1, 1) := by decide +kernel
theorem dX1_countCommon_3 : decode cX1_countCommon 3 = .ok (.istore_n 3, 1) := by decide +kernel
theorem dX1_countCommon_4 : decode cX1_countCommon 4 = .ok (.iload_n 3, 1) := by decide +kernel
theorem dX1_countCommon_5 : decode cX1_countCommon 5 = .ok (.aload_n 0, 1) := by decide +kernel
theorem dX1_countCommon_6 : decode cX1_countCommon 6 = .ok (.getfield 9, 3) := by decide +kernel
theorem dX1_countCommon_9 : decode cX1_countCommon 9 = .ok (.if_icmp .gt 25, 3) := by decide +kernel
theorem dX1_countCommon_12 : decode cX1_countCommon 12 = .ok (.aload_n 1, 1) := by decide +kernel
theorem dX1_countCommon_13 : decode cX1_countCommon 13 = .ok (.aload_n 0, 1) := by decide +kernel
theorem dX1_countCommon_14 : decode cX1_countCommon 14 = .ok (.iload_n 3, 1) := by decide +kernel
theorem dX1_countCommon_15 : decode cX1_countCommon 15 = .ok (.invokevirtual 15, 3) := by decide +kernel
theorem dX1_countCommon_18 : decode cX1_countCommon 18 = .ok (.i2l, 1) := by decide +kernel
theorem dX1_countCommon_19 : decode cX1_countCommon 19 = .ok (.invokevirtual 19, 3) := by decide +kernel
theorem dX1_countCommon_22 : decode cX1_countCommon 22 = .ok (.ifCond .eq 6, 3) := by decide +kernel
theorem dX1_countCommon_25 : decode cX1_countCommon 25 = .ok (.iinc 2 1, 3) := by decide +kernel
theorem dX1_countCommon_28 : decode cX1_countCommon 28 = .ok (.iinc 3 1, 3) := by decide +kernel
theorem dX1_countCommon_31 : decode cX1_countCommon 31 = .ok (.goto (-27), 3) := by decide +kernel
theorem dX1_countCommon_34 : decode cX1_countCommon 34 = .ok (.iload_n 2, 1) := by decide +kernel
theorem dX1_countCommon_35 : decode cX1_countCommon 35 = .ok (.ireturn, 1) := by decide +kernel
theorem dX1_leastNotIn_0 : decode cX1_leastNotIn 0 = .ok (.iconst 1, 1) := by decide +kernel
theorem dX1_leastNotIn_1 : decode cX1_leastNotIn 1 = .ok (.istore_n 2, 1) := by decide +kernel
theorem dX1_leastNotIn_2 : decode cX1_leastNotIn 2 = .ok (.iload_n 2, 1) := by decide +kernel
theorem dX1_leastNotIn_3 : decode cX1_leastNotIn 3 = .ok (.aload_n 0, 1) := by decide +kernel
theorem dX1_leastNotIn_4 : decode cX1_leastNotIn 4 = .ok (.getfield 9, 3) := by decide +kernel
theorem dX1_leastNotIn_7 : decode cX1_leastNotIn 7 = .ok (.if_icmp .gt 26, 3) := by decide +kernel
theorem dX1_leastNotIn_10 : decode cX1_leastNotIn 10 = .ok (.aload_n 0, 1) := by decide +kernel
theorem dX1_leastNotIn_11 : decode cX1_leastNotIn 11 = .ok (.iload_n 2, 1) := by decide +kernel
theorem dX1_leastNotIn_12 : decode cX1_leastNotIn 12 = .ok (.invokevirtual 15, 3) := by decide +kernel
theorem dX1_leastNotIn_15 : decode cX1_leastNotIn 15 = .ok (.istore_n 3, 1) := by decide +kernel
theorem dX1_leastNotIn_16 : decode cX1_leastNotIn 16 = .ok (.aload_n 1, 1) := by decide +kernel
theorem dX1_leastNotIn_17 : decode cX1_leastNotIn 17 = .ok (.iload_n 3, 1) := by decide +kernel
theorem dX1_leastNotIn_18 : decode cX1_leastNotIn 18 = .ok (.i2l, 1) := by decide +kernel
theorem dX1_leastNotIn_19 : decode cX1_leastNotIn 19 = .ok (.invokevirtual 19, 3) := by decide +kernel
theorem dX1_leastNotIn_22 : decode cX1_leastNotIn 22 = .ok (.ifCond .ne 5, 3) := by decide +kernel
theorem dX1_leastNotIn_25 : decode cX1_leastNotIn 25 = .ok (.iload_n 3, 1) := by decide +kernel
theorem dX1_leastNotIn_26 : decode cX1_leastNotIn 26 = .ok (.ireturn, 1) := by decide +kernel
theorem dX1_leastNotIn_27 : decode cX1_leastNotIn 27 = .ok (.iinc 2 1, 3) := by decide +kernel
theorem dX1_leastNotIn_30 : decode cX1_leastNotIn 30 = .ok (.goto (-28), 3) := by decide +kernel
theorem dX1_leastNotIn_33 : decode cX1_leastNotIn 33 = .ok (.iconst (-1), 1) := by decide +kernel
theorem dX1_leastNotIn_34 : decode cX1_leastNotIn 34 = .ok (.ireturn, 1) := by decide +kernel
theorem dX1_leastInOneAlone_0 : decode cX1_leastInOneAlone 0 = .ok (.aload_n 0, 1) := by decide +kernel
theorem dX1_leastInOneAlone_1 : decode cX1_leastInOneAlone 1 = .ok (.aload_n 1, 1) := by decide +kernel
theorem dX1_leastInOneAlone_2 : decode cX1_leastInOneAlone 2 = .ok (.invokestatic 23, 3) := by decide +kernel
theorem dX1_leastInOneAlone_5 : decode cX1_leastInOneAlone 5 = .ok (.istore_n 2, 1) := by decide +kernel
theorem dX1_leastInOneAlone_6 : decode cX1_leastInOneAlone 6 = .ok (.aload_n 1, 1) := by decide +kernel
theorem dX1_leastInOneAlone_7 : decode cX1_leastInOneAlone 7 = .ok (.aload_n 0, 1) := by decide +kernel
theorem dX1_leastInOneAlone_8 : decode cX1_leastInOneAlone 8 = .ok (.invokestatic 23, 3) := by decide +kernel
theorem dX1_leastInOneAlone_11 : decode cX1_leastInOneAlone 11 = .ok (.istore_n 3, 1) := by decide +kernel
theorem dX1_leastInOneAlone_12 : decode cX1_leastInOneAlone 12 = .ok (.iload_n 2, 1) := by decide +kernel
theorem dX1_leastInOneAlone_13 : decode cX1_leastInOneAlone 13 = .ok (.iconst (-1), 1) := by decide +kernel
theorem dX1_leastInOneAlone_14 : decode cX1_leastInOneAlone 14 = .ok (.if_icmp .ne 5, 3) := by decide +kernel
theorem dX1_leastInOneAlone_17 : decode cX1_leastInOneAlone 17 = .ok (.iload_n 3, 1) := by decide +kernel
theorem dX1_leastInOneAlone_18 : decode cX1_leastInOneAlone 18 = .ok (.ireturn, 1) := by decide +kernel
theorem dX1_leastInOneAlone_19 : decode cX1_leastInOneAlone 19 = .ok (.iload_n 3, 1) := by decide +kernel
theorem dX1_leastInOneAlone_20 : decode cX1_leastInOneAlone 20 = .ok (.iconst (-1), 1) := by decide +kernel
theorem dX1_leastInOneAlone_21 : decode cX1_leastInOneAlone 21 = .ok (.if_icmp .ne 7, 3) := by decide +kernel
theorem dX1_leastInOneAlone_24 : decode cX1_leastInOneAlone 24 = .ok (.iload_n 2, 1) := by decide +kernel
theorem dX1_leastInOneAlone_25 : decode cX1_leastInOneAlone 25 = .ok (.goto 8, 3) := by decide +kernel
theorem dX1_leastInOneAlone_28 : decode cX1_leastInOneAlone 28 = .ok (.iload_n 2, 1) := by decide +kernel
theorem dX1_leastInOneAlone_29 : decode cX1_leastInOneAlone 29 = .ok (.iload_n 3, 1) := by decide +kernel
theorem dX1_leastInOneAlone_30 : decode cX1_leastInOneAlone 30 = .ok (.invokestatic 29, 3) := by decide +kernel
theorem dX1_leastInOneAlone_33 : decode cX1_leastInOneAlone 33 = .ok (.ireturn, 1) := by decide +kernel
theorem dX1_leading_0 : decode cX1_leading 0 = .ok (.aload_n 0, 1) := by decide +kernel
theorem dX1_leading_1 : decode cX1_leading 1 = .ok (.iconst 0, 1) := by decide +kernel
theorem dX1_leading_2 : decode cX1_leading 2 = .ok (.invokevirtual 35, 3) := by decide +kernel
theorem dX1_leading_5 : decode cX1_leading 5 = .ok (.istore_n 3, 1) := by decide +kernel
theorem dX1_leading_6 : decode cX1_leading 6 = .ok (.aload_n 1, 1) := by decide +kernel
theorem dX1_leading_7 : decode cX1_leading 7 = .ok (.iconst 0, 1) := by decide +kernel
theorem dX1_leading_8 : decode cX1_leading 8 = .ok (.invokevirtual 35, 3) := by decide +kernel
theorem dX1_leading_11 : decode cX1_leading 11 = .ok (.istore 4, 2) := by decide +kernel
theorem dX1_leading_13 : decode cX1_leading 13 = .ok (.iload_n 3, 1) := by decide +kernel
theorem dX1_leading_14 : decode cX1_leading 14 = .ok (.iload 4, 2) := by decide +kernel
theorem dX1_leading_16 : decode cX1_leading 16 = .ok (.isub, 1) := by decide +kernel
theorem dX1_leading_17 : decode cX1_leading 17 = .ok (.istore 5, 2) := by decide +kernel
theorem dX1_leading_19 : decode cX1_leading 19 = .ok (.iload 5, 2) := by decide +kernel
theorem dX1_leading_21 : decode cX1_leading 21 = .ok (.istore 6, 2) := by decide +kernel
theorem dX1_leading_23 : decode cX1_leading 23 = .ok (.iconst 0, 1) := by decide +kernel
theorem dX1_leading_24 : decode cX1_leading 24 = .ok (.istore 7, 2) := by decide +kernel
theorem dX1_leading_26 : decode cX1_leading 26 = .ok (.iload 5, 2) := by decide +kernel
theorem dX1_leading_28 : decode cX1_leading 28 = .ok (.istore 8, 2) := by decide +kernel
theorem dX1_leading_30 : decode cX1_leading 30 = .ok (.iconst 0, 1) := by decide +kernel
theorem dX1_leading_31 : decode cX1_leading 31 = .ok (.istore 9, 2) := by decide +kernel
theorem dX1_leading_33 : decode cX1_leading 33 = .ok (.iload 5, 2) := by decide +kernel
theorem dX1_leading_35 : decode cX1_leading 35 = .ok (.iconst 0, 1) := by decide +kernel
theorem dX1_leading_36 : decode cX1_leading 36 = .ok (.invokestatic 38, 3) := by decide +kernel
theorem dX1_leading_39 : decode cX1_leading 39 = .ok (.istore 10, 2) := by decide +kernel
theorem dX1_leading_41 : decode cX1_leading 41 = .ok (.iconst 0, 1) := by decide +kernel
theorem dX1_leading_42 : decode cX1_leading 42 = .ok (.istore 11, 2) := by decide +kernel
theorem dX1_leading_44 : decode cX1_leading 44 = .ok (.iload 11, 2) := by decide +kernel
theorem dX1_leading_46 : decode cX1_leading 46 = .ok (.aload_n 0, 1) := by decide +kernel
theorem dX1_leading_47 : decode cX1_leading 47 = .ok (.getfield 9, 3) := by decide +kernel
theorem dX1_leading_50 : decode cX1_leading 50 = .ok (.aload_n 1, 1) := by decide +kernel
theorem dX1_leading_51 : decode cX1_leading 51 = .ok (.getfield 9, 3) := by decide +kernel
theorem dX1_leading_54 : decode cX1_leading 54 = .ok (.iadd, 1) := by decide +kernel
theorem dX1_leading_55 : decode cX1_leading 55 = .ok (.if_icmp .ge 141, 3) := by decide +kernel
theorem dX1_leading_58 : decode cX1_leading 58 = .ok (.iload_n 3, 1) := by decide +kernel
theorem dX1_leading_59 : decode cX1_leading 59 = .ok (.aload_n 0, 1) := by decide +kernel
theorem dX1_leading_60 : decode cX1_leading 60 = .ok (.getfield 9, 3) := by decide +kernel
theorem dX1_leading_63 : decode cX1_leading 63 = .ok (.if_icmp .lt 15, 3) := by decide +kernel
theorem dX1_leading_66 : decode cX1_leading 66 = .ok (.iload 4, 2) := by decide +kernel
theorem dX1_leading_68 : decode cX1_leading 68 = .ok (.aload_n 1, 1) := by decide +kernel
theorem dX1_leading_69 : decode cX1_leading 69 = .ok (.getfield 9, 3) := by decide +kernel
theorem dX1_leading_72 : decode cX1_leading 72 = .ok (.if_icmp .lt 6, 3) := by decide +kernel
theorem dX1_leading_75 : decode cX1_leading 75 = .ok (.goto 121, 3) := by decide +kernel
theorem dX1_leading_78 : decode cX1_leading 78 = .ok (.aload_n 0, 1) := by decide +kernel
theorem dX1_leading_79 : decode cX1_leading 79 = .ok (.iload_n 3, 1) := by decide +kernel
theorem dX1_leading_80 : decode cX1_leading 80 = .ok (.iconst 1, 1) := by decide +kernel
theorem dX1_leading_81 : decode cX1_leading 81 = .ok (.iadd, 1) := by decide +kernel
theorem dX1_leading_82 : decode cX1_leading 82 = .ok (.invokevirtual 15, 3) := by decide +kernel
theorem dX1_leading_85 : decode cX1_leading 85 = .ok (.aload_n 1, 1) := by decide +kernel
theorem dX1_leading_86 : decode cX1_leading 86 = .ok (.iload 4, 2) := by decide +kernel
theorem dX1_leading_88 : decode cX1_leading 88 = .ok (.iconst 1, 1) := by decide +kernel
theorem dX1_leading_89 : decode cX1_leading 89 = .ok (.iadd, 1) := by decide +kernel
theorem dX1_leading_90 : decode cX1_leading 90 = .ok (.invokevirtual 15, 3) := by decide +kernel
theorem dX1_leading_93 : decode cX1_leading 93 = .ok (.invokestatic 43, 3) := by decide +kernel
theorem dX1_leading_96 : decode cX1_leading 96 = .ok (.istore 12, 2) := by decide +kernel
theorem dX1_leading_98 : decode cX1_leading 98 = .ok (.aload_n 0, 1) := by decide +kernel
theorem dX1_leading_99 : decode cX1_leading 99 = .ok (.iload_n 3, 1) := by decide +kernel
theorem dX1_leading_100 : decode cX1_leading 100 = .ok (.iconst 1, 1) := by decide +kernel
theorem dX1_leading_101 : decode cX1_leading 101 = .ok (.iadd, 1) := by decide +kernel
theorem dX1_leading_102 : decode cX1_leading 102 = .ok (.invokevirtual 15, 3) := by decide +kernel
theorem dX1_leading_105 : decode cX1_leading 105 = .ok (.iload 12, 2) := by decide +kernel
theorem dX1_leading_107 : decode cX1_leading 107 = .ok (.if_icmp .ne 6, 3) := by decide +kernel
theorem dX1_leading_110 : decode cX1_leading 110 = .ok (.iinc 3 1, 3) := by decide +kernel
theorem dX1_leading_113 : decode cX1_leading 113 = .ok (.aload_n 1, 1) := by decide +kernel
theorem dX1_leading_114 : decode cX1_leading 114 = .ok (.iload 4, 2) := by decide +kernel
theorem dX1_leading_116 : decode cX1_leading 116 = .ok (.iconst 1, 1) := by decide +kernel
theorem dX1_leading_117 : decode cX1_leading 117 = .ok (.iadd, 1) := by decide +kernel
theorem dX1_leading_118 : decode cX1_leading 118 = .ok (.invokevirtual 15, 3) := by decide +kernel
theorem dX1_leading_121 : decode cX1_leading 121 = .ok (.iload 12, 2) := by decide +kernel
theorem dX1_leading_123 : decode cX1_leading 123 = .ok (.if_icmp .ne 6, 3) := by decide +kernel
theorem dX1_leading_126 : decode cX1_leading 126 = .ok (.iinc 4 1, 3) := by decide +kernel
theorem dX1_leading_129 : decode cX1_leading 129 = .ok (.iload_n 3, 1) := by decide +kernel
theorem dX1_leading_130 : decode cX1_leading 130 = .ok (.iload 4, 2) := by decide +kernel
theorem dX1_leading_132 : decode cX1_leading 132 = .ok (.isub, 1) := by decide +kernel
theorem dX1_leading_133 : decode cX1_leading 133 = .ok (.istore 5, 2) := by decide +kernel
theorem dX1_leading_135 : decode cX1_leading 135 = .ok (.iload 5, 2) := by decide +kernel
theorem dX1_leading_137 : decode cX1_leading 137 = .ok (.iload 6, 2) := by decide +kernel
theorem dX1_leading_139 : decode cX1_leading 139 = .ok (.if_icmp .le 11, 3) := by decide +kernel
theorem dX1_leading_142 : decode cX1_leading 142 = .ok (.iload 5, 2) := by decide +kernel
theorem dX1_leading_144 : decode cX1_leading 144 = .ok (.istore 6, 2) := by decide +kernel
theorem dX1_leading_146 : decode cX1_leading 146 = .ok (.iload 12, 2) := by decide +kernel
theorem dX1_leading_148 : decode cX1_leading 148 = .ok (.istore 7, 2) := by decide +kernel
theorem dX1_leading_150 : decode cX1_leading 150 = .ok (.iload 8, 2) := by decide +kernel
theorem dX1_leading_152 : decode cX1_leading 152 = .ok (.iload 5, 2) := by decide +kernel
theorem dX1_leading_154 : decode cX1_leading 154 = .ok (.invokestatic 29, 3) := by decide +kernel
theorem dX1_leading_157 : decode cX1_leading 157 = .ok (.istore 8, 2) := by decide +kernel
theorem dX1_leading_159 : decode cX1_leading 159 = .ok (.iload 5, 2) := by decide +kernel
theorem dX1_leading_161 : decode cX1_leading 161 = .ok (.ifCond .ne 6, 3) := by decide +kernel
theorem dX1_leading_164 : decode cX1_leading 164 = .ok (.goto 26, 3) := by decide +kernel
theorem dX1_leading_167 : decode cX1_leading 167 = .ok (.iload 10, 2) := by decide +kernel
theorem dX1_leading_169 : decode cX1_leading 169 = .ok (.iload 5, 2) := by decide +kernel
theorem dX1_leading_171 : decode cX1_leading 171 = .ok (.iconst 0, 1) := by decide +kernel
theorem dX1_leading_172 : decode cX1_leading 172 = .ok (.invokestatic 38, 3) := by decide +kernel
theorem dX1_leading_175 : decode cX1_leading 175 = .ok (.ineg, 1) := by decide +kernel
theorem dX1_leading_176 : decode cX1_leading 176 = .ok (.if_icmp .ne 6, 3) := by decide +kernel
theorem dX1_leading_179 : decode cX1_leading 179 = .ok (.iinc 9 1, 3) := by decide +kernel
theorem dX1_leading_182 : decode cX1_leading 182 = .ok (.iload 5, 2) := by decide +kernel
theorem dX1_leading_184 : decode cX1_leading 184 = .ok (.iconst 0, 1) := by decide +kernel
theorem dX1_leading_185 : decode cX1_leading 185 = .ok (.invokestatic 38, 3) := by decide +kernel
theorem dX1_leading_188 : decode cX1_leading 188 = .ok (.istore 10, 2) := by decide +kernel
theorem dX1_leading_190 : decode cX1_leading 190 = .ok (.iinc 11 1, 3) := by decide +kernel
theorem dX1_leading_193 : decode cX1_leading 193 = .ok (.goto (-149), 3) := by decide +kernel
theorem dX1_leading_196 : decode cX1_leading 196 = .ok (.iload_n 2, 1) := by decide +kernel
theorem dX1_leading_197 : decode cX1_leading 197 = .ok (.tableswitch 43 0 3 #[31, 34, 37, 40], 31) := by decide +kernel
theorem dX1_leading_228 : decode cX1_leading 228 = .ok (.iload 6, 2) := by decide +kernel
theorem dX1_leading_230 : decode cX1_leading 230 = .ok (.ireturn, 1) := by decide +kernel
theorem dX1_leading_231 : decode cX1_leading 231 = .ok (.iload 7, 2) := by decide +kernel
theorem dX1_leading_233 : decode cX1_leading 233 = .ok (.ireturn, 1) := by decide +kernel
theorem dX1_leading_234 : decode cX1_leading 234 = .ok (.iload 8, 2) := by decide +kernel
theorem dX1_leading_236 : decode cX1_leading 236 = .ok (.ireturn, 1) := by decide +kernel
theorem dX1_leading_237 : decode cX1_leading 237 = .ok (.iload 9, 2) := by decide +kernel
theorem dX1_leading_239 : decode cX1_leading 239 = .ok (.ireturn, 1) := by decide +kernel
theorem dX1_leading_240 : decode cX1_leading 240 = .ok (.iload 5, 2) := by decide +kernel
theorem dX1_leading_242 : decode cX1_leading 242 = .ok (.ireturn, 1) := by decide +kernel
theorem dX1_lesserOf_0 : decode cX1_lesserOf 0 = .ok (.iload_n 0, 1) := by decide +kernel
theorem dX1_lesserOf_1 : decode cX1_lesserOf 1 = .ok (.iconst (-1), 1) := by decide +kernel
theorem dX1_lesserOf_2 : decode cX1_lesserOf 2 = .ok (.if_icmp .ne 5, 3) := by decide +kernel
theorem dX1_lesserOf_5 : decode cX1_lesserOf 5 = .ok (.iload_n 1, 1) := by decide +kernel
theorem dX1_lesserOf_6 : decode cX1_lesserOf 6 = .ok (.ireturn, 1) := by decide +kernel
theorem dX1_lesserOf_7 : decode cX1_lesserOf 7 = .ok (.iload_n 1, 1) := by decide +kernel
theorem dX1_lesserOf_8 : decode cX1_lesserOf 8 = .ok (.iconst (-1), 1) := by decide +kernel
theorem dX1_lesserOf_9 : decode cX1_lesserOf 9 = .ok (.if_icmp .ne 7, 3) := by decide +kernel
theorem dX1_lesserOf_12 : decode cX1_lesserOf 12 = .ok (.iload_n 0, 1) := by decide +kernel
theorem dX1_lesserOf_13 : decode cX1_lesserOf 13 = .ok (.goto 8, 3) := by decide +kernel
theorem dX1_lesserOf_16 : decode cX1_lesserOf 16 = .ok (.iload_n 0, 1) := by decide +kernel
theorem dX1_lesserOf_17 : decode cX1_lesserOf 17 = .ok (.iload_n 1, 1) := by decide +kernel
theorem dX1_lesserOf_18 : decode cX1_lesserOf 18 = .ok (.invokestatic 29, 3) := by decide +kernel
theorem dX1_lesserOf_21 : decode cX1_lesserOf 21 = .ok (.ireturn, 1) := by decide +kernel
theorem dX1_likeRounds_0 : decode cX1_likeRounds 0 = .ok (.iconst 0, 1) := by decide +kernel
theorem dX1_likeRounds_1 : decode cX1_likeRounds 1 = .ok (.istore_n 2, 1) := by decide +kernel
theorem dX1_likeRounds_2 : decode cX1_likeRounds 2 = .ok (.iload_n 2, 1) := by decide +kernel
theorem dX1_likeRounds_3 : decode cX1_likeRounds 3 = .ok (.aload_n 0, 1) := by decide +kernel
theorem dX1_likeRounds_4 : decode cX1_likeRounds 4 = .ok (.getfield 46, 3) := by decide +kernel
theorem dX1_likeRounds_7 : decode cX1_likeRounds 7 = .ok (.if_icmp .ge 40, 3) := by decide +kernel
theorem dX1_likeRounds_10 : decode cX1_likeRounds 10 = .ok (.iload_n 2, 1) := by decide +kernel
theorem dX1_likeRounds_11 : decode cX1_likeRounds 11 = .ok (.aload_n 1, 1) := by decide +kernel
theorem dX1_likeRounds_12 : decode cX1_likeRounds 12 = .ok (.getfield 46, 3) := by decide +kernel
theorem dX1_likeRounds_15 : decode cX1_likeRounds 15 = .ok (.if_icmp .ge 32, 3) := by decide +kernel
theorem dX1_likeRounds_18 : decode cX1_likeRounds 18 = .ok (.aload_n 0, 1) := by decide +kernel
theorem dX1_likeRounds_19 : decode cX1_likeRounds 19 = .ok (.getfield 49, 3) := by decide +kernel
theorem dX1_likeRounds_22 : decode cX1_likeRounds 22 = .ok (.iload_n 2, 1) := by decide +kernel
theorem dX1_likeRounds_23 : decode cX1_likeRounds 23 = .ok (.iconst 1, 1) := by decide +kernel
theorem dX1_likeRounds_24 : decode cX1_likeRounds 24 = .ok (.iadd, 1) := by decide +kernel
theorem dX1_likeRounds_25 : decode cX1_likeRounds 25 = .ok (.invokestatic 53, 3) := by decide +kernel
theorem dX1_likeRounds_28 : decode cX1_likeRounds 28 = .ok (.aload_n 1, 1) := by decide +kernel
theorem dX1_likeRounds_29 : decode cX1_likeRounds 29 = .ok (.getfield 49, 3) := by decide +kernel
theorem dX1_likeRounds_32 : decode cX1_likeRounds 32 = .ok (.iload_n 2, 1) := by decide +kernel
theorem dX1_likeRounds_33 : decode cX1_likeRounds 33 = .ok (.iconst 1, 1) := by decide +kernel
theorem dX1_likeRounds_34 : decode cX1_likeRounds 34 = .ok (.iadd, 1) := by decide +kernel
theorem dX1_likeRounds_35 : decode cX1_likeRounds 35 = .ok (.invokestatic 53, 3) := by decide +kernel
theorem dX1_likeRounds_38 : decode cX1_likeRounds 38 = .ok (.if_icmp .ne 9, 3) := by decide +kernel
theorem dX1_likeRounds_41 : decode cX1_likeRounds 41 = .ok (.iinc 2 1, 3) := by decide +kernel
theorem dX1_likeRounds_44 : decode cX1_likeRounds 44 = .ok (.goto (-42), 3) := by decide +kernel
theorem dX1_likeRounds_47 : decode cX1_likeRounds 47 = .ok (.iload_n 2, 1) := by decide +kernel
theorem dX1_likeRounds_48 : decode cX1_likeRounds 48 = .ok (.ireturn, 1) := by decide +kernel
theorem dX1_pickedByPlace_0 : decode cX1_pickedByPlace 0 = .ok (.iconst 0, 1) := by decide +kernel
theorem dX1_pickedByPlace_1 : decode cX1_pickedByPlace 1 = .ok (.istore_n 3, 1) := by decide +kernel
theorem dX1_pickedByPlace_2 : decode cX1_pickedByPlace 2 = .ok (.iconst 1, 1) := by decide +kernel
theorem dX1_pickedByPlace_3 : decode cX1_pickedByPlace 3 = .ok (.istore 4, 2) := by decide +kernel
theorem dX1_pickedByPlace_5 : decode cX1_pickedByPlace 5 = .ok (.iload 4, 2) := by decide +kernel
theorem dX1_pickedByPlace_7 : decode cX1_pickedByPlace 7 = .ok (.aload_n 0, 1) := by decide +kernel
theorem dX1_pickedByPlace_8 : decode cX1_pickedByPlace 8 = .ok (.getfield 9, 3) := by decide +kernel
theorem dX1_pickedByPlace_11 : decode cX1_pickedByPlace 11 = .ok (.if_icmp .gt 37, 3) := by decide +kernel
theorem dX1_pickedByPlace_14 : decode cX1_pickedByPlace 14 = .ok (.aload_n 1, 1) := by decide +kernel
theorem dX1_pickedByPlace_15 : decode cX1_pickedByPlace 15 = .ok (.iload 4, 2) := by decide +kernel
theorem dX1_pickedByPlace_17 : decode cX1_pickedByPlace 17 = .ok (.i2l, 1) := by decide +kernel
theorem dX1_pickedByPlace_18 : decode cX1_pickedByPlace 18 = .ok (.invokevirtual 19, 3) := by decide +kernel
theorem dX1_pickedByPlace_21 : decode cX1_pickedByPlace 21 = .ok (.ifCond .ne 6, 3) := by decide +kernel
theorem dX1_pickedByPlace_24 : decode cX1_pickedByPlace 24 = .ok (.goto 18, 3) := by decide +kernel
theorem dX1_pickedByPlace_27 : decode cX1_pickedByPlace 27 = .ok (.iload_n 3, 1) := by decide +kernel
theorem dX1_pickedByPlace_28 : decode cX1_pickedByPlace 28 = .ok (.iload_n 2, 1) := by decide +kernel
theorem dX1_pickedByPlace_29 : decode cX1_pickedByPlace 29 = .ok (.if_icmp .ne 10, 3) := by decide +kernel
theorem dX1_pickedByPlace_32 : decode cX1_pickedByPlace 32 = .ok (.aload_n 0, 1) := by decide +kernel
theorem dX1_pickedByPlace_33 : decode cX1_pickedByPlace 33 = .ok (.iload 4, 2) := by decide +kernel
theorem dX1_pickedByPlace_35 : decode cX1_pickedByPlace 35 = .ok (.invokevirtual 15, 3) := by decide +kernel
theorem dX1_pickedByPlace_38 : decode cX1_pickedByPlace 38 = .ok (.ireturn, 1) := by decide +kernel
theorem dX1_pickedByPlace_39 : decode cX1_pickedByPlace 39 = .ok (.iinc 3 1, 3) := by decide +kernel
theorem dX1_pickedByPlace_42 : decode cX1_pickedByPlace 42 = .ok (.iinc 4 1, 3) := by decide +kernel
theorem dX1_pickedByPlace_45 : decode cX1_pickedByPlace 45 = .ok (.goto (-40), 3) := by decide +kernel
theorem dX1_pickedByPlace_48 : decode cX1_pickedByPlace 48 = .ok (.iload_n 2, 1) := by decide +kernel
theorem dX1_pickedByPlace_49 : decode cX1_pickedByPlace 49 = .ok (.iconst (-1), 1) := by decide +kernel
theorem dX1_pickedByPlace_50 : decode cX1_pickedByPlace 50 = .ok (.if_icmp .ne 7, 3) := by decide +kernel
theorem dX1_pickedByPlace_53 : decode cX1_pickedByPlace 53 = .ok (.iload_n 3, 1) := by decide +kernel
theorem dX1_pickedByPlace_54 : decode cX1_pickedByPlace 54 = .ok (.goto 4, 3) := by decide +kernel
theorem dX1_pickedByPlace_57 : decode cX1_pickedByPlace 57 = .ok (.iconst (-1), 1) := by decide +kernel
theorem dX1_pickedByPlace_58 : decode cX1_pickedByPlace 58 = .ok (.ireturn, 1) := by decide +kernel
theorem dX1_countMeetings_0 : decode cX1_countMeetings 0 = .ok (.iconst 0, 1) := by decide +kernel
theorem dX1_countMeetings_1 : decode cX1_countMeetings 1 = .ok (.istore 4, 2) := by decide +kernel
theorem dX1_countMeetings_3 : decode cX1_countMeetings 3 = .ok (.iconst 1, 1) := by decide +kernel
theorem dX1_countMeetings_4 : decode cX1_countMeetings 4 = .ok (.istore 5, 2) := by decide +kernel
theorem dX1_countMeetings_6 : decode cX1_countMeetings 6 = .ok (.iload 5, 2) := by decide +kernel
theorem dX1_countMeetings_8 : decode cX1_countMeetings 8 = .ok (.aload_n 0, 1) := by decide +kernel
theorem dX1_countMeetings_9 : decode cX1_countMeetings 9 = .ok (.getfield 9, 3) := by decide +kernel
theorem dX1_countMeetings_12 : decode cX1_countMeetings 12 = .ok (.if_icmp .gt 45, 3) := by decide +kernel
theorem dX1_countMeetings_15 : decode cX1_countMeetings 15 = .ok (.aload_n 0, 1) := by decide +kernel
theorem dX1_countMeetings_16 : decode cX1_countMeetings 16 = .ok (.iload 5, 2) := by decide +kernel
theorem dX1_countMeetings_18 : decode cX1_countMeetings 18 = .ok (.invokevirtual 15, 3) := by decide +kernel
theorem dX1_countMeetings_21 : decode cX1_countMeetings 21 = .ok (.i2l, 1) := by decide +kernel
theorem dX1_countMeetings_22 : decode cX1_countMeetings 22 = .ok (.lstore 6, 2) := by decide +kernel
theorem dX1_countMeetings_24 : decode cX1_countMeetings 24 = .ok (.aload_n 1, 1) := by decide +kernel
theorem dX1_countMeetings_25 : decode cX1_countMeetings 25 = .ok (.iload_n 3, 1) := by decide +kernel
theorem dX1_countMeetings_26 : decode cX1_countMeetings 26 = .ok (.ifCond .eq 11, 3) := by decide +kernel
theorem dX1_countMeetings_29 : decode cX1_countMeetings 29 = .ok (.lload 6, 2) := by decide +kernel
theorem dX1_countMeetings_31 : decode cX1_countMeetings 31 = .ok (.iload_n 2, 1) := by decide +kernel
theorem dX1_countMeetings_32 : decode cX1_countMeetings 32 = .ok (.i2l, 1) := by decide +kernel
theorem dX1_countMeetings_33 : decode cX1_countMeetings 33 = .ok (.lsub, 1) := by decide +kernel
theorem dX1_countMeetings_34 : decode cX1_countMeetings 34 = .ok (.goto 8, 3) := by decide +kernel
theorem dX1_countMeetings_37 : decode cX1_countMeetings 37 = .ok (.iload_n 2, 1) := by decide +kernel
theorem dX1_countMeetings_38 : decode cX1_countMeetings 38 = .ok (.i2l, 1) := by decide +kernel
theorem dX1_countMeetings_39 : decode cX1_countMeetings 39 = .ok (.lload 6, 2) := by decide +kernel
theorem dX1_countMeetings_41 : decode cX1_countMeetings 41 = .ok (.lsub, 1) := by decide +kernel
theorem dX1_countMeetings_42 : decode cX1_countMeetings 42 = .ok (.invokevirtual 19, 3) := by decide +kernel
theorem dX1_countMeetings_45 : decode cX1_countMeetings 45 = .ok (.ifCond .eq 6, 3) := by decide +kernel
theorem dX1_countMeetings_48 : decode cX1_countMeetings 48 = .ok (.iinc 4 1, 3) := by decide +kernel
theorem dX1_countMeetings_51 : decode cX1_countMeetings 51 = .ok (.iinc 5 1, 3) := by decide +kernel
theorem dX1_countMeetings_54 : decode cX1_countMeetings 54 = .ok (.goto (-48), 3) := by decide +kernel
theorem dX1_countMeetings_57 : decode cX1_countMeetings 57 = .ok (.iload 4, 2) := by decide +kernel
theorem dX1_countMeetings_59 : decode cX1_countMeetings 59 = .ok (.ireturn, 1) := by decide +kernel
theorem dX1_firstUnlikePlace_0 : decode cX1_firstUnlikePlace 0 = .ok (.iconst 1, 1) := by decide +kernel
theorem dX1_firstUnlikePlace_1 : decode cX1_firstUnlikePlace 1 = .ok (.istore_n 2, 1) := by decide +kernel
theorem dX1_firstUnlikePlace_2 : decode cX1_firstUnlikePlace 2 = .ok (.iload_n 2, 1) := by decide +kernel
theorem dX1_firstUnlikePlace_3 : decode cX1_firstUnlikePlace 3 = .ok (.aload_n 0, 1) := by decide +kernel
theorem dX1_firstUnlikePlace_4 : decode cX1_firstUnlikePlace 4 = .ok (.getfield 9, 3) := by decide +kernel
theorem dX1_firstUnlikePlace_7 : decode cX1_firstUnlikePlace 7 = .ok (.if_icmp .le 11, 3) := by decide +kernel
theorem dX1_firstUnlikePlace_10 : decode cX1_firstUnlikePlace 10 = .ok (.iload_n 2, 1) := by decide +kernel
theorem dX1_firstUnlikePlace_11 : decode cX1_firstUnlikePlace 11 = .ok (.aload_n 1, 1) := by decide +kernel
theorem dX1_firstUnlikePlace_12 : decode cX1_firstUnlikePlace 12 = .ok (.getfield 9, 3) := by decide +kernel
theorem dX1_firstUnlikePlace_15 : decode cX1_firstUnlikePlace 15 = .ok (.if_icmp .gt 24, 3) := by decide +kernel
theorem dX1_firstUnlikePlace_18 : decode cX1_firstUnlikePlace 18 = .ok (.aload_n 0, 1) := by decide +kernel
theorem dX1_firstUnlikePlace_19 : decode cX1_firstUnlikePlace 19 = .ok (.iload_n 2, 1) := by decide +kernel
theorem dX1_firstUnlikePlace_20 : decode cX1_firstUnlikePlace 20 = .ok (.invokevirtual 15, 3) := by decide +kernel
theorem dX1_firstUnlikePlace_23 : decode cX1_firstUnlikePlace 23 = .ok (.aload_n 1, 1) := by decide +kernel
theorem dX1_firstUnlikePlace_24 : decode cX1_firstUnlikePlace 24 = .ok (.iload_n 2, 1) := by decide +kernel
theorem dX1_firstUnlikePlace_25 : decode cX1_firstUnlikePlace 25 = .ok (.invokevirtual 15, 3) := by decide +kernel
theorem dX1_firstUnlikePlace_28 : decode cX1_firstUnlikePlace 28 = .ok (.if_icmp .eq 5, 3) := by decide +kernel
theorem dX1_firstUnlikePlace_31 : decode cX1_firstUnlikePlace 31 = .ok (.iload_n 2, 1) := by decide +kernel
theorem dX1_firstUnlikePlace_32 : decode cX1_firstUnlikePlace 32 = .ok (.ireturn, 1) := by decide +kernel
theorem dX1_firstUnlikePlace_33 : decode cX1_firstUnlikePlace 33 = .ok (.iinc 2 1, 3) := by decide +kernel
theorem dX1_firstUnlikePlace_36 : decode cX1_firstUnlikePlace 36 = .ok (.goto (-34), 3) := by decide +kernel
theorem dX1_firstUnlikePlace_39 : decode cX1_firstUnlikePlace 39 = .ok (.iconst (-1), 1) := by decide +kernel
theorem dX1_firstUnlikePlace_40 : decode cX1_firstUnlikePlace 40 = .ok (.ireturn, 1) := by decide +kernel
theorem dX1_countLikePlaces_0 : decode cX1_countLikePlaces 0 = .ok (.iconst 0, 1) := by decide +kernel
theorem dX1_countLikePlaces_1 : decode cX1_countLikePlaces 1 = .ok (.istore_n 2, 1) := by decide +kernel
theorem dX1_countLikePlaces_2 : decode cX1_countLikePlaces 2 = .ok (.iconst 1, 1) := by decide +kernel
theorem dX1_countLikePlaces_3 : decode cX1_countLikePlaces 3 = .ok (.istore_n 3, 1) := by decide +kernel
theorem dX1_countLikePlaces_4 : decode cX1_countLikePlaces 4 = .ok (.iload_n 3, 1) := by decide +kernel
theorem dX1_countLikePlaces_5 : decode cX1_countLikePlaces 5 = .ok (.aload_n 0, 1) := by decide +kernel
theorem dX1_countLikePlaces_6 : decode cX1_countLikePlaces 6 = .ok (.getfield 9, 3) := by decide +kernel
theorem dX1_countLikePlaces_9 : decode cX1_countLikePlaces 9 = .ok (.if_icmp .gt 33, 3) := by decide +kernel
theorem dX1_countLikePlaces_12 : decode cX1_countLikePlaces 12 = .ok (.iload_n 3, 1) := by decide +kernel
theorem dX1_countLikePlaces_13 : decode cX1_countLikePlaces 13 = .ok (.aload_n 1, 1) := by decide +kernel
theorem dX1_countLikePlaces_14 : decode cX1_countLikePlaces 14 = .ok (.getfield 9, 3) := by decide +kernel
theorem dX1_countLikePlaces_17 : decode cX1_countLikePlaces 17 = .ok (.if_icmp .gt 25, 3) := by decide +kernel
theorem dX1_countLikePlaces_20 : decode cX1_countLikePlaces 20 = .ok (.aload_n 0, 1) := by decide +kernel
theorem dX1_countLikePlaces_21 : decode cX1_countLikePlaces 21 = .ok (.iload_n 3, 1) := by decide +kernel
theorem dX1_countLikePlaces_22 : decode cX1_countLikePlaces 22 = .ok (.invokevirtual 15, 3) := by decide +kernel
theorem dX1_countLikePlaces_25 : decode cX1_countLikePlaces 25 = .ok (.aload_n 1, 1) := by decide +kernel
theorem dX1_countLikePlaces_26 : decode cX1_countLikePlaces 26 = .ok (.iload_n 3, 1) := by decide +kernel
theorem dX1_countLikePlaces_27 : decode cX1_countLikePlaces 27 = .ok (.invokevirtual 15, 3) := by decide +kernel
theorem dX1_countLikePlaces_30 : decode cX1_countLikePlaces 30 = .ok (.if_icmp .ne 6, 3) := by decide +kernel
theorem dX1_countLikePlaces_33 : decode cX1_countLikePlaces 33 = .ok (.iinc 2 1, 3) := by decide +kernel
theorem dX1_countLikePlaces_36 : decode cX1_countLikePlaces 36 = .ok (.iinc 3 1, 3) := by decide +kernel
theorem dX1_countLikePlaces_39 : decode cX1_countLikePlaces 39 = .ok (.goto (-35), 3) := by decide +kernel
theorem dX1_countLikePlaces_42 : decode cX1_countLikePlaces 42 = .ok (.iload_n 2, 1) := by decide +kernel
theorem dX1_countLikePlaces_43 : decode cX1_countLikePlaces 43 = .ok (.ireturn, 1) := by decide +kernel
theorem dX2_init_0 : decode cX2_init 0 = .ok (.aload_n 0, 1) := by decide +kernel
theorem dX2_init_1 : decode cX2_init 1 = .ok (.invokespecial 3, 3) := by decide +kernel
theorem dX2_init_4 : decode cX2_init 4 = .ok (.aload_n 0, 1) := by decide +kernel
theorem dX2_init_5 : decode cX2_init 5 = .ok (.bipush 10, 2) := by decide +kernel
theorem dX2_init_7 : decode cX2_init 7 = .ok (.newarray .int, 2) := by decide +kernel
theorem dX2_init_9 : decode cX2_init 9 = .ok (.putfield 9, 3) := by decide +kernel
theorem dX2_init_12 : decode cX2_init 12 = .ok (.return_, 1) := by decide +kernel
theorem dX2_takeOver_0 : decode cX2_takeOver 0 = .ok (.aload_n 0, 1) := by decide +kernel
theorem dX2_takeOver_1 : decode cX2_takeOver 1 = .ok (.aload_n 1, 1) := by decide +kernel
theorem dX2_takeOver_2 : decode cX2_takeOver 2 = .ok (.getfield 15, 3) := by decide +kernel
theorem dX2_takeOver_5 : decode cX2_takeOver 5 = .ok (.putfield 15, 3) := by decide +kernel
theorem dX2_takeOver_8 : decode cX2_takeOver 8 = .ok (.aload_n 1, 1) := by decide +kernel
theorem dX2_takeOver_9 : decode cX2_takeOver 9 = .ok (.getfield 9, 3) := by decide +kernel
theorem dX2_takeOver_12 : decode cX2_takeOver 12 = .ok (.aload_n 0, 1) := by decide +kernel
theorem dX2_takeOver_13 : decode cX2_takeOver 13 = .ok (.getfield 9, 3) := by decide +kernel
theorem dX2_takeOver_16 : decode cX2_takeOver 16 = .ok (.invokestatic 19, 3) := by decide +kernel
theorem dX2_takeOver_19 : decode cX2_takeOver 19 = .ok (.return_, 1) := by decide +kernel
theorem dX2_append_0 : decode cX2_append 0 = .ok (.aload_n 0, 1) := by decide +kernel
theorem dX2_append_1 : decode cX2_append 1 = .ok (.getfield 9, 3) := by decide +kernel
theorem dX2_append_4 : decode cX2_append 4 = .ok (.aload_n 0, 1) := by decide +kernel
theorem dX2_append_5 : decode cX2_append 5 = .ok (.getfield 15, 3) := by decide +kernel
theorem dX2_append_8 : decode cX2_append 8 = .ok (.iload_n 1, 1) := by decide +kernel
theorem dX2_append_9 : decode cX2_append 9 = .ok (.invokestatic 23, 3) := by decide +kernel
theorem dX2_append_12 : decode cX2_append 12 = .ok (.aload_n 0, 1) := by decide +kernel
theorem dX2_append_13 : decode cX2_append 13 = .ok (.dup, 1) := by decide +kernel
theorem dX2_append_14 : decode cX2_append 14 = .ok (.getfield 15, 3) := by decide +kernel
theorem dX2_append_17 : decode cX2_append 17 = .ok (.iconst 1, 1) := by decide +kernel
theorem dX2_append_18 : decode cX2_append 18 = .ok (.iadd, 1) := by decide +kernel
theorem dX2_append_19 : decode cX2_append 19 = .ok (.putfield 15, 3) := by decide +kernel
theorem dX2_append_22 : decode cX2_append 22 = .ok (.return_, 1) := by decide +kernel
theorem dX2_numberAt_0 : decode cX2_numberAt 0 = .ok (.iload_n 1, 1) := by decide +kernel
theorem dX2_numberAt_1 : decode cX2_numberAt 1 = .ok (.iconst 0, 1) := by decide +kernel
theorem dX2_numberAt_2 : decode cX2_numberAt 2 = .ok (.aload_n 0, 1) := by decide +kernel
theorem dX2_numberAt_3 : decode cX2_numberAt 3 = .ok (.getfield 15, 3) := by decide +kernel
theorem dX2_numberAt_6 : decode cX2_numberAt 6 = .ok (.iconst 1, 1) := by decide +kernel
theorem dX2_numberAt_7 : decode cX2_numberAt 7 = .ok (.isub, 1) := by decide +kernel
theorem dX2_numberAt_8 : decode cX2_numberAt 8 = .ok (.invokestatic 27, 3) := by decide +kernel
theorem dX2_numberAt_11 : decode cX2_numberAt 11 = .ok (.ifCond .eq 14, 3) := by decide +kernel
theorem dX2_numberAt_14 : decode cX2_numberAt 14 = .ok (.aload_n 0, 1) := by decide +kernel
theorem dX2_numberAt_15 : decode cX2_numberAt 15 = .ok (.getfield 9, 3) := by decide +kernel
theorem dX2_numberAt_18 : decode cX2_numberAt 18 = .ok (.iload_n 1, 1) := by decide +kernel
theorem dX2_numberAt_19 : decode cX2_numberAt 19 = .ok (.invokestatic 31, 3) := by decide +kernel
theorem dX2_numberAt_22 : decode cX2_numberAt 22 = .ok (.goto 4, 3) := by decide +kernel
theorem dX2_numberAt_25 : decode cX2_numberAt 25 = .ok (.iconst (-1), 1) := by decide +kernel
theorem dX2_numberAt_26 : decode cX2_numberAt 26 = .ok (.ireturn, 1) := by decide +kernel
theorem dX2_countIn_0 : decode cX2_countIn 0 = .ok (.iconst 0, 1) := by decide +kernel
theorem dX2_countIn_1 : decode cX2_countIn 1 = .ok (.istore_n 2, 1) := by decide +kernel
theorem dX2_countIn_2 : decode cX2_countIn 2 = .ok (.iconst 0, 1) := by decide +kernel
theorem dX2_countIn_3 : decode cX2_countIn 3 = .ok (.istore_n 3, 1) := by decide +kernel
theorem dX2_countIn_4 : decode cX2_countIn 4 = .ok (.iload_n 3, 1) := by decide +kernel
theorem dX2_countIn_5 : decode cX2_countIn 5 = .ok (.aload_n 0, 1) := by decide +kernel
theorem dX2_countIn_6 : decode cX2_countIn 6 = .ok (.getfield 15, 3) := by decide +kernel
theorem dX2_countIn_9 : decode cX2_countIn 9 = .ok (.if_icmp .ge 25, 3) := by decide +kernel
theorem dX2_countIn_12 : decode cX2_countIn 12 = .ok (.aload_n 1, 1) := by decide +kernel
theorem dX2_countIn_13 : decode cX2_countIn 13 = .ok (.aload_n 0, 1) := by decide +kernel
theorem dX2_countIn_14 : decode cX2_countIn 14 = .ok (.iload_n 3, 1) := by decide +kernel
theorem dX2_countIn_15 : decode cX2_countIn 15 = .ok (.invokevirtual 35, 3) := by decide +kernel
theorem dX2_countIn_18 : decode cX2_countIn 18 = .ok (.i2l, 1) := by decide +kernel
theorem dX2_countIn_19 : decode cX2_countIn 19 = .ok (.invokevirtual 39, 3) := by decide +kernel
theorem dX2_countIn_22 : decode cX2_countIn 22 = .ok (.ifCond .eq 6, 3) := by decide +kernel
theorem dX2_countIn_25 : decode cX2_countIn 25 = .ok (.iinc 2 1, 3) := by decide +kernel
theorem dX2_countIn_28 : decode cX2_countIn 28 = .ok (.iinc 3 1, 3) := by decide +kernel
theorem dX2_countIn_31 : decode cX2_countIn 31 = .ok (.goto (-27), 3) := by decide +kernel
theorem dX2_countIn_34 : decode cX2_countIn 34 = .ok (.iload_n 2, 1) := by decide +kernel
theorem dX2_countIn_35 : decode cX2_countIn 35 = .ok (.ireturn, 1) := by decide +kernel
theorem dX2_firstNotIn_0 : decode cX2_firstNotIn 0 = .ok (.iconst 0, 1) := by decide +kernel
theorem dX2_firstNotIn_1 : decode cX2_firstNotIn 1 = .ok (.istore_n 2, 1) := by decide +kernel
theorem dX2_firstNotIn_2 : decode cX2_firstNotIn 2 = .ok (.iload_n 2, 1) := by decide +kernel
theorem dX2_firstNotIn_3 : decode cX2_firstNotIn 3 = .ok (.aload_n 0, 1) := by decide +kernel
theorem dX2_firstNotIn_4 : decode cX2_firstNotIn 4 = .ok (.getfield 15, 3) := by decide +kernel
theorem dX2_firstNotIn_7 : decode cX2_firstNotIn 7 = .ok (.if_icmp .ge 28, 3) := by decide +kernel
theorem dX2_firstNotIn_10 : decode cX2_firstNotIn 10 = .ok (.aload_n 1, 1) := by decide +kernel
theorem dX2_firstNotIn_11 : decode cX2_firstNotIn 11 = .ok (.aload_n 0, 1) := by decide +kernel
theorem dX2_firstNotIn_12 : decode cX2_firstNotIn 12 = .ok (.iload_n 2, 1) := by decide +kernel
theorem dX2_firstNotIn_13 : decode cX2_firstNotIn 13 = .ok (.invokevirtual 35, 3) := by decide +kernel
theorem dX2_firstNotIn_16 : decode cX2_firstNotIn 16 = .ok (.i2l, 1) := by decide +kernel
theorem dX2_firstNotIn_17 : decode cX2_firstNotIn 17 = .ok (.invokevirtual 39, 3) := by decide +kernel
theorem dX2_firstNotIn_20 : decode cX2_firstNotIn 20 = .ok (.ifCond .ne 9, 3) := by decide +kernel
theorem dX2_firstNotIn_23 : decode cX2_firstNotIn 23 = .ok (.aload_n 0, 1) := by decide +kernel
theorem dX2_firstNotIn_24 : decode cX2_firstNotIn 24 = .ok (.iload_n 2, 1) := by decide +kernel
theorem dX2_firstNotIn_25 : decode cX2_firstNotIn 25 = .ok (.invokevirtual 35, 3) := by decide +kernel
theorem dX2_firstNotIn_28 : decode cX2_firstNotIn 28 = .ok (.ireturn, 1) := by decide +kernel
theorem dX2_firstNotIn_29 : decode cX2_firstNotIn 29 = .ok (.iinc 2 1, 3) := by decide +kernel
theorem dX2_firstNotIn_32 : decode cX2_firstNotIn 32 = .ok (.goto (-30), 3) := by decide +kernel
theorem dX2_firstNotIn_35 : decode cX2_firstNotIn 35 = .ok (.iconst (-1), 1) := by decide +kernel
theorem dX2_firstNotIn_36 : decode cX2_firstNotIn 36 = .ok (.ireturn, 1) := by decide +kernel
theorem dX2_standsTogetherIn_0 : decode cX2_standsTogetherIn 0 = .ok (.aload_n 1, 1) := by decide +kernel
theorem dX2_standsTogetherIn_1 : decode cX2_standsTogetherIn 1 = .ok (.aload_n 0, 1) := by decide +kernel
theorem dX2_standsTogetherIn_2 : decode cX2_standsTogetherIn 2 = .ok (.iconst 0, 1) := by decide +kernel
theorem dX2_standsTogetherIn_3 : decode cX2_standsTogetherIn 3 = .ok (.invokevirtual 35, 3) := by decide +kernel
theorem dX2_standsTogetherIn_6 : decode cX2_standsTogetherIn 6 = .ok (.invokevirtual 45, 3) := by decide +kernel
theorem dX2_standsTogetherIn_9 : decode cX2_standsTogetherIn 9 = .ok (.istore_n 2, 1) := by decide +kernel
theorem dX2_standsTogetherIn_10 : decode cX2_standsTogetherIn 10 = .ok (.iload_n 2, 1) := by decide +kernel
theorem dX2_standsTogetherIn_11 : decode cX2_standsTogetherIn 11 = .ok (.iconst (-1), 1) := by decide +kernel
theorem dX2_standsTogetherIn_12 : decode cX2_standsTogetherIn 12 = .ok (.if_icmp .ne 5, 3) := by decide +kernel
theorem dX2_standsTogetherIn_15 : decode cX2_standsTogetherIn 15 = .ok (.iconst 0, 1) := by decide +kernel
theorem dX2_standsTogetherIn_16 : decode cX2_standsTogetherIn 16 = .ok (.ireturn, 1) := by decide +kernel
theorem dX2_standsTogetherIn_17 : decode cX2_standsTogetherIn 17 = .ok (.iconst 1, 1) := by decide +kernel
theorem dX2_standsTogetherIn_18 : decode cX2_standsTogetherIn 18 = .ok (.istore_n 3, 1) := by decide +kernel
theorem dX2_standsTogetherIn_19 : decode cX2_standsTogetherIn 19 = .ok (.iload_n 3, 1) := by decide +kernel
theorem dX2_standsTogetherIn_20 : decode cX2_standsTogetherIn 20 = .ok (.aload_n 0, 1) := by decide +kernel
theorem dX2_standsTogetherIn_21 : decode cX2_standsTogetherIn 21 = .ok (.getfield 15, 3) := by decide +kernel
theorem dX2_standsTogetherIn_24 : decode cX2_standsTogetherIn 24 = .ok (.if_icmp .ge 26, 3) := by decide +kernel
theorem dX2_standsTogetherIn_27 : decode cX2_standsTogetherIn 27 = .ok (.aload_n 1, 1) := by decide +kernel
theorem dX2_standsTogetherIn_28 : decode cX2_standsTogetherIn 28 = .ok (.iload_n 2, 1) := by decide +kernel
theorem dX2_standsTogetherIn_29 : decode cX2_standsTogetherIn 29 = .ok (.iload_n 3, 1) := by decide +kernel
theorem dX2_standsTogetherIn_30 : decode cX2_standsTogetherIn 30 = .ok (.iadd, 1) := by decide +kernel
theorem dX2_standsTogetherIn_31 : decode cX2_standsTogetherIn 31 = .ok (.invokevirtual 48, 3) := by decide +kernel
theorem dX2_standsTogetherIn_34 : decode cX2_standsTogetherIn 34 = .ok (.aload_n 0, 1) := by decide +kernel
theorem dX2_standsTogetherIn_35 : decode cX2_standsTogetherIn 35 = .ok (.iload_n 3, 1) := by decide +kernel
theorem dX2_standsTogetherIn_36 : decode cX2_standsTogetherIn 36 = .ok (.invokevirtual 35, 3) := by decide +kernel
theorem dX2_standsTogetherIn_39 : decode cX2_standsTogetherIn 39 = .ok (.if_icmp .eq 5, 3) := by decide +kernel
theorem dX2_standsTogetherIn_42 : decode cX2_standsTogetherIn 42 = .ok (.iconst 0, 1) := by decide +kernel
theorem dX2_standsTogetherIn_43 : decode cX2_standsTogetherIn 43 = .ok (.ireturn, 1) := by decide +kernel
theorem dX2_standsTogetherIn_44 : decode cX2_standsTogetherIn 44 = .ok (.iinc 3 1, 3) := by decide +kernel
theorem dX2_standsTogetherIn_47 : decode cX2_standsTogetherIn 47 = .ok (.goto (-28), 3) := by decide +kernel
theorem dX2_standsTogetherIn_50 : decode cX2_standsTogetherIn 50 = .ok (.iconst 1, 1) := by decide +kernel
theorem dX2_standsTogetherIn_51 : decode cX2_standsTogetherIn 51 = .ok (.ireturn, 1) := by decide +kernel
theorem dX3_ofRound_0 : decode cX3_ofRound 0 = .ok (.iload_n 1, 1) := by decide +kernel
theorem dX3_ofRound_1 : decode cX3_ofRound 1 = .ok (.iconst 1, 1) := by decide +kernel
theorem dX3_ofRound_2 : decode cX3_ofRound 2 = .ok (.aload_n 0, 1) := by decide +kernel
theorem dX3_ofRound_3 : decode cX3_ofRound 3 = .ok (.getfield 9, 3) := by decide +kernel
theorem dX3_ofRound_6 : decode cX3_ofRound 6 = .ok (.invokestatic 15, 3) := by decide +kernel
theorem dX3_ofRound_9 : decode cX3_ofRound 9 = .ok (.ifCond .ne 5, 3) := by decide +kernel
theorem dX3_ofRound_12 : decode cX3_ofRound 12 = .ok (.iconst (-1), 1) := by decide +kernel
theorem dX3_ofRound_13 : decode cX3_ofRound 13 = .ok (.ireturn, 1) := by decide +kernel
theorem dX3_ofRound_14 : decode cX3_ofRound 14 = .ok (.aload_n 0, 1) := by decide +kernel
theorem dX3_ofRound_15 : decode cX3_ofRound 15 = .ok (.getfield 19, 3) := by decide +kernel
theorem dX3_ofRound_18 : decode cX3_ofRound 18 = .ok (.iload_n 1, 1) := by decide +kernel
theorem dX3_ofRound_19 : decode cX3_ofRound 19 = .ok (.invokestatic 23, 3) := by decide +kernel
theorem dX3_ofRound_22 : decode cX3_ofRound 22 = .ok (.istore_n 3, 1) := by decide +kernel
theorem dX3_ofRound_23 : decode cX3_ofRound 23 = .ok (.iload_n 2, 1) := by decide +kernel
theorem dX3_ofRound_24 : decode cX3_ofRound 24 = .ok (.tableswitch 57 0 2 #[28, 37, 51], 28) := by decide +kernel
theorem dX3_ofRound_52 : decode cX3_ofRound 52 = .ok (.aload_n 0, 1) := by decide +kernel
theorem dX3_ofRound_53 : decode cX3_ofRound 53 = .ok (.getfield 27, 3) := by decide +kernel
theorem dX3_ofRound_56 : decode cX3_ofRound 56 = .ok (.iload_n 1, 1) := by decide +kernel
theorem dX3_ofRound_57 : decode cX3_ofRound 57 = .ok (.invokestatic 23, 3) := by decide +kernel
theorem dX3_ofRound_60 : decode cX3_ofRound 60 = .ok (.ireturn, 1) := by decide +kernel
theorem dX3_ofRound_61 : decode cX3_ofRound 61 = .ok (.aload_n 0, 1) := by decide +kernel
theorem dX3_ofRound_62 : decode cX3_ofRound 62 = .ok (.iload_n 3, 1) := by decide +kernel
theorem dX3_ofRound_63 : decode cX3_ofRound 63 = .ok (.invokestatic 30, 3) := by decide +kernel
theorem dX3_ofRound_66 : decode cX3_ofRound 66 = .ok (.aload_n 0, 1) := by decide +kernel
theorem dX3_ofRound_67 : decode cX3_ofRound 67 = .ok (.iload_n 3, 1) := by decide +kernel
theorem dX3_ofRound_68 : decode cX3_ofRound 68 = .ok (.iconst 1, 1) := by decide +kernel
theorem dX3_ofRound_69 : decode cX3_ofRound 69 = .ok (.iadd, 1) := by decide +kernel
theorem dX3_ofRound_70 : decode cX3_ofRound 70 = .ok (.invokestatic 30, 3) := by decide +kernel
theorem dX3_ofRound_73 : decode cX3_ofRound 73 = .ok (.isub, 1) := by decide +kernel
theorem dX3_ofRound_74 : decode cX3_ofRound 74 = .ok (.ireturn, 1) := by decide +kernel
theorem dX3_ofRound_75 : decode cX3_ofRound 75 = .ok (.aload_n 0, 1) := by decide +kernel
theorem dX3_ofRound_76 : decode cX3_ofRound 76 = .ok (.iload_n 3, 1) := by decide +kernel
theorem dX3_ofRound_77 : decode cX3_ofRound 77 = .ok (.invokestatic 36, 3) := by decide +kernel
theorem dX3_ofRound_80 : decode cX3_ofRound 80 = .ok (.ireturn, 1) := by decide +kernel
theorem dX3_ofRound_81 : decode cX3_ofRound 81 = .ok (.aload_n 0, 1) := by decide +kernel
theorem dX3_ofRound_82 : decode cX3_ofRound 82 = .ok (.iload_n 3, 1) := by decide +kernel
theorem dX3_ofRound_83 : decode cX3_ofRound 83 = .ok (.iconst 1, 1) := by decide +kernel
theorem dX3_ofRound_84 : decode cX3_ofRound 84 = .ok (.iadd, 1) := by decide +kernel
theorem dX3_ofRound_85 : decode cX3_ofRound 85 = .ok (.invokestatic 30, 3) := by decide +kernel
theorem dX3_ofRound_88 : decode cX3_ofRound 88 = .ok (.ireturn, 1) := by decide +kernel
theorem dX3_ofStruck_0 : decode cX3_ofStruck 0 = .ok (.aload_n 0, 1) := by decide +kernel
theorem dX3_ofStruck_1 : decode cX3_ofStruck 1 = .ok (.iload_n 1, 1) := by decide +kernel
theorem dX3_ofStruck_2 : decode cX3_ofStruck 2 = .ok (.i2l, 1) := by decide +kernel
theorem dX3_ofStruck_3 : decode cX3_ofStruck 3 = .ok (.invokevirtual 39, 3) := by decide +kernel
theorem dX3_ofStruck_6 : decode cX3_ofStruck 6 = .ok (.istore_n 3, 1) := by decide +kernel
theorem dX3_ofStruck_7 : decode cX3_ofStruck 7 = .ok (.iload_n 3, 1) := by decide +kernel
theorem dX3_ofStruck_8 : decode cX3_ofStruck 8 = .ok (.iconst (-1), 1) := by decide +kernel
theorem dX3_ofStruck_9 : decode cX3_ofStruck 9 = .ok (.if_icmp .eq 11, 3) := by decide +kernel
theorem dX3_ofStruck_12 : decode cX3_ofStruck 12 = .ok (.aload_n 0, 1) := by decide +kernel
theorem dX3_ofStruck_13 : decode cX3_ofStruck 13 = .ok (.iload_n 3, 1) := by decide +kernel
theorem dX3_ofStruck_14 : decode cX3_ofStruck 14 = .ok (.invokevirtual 43, 3) := by decide +kernel
theorem dX3_ofStruck_17 : decode cX3_ofStruck 17 = .ok (.ifCond .eq 5, 3) := by decide +kernel
theorem dX3_ofStruck_20 : decode cX3_ofStruck 20 = .ok (.iconst (-1), 1) := by decide +kernel
theorem dX3_ofStruck_21 : decode cX3_ofStruck 21 = .ok (.ireturn, 1) := by decide +kernel
theorem dX3_ofStruck_22 : decode cX3_ofStruck 22 = .ok (.aload_n 0, 1) := by decide +kernel
theorem dX3_ofStruck_23 : decode cX3_ofStruck 23 = .ok (.getfield 47, 3) := by decide +kernel
theorem dX3_ofStruck_26 : decode cX3_ofStruck 26 = .ok (.iload_n 3, 1) := by decide +kernel
theorem dX3_ofStruck_27 : decode cX3_ofStruck 27 = .ok (.invokestatic 23, 3) := by decide +kernel
theorem dX3_ofStruck_30 : decode cX3_ofStruck 30 = .ok (.istore 4, 2) := by decide +kernel
theorem dX3_ofStruck_32 : decode cX3_ofStruck 32 = .ok (.iload_n 2, 1) := by decide +kernel
theorem dX3_ofStruck_33 : decode cX3_ofStruck 33 = .ok (.ifCond .ne 12, 3) := by decide +kernel
theorem dX3_ofStruck_36 : decode cX3_ofStruck 36 = .ok (.aload_n 0, 1) := by decide +kernel
theorem dX3_ofStruck_37 : decode cX3_ofStruck 37 = .ok (.iload 4, 2) := by decide +kernel
theorem dX3_ofStruck_39 : decode cX3_ofStruck 39 = .ok (.invokestatic 50, 3) := by decide +kernel
theorem dX3_ofStruck_42 : decode cX3_ofStruck 42 = .ok (.goto 10, 3) := by decide +kernel
theorem dX3_ofStruck_45 : decode cX3_ofStruck 45 = .ok (.aload_n 0, 1) := by decide +kernel
theorem dX3_ofStruck_46 : decode cX3_ofStruck 46 = .ok (.iload_n 3, 1) := by decide +kernel
theorem dX3_ofStruck_47 : decode cX3_ofStruck 47 = .ok (.iload 4, 2) := by decide +kernel
theorem dX3_ofStruck_49 : decode cX3_ofStruck 49 = .ok (.invokestatic 53, 3) := by decide +kernel
theorem dX3_ofStruck_52 : decode cX3_ofStruck 52 = .ok (.ireturn, 1) := by decide +kernel
theorem dX3_ledBack_0 : decode cX3_ledBack 0 = .ok (.iload_n 1, 1) := by decide +kernel
theorem dX3_ledBack_1 : decode cX3_ledBack 1 = .ok (.iload_n 2, 1) := by decide +kernel
theorem dX3_ledBack_2 : decode cX3_ledBack 2 = .ok (.if_icmp .gt 15, 3) := by decide +kernel
theorem dX3_ledBack_5 : decode cX3_ledBack 5 = .ok (.iload_n 2, 1) := by decide +kernel
theorem dX3_ledBack_6 : decode cX3_ledBack 6 = .ok (.iconst 1, 1) := by decide +kernel
theorem dX3_ledBack_7 : decode cX3_ledBack 7 = .ok (.aload_n 0, 1) := by decide +kernel
theorem dX3_ledBack_8 : decode cX3_ledBack 8 = .ok (.getfield 9, 3) := by decide +kernel
theorem dX3_ledBack_11 : decode cX3_ledBack 11 = .ok (.invokestatic 15, 3) := by decide +kernel
theorem dX3_ledBack_14 : decode cX3_ledBack 14 = .ok (.ifCond .ne 5, 3) := by decide +kernel
theorem dX3_ledBack_17 : decode cX3_ledBack 17 = .ok (.iconst (-1), 1) := by decide +kernel
theorem dX3_ledBack_18 : decode cX3_ledBack 18 = .ok (.ireturn, 1) := by decide +kernel
theorem dX3_ledBack_19 : decode cX3_ledBack 19 = .ok (.aload_n 0, 1) := by decide +kernel
theorem dX3_ledBack_20 : decode cX3_ledBack 20 = .ok (.iload_n 3, 1) := by decide +kernel
theorem dX3_ledBack_21 : decode cX3_ledBack 21 = .ok (.aload_n 0, 1) := by decide +kernel
theorem dX3_ledBack_22 : decode cX3_ledBack 22 = .ok (.getfield 19, 3) := by decide +kernel
theorem dX3_ledBack_25 : decode cX3_ledBack 25 = .ok (.iload_n 2, 1) := by decide +kernel
theorem dX3_ledBack_26 : decode cX3_ledBack 26 = .ok (.invokestatic 23, 3) := by decide +kernel
theorem dX3_ledBack_29 : decode cX3_ledBack 29 = .ok (.iconst 1, 1) := by decide +kernel
theorem dX3_ledBack_30 : decode cX3_ledBack 30 = .ok (.iadd, 1) := by decide +kernel
theorem dX3_ledBack_31 : decode cX3_ledBack 31 = .ok (.invokestatic 57, 3) := by decide +kernel
theorem dX3_ledBack_34 : decode cX3_ledBack 34 = .ok (.istore 4, 2) := by decide +kernel
theorem dX3_ledBack_36 : decode cX3_ledBack 36 = .ok (.iload 4, 2) := by decide +kernel
theorem dX3_ledBack_38 : decode cX3_ledBack 38 = .ok (.iconst (-1), 1) := by decide +kernel
theorem dX3_ledBack_39 : decode cX3_ledBack 39 = .ok (.if_icmp .ne 5, 3) := by decide +kernel
theorem dX3_ledBack_42 : decode cX3_ledBack 42 = .ok (.iconst (-1), 1) := by decide +kernel
theorem dX3_ledBack_43 : decode cX3_ledBack 43 = .ok (.ireturn, 1) := by decide +kernel
theorem dX3_ledBack_44 : decode cX3_ledBack 44 = .ok (.aload_n 0, 1) := by decide +kernel
theorem dX3_ledBack_45 : decode cX3_ledBack 45 = .ok (.iload 4, 2) := by decide +kernel
theorem dX3_ledBack_47 : decode cX3_ledBack 47 = .ok (.aload_n 0, 1) := by decide +kernel
theorem dX3_ledBack_48 : decode cX3_ledBack 48 = .ok (.getfield 19, 3) := by decide +kernel
theorem dX3_ledBack_51 : decode cX3_ledBack 51 = .ok (.iload_n 1, 1) := by decide +kernel
theorem dX3_ledBack_52 : decode cX3_ledBack 52 = .ok (.invokestatic 23, 3) := by decide +kernel
theorem dX3_ledBack_55 : decode cX3_ledBack 55 = .ok (.invokestatic 53, 3) := by decide +kernel
theorem dX3_ledBack_58 : decode cX3_ledBack 58 = .ok (.ireturn, 1) := by decide +kernel
theorem dX3_ledOn_0 : decode cX3_ledOn 0 = .ok (.iload_n 1, 1) := by decide +kernel
theorem dX3_ledOn_1 : decode cX3_ledOn 1 = .ok (.iconst 1, 1) := by decide +kernel
theorem dX3_ledOn_2 : decode cX3_ledOn 2 = .ok (.aload_n 0, 1) := by decide +kernel
theorem dX3_ledOn_3 : decode cX3_ledOn 3 = .ok (.getfield 9, 3) := by decide +kernel
theorem dX3_ledOn_6 : decode cX3_ledOn 6 = .ok (.invokestatic 15, 3) := by decide +kernel
theorem dX3_ledOn_9 : decode cX3_ledOn 9 = .ok (.ifCond .ne 5, 3) := by decide +kernel
theorem dX3_ledOn_12 : decode cX3_ledOn 12 = .ok (.iconst (-1), 1) := by decide +kernel
theorem dX3_ledOn_13 : decode cX3_ledOn 13 = .ok (.ireturn, 1) := by decide +kernel
theorem dX3_ledOn_14 : decode cX3_ledOn 14 = .ok (.aload_n 0, 1) := by decide +kernel
theorem dX3_ledOn_15 : decode cX3_ledOn 15 = .ok (.getfield 19, 3) := by decide +kernel
theorem dX3_ledOn_18 : decode cX3_ledOn 18 = .ok (.iload_n 1, 1) := by decide +kernel
theorem dX3_ledOn_19 : decode cX3_ledOn 19 = .ok (.invokestatic 23, 3) := by decide +kernel
theorem dX3_ledOn_22 : decode cX3_ledOn 22 = .ok (.istore_n 3, 1) := by decide +kernel
theorem dX3_ledOn_23 : decode cX3_ledOn 23 = .ok (.aload_n 0, 1) := by decide +kernel
theorem dX3_ledOn_24 : decode cX3_ledOn 24 = .ok (.iload_n 2, 1) := by decide +kernel
theorem dX3_ledOn_25 : decode cX3_ledOn 25 = .ok (.iload_n 3, 1) := by decide +kernel
theorem dX3_ledOn_26 : decode cX3_ledOn 26 = .ok (.invokestatic 57, 3) := by decide +kernel
theorem dX3_ledOn_29 : decode cX3_ledOn 29 = .ok (.istore 4, 2) := by decide +kernel
theorem dX3_ledOn_31 : decode cX3_ledOn 31 = .ok (.iload 4, 2) := by decide +kernel
theorem dX3_ledOn_33 : decode cX3_ledOn 33 = .ok (.iconst (-1), 1) := by decide +kernel
theorem dX3_ledOn_34 : decode cX3_ledOn 34 = .ok (.if_icmp .eq 16, 3) := by decide +kernel
theorem dX3_ledOn_37 : decode cX3_ledOn 37 = .ok (.aload_n 0, 1) := by decide +kernel
theorem dX3_ledOn_38 : decode cX3_ledOn 38 = .ok (.getfield 47, 3) := by decide +kernel
theorem dX3_ledOn_41 : decode cX3_ledOn 41 = .ok (.iload 4, 2) := by decide +kernel
theorem dX3_ledOn_43 : decode cX3_ledOn 43 = .ok (.invokestatic 23, 3) := by decide +kernel
theorem dX3_ledOn_46 : decode cX3_ledOn 46 = .ok (.iload_n 3, 1) := by decide +kernel
theorem dX3_ledOn_47 : decode cX3_ledOn 47 = .ok (.if_icmp .ne 5, 3) := by decide +kernel
theorem dX3_ledOn_50 : decode cX3_ledOn 50 = .ok (.iconst (-1), 1) := by decide +kernel
theorem dX3_ledOn_51 : decode cX3_ledOn 51 = .ok (.ireturn, 1) := by decide +kernel
theorem dX3_ledOn_52 : decode cX3_ledOn 52 = .ok (.aload_n 0, 1) := by decide +kernel
theorem dX3_ledOn_53 : decode cX3_ledOn 53 = .ok (.iload 4, 2) := by decide +kernel
theorem dX3_ledOn_55 : decode cX3_ledOn 55 = .ok (.iload_n 3, 1) := by decide +kernel
theorem dX3_ledOn_56 : decode cX3_ledOn 56 = .ok (.iconst 1, 1) := by decide +kernel
theorem dX3_ledOn_57 : decode cX3_ledOn 57 = .ok (.iadd, 1) := by decide +kernel
theorem dX3_ledOn_58 : decode cX3_ledOn 58 = .ok (.invokestatic 53, 3) := by decide +kernel
theorem dX3_ledOn_61 : decode cX3_ledOn 61 = .ok (.ireturn, 1) := by decide +kernel
theorem dX3_isTouchedBetweenRounds_0 : decode cX3_isTouchedBetweenRounds 0 = .ok (.aload_n 0, 1) := by decide +kernel
theorem dX3_isTouchedBetweenRounds_1 : decode cX3_isTouchedBetweenRounds 1 = .ok (.getfield 9, 3) := by decide +kernel
theorem dX3_isTouchedBetweenRounds_4 : decode cX3_isTouchedBetweenRounds 4 = .ok (.iconst 2, 1) := by decide +kernel
theorem dX3_isTouchedBetweenRounds_5 : decode cX3_isTouchedBetweenRounds 5 = .ok (.if_icmp .ge 5, 3) := by decide +kernel
theorem dX3_isTouchedBetweenRounds_8 : decode cX3_isTouchedBetweenRounds 8 = .ok (.iconst 0, 1) := by decide +kernel
theorem dX3_isTouchedBetweenRounds_9 : decode cX3_isTouchedBetweenRounds 9 = .ok (.ireturn, 1) := by decide +kernel
theorem dX3_isTouchedBetweenRounds_10 : decode cX3_isTouchedBetweenRounds 10 = .ok (.aload_n 0, 1) := by decide +kernel
theorem dX3_isTouchedBetweenRounds_11 : decode cX3_isTouchedBetweenRounds 11 = .ok (.getfield 19, 3) := by decide +kernel
theorem dX3_isTouchedBetweenRounds_14 : decode cX3_isTouchedBetweenRounds 14 = .ok (.iconst 1, 1) := by decide +kernel
theorem dX3_isTouchedBetweenRounds_15 : decode cX3_isTouchedBetweenRounds 15 = .ok (.invokestatic 23, 3) := by decide +kernel
theorem dX3_isTouchedBetweenRounds_18 : decode cX3_isTouchedBetweenRounds 18 = .ok (.istore_n 1, 1) := by decide +kernel
theorem dX3_isTouchedBetweenRounds_19 : decode cX3_isTouchedBetweenRounds 19 = .ok (.aload_n 0, 1) := by decide +kernel
theorem dX3_isTouchedBetweenRounds_20 : decode cX3_isTouchedBetweenRounds 20 = .ok (.getfield 19, 3) := by decide +kernel
theorem dX3_isTouchedBetweenRounds_23 : decode cX3_isTouchedBetweenRounds 23 = .ok (.aload_n 0, 1) := by decide +kernel
theorem dX3_isTouchedBetweenRounds_24 : decode cX3_isTouchedBetweenRounds 24 = .ok (.getfield 9, 3) := by decide +kernel
theorem dX3_isTouchedBetweenRounds_27 : decode cX3_isTouchedBetweenRounds 27 = .ok (.invokestatic 23, 3) := by decide +kernel
theorem dX3_isTouchedBetweenRounds_30 : decode cX3_isTouchedBetweenRounds 30 = .ok (.istore_n 2, 1) := by decide +kernel
theorem dX3_isTouchedBetweenRounds_31 : decode cX3_isTouchedBetweenRounds 31 = .ok (.iload_n 2, 1) := by decide +kernel
theorem dX3_isTouchedBetweenRounds_32 : decode cX3_isTouchedBetweenRounds 32 = .ok (.iload_n 1, 1) := by decide +kernel
theorem dX3_isTouchedBetweenRounds_33 : decode cX3_isTouchedBetweenRounds 33 = .ok (.isub, 1) := by decide +kernel
theorem dX3_isTouchedBetweenRounds_34 : decode cX3_isTouchedBetweenRounds 34 = .ok (.aload_n 0, 1) := by decide +kernel
theorem dX3_isTouchedBetweenRounds_35 : decode cX3_isTouchedBetweenRounds 35 = .ok (.getfield 9, 3) := by decide +kernel
theorem dX3_isTouchedBetweenRounds_38 : decode cX3_isTouchedBetweenRounds 38 = .ok (.iconst 1, 1) := by decide +kernel
theorem dX3_isTouchedBetweenRounds_39 : decode cX3_isTouchedBetweenRounds 39 = .ok (.isub, 1) := by decide +kernel
theorem dX3_isTouchedBetweenRounds_40 : decode cX3_isTouchedBetweenRounds 40 = .ok (.if_icmp .eq 7, 3) := by decide +kernel
theorem dX3_isTouchedBetweenRounds_43 : decode cX3_isTouchedBetweenRounds 43 = .ok (.iconst 1, 1) := by decide +kernel
theorem dX3_isTouchedBetweenRounds_44 : decode cX3_isTouchedBetweenRounds 44 = .ok (.goto 4, 3) := by decide +kernel
theorem dX3_isTouchedBetweenRounds_47 : decode cX3_isTouchedBetweenRounds 47 = .ok (.iconst 0, 1) := by decide +kernel
theorem dX3_isTouchedBetweenRounds_48 : decode cX3_isTouchedBetweenRounds 48 = .ok (.ireturn, 1) := by decide +kernel
theorem dX3_struckNumber_0 : decode cX3_struckNumber 0 = .ok (.iconst 0, 1) := by decide +kernel
theorem dX3_struckNumber_1 : decode cX3_struckNumber 1 = .ok (.istore_n 2, 1) := by decide +kernel
theorem dX3_struckNumber_2 : decode cX3_struckNumber 2 = .ok (.iconst 0, 1) := by decide +kernel
theorem dX3_struckNumber_3 : decode cX3_struckNumber 3 = .ok (.istore_n 3, 1) := by decide +kernel
theorem dX3_struckNumber_4 : decode cX3_struckNumber 4 = .ok (.iload_n 3, 1) := by decide +kernel
theorem dX3_struckNumber_5 : decode cX3_struckNumber 5 = .ok (.aload_n 0, 1) := by decide +kernel
theorem dX3_struckNumber_6 : decode cX3_struckNumber 6 = .ok (.getfield 60, 3) := by decide +kernel
theorem dX3_struckNumber_9 : decode cX3_struckNumber 9 = .ok (.if_icmp .ge 34, 3) := by decide +kernel
theorem dX3_struckNumber_12 : decode cX3_struckNumber 12 = .ok (.aload_n 0, 1) := by decide +kernel
theorem dX3_struckNumber_13 : decode cX3_struckNumber 13 = .ok (.iload_n 3, 1) := by decide +kernel
theorem dX3_struckNumber_14 : decode cX3_struckNumber 14 = .ok (.invokevirtual 43, 3) := by decide +kernel
theorem dX3_struckNumber_17 : decode cX3_struckNumber 17 = .ok (.ifCond .eq 6, 3) := by decide +kernel
theorem dX3_struckNumber_20 : decode cX3_struckNumber 20 = .ok (.goto 17, 3) := by decide +kernel
theorem dX3_struckNumber_23 : decode cX3_struckNumber 23 = .ok (.iload_n 2, 1) := by decide +kernel
theorem dX3_struckNumber_24 : decode cX3_struckNumber 24 = .ok (.iload_n 1, 1) := by decide +kernel
theorem dX3_struckNumber_25 : decode cX3_struckNumber 25 = .ok (.if_icmp .ne 9, 3) := by decide +kernel
theorem dX3_struckNumber_28 : decode cX3_struckNumber 28 = .ok (.aload_n 0, 1) := by decide +kernel
theorem dX3_struckNumber_29 : decode cX3_struckNumber 29 = .ok (.iload_n 3, 1) := by decide +kernel
theorem dX3_struckNumber_30 : decode cX3_struckNumber 30 = .ok (.invokevirtual 63, 3) := by decide +kernel
theorem dX3_struckNumber_33 : decode cX3_struckNumber 33 = .ok (.ireturn, 1) := by decide +kernel
theorem dX3_struckNumber_34 : decode cX3_struckNumber 34 = .ok (.iinc 2 1, 3) := by decide +kernel
theorem dX3_struckNumber_37 : decode cX3_struckNumber 37 = .ok (.iinc 3 1, 3) := by decide +kernel
theorem dX3_struckNumber_40 : decode cX3_struckNumber 40 = .ok (.goto (-36), 3) := by decide +kernel
theorem dX3_struckNumber_43 : decode cX3_struckNumber 43 = .ok (.iconst (-1), 1) := by decide +kernel
theorem dX3_struckNumber_44 : decode cX3_struckNumber 44 = .ok (.ireturn, 1) := by decide +kernel
theorem dX3_countFrom_0 : decode cX3_countFrom 0 = .ok (.aload_n 0, 1) := by decide +kernel
theorem dX3_countFrom_1 : decode cX3_countFrom 1 = .ok (.aload_n 0, 1) := by decide +kernel
theorem dX3_countFrom_2 : decode cX3_countFrom 2 = .ok (.getfield 60, 3) := by decide +kernel
theorem dX3_countFrom_5 : decode cX3_countFrom 5 = .ok (.iconst 1, 1) := by decide +kernel
theorem dX3_countFrom_6 : decode cX3_countFrom 6 = .ok (.isub, 1) := by decide +kernel
theorem dX3_countFrom_7 : decode cX3_countFrom 7 = .ok (.iload_n 1, 1) := by decide +kernel
theorem dX3_countFrom_8 : decode cX3_countFrom 8 = .ok (.invokestatic 53, 3) := by decide +kernel
theorem dX3_countFrom_11 : decode cX3_countFrom 11 = .ok (.ireturn, 1) := by decide +kernel
theorem dX3_firstStruckBy_0 : decode cX3_firstStruckBy 0 = .ok (.iconst 0, 1) := by decide +kernel
theorem dX3_firstStruckBy_1 : decode cX3_firstStruckBy 1 = .ok (.istore_n 2, 1) := by decide +kernel
theorem dX3_firstStruckBy_2 : decode cX3_firstStruckBy 2 = .ok (.iload_n 2, 1) := by decide +kernel
theorem dX3_firstStruckBy_3 : decode cX3_firstStruckBy 3 = .ok (.aload_n 0, 1) := by decide +kernel
theorem dX3_firstStruckBy_4 : decode cX3_firstStruckBy 4 = .ok (.getfield 60, 3) := by decide +kernel
theorem dX3_firstStruckBy_7 : decode cX3_firstStruckBy 7 = .ok (.if_icmp .ge 27, 3) := by decide +kernel
theorem dX3_firstStruckBy_10 : decode cX3_firstStruckBy 10 = .ok (.aload_n 0, 1) := by decide +kernel
theorem dX3_firstStruckBy_11 : decode cX3_firstStruckBy 11 = .ok (.getfield 47, 3) := by decide +kernel
theorem dX3_firstStruckBy_14 : decode cX3_firstStruckBy 14 = .ok (.iload_n 2, 1) := by decide +kernel
theorem dX3_firstStruckBy_15 : decode cX3_firstStruckBy 15 = .ok (.invokestatic 23, 3) := by decide +kernel
theorem dX3_firstStruckBy_18 : decode cX3_firstStruckBy 18 = .ok (.iload_n 1, 1) := by decide +kernel
theorem dX3_firstStruckBy_19 : decode cX3_firstStruckBy 19 = .ok (.if_icmp .ne 9, 3) := by decide +kernel
theorem dX3_firstStruckBy_22 : decode cX3_firstStruckBy 22 = .ok (.aload_n 0, 1) := by decide +kernel
theorem dX3_firstStruckBy_23 : decode cX3_firstStruckBy 23 = .ok (.iload_n 2, 1) := by decide +kernel
theorem dX3_firstStruckBy_24 : decode cX3_firstStruckBy 24 = .ok (.invokevirtual 63, 3) := by decide +kernel
theorem dX3_firstStruckBy_27 : decode cX3_firstStruckBy 27 = .ok (.ireturn, 1) := by decide +kernel
theorem dX3_firstStruckBy_28 : decode cX3_firstStruckBy 28 = .ok (.iinc 2 1, 3) := by decide +kernel
theorem dX3_firstStruckBy_31 : decode cX3_firstStruckBy 31 = .ok (.goto (-29), 3) := by decide +kernel
theorem dX3_firstStruckBy_34 : decode cX3_firstStruckBy 34 = .ok (.iconst (-1), 1) := by decide +kernel
theorem dX3_firstStruckBy_35 : decode cX3_firstStruckBy 35 = .ok (.ireturn, 1) := by decide +kernel
theorem dX3_roundOfEvent_0 : decode cX3_roundOfEvent 0 = .ok (.iconst 1, 1) := by decide +kernel
theorem dX3_roundOfEvent_1 : decode cX3_roundOfEvent 1 = .ok (.istore_n 2, 1) := by decide +kernel
theorem dX3_roundOfEvent_2 : decode cX3_roundOfEvent 2 = .ok (.iload_n 2, 1) := by decide +kernel
theorem dX3_roundOfEvent_3 : decode cX3_roundOfEvent 3 = .ok (.aload_n 0, 1) := by decide +kernel
theorem dX3_roundOfEvent_4 : decode cX3_roundOfEvent 4 = .ok (.getfield 9, 3) := by decide +kernel
theorem dX3_roundOfEvent_7 : decode cX3_roundOfEvent 7 = .ok (.if_icmp .gt 23, 3) := by decide +kernel
theorem dX3_roundOfEvent_10 : decode cX3_roundOfEvent 10 = .ok (.aload_n 0, 1) := by decide +kernel
theorem dX3_roundOfEvent_11 : decode cX3_roundOfEvent 11 = .ok (.getfield 19, 3) := by decide +kernel
theorem dX3_roundOfEvent_14 : decode cX3_roundOfEvent 14 = .ok (.iload_n 2, 1) := by decide +kernel
theorem dX3_roundOfEvent_15 : decode cX3_roundOfEvent 15 = .ok (.invokestatic 23, 3) := by decide +kernel
theorem dX3_roundOfEvent_18 : decode cX3_roundOfEvent 18 = .ok (.iload_n 1, 1) := by decide +kernel
theorem dX3_roundOfEvent_19 : decode cX3_roundOfEvent 19 = .ok (.if_icmp .ne 5, 3) := by decide +kernel
theorem dX3_roundOfEvent_22 : decode cX3_roundOfEvent 22 = .ok (.iload_n 2, 1) := by decide +kernel
theorem dX3_roundOfEvent_23 : decode cX3_roundOfEvent 23 = .ok (.ireturn, 1) := by decide +kernel
theorem dX3_roundOfEvent_24 : decode cX3_roundOfEvent 24 = .ok (.iinc 2 1, 3) := by decide +kernel
theorem dX3_roundOfEvent_27 : decode cX3_roundOfEvent 27 = .ok (.goto (-25), 3) := by decide +kernel
theorem dX3_roundOfEvent_30 : decode cX3_roundOfEvent 30 = .ok (.iconst 0, 1) := by decide +kernel
theorem dX3_roundOfEvent_31 : decode cX3_roundOfEvent 31 = .ok (.ireturn, 1) := by decide +kernel
theorem dX3_placeAhead_0 : decode cX3_placeAhead 0 = .ok (.iconst 0, 1) := by decide +kernel
theorem dX3_placeAhead_1 : decode cX3_placeAhead 1 = .ok (.istore_n 3, 1) := by decide +kernel
theorem dX3_placeAhead_2 : decode cX3_placeAhead 2 = .ok (.iconst 0, 1) := by decide +kernel
theorem dX3_placeAhead_3 : decode cX3_placeAhead 3 = .ok (.istore 4, 2) := by decide +kernel
theorem dX3_placeAhead_5 : decode cX3_placeAhead 5 = .ok (.iload 4, 2) := by decide +kernel
theorem dX3_placeAhead_7 : decode cX3_placeAhead 7 = .ok (.iload_n 1, 1) := by decide +kernel
theorem dX3_placeAhead_8 : decode cX3_placeAhead 8 = .ok (.if_icmp .gt 25, 3) := by decide +kernel
theorem dX3_placeAhead_11 : decode cX3_placeAhead 11 = .ok (.aload_n 0, 1) := by decide +kernel
theorem dX3_placeAhead_12 : decode cX3_placeAhead 12 = .ok (.getfield 47, 3) := by decide +kernel
theorem dX3_placeAhead_15 : decode cX3_placeAhead 15 = .ok (.iload 4, 2) := by decide +kernel
theorem dX3_placeAhead_17 : decode cX3_placeAhead 17 = .ok (.invokestatic 23, 3) := by decide +kernel
theorem dX3_placeAhead_20 : decode cX3_placeAhead 20 = .ok (.iload_n 2, 1) := by decide +kernel
theorem dX3_placeAhead_21 : decode cX3_placeAhead 21 = .ok (.if_icmp .lt 6, 3) := by decide +kernel
theorem dX3_placeAhead_24 : decode cX3_placeAhead 24 = .ok (.iinc 3 1, 3) := by decide +kernel
theorem dX3_placeAhead_27 : decode cX3_placeAhead 27 = .ok (.iinc 4 1, 3) := by decide +kernel
theorem dX3_placeAhead_30 : decode cX3_placeAhead 30 = .ok (.goto (-25), 3) := by decide +kernel
theorem dX3_placeAhead_33 : decode cX3_placeAhead 33 = .ok (.iload_n 3, 1) := by decide +kernel
theorem dX3_placeAhead_34 : decode cX3_placeAhead 34 = .ok (.ireturn, 1) := by decide +kernel
theorem dX3_indexAhead_0 : decode cX3_indexAhead 0 = .ok (.iconst 0, 1) := by decide +kernel
theorem dX3_indexAhead_1 : decode cX3_indexAhead 1 = .ok (.istore_n 3, 1) := by decide +kernel
theorem dX3_indexAhead_2 : decode cX3_indexAhead 2 = .ok (.iconst 0, 1) := by decide +kernel
theorem dX3_indexAhead_3 : decode cX3_indexAhead 3 = .ok (.istore 4, 2) := by decide +kernel
theorem dX3_indexAhead_5 : decode cX3_indexAhead 5 = .ok (.iload 4, 2) := by decide +kernel
theorem dX3_indexAhead_7 : decode cX3_indexAhead 7 = .ok (.aload_n 0, 1) := by decide +kernel
theorem dX3_indexAhead_8 : decode cX3_indexAhead 8 = .ok (.getfield 60, 3) := by decide +kernel
theorem dX3_indexAhead_11 : decode cX3_indexAhead 11 = .ok (.if_icmp .ge 33, 3) := by decide +kernel
theorem dX3_indexAhead_14 : decode cX3_indexAhead 14 = .ok (.aload_n 0, 1) := by decide +kernel
theorem dX3_indexAhead_15 : decode cX3_indexAhead 15 = .ok (.getfield 47, 3) := by decide +kernel
theorem dX3_indexAhead_18 : decode cX3_indexAhead 18 = .ok (.iload 4, 2) := by decide +kernel
theorem dX3_indexAhead_20 : decode cX3_indexAhead 20 = .ok (.invokestatic 23, 3) := by decide +kernel
theorem dX3_indexAhead_23 : decode cX3_indexAhead 23 = .ok (.iload_n 2, 1) := by decide +kernel
theorem dX3_indexAhead_24 : decode cX3_indexAhead 24 = .ok (.if_icmp .lt 6, 3) := by decide +kernel
theorem dX3_indexAhead_27 : decode cX3_indexAhead 27 = .ok (.iinc 3 1, 3) := by decide +kernel
theorem dX3_indexAhead_30 : decode cX3_indexAhead 30 = .ok (.iload_n 3, 1) := by decide +kernel
theorem dX3_indexAhead_31 : decode cX3_indexAhead 31 = .ok (.iload_n 1, 1) := by decide +kernel
theorem dX3_indexAhead_32 : decode cX3_indexAhead 32 = .ok (.if_icmp .ne 6, 3) := by decide +kernel
theorem dX3_indexAhead_35 : decode cX3_indexAhead 35 = .ok (.iload 4, 2) := by decide +kernel
theorem dX3_indexAhead_37 : decode cX3_indexAhead 37 = .ok (.ireturn, 1) := by decide +kernel
theorem dX3_indexAhead_38 : decode cX3_indexAhead 38 = .ok (.iinc 4 1, 3) := by decide +kernel
theorem dX3_indexAhead_41 : decode cX3_indexAhead 41 = .ok (.goto (-36), 3) := by decide +kernel
theorem dX3_indexAhead_44 : decode cX3_indexAhead 44 = .ok (.iconst (-1), 1) := by decide +kernel
theorem dX3_indexAhead_45 : decode cX3_indexAhead 45 = .ok (.ireturn, 1) := by decide +kernel
theorem dX4_init_0 : decode cX4_init 0 = .ok (.aload_n 0, 1) := by decide +kernel
theorem dX4_init_1 : decode cX4_init 1 = .ok (.invokespecial 3, 3) := by decide +kernel
theorem dX4_init_4 : decode cX4_init 4 = .ok (.aload_n 0, 1) := by decide +kernel
theorem dX4_init_5 : decode cX4_init 5 = .ok (.sipush 3600, 3) := by decide +kernel
theorem dX4_init_8 : decode cX4_init 8 = .ok (.newarray .int, 2) := by decide +kernel
theorem dX4_init_10 : decode cX4_init 10 = .ok (.putfield 9, 3) := by decide +kernel
theorem dX4_init_13 : decode cX4_init 13 = .ok (.return_, 1) := by decide +kernel
theorem dX4_write_0 : decode cX4_write 0 = .ok (.aload_n 0, 1) := by decide +kernel
theorem dX4_write_1 : decode cX4_write 1 = .ok (.iconst 0, 1) := by decide +kernel
theorem dX4_write_2 : decode cX4_write 2 = .ok (.putfield 15, 3) := by decide +kernel
theorem dX4_write_5 : decode cX4_write 5 = .ok (.iconst 0, 1) := by decide +kernel
theorem dX4_write_6 : decode cX4_write 6 = .ok (.istore_n 2, 1) := by decide +kernel
theorem dX4_write_7 : decode cX4_write 7 = .ok (.iconst 1, 1) := by decide +kernel
theorem dX4_write_8 : decode cX4_write 8 = .ok (.istore_n 3, 1) := by decide +kernel
theorem dX4_write_9 : decode cX4_write 9 = .ok (.iload_n 3, 1) := by decide +kernel
theorem dX4_write_10 : decode cX4_write 10 = .ok (.aload_n 1, 1) := by decide +kernel
theorem dX4_write_11 : decode cX4_write 11 = .ok (.getfield 19, 3) := by decide +kernel
theorem dX4_write_14 : decode cX4_write 14 = .ok (.if_icmp .gt 74, 3) := by decide +kernel
theorem dX4_write_17 : decode cX4_write 17 = .ok (.iload_n 3, 1) := by decide +kernel
theorem dX4_write_18 : decode cX4_write 18 = .ok (.iload_n 2, 1) := by decide +kernel
theorem dX4_write_19 : decode cX4_write 19 = .ok (.if_icmp .gt 6, 3) := by decide +kernel
theorem dX4_write_22 : decode cX4_write 22 = .ok (.goto 60, 3) := by decide +kernel
theorem dX4_write_25 : decode cX4_write 25 = .ok (.iload_n 3, 1) := by decide +kernel
theorem dX4_write_26 : decode cX4_write 26 = .ok (.iconst 1, 1) := by decide +kernel
theorem dX4_write_27 : decode cX4_write 27 = .ok (.if_icmp .le 9, 3) := by decide +kernel
theorem dX4_write_30 : decode cX4_write 30 = .ok (.aload_n 0, 1) := by decide +kernel
theorem dX4_write_31 : decode cX4_write 31 = .ok (.bipush 32, 2) := by decide +kernel
theorem dX4_write_33 : decode cX4_write 33 = .ok (.invokevirtual 24, 3) := by decide +kernel
theorem dX4_write_36 : decode cX4_write 36 = .ok (.aload_n 0, 1) := by decide +kernel
theorem dX4_write_37 : decode cX4_write 37 = .ok (.aload_n 1, 1) := by decide +kernel
theorem dX4_write_38 : decode cX4_write 38 = .ok (.iload_n 3, 1) := by decide +kernel
theorem dX4_write_39 : decode cX4_write 39 = .ok (.invokevirtual 28, 3) := by decide +kernel
theorem dX4_write_42 : decode cX4_write 42 = .ok (.invokevirtual 32, 3) := by decide +kernel
theorem dX4_write_45 : decode cX4_write 45 = .ok (.aload_n 1, 1) := by decide +kernel
theorem dX4_write_46 : decode cX4_write 46 = .ok (.iload_n 3, 1) := by decide +kernel
theorem dX4_write_47 : decode cX4_write 47 = .ok (.invokestatic 35, 3) := by decide +kernel
theorem dX4_write_50 : decode cX4_write 50 = .ok (.istore 4, 2) := by decide +kernel
theorem dX4_write_52 : decode cX4_write 52 = .ok (.iload 4, 2) := by decide +kernel
theorem dX4_write_54 : decode cX4_write 54 = .ok (.iload_n 3, 1) := by decide +kernel
theorem dX4_write_55 : decode cX4_write 55 = .ok (.isub, 1) := by decide +kernel
theorem dX4_write_56 : decode cX4_write 56 = .ok (.iconst 2, 1) := by decide +kernel
theorem dX4_write_57 : decode cX4_write 57 = .ok (.if_icmp .ge 6, 3) := by decide +kernel
theorem dX4_write_60 : decode cX4_write 60 = .ok (.goto 22, 3) := by decide +kernel
theorem dX4_write_63 : decode cX4_write 63 = .ok (.aload_n 0, 1) := by decide +kernel
theorem dX4_write_64 : decode cX4_write 64 = .ok (.bipush 45, 2) := by decide +kernel
theorem dX4_write_66 : decode cX4_write 66 = .ok (.invokevirtual 24, 3) := by decide +kernel
theorem dX4_write_69 : decode cX4_write 69 = .ok (.aload_n 0, 1) := by decide +kernel
theorem dX4_write_70 : decode cX4_write 70 = .ok (.aload_n 1, 1) := by decide +kernel
theorem dX4_write_71 : decode cX4_write 71 = .ok (.iload 4, 2) := by decide +kernel
theorem dX4_write_73 : decode cX4_write 73 = .ok (.invokevirtual 28, 3) := by decide +kernel
theorem dX4_write_76 : decode cX4_write 76 = .ok (.invokevirtual 32, 3) := by decide +kernel
theorem dX4_write_79 : decode cX4_write 79 = .ok (.iload 4, 2) := by decide +kernel
theorem dX4_write_81 : decode cX4_write 81 = .ok (.istore_n 2, 1) := by decide +kernel
theorem dX4_write_82 : decode cX4_write 82 = .ok (.iinc 3 1, 3) := by decide +kernel
theorem dX4_write_85 : decode cX4_write 85 = .ok (.goto (-76), 3) := by decide +kernel
theorem dX4_write_88 : decode cX4_write 88 = .ok (.return_, 1) := by decide +kernel
theorem dX4_append_0 : decode cX4_append 0 = .ok (.aload_n 0, 1) := by decide +kernel
theorem dX4_append_1 : decode cX4_append 1 = .ok (.getfield 9, 3) := by decide +kernel
theorem dX4_append_4 : decode cX4_append 4 = .ok (.aload_n 0, 1) := by decide +kernel
theorem dX4_append_5 : decode cX4_append 5 = .ok (.getfield 15, 3) := by decide +kernel
theorem dX4_append_8 : decode cX4_append 8 = .ok (.iload_n 1, 1) := by decide +kernel
theorem dX4_append_9 : decode cX4_append 9 = .ok (.invokestatic 41, 3) := by decide +kernel
theorem dX4_append_12 : decode cX4_append 12 = .ok (.aload_n 0, 1) := by decide +kernel
theorem dX4_append_13 : decode cX4_append 13 = .ok (.dup, 1) := by decide +kernel
theorem dX4_append_14 : decode cX4_append 14 = .ok (.getfield 15, 3) := by decide +kernel
theorem dX4_append_17 : decode cX4_append 17 = .ok (.iconst 1, 1) := by decide +kernel
theorem dX4_append_18 : decode cX4_append 18 = .ok (.iadd, 1) := by decide +kernel
theorem dX4_append_19 : decode cX4_append 19 = .ok (.putfield 15, 3) := by decide +kernel
theorem dX4_append_22 : decode cX4_append 22 = .ok (.return_, 1) := by decide +kernel
theorem dX4_appendNumber_0 : decode cX4_appendNumber 0 = .ok (.ldc 45, 2) := by decide +kernel
theorem dX4_appendNumber_2 : decode cX4_appendNumber 2 = .ok (.istore_n 2, 1) := by decide +kernel
theorem dX4_appendNumber_3 : decode cX4_appendNumber 3 = .ok (.iload_n 2, 1) := by decide +kernel
theorem dX4_appendNumber_4 : decode cX4_appendNumber 4 = .ok (.ifCond .le 34, 3) := by decide +kernel
theorem dX4_appendNumber_7 : decode cX4_appendNumber 7 = .ok (.iload_n 1, 1) := by decide +kernel
theorem dX4_appendNumber_8 : decode cX4_appendNumber 8 = .ok (.iload_n 2, 1) := by decide +kernel
theorem dX4_appendNumber_9 : decode cX4_appendNumber 9 = .ok (.if_icmp .ge 8, 3) := by decide +kernel
theorem dX4_appendNumber_12 : decode cX4_appendNumber 12 = .ok (.iload_n 2, 1) := by decide +kernel
theorem dX4_appendNumber_13 : decode cX4_appendNumber 13 = .ok (.iconst 1, 1) := by decide +kernel
theorem dX4_appendNumber_14 : decode cX4_appendNumber 14 = .ok (.if_icmp .ne 16, 3) := by decide +kernel
theorem dX4_appendNumber_17 : decode cX4_appendNumber 17 = .ok (.aload_n 0, 1) := by decide +kernel
theorem dX4_appendNumber_18 : decode cX4_appendNumber 18 = .ok (.bipush 48, 2) := by decide +kernel
theorem dX4_appendNumber_20 : decode cX4_appendNumber 20 = .ok (.iload_n 1, 1) := by decide +kernel
theorem dX4_appendNumber_21 : decode cX4_appendNumber 21 = .ok (.iload_n 2, 1) := by decide +kernel
theorem dX4_appendNumber_22 : decode cX4_appendNumber 22 = .ok (.idiv, 1) := by decide +kernel
theorem dX4_appendNumber_23 : decode cX4_appendNumber 23 = .ok (.bipush 10, 2) := by decide +kernel
theorem dX4_appendNumber_25 : decode cX4_appendNumber 25 = .ok (.irem, 1) := by decide +kernel
theorem dX4_appendNumber_26 : decode cX4_appendNumber 26 = .ok (.iadd, 1) := by decide +kernel
theorem dX4_appendNumber_27 : decode cX4_appendNumber 27 = .ok (.invokevirtual 24, 3) := by decide +kernel
theorem dX4_appendNumber_30 : decode cX4_appendNumber 30 = .ok (.iload_n 2, 1) := by decide +kernel
theorem dX4_appendNumber_31 : decode cX4_appendNumber 31 = .ok (.bipush 10, 2) := by decide +kernel
theorem dX4_appendNumber_33 : decode cX4_appendNumber 33 = .ok (.idiv, 1) := by decide +kernel
theorem dX4_appendNumber_34 : decode cX4_appendNumber 34 = .ok (.istore_n 2, 1) := by decide +kernel
theorem dX4_appendNumber_35 : decode cX4_appendNumber 35 = .ok (.goto (-32), 3) := by decide +kernel
theorem dX4_appendNumber_38 : decode cX4_appendNumber 38 = .ok (.return_, 1) := by decide +kernel
theorem dX5_init_0 : decode cX5_init 0 = .ok (.aload_n 0, 1) := by decide +kernel
theorem dX5_init_1 : decode cX5_init 1 = .ok (.invokespecial 3, 3) := by decide +kernel
theorem dX5_init_4 : decode cX5_init 4 = .ok (.aload_n 0, 1) := by decide +kernel
theorem dX5_init_5 : decode cX5_init 5 = .ok (.sipush 600, 3) := by decide +kernel
theorem dX5_init_8 : decode cX5_init 8 = .ok (.newarray .int, 2) := by decide +kernel
theorem dX5_init_10 : decode cX5_init 10 = .ok (.putfield 9, 3) := by decide +kernel
theorem dX5_init_13 : decode cX5_init 13 = .ok (.aload_n 0, 1) := by decide +kernel
theorem dX5_init_14 : decode cX5_init 14 = .ok (.iconst (-1), 1) := by decide +kernel
theorem dX5_init_15 : decode cX5_init 15 = .ok (.putfield 15, 3) := by decide +kernel
theorem dX5_init_18 : decode cX5_init 18 = .ok (.aload_n 0, 1) := by decide +kernel
theorem dX5_init_19 : decode cX5_init 19 = .ok (.iconst (-1), 1) := by decide +kernel
theorem dX5_init_20 : decode cX5_init 20 = .ok (.putfield 19, 3) := by decide +kernel
theorem dX5_init_23 : decode cX5_init 23 = .ok (.aload_n 0, 1) := by decide +kernel
theorem dX5_init_24 : decode cX5_init 24 = .ok (.iconst 4, 1) := by decide +kernel
theorem dX5_init_25 : decode cX5_init 25 = .ok (.anewarray 22, 3) := by decide +kernel
theorem dX5_init_28 : decode cX5_init 28 = .ok (.putfield 24, 3) := by decide +kernel
theorem dX5_init_31 : decode cX5_init 31 = .ok (.aload_n 0, 1) := by decide +kernel
theorem dX5_init_32 : decode cX5_init 32 = .ok (.iconst 3, 1) := by decide +kernel
theorem dX5_init_33 : decode cX5_init 33 = .ok (.anewarray 28, 3) := by decide +kernel
theorem dX5_init_36 : decode cX5_init 36 = .ok (.putfield 30, 3) := by decide +kernel
theorem dX5_init_39 : decode cX5_init 39 = .ok (.aload_n 0, 1) := by decide +kernel
theorem dX5_init_40 : decode cX5_init 40 = .ok (.bipush 7, 2) := by decide +kernel
theorem dX5_init_42 : decode cX5_init 42 = .ok (.newarray .int, 2) := by decide +kernel
theorem dX5_init_44 : decode cX5_init 44 = .ok (.putfield 34, 3) := by decide +kernel
theorem dX5_init_47 : decode cX5_init 47 = .ok (.aload_n 0, 1) := by decide +kernel
theorem dX5_init_48 : decode cX5_init 48 = .ok (.bipush 7, 2) := by decide +kernel
theorem dX5_init_50 : decode cX5_init 50 = .ok (.newarray .int, 2) := by decide +kernel
theorem dX5_init_52 : decode cX5_init 52 = .ok (.putfield 37, 3) := by decide +kernel
theorem dX5_init_55 : decode cX5_init 55 = .ok (.iconst 0, 1) := by decide +kernel
theorem dX5_init_56 : decode cX5_init 56 = .ok (.istore_n 1, 1) := by decide +kernel
theorem dX5_init_57 : decode cX5_init 57 = .ok (.iload_n 1, 1) := by decide +kernel
theorem dX5_init_58 : decode cX5_init 58 = .ok (.aload_n 0, 1) := by decide +kernel
theorem dX5_init_59 : decode cX5_init 59 = .ok (.getfield 24, 3) := by decide +kernel
theorem dX5_init_62 : decode cX5_init 62 = .ok (.arraylength, 1) := by decide +kernel
theorem dX5_init_63 : decode cX5_init 63 = .ok (.if_icmp .ge 22, 3) := by decide +kernel
theorem dX5_init_66 : decode cX5_init 66 = .ok (.aload_n 0, 1) := by decide +kernel
theorem dX5_init_67 : decode cX5_init 67 = .ok (.getfield 24, 3) := by decide +kernel
theorem dX5_init_70 : decode cX5_init 70 = .ok (.iload_n 1, 1) := by decide +kernel
theorem dX5_init_71 : decode cX5_init 71 = .ok (.new 22, 3) := by decide +kernel
theorem dX5_init_74 : decode cX5_init 74 = .ok (.dup, 1) := by decide +kernel
theorem dX5_init_75 : decode cX5_init 75 = .ok (.invokespecial 40, 3) := by decide +kernel
theorem dX5_init_78 : decode cX5_init 78 = .ok (.aastore, 1) := by decide +kernel
theorem dX5_init_79 : decode cX5_init 79 = .ok (.iinc 1 1, 3) := by decide +kernel
theorem dX5_init_82 : decode cX5_init 82 = .ok (.goto (-25), 3) := by decide +kernel
theorem dX5_init_85 : decode cX5_init 85 = .ok (.iconst 0, 1) := by decide +kernel
theorem dX5_init_86 : decode cX5_init 86 = .ok (.istore_n 1, 1) := by decide +kernel
theorem dX5_init_87 : decode cX5_init 87 = .ok (.iload_n 1, 1) := by decide +kernel
theorem dX5_init_88 : decode cX5_init 88 = .ok (.aload_n 0, 1) := by decide +kernel
theorem dX5_init_89 : decode cX5_init 89 = .ok (.getfield 30, 3) := by decide +kernel
theorem dX5_init_92 : decode cX5_init 92 = .ok (.arraylength, 1) := by decide +kernel
theorem dX5_init_93 : decode cX5_init 93 = .ok (.if_icmp .ge 22, 3) := by decide +kernel
theorem dX5_init_96 : decode cX5_init 96 = .ok (.aload_n 0, 1) := by decide +kernel
theorem dX5_init_97 : decode cX5_init 97 = .ok (.getfield 30, 3) := by decide +kernel
theorem dX5_init_100 : decode cX5_init 100 = .ok (.iload_n 1, 1) := by decide +kernel
theorem dX5_init_101 : decode cX5_init 101 = .ok (.new 28, 3) := by decide +kernel
theorem dX5_init_104 : decode cX5_init 104 = .ok (.dup, 1) := by decide +kernel
theorem dX5_init_105 : decode cX5_init 105 = .ok (.invokespecial 41, 3) := by decide +kernel
theorem dX5_init_108 : decode cX5_init 108 = .ok (.aastore, 1) := by decide +kernel
theorem dX5_init_109 : decode cX5_init 109 = .ok (.iinc 1 1, 3) := by decide +kernel
theorem dX5_init_112 : decode cX5_init 112 = .ok (.goto (-25), 3) := by decide +kernel
theorem dX5_init_115 : decode cX5_init 115 = .ok (.return_, 1) := by decide +kernel
theorem dX5_sieveAt_0 : decode cX5_sieveAt 0 = .ok (.iload_n 1, 1) := by decide +kernel
theorem dX5_sieveAt_1 : decode cX5_sieveAt 1 = .ok (.iconst 0, 1) := by decide +kernel
theorem dX5_sieveAt_2 : decode cX5_sieveAt 2 = .ok (.aload_n 0, 1) := by decide +kernel
theorem dX5_sieveAt_3 : decode cX5_sieveAt 3 = .ok (.getfield 24, 3) := by decide +kernel
theorem dX5_sieveAt_6 : decode cX5_sieveAt 6 = .ok (.arraylength, 1) := by decide +kernel
theorem dX5_sieveAt_7 : decode cX5_sieveAt 7 = .ok (.iconst 1, 1) := by decide +kernel
theorem dX5_sieveAt_8 : decode cX5_sieveAt 8 = .ok (.isub, 1) := by decide +kernel
theorem dX5_sieveAt_9 : decode cX5_sieveAt 9 = .ok (.invokestatic 42, 3) := by decide +kernel
theorem dX5_sieveAt_12 : decode cX5_sieveAt 12 = .ok (.ifCond .eq 12, 3) := by decide +kernel
theorem dX5_sieveAt_15 : decode cX5_sieveAt 15 = .ok (.aload_n 0, 1) := by decide +kernel
theorem dX5_sieveAt_16 : decode cX5_sieveAt 16 = .ok (.getfield 24, 3) := by decide +kernel
theorem dX5_sieveAt_19 : decode cX5_sieveAt 19 = .ok (.iload_n 1, 1) := by decide +kernel
theorem dX5_sieveAt_20 : decode cX5_sieveAt 20 = .ok (.aaload, 1) := by decide +kernel
theorem dX5_sieveAt_21 : decode cX5_sieveAt 21 = .ok (.goto 4, 3) := by decide +kernel
theorem dX5_sieveAt_24 : decode cX5_sieveAt 24 = .ok (.aconst_null, 1) := by decide +kernel
theorem dX5_sieveAt_25 : decode cX5_sieveAt 25 = .ok (.areturn, 1) := by decide +kernel
theorem dX5_listAt_0 : decode cX5_listAt 0 = .ok (.iload_n 1, 1) := by decide +kernel
theorem dX5_listAt_1 : decode cX5_listAt 1 = .ok (.iconst 0, 1) := by decide +kernel
theorem dX5_listAt_2 : decode cX5_listAt 2 = .ok (.aload_n 0, 1) := by decide +kernel
theorem dX5_listAt_3 : decode cX5_listAt 3 = .ok (.getfield 30, 3) := by decide +kernel
theorem dX5_listAt_6 : decode cX5_listAt 6 = .ok (.arraylength, 1) := by decide +kernel
theorem dX5_listAt_7 : decode cX5_listAt 7 = .ok (.iconst 1, 1) := by decide +kernel
theorem dX5_listAt_8 : decode cX5_listAt 8 = .ok (.isub, 1) := by decide +kernel
theorem dX5_listAt_9 : decode cX5_listAt 9 = .ok (.invokestatic 42, 3) := by decide +kernel
theorem dX5_listAt_12 : decode cX5_listAt 12 = .ok (.ifCond .eq 12, 3) := by decide +kernel
theorem dX5_listAt_15 : decode cX5_listAt 15 = .ok (.aload_n 0, 1) := by decide +kernel
theorem dX5_listAt_16 : decode cX5_listAt 16 = .ok (.getfield 30, 3) := by decide +kernel
theorem dX5_listAt_19 : decode cX5_listAt 19 = .ok (.iload_n 1, 1) := by decide +kernel
theorem dX5_listAt_20 : decode cX5_listAt 20 = .ok (.aaload, 1) := by decide +kernel
theorem dX5_listAt_21 : decode cX5_listAt 21 = .ok (.goto 4, 3) := by decide +kernel
theorem dX5_listAt_24 : decode cX5_listAt 24 = .ok (.aconst_null, 1) := by decide +kernel
theorem dX5_listAt_25 : decode cX5_listAt 25 = .ok (.areturn, 1) := by decide +kernel
theorem dX5_append_0 : decode cX5_append 0 = .ok (.aload_n 0, 1) := by decide +kernel
theorem dX5_append_1 : decode cX5_append 1 = .ok (.getfield 46, 3) := by decide +kernel
theorem dX5_append_4 : decode cX5_append 4 = .ok (.bipush 20, 2) := by decide +kernel
theorem dX5_append_6 : decode cX5_append 6 = .ok (.iadd, 1) := by decide +kernel
theorem dX5_append_7 : decode cX5_append 7 = .ok (.sipush 600, 3) := by decide +kernel
theorem dX5_append_10 : decode cX5_append 10 = .ok (.if_icmp .le 5, 3) := by decide +kernel
theorem dX5_append_13 : decode cX5_append 13 = .ok (.iconst (-1), 1) := by decide +kernel
theorem dX5_append_14 : decode cX5_append 14 = .ok (.ireturn, 1) := by decide +kernel
theorem dX5_append_15 : decode cX5_append 15 = .ok (.aload_n 0, 1) := by decide +kernel
theorem dX5_append_16 : decode cX5_append 16 = .ok (.iload_n 1, 1) := by decide +kernel
theorem dX5_append_17 : decode cX5_append 17 = .ok (.invokevirtual 49, 3) := by decide +kernel
theorem dX5_append_20 : decode cX5_append 20 = .ok (.aload_n 0, 1) := by decide +kernel
theorem dX5_append_21 : decode cX5_append 21 = .ok (.iload_n 2, 1) := by decide +kernel
theorem dX5_append_22 : decode cX5_append 22 = .ok (.invokevirtual 49, 3) := by decide +kernel
theorem dX5_append_25 : decode cX5_append 25 = .ok (.aload_n 0, 1) := by decide +kernel
theorem dX5_append_26 : decode cX5_append 26 = .ok (.iload_n 3, 1) := by decide +kernel
theorem dX5_append_27 : decode cX5_append 27 = .ok (.invokevirtual 49, 3) := by decide +kernel
theorem dX5_append_30 : decode cX5_append 30 = .ok (.aload_n 0, 1) := by decide +kernel
theorem dX5_append_31 : decode cX5_append 31 = .ok (.iload 4, 2) := by decide +kernel
theorem dX5_append_33 : decode cX5_append 33 = .ok (.invokevirtual 49, 3) := by decide +kernel
theorem dX5_append_36 : decode cX5_append 36 = .ok (.aload_n 0, 1) := by decide +kernel
theorem dX5_append_37 : decode cX5_append 37 = .ok (.iload 5, 2) := by decide +kernel
theorem dX5_append_39 : decode cX5_append 39 = .ok (.invokevirtual 49, 3) := by decide +kernel
theorem dX5_append_42 : decode cX5_append 42 = .ok (.aload_n 0, 1) := by decide +kernel
theorem dX5_append_43 : decode cX5_append 43 = .ok (.getfield 46, 3) := by decide +kernel
theorem dX5_append_46 : decode cX5_append 46 = .ok (.ireturn, 1) := by decide +kernel
theorem dX5_appendInt_0 : decode cX5_appendInt 0 = .ok (.bipush 24, 2) := by decide +kernel
theorem dX5_appendInt_2 : decode cX5_appendInt 2 = .ok (.istore_n 2, 1) := by decide +kernel
theorem dX5_appendInt_3 : decode cX5_appendInt 3 = .ok (.iload_n 2, 1) := by decide +kernel
theorem dX5_appendInt_4 : decode cX5_appendInt 4 = .ok (.ifCond .lt 37, 3) := by decide +kernel
theorem dX5_appendInt_7 : decode cX5_appendInt 7 = .ok (.aload_n 0, 1) := by decide +kernel
theorem dX5_appendInt_8 : decode cX5_appendInt 8 = .ok (.getfield 9, 3) := by decide +kernel
theorem dX5_appendInt_11 : decode cX5_appendInt 11 = .ok (.aload_n 0, 1) := by decide +kernel
theorem dX5_appendInt_12 : decode cX5_appendInt 12 = .ok (.getfield 46, 3) := by decide +kernel
theorem dX5_appendInt_15 : decode cX5_appendInt 15 = .ok (.iload_n 1, 1) := by decide +kernel
theorem dX5_appendInt_16 : decode cX5_appendInt 16 = .ok (.iload_n 2, 1) := by decide +kernel
theorem dX5_appendInt_17 : decode cX5_appendInt 17 = .ok (.iushr, 1) := by decide +kernel
theorem dX5_appendInt_18 : decode cX5_appendInt 18 = .ok (.sipush 255, 3) := by decide +kernel
theorem dX5_appendInt_21 : decode cX5_appendInt 21 = .ok (.iand, 1) := by decide +kernel
theorem dX5_appendInt_22 : decode cX5_appendInt 22 = .ok (.invokestatic 53, 3) := by decide +kernel
theorem dX5_appendInt_25 : decode cX5_appendInt 25 = .ok (.aload_n 0, 1) := by decide +kernel
theorem dX5_appendInt_26 : decode cX5_appendInt 26 = .ok (.dup, 1) := by decide +kernel
theorem dX5_appendInt_27 : decode cX5_appendInt 27 = .ok (.getfield 46, 3) := by decide +kernel
theorem dX5_appendInt_30 : decode cX5_appendInt 30 = .ok (.iconst 1, 1) := by decide +kernel
theorem dX5_appendInt_31 : decode cX5_appendInt 31 = .ok (.iadd, 1) := by decide +kernel
theorem dX5_appendInt_32 : decode cX5_appendInt 32 = .ok (.putfield 46, 3) := by decide +kernel
theorem dX5_appendInt_35 : decode cX5_appendInt 35 = .ok (.iinc 2 (-8), 3) := by decide +kernel
theorem dX5_appendInt_38 : decode cX5_appendInt 38 = .ok (.goto (-35), 3) := by decide +kernel
theorem dX5_appendInt_41 : decode cX5_appendInt 41 = .ok (.return_, 1) := by decide +kernel
theorem dX5_readText_0 : decode cX5_readText 0 = .ok (.aload_n 0, 1) := by decide +kernel
theorem dX5_readText_1 : decode cX5_readText 1 = .ok (.iload_n 1, 1) := by decide +kernel
theorem dX5_readText_2 : decode cX5_readText 2 = .ok (.putfield 57, 3) := by decide +kernel
theorem dX5_readText_5 : decode cX5_readText 5 = .ok (.aload_n 0, 1) := by decide +kernel
theorem dX5_readText_6 : decode cX5_readText 6 = .ok (.iconst 0, 1) := by decide +kernel
theorem dX5_readText_7 : decode cX5_readText 7 = .ok (.putfield 46, 3) := by decide +kernel
theorem dX5_readText_10 : decode cX5_readText 10 = .ok (.aload_n 0, 1) := by decide +kernel
theorem dX5_readText_11 : decode cX5_readText 11 = .ok (.iconst 0, 1) := by decide +kernel
theorem dX5_readText_12 : decode cX5_readText 12 = .ok (.putfield 15, 3) := by decide +kernel
theorem dX5_readText_15 : decode cX5_readText 15 = .ok (.aload_n 0, 1) := by decide +kernel
theorem dX5_readText_16 : decode cX5_readText 16 = .ok (.iconst (-1), 1) := by decide +kernel
theorem dX5_readText_17 : decode cX5_readText 17 = .ok (.putfield 19, 3) := by decide +kernel
theorem dX5_readText_20 : decode cX5_readText 20 = .ok (.aload_n 0, 1) := by decide +kernel
theorem dX5_readText_21 : decode cX5_readText 21 = .ok (.iconst 0, 1) := by decide +kernel
theorem dX5_readText_22 : decode cX5_readText 22 = .ok (.putfield 60, 3) := by decide +kernel
theorem dX5_readText_25 : decode cX5_readText 25 = .ok (.aload_n 0, 1) := by decide +kernel
theorem dX5_readText_26 : decode cX5_readText 26 = .ok (.iconst 0, 1) := by decide +kernel
theorem dX5_readText_27 : decode cX5_readText 27 = .ok (.putfield 63, 3) := by decide +kernel
theorem dX5_readText_30 : decode cX5_readText 30 = .ok (.aload_n 0, 1) := by decide +kernel
theorem dX5_readText_31 : decode cX5_readText 31 = .ok (.iconst 0, 1) := by decide +kernel
theorem dX5_readText_32 : decode cX5_readText 32 = .ok (.putfield 66, 3) := by decide +kernel
theorem dX5_readText_35 : decode cX5_readText 35 = .ok (.aload_n 0, 1) := by decide +kernel
theorem dX5_readText_36 : decode cX5_readText 36 = .ok (.invokevirtual 69, 3) := by decide +kernel
theorem dX5_readText_39 : decode cX5_readText 39 = .ok (.iconst 0, 1) := by decide +kernel
theorem dX5_readText_40 : decode cX5_readText 40 = .ok (.istore_n 2, 1) := by decide +kernel
theorem dX5_readText_41 : decode cX5_readText 41 = .ok (.iload_n 2, 1) := by decide +kernel
theorem dX5_readText_42 : decode cX5_readText 42 = .ok (.aload_n 0, 1) := by decide +kernel
theorem dX5_readText_43 : decode cX5_readText 43 = .ok (.getfield 57, 3) := by decide +kernel
theorem dX5_readText_46 : decode cX5_readText 46 = .ok (.if_icmp .gt 58, 3) := by decide +kernel
theorem dX5_readText_49 : decode cX5_readText 49 = .ok (.aload_n 0, 1) := by decide +kernel
theorem dX5_readText_50 : decode cX5_readText 50 = .ok (.getfield 72, 3) := by decide +kernel
theorem dX5_readText_53 : decode cX5_readText 53 = .ok (.iconst 1, 1) := by decide +kernel
theorem dX5_readText_54 : decode cX5_readText 54 = .ok (.if_icmp .eq 50, 3) := by decide +kernel
theorem dX5_readText_57 : decode cX5_readText 57 = .ok (.aload_n 0, 1) := by decide +kernel
theorem dX5_readText_58 : decode cX5_readText 58 = .ok (.ldc 75, 2) := by decide +kernel
theorem dX5_readText_60 : decode cX5_readText 60 = .ok (.invokevirtual 77, 3) := by decide +kernel
theorem dX5_readText_63 : decode cX5_readText 63 = .ok (.ifCond .eq 12, 3) := by decide +kernel
theorem dX5_readText_66 : decode cX5_readText 66 = .ok (.aload_n 0, 1) := by decide +kernel
theorem dX5_readText_67 : decode cX5_readText 67 = .ok (.invokevirtual 81, 3) := by decide +kernel
theorem dX5_readText_70 : decode cX5_readText 70 = .ok (.ifCond .ne 28, 3) := by decide +kernel
theorem dX5_readText_73 : decode cX5_readText 73 = .ok (.iconst 0, 1) := by decide +kernel
theorem dX5_readText_74 : decode cX5_readText 74 = .ok (.ireturn, 1) := by decide +kernel
theorem dX5_readText_75 : decode cX5_readText 75 = .ok (.aload_n 0, 1) := by decide +kernel
theorem dX5_readText_76 : decode cX5_readText 76 = .ok (.ldc 85, 2) := by decide +kernel
theorem dX5_readText_78 : decode cX5_readText 78 = .ok (.invokevirtual 77, 3) := by decide +kernel
theorem dX5_readText_81 : decode cX5_readText 81 = .ok (.ifCond .eq 12, 3) := by decide +kernel
theorem dX5_readText_84 : decode cX5_readText 84 = .ok (.aload_n 0, 1) := by decide +kernel
theorem dX5_readText_85 : decode cX5_readText 85 = .ok (.invokevirtual 87, 3) := by decide +kernel
theorem dX5_readText_88 : decode cX5_readText 88 = .ok (.ifCond .ne 10, 3) := by decide +kernel
theorem dX5_readText_91 : decode cX5_readText 91 = .ok (.iconst 0, 1) := by decide +kernel
theorem dX5_readText_92 : decode cX5_readText 92 = .ok (.ireturn, 1) := by decide +kernel
theorem dX5_readText_93 : decode cX5_readText 93 = .ok (.aload_n 0, 1) := by decide +kernel
theorem dX5_readText_94 : decode cX5_readText 94 = .ok (.invokevirtual 90, 3) := by decide +kernel
theorem dX5_readText_97 : decode cX5_readText 97 = .ok (.ireturn, 1) := by decide +kernel
theorem dX5_readText_98 : decode cX5_readText 98 = .ok (.iinc 2 1, 3) := by decide +kernel
theorem dX5_readText_101 : decode cX5_readText 101 = .ok (.goto (-60), 3) := by decide +kernel
theorem dX5_readText_104 : decode cX5_readText 104 = .ok (.iconst 1, 1) := by decide +kernel
theorem dX5_readText_105 : decode cX5_readText 105 = .ok (.ireturn, 1) := by decide +kernel
theorem dX5_readSieve_0 : decode cX5_readSieve 0 = .ok (.aload_n 0, 1) := by decide +kernel
theorem dX5_readSieve_1 : decode cX5_readSieve 1 = .ok (.aload_n 0, 1) := by decide +kernel
theorem dX5_readSieve_2 : decode cX5_readSieve 2 = .ok (.getfield 60, 3) := by decide +kernel
theorem dX5_readSieve_5 : decode cX5_readSieve 5 = .ok (.invokevirtual 93, 3) := by decide +kernel
theorem dX5_readSieve_8 : decode cX5_readSieve 8 = .ok (.astore_n 1, 1) := by decide +kernel
theorem dX5_readSieve_9 : decode cX5_readSieve 9 = .ok (.aload_n 1, 1) := by decide +kernel
theorem dX5_readSieve_10 : decode cX5_readSieve 10 = .ok (.ifnonnull 9, 3) := by decide +kernel
theorem dX5_readSieve_13 : decode cX5_readSieve 13 = .ok (.aload_n 0, 1) := by decide +kernel
theorem dX5_readSieve_14 : decode cX5_readSieve 14 = .ok (.iconst 5, 1) := by decide +kernel
theorem dX5_readSieve_15 : decode cX5_readSieve 15 = .ok (.invokevirtual 97, 3) := by decide +kernel
theorem dX5_readSieve_18 : decode cX5_readSieve 18 = .ok (.ireturn, 1) := by decide +kernel
theorem dX5_readSieve_19 : decode cX5_readSieve 19 = .ok (.aload_n 0, 1) := by decide +kernel
theorem dX5_readSieve_20 : decode cX5_readSieve 20 = .ok (.invokevirtual 69, 3) := by decide +kernel
theorem dX5_readSieve_23 : decode cX5_readSieve 23 = .ok (.aload_n 0, 1) := by decide +kernel
theorem dX5_readSieve_24 : decode cX5_readSieve 24 = .ok (.invokevirtual 101, 3) := by decide +kernel
theorem dX5_readSieve_27 : decode cX5_readSieve 27 = .ok (.ifCond .eq 12, 3) := by decide +kernel
theorem dX5_readSieve_30 : decode cX5_readSieve 30 = .ok (.aload_n 0, 1) := by decide +kernel
theorem dX5_readSieve_31 : decode cX5_readSieve 31 = .ok (.ldc 104, 2) := by decide +kernel
theorem dX5_readSieve_33 : decode cX5_readSieve 33 = .ok (.invokevirtual 106, 3) := by decide +kernel
theorem dX5_readSieve_36 : decode cX5_readSieve 36 = .ok (.ifCond .ne 5, 3) := by decide +kernel
theorem dX5_readSieve_39 : decode cX5_readSieve 39 = .ok (.iconst 0, 1) := by decide +kernel
theorem dX5_readSieve_40 : decode cX5_readSieve 40 = .ok (.ireturn, 1) := by decide +kernel
theorem dX5_readSieve_41 : decode cX5_readSieve 41 = .ok (.aload_n 0, 1) := by decide +kernel
theorem dX5_readSieve_42 : decode cX5_readSieve 42 = .ok (.iconst 0, 1) := by decide +kernel
theorem dX5_readSieve_43 : decode cX5_readSieve 43 = .ok (.sipush 999, 3) := by decide +kernel
theorem dX5_readSieve_46 : decode cX5_readSieve 46 = .ok (.invokevirtual 109, 3) := by decide +kernel
theorem dX5_readSieve_49 : decode cX5_readSieve 49 = .ok (.istore_n 2, 1) := by decide +kernel
theorem dX5_readSieve_50 : decode cX5_readSieve 50 = .ok (.iload_n 2, 1) := by decide +kernel
theorem dX5_readSieve_51 : decode cX5_readSieve 51 = .ok (.iconst (-1), 1) := by decide +kernel
theorem dX5_readSieve_52 : decode cX5_readSieve 52 = .ok (.if_icmp .eq 12, 3) := by decide +kernel
theorem dX5_readSieve_55 : decode cX5_readSieve 55 = .ok (.aload_n 0, 1) := by decide +kernel
theorem dX5_readSieve_56 : decode cX5_readSieve 56 = .ok (.ldc 113, 2) := by decide +kernel
theorem dX5_readSieve_58 : decode cX5_readSieve 58 = .ok (.invokevirtual 106, 3) := by decide +kernel
theorem dX5_readSieve_61 : decode cX5_readSieve 61 = .ok (.ifCond .ne 5, 3) := by decide +kernel
theorem dX5_readSieve_64 : decode cX5_readSieve 64 = .ok (.iconst 0, 1) := by decide +kernel
theorem dX5_readSieve_65 : decode cX5_readSieve 65 = .ok (.ireturn, 1) := by decide +kernel
theorem dX5_readSieve_66 : decode cX5_readSieve 66 = .ok (.aload_n 0, 1) := by decide +kernel
theorem dX5_readSieve_67 : decode cX5_readSieve 67 = .ok (.iconst 1, 1) := by decide +kernel
theorem dX5_readSieve_68 : decode cX5_readSieve 68 = .ok (.bipush 99, 2) := by decide +kernel
theorem dX5_readSieve_70 : decode cX5_readSieve 70 = .ok (.invokevirtual 109, 3) := by decide +kernel
theorem dX5_readSieve_73 : decode cX5_readSieve 73 = .ok (.istore_n 3, 1) := by decide +kernel
theorem dX5_readSieve_74 : decode cX5_readSieve 74 = .ok (.iload_n 3, 1) := by decide +kernel
theorem dX5_readSieve_75 : decode cX5_readSieve 75 = .ok (.iconst (-1), 1) := by decide +kernel
theorem dX5_readSieve_76 : decode cX5_readSieve 76 = .ok (.if_icmp .eq 12, 3) := by decide +kernel
theorem dX5_readSieve_79 : decode cX5_readSieve 79 = .ok (.aload_n 0, 1) := by decide +kernel
theorem dX5_readSieve_80 : decode cX5_readSieve 80 = .ok (.ldc 115, 2) := by decide +kernel
theorem dX5_readSieve_82 : decode cX5_readSieve 82 = .ok (.invokevirtual 106, 3) := by decide +kernel
theorem dX5_readSieve_85 : decode cX5_readSieve 85 = .ok (.ifCond .ne 5, 3) := by decide +kernel
theorem dX5_readSieve_88 : decode cX5_readSieve 88 = .ok (.iconst 0, 1) := by decide +kernel
theorem dX5_readSieve_89 : decode cX5_readSieve 89 = .ok (.ireturn, 1) := by decide +kernel
theorem dX5_readSieve_90 : decode cX5_readSieve 90 = .ok (.aload_n 0, 1) := by decide +kernel
theorem dX5_readSieve_91 : decode cX5_readSieve 91 = .ok (.iconst 2, 1) := by decide +kernel
theorem dX5_readSieve_92 : decode cX5_readSieve 92 = .ok (.sipush 600, 3) := by decide +kernel
theorem dX5_readSieve_95 : decode cX5_readSieve 95 = .ok (.invokevirtual 109, 3) := by decide +kernel
theorem dX5_readSieve_98 : decode cX5_readSieve 98 = .ok (.istore 4, 2) := by decide +kernel
theorem dX5_readSieve_100 : decode cX5_readSieve 100 = .ok (.iload 4, 2) := by decide +kernel
theorem dX5_readSieve_102 : decode cX5_readSieve 102 = .ok (.iconst (-1), 1) := by decide +kernel
theorem dX5_readSieve_103 : decode cX5_readSieve 103 = .ok (.if_icmp .ne 5, 3) := by decide +kernel
theorem dX5_readSieve_106 : decode cX5_readSieve 106 = .ok (.iconst 0, 1) := by decide +kernel
theorem dX5_readSieve_107 : decode cX5_readSieve 107 = .ok (.ireturn, 1) := by decide +kernel
theorem dX5_readSieve_108 : decode cX5_readSieve 108 = .ok (.aload_n 0, 1) := by decide +kernel
theorem dX5_readSieve_109 : decode cX5_readSieve 109 = .ok (.invokevirtual 117, 3) := by decide +kernel
theorem dX5_readSieve_112 : decode cX5_readSieve 112 = .ok (.istore 5, 2) := by decide +kernel
theorem dX5_readSieve_114 : decode cX5_readSieve 114 = .ok (.iload 5, 2) := by decide +kernel
theorem dX5_readSieve_116 : decode cX5_readSieve 116 = .ok (.iconst (-1), 1) := by decide +kernel
theorem dX5_readSieve_117 : decode cX5_readSieve 117 = .ok (.if_icmp .ne 8, 3) := by decide +kernel
theorem dX5_readSieve_120 : decode cX5_readSieve 120 = .ok (.aload_n 0, 1) := by decide +kernel
theorem dX5_readSieve_121 : decode cX5_readSieve 121 = .ok (.invokevirtual 90, 3) := by decide +kernel
theorem dX5_readSieve_124 : decode cX5_readSieve 124 = .ok (.ireturn, 1) := by decide +kernel
theorem dX5_readSieve_125 : decode cX5_readSieve 125 = .ok (.aload_n 0, 1) := by decide +kernel
theorem dX5_readSieve_126 : decode cX5_readSieve 126 = .ok (.invokevirtual 69, 3) := by decide +kernel
theorem dX5_readSieve_129 : decode cX5_readSieve 129 = .ok (.aload_n 1, 1) := by decide +kernel
theorem dX5_readSieve_130 : decode cX5_readSieve 130 = .ok (.iload 5, 2) := by decide +kernel
theorem dX5_readSieve_132 : decode cX5_readSieve 132 = .ok (.iload_n 2, 1) := by decide +kernel
theorem dX5_readSieve_133 : decode cX5_readSieve 133 = .ok (.iload_n 3, 1) := by decide +kernel
theorem dX5_readSieve_134 : decode cX5_readSieve 134 = .ok (.iload 4, 2) := by decide +kernel
theorem dX5_readSieve_136 : decode cX5_readSieve 136 = .ok (.invokevirtual 121, 3) := by decide +kernel
theorem dX5_readSieve_139 : decode cX5_readSieve 139 = .ok (.iload 5, 2) := by decide +kernel
theorem dX5_readSieve_141 : decode cX5_readSieve 141 = .ok (.iconst 4, 1) := by decide +kernel
theorem dX5_readSieve_142 : decode cX5_readSieve 142 = .ok (.if_icmp .ne 13, 3) := by decide +kernel
theorem dX5_readSieve_145 : decode cX5_readSieve 145 = .ok (.aload_n 0, 1) := by decide +kernel
theorem dX5_readSieve_146 : decode cX5_readSieve 146 = .ok (.aload_n 1, 1) := by decide +kernel
theorem dX5_readSieve_147 : decode cX5_readSieve 147 = .ok (.invokevirtual 125, 3) := by decide +kernel
theorem dX5_readSieve_150 : decode cX5_readSieve 150 = .ok (.ifCond .ne 5, 3) := by decide +kernel
theorem dX5_readSieve_153 : decode cX5_readSieve 153 = .ok (.iconst 0, 1) := by decide +kernel
theorem dX5_readSieve_154 : decode cX5_readSieve 154 = .ok (.ireturn, 1) := by decide +kernel
theorem dX5_readSieve_155 : decode cX5_readSieve 155 = .ok (.iload 5, 2) := by decide +kernel
theorem dX5_readSieve_157 : decode cX5_readSieve 157 = .ok (.iconst 5, 1) := by decide +kernel
theorem dX5_readSieve_158 : decode cX5_readSieve 158 = .ok (.if_icmp .ne 13, 3) := by decide +kernel
theorem dX5_readSieve_161 : decode cX5_readSieve 161 = .ok (.aload_n 0, 1) := by decide +kernel
theorem dX5_readSieve_162 : decode cX5_readSieve 162 = .ok (.aload_n 1, 1) := by decide +kernel
theorem dX5_readSieve_163 : decode cX5_readSieve 163 = .ok (.invokevirtual 129, 3) := by decide +kernel
theorem dX5_readSieve_166 : decode cX5_readSieve 166 = .ok (.ifCond .ne 5, 3) := by decide +kernel
theorem dX5_readSieve_169 : decode cX5_readSieve 169 = .ok (.iconst 0, 1) := by decide +kernel
theorem dX5_readSieve_170 : decode cX5_readSieve 170 = .ok (.ireturn, 1) := by decide +kernel
theorem dX5_readSieve_171 : decode cX5_readSieve 171 = .ok (.aload_n 0, 1) := by decide +kernel
theorem dX5_readSieve_172 : decode cX5_readSieve 172 = .ok (.invokevirtual 132, 3) := by decide +kernel
theorem dX5_readSieve_175 : decode cX5_readSieve 175 = .ok (.ifCond .ne 5, 3) := by decide +kernel
theorem dX5_readSieve_178 : decode cX5_readSieve 178 = .ok (.iconst 0, 1) := by decide +kernel
theorem dX5_readSieve_179 : decode cX5_readSieve 179 = .ok (.ireturn, 1) := by decide +kernel
theorem dX5_readSieve_180 : decode cX5_readSieve 180 = .ok (.aload_n 0, 1) := by decide +kernel
theorem dX5_readSieve_181 : decode cX5_readSieve 181 = .ok (.dup, 1) := by decide +kernel
theorem dX5_readSieve_182 : decode cX5_readSieve 182 = .ok (.getfield 60, 3) := by decide +kernel
theorem dX5_readSieve_185 : decode cX5_readSieve 185 = .ok (.iconst 1, 1) := by decide +kernel
theorem dX5_readSieve_186 : decode cX5_readSieve 186 = .ok (.iadd, 1) := by decide +kernel
theorem dX5_readSieve_187 : decode cX5_readSieve 187 = .ok (.putfield 60, 3) := by decide +kernel
theorem dX5_readSieve_190 : decode cX5_readSieve 190 = .ok (.iconst 1, 1) := by decide +kernel
theorem dX5_readSieve_191 : decode cX5_readSieve 191 = .ok (.ireturn, 1) := by decide +kernel
theorem dX5_kindOfLaw_0 : decode cX5_kindOfLaw 0 = .ok (.aload_n 0, 1) := by decide +kernel
theorem dX5_kindOfLaw_1 : decode cX5_kindOfLaw 1 = .ok (.ldc 135, 2) := by decide +kernel
theorem dX5_kindOfLaw_3 : decode cX5_kindOfLaw 3 = .ok (.invokevirtual 77, 3) := by decide +kernel
theorem dX5_kindOfLaw_6 : decode cX5_kindOfLaw 6 = .ok (.ifCond .eq 5, 3) := by decide +kernel
theorem dX5_kindOfLaw_9 : decode cX5_kindOfLaw 9 = .ok (.iconst 0, 1) := by decide +kernel
theorem dX5_kindOfLaw_10 : decode cX5_kindOfLaw 10 = .ok (.ireturn, 1) := by decide +kernel
theorem dX5_kindOfLaw_11 : decode cX5_kindOfLaw 11 = .ok (.aload_n 0, 1) := by decide +kernel
theorem dX5_kindOfLaw_12 : decode cX5_kindOfLaw 12 = .ok (.ldc 137, 2) := by decide +kernel
theorem dX5_kindOfLaw_14 : decode cX5_kindOfLaw 14 = .ok (.invokevirtual 77, 3) := by decide +kernel
theorem dX5_kindOfLaw_17 : decode cX5_kindOfLaw 17 = .ok (.ifCond .eq 5, 3) := by decide +kernel
theorem dX5_kindOfLaw_20 : decode cX5_kindOfLaw 20 = .ok (.iconst 1, 1) := by decide +kernel
theorem dX5_kindOfLaw_21 : decode cX5_kindOfLaw 21 = .ok (.ireturn, 1) := by decide +kernel
theorem dX5_kindOfLaw_22 : decode cX5_kindOfLaw 22 = .ok (.aload_n 0, 1) := by decide +kernel
theorem dX5_kindOfLaw_23 : decode cX5_kindOfLaw 23 = .ok (.ldc 139, 2) := by decide +kernel
theorem dX5_kindOfLaw_25 : decode cX5_kindOfLaw 25 = .ok (.invokevirtual 77, 3) := by decide +kernel
theorem dX5_kindOfLaw_28 : decode cX5_kindOfLaw 28 = .ok (.ifCond .eq 5, 3) := by decide +kernel
theorem dX5_kindOfLaw_31 : decode cX5_kindOfLaw 31 = .ok (.iconst 2, 1) := by decide +kernel
theorem dX5_kindOfLaw_32 : decode cX5_kindOfLaw 32 = .ok (.ireturn, 1) := by decide +kernel
theorem dX5_kindOfLaw_33 : decode cX5_kindOfLaw 33 = .ok (.aload_n 0, 1) := by decide +kernel
theorem dX5_kindOfLaw_34 : decode cX5_kindOfLaw 34 = .ok (.ldc 141, 2) := by decide +kernel
theorem dX5_kindOfLaw_36 : decode cX5_kindOfLaw 36 = .ok (.invokevirtual 77, 3) := by decide +kernel
theorem dX5_kindOfLaw_39 : decode cX5_kindOfLaw 39 = .ok (.ifCond .eq 5, 3) := by decide +kernel
theorem dX5_kindOfLaw_42 : decode cX5_kindOfLaw 42 = .ok (.iconst 3, 1) := by decide +kernel
theorem dX5_kindOfLaw_43 : decode cX5_kindOfLaw 43 = .ok (.ireturn, 1) := by decide +kernel
theorem dX5_kindOfLaw_44 : decode cX5_kindOfLaw 44 = .ok (.aload_n 0, 1) := by decide +kernel
theorem dX5_kindOfLaw_45 : decode cX5_kindOfLaw 45 = .ok (.ldc 143, 2) := by decide +kernel
theorem dX5_kindOfLaw_47 : decode cX5_kindOfLaw 47 = .ok (.invokevirtual 77, 3) := by decide +kernel
theorem dX5_kindOfLaw_50 : decode cX5_kindOfLaw 50 = .ok (.ifCond .eq 5, 3) := by decide +kernel
theorem dX5_kindOfLaw_53 : decode cX5_kindOfLaw 53 = .ok (.iconst 4, 1) := by decide +kernel
theorem dX5_kindOfLaw_54 : decode cX5_kindOfLaw 54 = .ok (.ireturn, 1) := by decide +kernel
theorem dX5_kindOfLaw_55 : decode cX5_kindOfLaw 55 = .ok (.aload_n 0, 1) := by decide +kernel
theorem dX5_kindOfLaw_56 : decode cX5_kindOfLaw 56 = .ok (.ldc 145, 2) := by decide +kernel
theorem dX5_kindOfLaw_58 : decode cX5_kindOfLaw 58 = .ok (.invokevirtual 77, 3) := by decide +kernel
theorem dX5_kindOfLaw_61 : decode cX5_kindOfLaw 61 = .ok (.ifCond .eq 7, 3) := by decide +kernel
theorem dX5_kindOfLaw_64 : decode cX5_kindOfLaw 64 = .ok (.iconst 5, 1) := by decide +kernel
theorem dX5_kindOfLaw_65 : decode cX5_kindOfLaw 65 = .ok (.goto 4, 3) := by decide +kernel
theorem dX5_kindOfLaw_68 : decode cX5_kindOfLaw 68 = .ok (.iconst (-1), 1) := by decide +kernel
theorem dX5_kindOfLaw_69 : decode cX5_kindOfLaw 69 = .ok (.ireturn, 1) := by decide +kernel
theorem dX5_readFixed_0 : decode cX5_readFixed 0 = .ok (.aload_n 0, 1) := by decide +kernel
theorem dX5_readFixed_1 : decode cX5_readFixed 1 = .ok (.iconst 2, 1) := by decide +kernel
theorem dX5_readFixed_2 : decode cX5_readFixed 2 = .ok (.bipush 99, 2) := by decide +kernel
theorem dX5_readFixed_4 : decode cX5_readFixed 4 = .ok (.invokevirtual 109, 3) := by decide +kernel
theorem dX5_readFixed_7 : decode cX5_readFixed 7 = .ok (.istore_n 2, 1) := by decide +kernel
theorem dX5_readFixed_8 : decode cX5_readFixed 8 = .ok (.iload_n 2, 1) := by decide +kernel
theorem dX5_readFixed_9 : decode cX5_readFixed 9 = .ok (.iconst (-1), 1) := by decide +kernel
theorem dX5_readFixed_10 : decode cX5_readFixed 10 = .ok (.if_icmp .eq 12, 3) := by decide +kernel
theorem dX5_readFixed_13 : decode cX5_readFixed 13 = .ok (.aload_n 0, 1) := by decide +kernel
theorem dX5_readFixed_14 : decode cX5_readFixed 14 = .ok (.ldc 147, 2) := by decide +kernel
theorem dX5_readFixed_16 : decode cX5_readFixed 16 = .ok (.invokevirtual 106, 3) := by decide +kernel
theorem dX5_readFixed_19 : decode cX5_readFixed 19 = .ok (.ifCond .ne 5, 3) := by decide +kernel
theorem dX5_readFixed_22 : decode cX5_readFixed 22 = .ok (.iconst 0, 1) := by decide +kernel
theorem dX5_readFixed_23 : decode cX5_readFixed 23 = .ok (.ireturn, 1) := by decide +kernel
theorem dX5_readFixed_24 : decode cX5_readFixed 24 = .ok (.aload_n 0, 1) := by decide +kernel
theorem dX5_readFixed_25 : decode cX5_readFixed 25 = .ok (.iconst 1, 1) := by decide +kernel
theorem dX5_readFixed_26 : decode cX5_readFixed 26 = .ok (.bipush 60, 2) := by decide +kernel
theorem dX5_readFixed_28 : decode cX5_readFixed 28 = .ok (.invokevirtual 109, 3) := by decide +kernel
theorem dX5_readFixed_31 : decode cX5_readFixed 31 = .ok (.istore_n 3, 1) := by decide +kernel
theorem dX5_readFixed_32 : decode cX5_readFixed 32 = .ok (.iload_n 3, 1) := by decide +kernel
theorem dX5_readFixed_33 : decode cX5_readFixed 33 = .ok (.iconst (-1), 1) := by decide +kernel
theorem dX5_readFixed_34 : decode cX5_readFixed 34 = .ok (.if_icmp .ne 5, 3) := by decide +kernel
theorem dX5_readFixed_37 : decode cX5_readFixed 37 = .ok (.iconst 0, 1) := by decide +kernel
theorem dX5_readFixed_38 : decode cX5_readFixed 38 = .ok (.ireturn, 1) := by decide +kernel
theorem dX5_readFixed_39 : decode cX5_readFixed 39 = .ok (.aload_n 1, 1) := by decide +kernel
theorem dX5_readFixed_40 : decode cX5_readFixed 40 = .ok (.getfield 149, 3) := by decide +kernel
theorem dX5_readFixed_43 : decode cX5_readFixed 43 = .ok (.iconst 0, 1) := by decide +kernel
theorem dX5_readFixed_44 : decode cX5_readFixed 44 = .ok (.iload_n 2, 1) := by decide +kernel
theorem dX5_readFixed_45 : decode cX5_readFixed 45 = .ok (.invokestatic 53, 3) := by decide +kernel
theorem dX5_readFixed_48 : decode cX5_readFixed 48 = .ok (.aload_n 1, 1) := by decide +kernel
theorem dX5_readFixed_49 : decode cX5_readFixed 49 = .ok (.iload_n 3, 1) := by decide +kernel
theorem dX5_readFixed_50 : decode cX5_readFixed 50 = .ok (.putfield 152, 3) := by decide +kernel
theorem dX5_readFixed_53 : decode cX5_readFixed 53 = .ok (.iconst 1, 1) := by decide +kernel
theorem dX5_readFixed_54 : decode cX5_readFixed 54 = .ok (.ireturn, 1) := by decide +kernel
theorem dX5_readTold_0 : decode cX5_readTold 0 = .ok (.iconst 0, 1) := by decide +kernel
theorem dX5_readTold_1 : decode cX5_readTold 1 = .ok (.istore_n 2, 1) := by decide +kernel
theorem dX5_readTold_2 : decode cX5_readTold 2 = .ok (.iload_n 2, 1) := by decide +kernel
theorem dX5_readTold_3 : decode cX5_readTold 3 = .ok (.bipush 12, 2) := by decide +kernel
theorem dX5_readTold_5 : decode cX5_readTold 5 = .ok (.if_icmp .gt 70, 3) := by decide +kernel
theorem dX5_readTold_8 : decode cX5_readTold 8 = .ok (.iload_n 2, 1) := by decide +kernel
theorem dX5_readTold_9 : decode cX5_readTold 9 = .ok (.ifCond .le 13, 3) := by decide +kernel
theorem dX5_readTold_12 : decode cX5_readTold 12 = .ok (.aload_n 0, 1) := by decide +kernel
theorem dX5_readTold_13 : decode cX5_readTold 13 = .ok (.getfield 72, 3) := by decide +kernel
theorem dX5_readTold_16 : decode cX5_readTold 16 = .ok (.iconst 3, 1) := by decide +kernel
theorem dX5_readTold_17 : decode cX5_readTold 17 = .ok (.if_icmp .eq 5, 3) := by decide +kernel
theorem dX5_readTold_20 : decode cX5_readTold 20 = .ok (.iconst 1, 1) := by decide +kernel
theorem dX5_readTold_21 : decode cX5_readTold 21 = .ok (.ireturn, 1) := by decide +kernel
theorem dX5_readTold_22 : decode cX5_readTold 22 = .ok (.iload_n 2, 1) := by decide +kernel
theorem dX5_readTold_23 : decode cX5_readTold 23 = .ok (.bipush 12, 2) := by decide +kernel
theorem dX5_readTold_25 : decode cX5_readTold 25 = .ok (.if_icmp .ne 12, 3) := by decide +kernel
theorem dX5_readTold_28 : decode cX5_readTold 28 = .ok (.aload_n 0, 1) := by decide +kernel
theorem dX5_readTold_29 : decode cX5_readTold 29 = .ok (.iconst 2, 1) := by decide +kernel
theorem dX5_readTold_30 : decode cX5_readTold 30 = .ok (.sipush 999, 3) := by decide +kernel
theorem dX5_readTold_33 : decode cX5_readTold 33 = .ok (.invokevirtual 155, 3) := by decide +kernel
theorem dX5_readTold_36 : decode cX5_readTold 36 = .ok (.ireturn, 1) := by decide +kernel
theorem dX5_readTold_37 : decode cX5_readTold 37 = .ok (.aload_n 0, 1) := by decide +kernel
theorem dX5_readTold_38 : decode cX5_readTold 38 = .ok (.iconst 2, 1) := by decide +kernel
theorem dX5_readTold_39 : decode cX5_readTold 39 = .ok (.sipush 999, 3) := by decide +kernel
theorem dX5_readTold_42 : decode cX5_readTold 42 = .ok (.invokevirtual 109, 3) := by decide +kernel
theorem dX5_readTold_45 : decode cX5_readTold 45 = .ok (.istore_n 3, 1) := by decide +kernel
theorem dX5_readTold_46 : decode cX5_readTold 46 = .ok (.iload_n 3, 1) := by decide +kernel
theorem dX5_readTold_47 : decode cX5_readTold 47 = .ok (.iconst (-1), 1) := by decide +kernel
theorem dX5_readTold_48 : decode cX5_readTold 48 = .ok (.if_icmp .ne 5, 3) := by decide +kernel
theorem dX5_readTold_51 : decode cX5_readTold 51 = .ok (.iconst 0, 1) := by decide +kernel
theorem dX5_readTold_52 : decode cX5_readTold 52 = .ok (.ireturn, 1) := by decide +kernel
theorem dX5_readTold_53 : decode cX5_readTold 53 = .ok (.aload_n 1, 1) := by decide +kernel
theorem dX5_readTold_54 : decode cX5_readTold 54 = .ok (.getfield 149, 3) := by decide +kernel
theorem dX5_readTold_57 : decode cX5_readTold 57 = .ok (.iload_n 2, 1) := by decide +kernel
theorem dX5_readTold_58 : decode cX5_readTold 58 = .ok (.iload_n 3, 1) := by decide +kernel
theorem dX5_readTold_59 : decode cX5_readTold 59 = .ok (.invokestatic 53, 3) := by decide +kernel
theorem dX5_readTold_62 : decode cX5_readTold 62 = .ok (.aload_n 1, 1) := by decide +kernel
theorem dX5_readTold_63 : decode cX5_readTold 63 = .ok (.iload_n 2, 1) := by decide +kernel
theorem dX5_readTold_64 : decode cX5_readTold 64 = .ok (.iconst 1, 1) := by decide +kernel
theorem dX5_readTold_65 : decode cX5_readTold 65 = .ok (.iadd, 1) := by decide +kernel
theorem dX5_readTold_66 : decode cX5_readTold 66 = .ok (.putfield 152, 3) := by decide +kernel
theorem dX5_readTold_69 : decode cX5_readTold 69 = .ok (.iinc 2 1, 3) := by decide +kernel
theorem dX5_readTold_72 : decode cX5_readTold 72 = .ok (.goto (-70), 3) := by decide +kernel
theorem dX5_readTold_75 : decode cX5_readTold 75 = .ok (.iconst 1, 1) := by decide +kernel
theorem dX5_readTold_76 : decode cX5_readTold 76 = .ok (.ireturn, 1) := by decide +kernel
theorem dX5_readList_0 : decode cX5_readList 0 = .ok (.aload_n 0, 1) := by decide +kernel
theorem dX5_readList_1 : decode cX5_readList 1 = .ok (.aload_n 0, 1) := by decide +kernel
theorem dX5_readList_2 : decode cX5_readList 2 = .ok (.getfield 63, 3) := by decide +kernel
theorem dX5_readList_5 : decode cX5_readList 5 = .ok (.invokevirtual 159, 3) := by decide +kernel
theorem dX5_readList_8 : decode cX5_readList 8 = .ok (.astore_n 1, 1) := by decide +kernel
theorem dX5_readList_9 : decode cX5_readList 9 = .ok (.aload_n 1, 1) := by decide +kernel
theorem dX5_readList_10 : decode cX5_readList 10 = .ok (.ifnonnull 9, 3) := by decide +kernel
theorem dX5_readList_13 : decode cX5_readList 13 = .ok (.aload_n 0, 1) := by decide +kernel
theorem dX5_readList_14 : decode cX5_readList 14 = .ok (.iconst 5, 1) := by decide +kernel
theorem dX5_readList_15 : decode cX5_readList 15 = .ok (.invokevirtual 97, 3) := by decide +kernel
theorem dX5_readList_18 : decode cX5_readList 18 = .ok (.ireturn, 1) := by decide +kernel
theorem dX5_readList_19 : decode cX5_readList 19 = .ok (.aload_n 0, 1) := by decide +kernel
theorem dX5_readList_20 : decode cX5_readList 20 = .ok (.invokevirtual 69, 3) := by decide +kernel
theorem dX5_readList_23 : decode cX5_readList 23 = .ok (.aload_n 0, 1) := by decide +kernel
theorem dX5_readList_24 : decode cX5_readList 24 = .ok (.invokevirtual 101, 3) := by decide +kernel
theorem dX5_readList_27 : decode cX5_readList 27 = .ok (.ifCond .ne 5, 3) := by decide +kernel
theorem dX5_readList_30 : decode cX5_readList 30 = .ok (.iconst 0, 1) := by decide +kernel
theorem dX5_readList_31 : decode cX5_readList 31 = .ok (.ireturn, 1) := by decide +kernel
theorem dX5_readList_32 : decode cX5_readList 32 = .ok (.aload_n 1, 1) := by decide +kernel
theorem dX5_readList_33 : decode cX5_readList 33 = .ok (.iconst 0, 1) := by decide +kernel
theorem dX5_readList_34 : decode cX5_readList 34 = .ok (.putfield 163, 3) := by decide +kernel
theorem dX5_readList_37 : decode cX5_readList 37 = .ok (.iconst 0, 1) := by decide +kernel
theorem dX5_readList_38 : decode cX5_readList 38 = .ok (.istore_n 2, 1) := by decide +kernel
theorem dX5_readList_39 : decode cX5_readList 39 = .ok (.iconst 0, 1) := by decide +kernel
theorem dX5_readList_40 : decode cX5_readList 40 = .ok (.istore_n 3, 1) := by decide +kernel
theorem dX5_readList_41 : decode cX5_readList 41 = .ok (.iload_n 3, 1) := by decide +kernel
theorem dX5_readList_42 : decode cX5_readList 42 = .ok (.bipush 10, 2) := by decide +kernel
theorem dX5_readList_44 : decode cX5_readList 44 = .ok (.if_icmp .gt 68, 3) := by decide +kernel
theorem dX5_readList_47 : decode cX5_readList 47 = .ok (.iload_n 3, 1) := by decide +kernel
theorem dX5_readList_48 : decode cX5_readList 48 = .ok (.ifCond .le 14, 3) := by decide +kernel
theorem dX5_readList_51 : decode cX5_readList 51 = .ok (.aload_n 0, 1) := by decide +kernel
theorem dX5_readList_52 : decode cX5_readList 52 = .ok (.getfield 72, 3) := by decide +kernel
theorem dX5_readList_55 : decode cX5_readList 55 = .ok (.iconst 3, 1) := by decide +kernel
theorem dX5_readList_56 : decode cX5_readList 56 = .ok (.if_icmp .eq 6, 3) := by decide +kernel
theorem dX5_readList_59 : decode cX5_readList 59 = .ok (.goto 53, 3) := by decide +kernel
theorem dX5_readList_62 : decode cX5_readList 62 = .ok (.iload_n 3, 1) := by decide +kernel
theorem dX5_readList_63 : decode cX5_readList 63 = .ok (.bipush 10, 2) := by decide +kernel
theorem dX5_readList_65 : decode cX5_readList 65 = .ok (.if_icmp .ne 12, 3) := by decide +kernel
theorem dX5_readList_68 : decode cX5_readList 68 = .ok (.aload_n 0, 1) := by decide +kernel
theorem dX5_readList_69 : decode cX5_readList 69 = .ok (.iload_n 2, 1) := by decide +kernel
theorem dX5_readList_70 : decode cX5_readList 70 = .ok (.sipush 9999, 3) := by decide +kernel
theorem dX5_readList_73 : decode cX5_readList 73 = .ok (.invokevirtual 155, 3) := by decide +kernel
theorem dX5_readList_76 : decode cX5_readList 76 = .ok (.ireturn, 1) := by decide +kernel
theorem dX5_readList_77 : decode cX5_readList 77 = .ok (.aload_n 0, 1) := by decide +kernel
theorem dX5_readList_78 : decode cX5_readList 78 = .ok (.iload_n 2, 1) := by decide +kernel
theorem dX5_readList_79 : decode cX5_readList 79 = .ok (.sipush 9999, 3) := by decide +kernel
theorem dX5_readList_82 : decode cX5_readList 82 = .ok (.invokevirtual 109, 3) := by decide +kernel
theorem dX5_readList_85 : decode cX5_readList 85 = .ok (.istore 4, 2) := by decide +kernel
theorem dX5_readList_87 : decode cX5_readList 87 = .ok (.iload 4, 2) := by decide +kernel
theorem dX5_readList_89 : decode cX5_readList 89 = .ok (.iconst (-1), 1) := by decide +kernel
theorem dX5_readList_90 : decode cX5_readList 90 = .ok (.if_icmp .ne 5, 3) := by decide +kernel
theorem dX5_readList_93 : decode cX5_readList 93 = .ok (.iconst 0, 1) := by decide +kernel
theorem dX5_readList_94 : decode cX5_readList 94 = .ok (.ireturn, 1) := by decide +kernel
theorem dX5_readList_95 : decode cX5_readList 95 = .ok (.aload_n 1, 1) := by decide +kernel
theorem dX5_readList_96 : decode cX5_readList 96 = .ok (.iload 4, 2) := by decide +kernel
theorem dX5_readList_98 : decode cX5_readList 98 = .ok (.invokevirtual 166, 3) := by decide +kernel
theorem dX5_readList_101 : decode cX5_readList 101 = .ok (.iload 4, 2) := by decide +kernel
theorem dX5_readList_103 : decode cX5_readList 103 = .ok (.iconst 1, 1) := by decide +kernel
theorem dX5_readList_104 : decode cX5_readList 104 = .ok (.iadd, 1) := by decide +kernel
theorem dX5_readList_105 : decode cX5_readList 105 = .ok (.istore_n 2, 1) := by decide +kernel
theorem dX5_readList_106 : decode cX5_readList 106 = .ok (.iinc 3 1, 3) := by decide +kernel
theorem dX5_readList_109 : decode cX5_readList 109 = .ok (.goto (-68), 3) := by decide +kernel
theorem dX5_readList_112 : decode cX5_readList 112 = .ok (.aload_n 0, 1) := by decide +kernel
theorem dX5_readList_113 : decode cX5_readList 113 = .ok (.invokevirtual 132, 3) := by decide +kernel
theorem dX5_readList_116 : decode cX5_readList 116 = .ok (.ifCond .ne 5, 3) := by decide +kernel
theorem dX5_readList_119 : decode cX5_readList 119 = .ok (.iconst 0, 1) := by decide +kernel
theorem dX5_readList_120 : decode cX5_readList 120 = .ok (.ireturn, 1) := by decide +kernel
theorem dX5_readList_121 : decode cX5_readList 121 = .ok (.aload_n 0, 1) := by decide +kernel
theorem dX5_readList_122 : decode cX5_readList 122 = .ok (.dup, 1) := by decide +kernel
theorem dX5_readList_123 : decode cX5_readList 123 = .ok (.getfield 63, 3) := by decide +kernel
theorem dX5_readList_126 : decode cX5_readList 126 = .ok (.iconst 1, 1) := by decide +kernel
theorem dX5_readList_127 : decode cX5_readList 127 = .ok (.iadd, 1) := by decide +kernel
theorem dX5_readList_128 : decode cX5_readList 128 = .ok (.putfield 63, 3) := by decide +kernel
theorem dX5_readList_131 : decode cX5_readList 131 = .ok (.iconst 1, 1) := by decide +kernel
theorem dX5_readList_132 : decode cX5_readList 132 = .ok (.ireturn, 1) := by decide +kernel
theorem dX5_readName_0 : decode cX5_readName 0 = .ok (.aload_n 0, 1) := by decide +kernel
theorem dX5_readName_1 : decode cX5_readName 1 = .ok (.getfield 72, 3) := by decide +kernel
theorem dX5_readName_4 : decode cX5_readName 4 = .ok (.iconst 2, 1) := by decide +kernel
theorem dX5_readName_5 : decode cX5_readName 5 = .ok (.if_icmp .ne 10, 3) := by decide +kernel
theorem dX5_readName_8 : decode cX5_readName 8 = .ok (.aload_n 0, 1) := by decide +kernel
theorem dX5_readName_9 : decode cX5_readName 9 = .ok (.invokevirtual 169, 3) := by decide +kernel
theorem dX5_readName_12 : decode cX5_readName 12 = .ok (.ifCond .eq 8, 3) := by decide +kernel
theorem dX5_readName_15 : decode cX5_readName 15 = .ok (.aload_n 0, 1) := by decide +kernel
theorem dX5_readName_16 : decode cX5_readName 16 = .ok (.invokevirtual 90, 3) := by decide +kernel
theorem dX5_readName_19 : decode cX5_readName 19 = .ok (.ireturn, 1) := by decide +kernel
theorem dX5_readName_20 : decode cX5_readName 20 = .ok (.iconst 0, 1) := by decide +kernel
theorem dX5_readName_21 : decode cX5_readName 21 = .ok (.istore_n 1, 1) := by decide +kernel
theorem dX5_readName_22 : decode cX5_readName 22 = .ok (.iload_n 1, 1) := by decide +kernel
theorem dX5_readName_23 : decode cX5_readName 23 = .ok (.aload_n 0, 1) := by decide +kernel
theorem dX5_readName_24 : decode cX5_readName 24 = .ok (.getfield 60, 3) := by decide +kernel
theorem dX5_readName_27 : decode cX5_readName 27 = .ok (.aload_n 0, 1) := by decide +kernel
theorem dX5_readName_28 : decode cX5_readName 28 = .ok (.getfield 63, 3) := by decide +kernel
theorem dX5_readName_31 : decode cX5_readName 31 = .ok (.iadd, 1) := by decide +kernel
theorem dX5_readName_32 : decode cX5_readName 32 = .ok (.if_icmp .ge 38, 3) := by decide +kernel
theorem dX5_readName_35 : decode cX5_readName 35 = .ok (.aload_n 0, 1) := by decide +kernel
theorem dX5_readName_36 : decode cX5_readName 36 = .ok (.aload_n 0, 1) := by decide +kernel
theorem dX5_readName_37 : decode cX5_readName 37 = .ok (.getfield 34, 3) := by decide +kernel
theorem dX5_readName_40 : decode cX5_readName 40 = .ok (.iload_n 1, 1) := by decide +kernel
theorem dX5_readName_41 : decode cX5_readName 41 = .ok (.invokestatic 172, 3) := by decide +kernel
theorem dX5_readName_44 : decode cX5_readName 44 = .ok (.aload_n 0, 1) := by decide +kernel
theorem dX5_readName_45 : decode cX5_readName 45 = .ok (.getfield 37, 3) := by decide +kernel
theorem dX5_readName_48 : decode cX5_readName 48 = .ok (.iload_n 1, 1) := by decide +kernel
theorem dX5_readName_49 : decode cX5_readName 49 = .ok (.invokestatic 172, 3) := by decide +kernel
theorem dX5_readName_52 : decode cX5_readName 52 = .ok (.invokevirtual 176, 3) := by decide +kernel
theorem dX5_readName_55 : decode cX5_readName 55 = .ok (.ifCond .eq 9, 3) := by decide +kernel
theorem dX5_readName_58 : decode cX5_readName 58 = .ok (.aload_n 0, 1) := by decide +kernel
theorem dX5_readName_59 : decode cX5_readName 59 = .ok (.iconst 4, 1) := by decide +kernel
theorem dX5_readName_60 : decode cX5_readName 60 = .ok (.invokevirtual 97, 3) := by decide +kernel
theorem dX5_readName_63 : decode cX5_readName 63 = .ok (.ireturn, 1) := by decide +kernel
theorem dX5_readName_64 : decode cX5_readName 64 = .ok (.iinc 1 1, 3) := by decide +kernel
theorem dX5_readName_67 : decode cX5_readName 67 = .ok (.goto (-45), 3) := by decide +kernel
theorem dX5_readName_70 : decode cX5_readName 70 = .ok (.aload_n 0, 1) := by decide +kernel
theorem dX5_readName_71 : decode cX5_readName 71 = .ok (.getfield 34, 3) := by decide +kernel
theorem dX5_readName_74 : decode cX5_readName 74 = .ok (.aload_n 0, 1) := by decide +kernel
theorem dX5_readName_75 : decode cX5_readName 75 = .ok (.getfield 60, 3) := by decide +kernel
theorem dX5_readName_78 : decode cX5_readName 78 = .ok (.aload_n 0, 1) := by decide +kernel
theorem dX5_readName_79 : decode cX5_readName 79 = .ok (.getfield 63, 3) := by decide +kernel
theorem dX5_readName_82 : decode cX5_readName 82 = .ok (.iadd, 1) := by decide +kernel
theorem dX5_readName_83 : decode cX5_readName 83 = .ok (.aload_n 0, 1) := by decide +kernel
theorem dX5_readName_84 : decode cX5_readName 84 = .ok (.getfield 179, 3) := by decide +kernel
theorem dX5_readName_87 : decode cX5_readName 87 = .ok (.invokestatic 53, 3) := by decide +kernel
theorem dX5_readName_90 : decode cX5_readName 90 = .ok (.aload_n 0, 1) := by decide +kernel
theorem dX5_readName_91 : decode cX5_readName 91 = .ok (.getfield 37, 3) := by decide +kernel
theorem dX5_readName_94 : decode cX5_readName 94 = .ok (.aload_n 0, 1) := by decide +kernel
theorem dX5_readName_95 : decode cX5_readName 95 = .ok (.getfield 60, 3) := by decide +kernel
theorem dX5_readName_98 : decode cX5_readName 98 = .ok (.aload_n 0, 1) := by decide +kernel
theorem dX5_readName_99 : decode cX5_readName 99 = .ok (.getfield 63, 3) := by decide +kernel
theorem dX5_readName_102 : decode cX5_readName 102 = .ok (.iadd, 1) := by decide +kernel
theorem dX5_readName_103 : decode cX5_readName 103 = .ok (.aload_n 0, 1) := by decide +kernel
theorem dX5_readName_104 : decode cX5_readName 104 = .ok (.getfield 66, 3) := by decide +kernel
theorem dX5_readName_107 : decode cX5_readName 107 = .ok (.invokestatic 53, 3) := by decide +kernel
theorem dX5_readName_110 : decode cX5_readName 110 = .ok (.aload_n 0, 1) := by decide +kernel
theorem dX5_readName_111 : decode cX5_readName 111 = .ok (.invokevirtual 69, 3) := by decide +kernel
theorem dX5_readName_114 : decode cX5_readName 114 = .ok (.iconst 1, 1) := by decide +kernel
theorem dX5_readName_115 : decode cX5_readName 115 = .ok (.ireturn, 1) := by decide +kernel
theorem dX5_readWord_0 : decode cX5_readWord 0 = .ok (.aload_n 0, 1) := by decide +kernel
theorem dX5_readWord_1 : decode cX5_readWord 1 = .ok (.aload_n 1, 1) := by decide +kernel
theorem dX5_readWord_2 : decode cX5_readWord 2 = .ok (.invokevirtual 77, 3) := by decide +kernel
theorem dX5_readWord_5 : decode cX5_readWord 5 = .ok (.ifCond .ne 8, 3) := by decide +kernel
theorem dX5_readWord_8 : decode cX5_readWord 8 = .ok (.aload_n 0, 1) := by decide +kernel
theorem dX5_readWord_9 : decode cX5_readWord 9 = .ok (.invokevirtual 90, 3) := by decide +kernel
theorem dX5_readWord_12 : decode cX5_readWord 12 = .ok (.ireturn, 1) := by decide +kernel
theorem dX5_readWord_13 : decode cX5_readWord 13 = .ok (.aload_n 0, 1) := by decide +kernel
theorem dX5_readWord_14 : decode cX5_readWord 14 = .ok (.invokevirtual 69, 3) := by decide +kernel
theorem dX5_readWord_17 : decode cX5_readWord 17 = .ok (.iconst 1, 1) := by decide +kernel
theorem dX5_readWord_18 : decode cX5_readWord 18 = .ok (.ireturn, 1) := by decide +kernel
theorem dX5_readSign_0 : decode cX5_readSign 0 = .ok (.aload_n 0, 1) := by decide +kernel
theorem dX5_readSign_1 : decode cX5_readSign 1 = .ok (.getfield 72, 3) := by decide +kernel
theorem dX5_readSign_4 : decode cX5_readSign 4 = .ok (.iconst 4, 1) := by decide +kernel
theorem dX5_readSign_5 : decode cX5_readSign 5 = .ok (.if_icmp .eq 8, 3) := by decide +kernel
theorem dX5_readSign_8 : decode cX5_readSign 8 = .ok (.aload_n 0, 1) := by decide +kernel
theorem dX5_readSign_9 : decode cX5_readSign 9 = .ok (.invokevirtual 90, 3) := by decide +kernel
theorem dX5_readSign_12 : decode cX5_readSign 12 = .ok (.ireturn, 1) := by decide +kernel
theorem dX5_readSign_13 : decode cX5_readSign 13 = .ok (.aload_n 0, 1) := by decide +kernel
theorem dX5_readSign_14 : decode cX5_readSign 14 = .ok (.invokevirtual 69, 3) := by decide +kernel
theorem dX5_readSign_17 : decode cX5_readSign 17 = .ok (.iconst 1, 1) := by decide +kernel
theorem dX5_readSign_18 : decode cX5_readSign 18 = .ok (.ireturn, 1) := by decide +kernel
theorem dX5_readNumber_0 : decode cX5_readNumber 0 = .ok (.aload_n 0, 1) := by decide +kernel
theorem dX5_readNumber_1 : decode cX5_readNumber 1 = .ok (.getfield 72, 3) := by decide +kernel
theorem dX5_readNumber_4 : decode cX5_readNumber 4 = .ok (.iconst 3, 1) := by decide +kernel
theorem dX5_readNumber_5 : decode cX5_readNumber 5 = .ok (.if_icmp .eq 10, 3) := by decide +kernel
theorem dX5_readNumber_8 : decode cX5_readNumber 8 = .ok (.aload_n 0, 1) := by decide +kernel
theorem dX5_readNumber_9 : decode cX5_readNumber 9 = .ok (.invokevirtual 90, 3) := by decide +kernel
theorem dX5_readNumber_12 : decode cX5_readNumber 12 = .ok (.pop, 1) := by decide +kernel
theorem dX5_readNumber_13 : decode cX5_readNumber 13 = .ok (.iconst (-1), 1) := by decide +kernel
theorem dX5_readNumber_14 : decode cX5_readNumber 14 = .ok (.ireturn, 1) := by decide +kernel
theorem dX5_readNumber_15 : decode cX5_readNumber 15 = .ok (.aload_n 0, 1) := by decide +kernel
theorem dX5_readNumber_16 : decode cX5_readNumber 16 = .ok (.getfield 182, 3) := by decide +kernel
theorem dX5_readNumber_19 : decode cX5_readNumber 19 = .ok (.iload_n 1, 1) := by decide +kernel
theorem dX5_readNumber_20 : decode cX5_readNumber 20 = .ok (.iload_n 2, 1) := by decide +kernel
theorem dX5_readNumber_21 : decode cX5_readNumber 21 = .ok (.invokestatic 42, 3) := by decide +kernel
theorem dX5_readNumber_24 : decode cX5_readNumber 24 = .ok (.ifCond .ne 11, 3) := by decide +kernel
theorem dX5_readNumber_27 : decode cX5_readNumber 27 = .ok (.aload_n 0, 1) := by decide +kernel
theorem dX5_readNumber_28 : decode cX5_readNumber 28 = .ok (.iconst 3, 1) := by decide +kernel
theorem dX5_readNumber_29 : decode cX5_readNumber 29 = .ok (.invokevirtual 97, 3) := by decide +kernel
theorem dX5_readNumber_32 : decode cX5_readNumber 32 = .ok (.pop, 1) := by decide +kernel
theorem dX5_readNumber_33 : decode cX5_readNumber 33 = .ok (.iconst (-1), 1) := by decide +kernel
theorem dX5_readNumber_34 : decode cX5_readNumber 34 = .ok (.ireturn, 1) := by decide +kernel
theorem dX5_readNumber_35 : decode cX5_readNumber 35 = .ok (.aload_n 0, 1) := by decide +kernel
theorem dX5_readNumber_36 : decode cX5_readNumber 36 = .ok (.getfield 182, 3) := by decide +kernel
theorem dX5_readNumber_39 : decode cX5_readNumber 39 = .ok (.istore_n 3, 1) := by decide +kernel
theorem dX5_readNumber_40 : decode cX5_readNumber 40 = .ok (.aload_n 0, 1) := by decide +kernel
theorem dX5_readNumber_41 : decode cX5_readNumber 41 = .ok (.invokevirtual 69, 3) := by decide +kernel
theorem dX5_readNumber_44 : decode cX5_readNumber 44 = .ok (.iload_n 3, 1) := by decide +kernel
theorem dX5_readNumber_45 : decode cX5_readNumber 45 = .ok (.ireturn, 1) := by decide +kernel
theorem dX5_refuseSurplus_0 : decode cX5_refuseSurplus 0 = .ok (.aload_n 0, 1) := by decide +kernel
theorem dX5_refuseSurplus_1 : decode cX5_refuseSurplus 1 = .ok (.aload_n 0, 1) := by decide +kernel
theorem dX5_refuseSurplus_2 : decode cX5_refuseSurplus 2 = .ok (.getfield 182, 3) := by decide +kernel
theorem dX5_refuseSurplus_5 : decode cX5_refuseSurplus 5 = .ok (.iload_n 1, 1) := by decide +kernel
theorem dX5_refuseSurplus_6 : decode cX5_refuseSurplus 6 = .ok (.iload_n 2, 1) := by decide +kernel
theorem dX5_refuseSurplus_7 : decode cX5_refuseSurplus 7 = .ok (.invokestatic 42, 3) := by decide +kernel
theorem dX5_refuseSurplus_10 : decode cX5_refuseSurplus 10 = .ok (.ifCond .eq 7, 3) := by decide +kernel
theorem dX5_refuseSurplus_13 : decode cX5_refuseSurplus 13 = .ok (.iconst 5, 1) := by decide +kernel
theorem dX5_refuseSurplus_14 : decode cX5_refuseSurplus 14 = .ok (.goto 4, 3) := by decide +kernel
theorem dX5_refuseSurplus_17 : decode cX5_refuseSurplus 17 = .ok (.iconst 3, 1) := by decide +kernel
theorem dX5_refuseSurplus_18 : decode cX5_refuseSurplus 18 = .ok (.invokevirtual 97, 3) := by decide +kernel
theorem dX5_refuseSurplus_21 : decode cX5_refuseSurplus 21 = .ok (.ireturn, 1) := by decide +kernel
theorem dX5_unexpected_0 : decode cX5_unexpected 0 = .ok (.aload_n 0, 1) := by decide +kernel
theorem dX5_unexpected_1 : decode cX5_unexpected 1 = .ok (.aload_n 0, 1) := by decide +kernel
theorem dX5_unexpected_2 : decode cX5_unexpected 2 = .ok (.getfield 72, 3) := by decide +kernel
theorem dX5_unexpected_5 : decode cX5_unexpected 5 = .ok (.ifCond .ne 7, 3) := by decide +kernel
theorem dX5_unexpected_8 : decode cX5_unexpected 8 = .ok (.iconst 1, 1) := by decide +kernel
theorem dX5_unexpected_9 : decode cX5_unexpected 9 = .ok (.goto 4, 3) := by decide +kernel
theorem dX5_unexpected_12 : decode cX5_unexpected 12 = .ok (.iconst 2, 1) := by decide +kernel
theorem dX5_unexpected_13 : decode cX5_unexpected 13 = .ok (.invokevirtual 97, 3) := by decide +kernel
theorem dX5_unexpected_16 : decode cX5_unexpected 16 = .ok (.ireturn, 1) := by decide +kernel
theorem dX5_refuse_0 : decode cX5_refuse 0 = .ok (.aload_n 0, 1) := by decide +kernel
theorem dX5_refuse_1 : decode cX5_refuse 1 = .ok (.iload_n 1, 1) := by decide +kernel
theorem dX5_refuse_2 : decode cX5_refuse 2 = .ok (.putfield 15, 3) := by decide +kernel
theorem dX5_refuse_5 : decode cX5_refuse 5 = .ok (.aload_n 0, 1) := by decide +kernel
theorem dX5_refuse_6 : decode cX5_refuse 6 = .ok (.aload_n 0, 1) := by decide +kernel
theorem dX5_refuse_7 : decode cX5_refuse 7 = .ok (.getfield 179, 3) := by decide +kernel
theorem dX5_refuse_10 : decode cX5_refuse 10 = .ok (.putfield 19, 3) := by decide +kernel
theorem dX5_refuse_13 : decode cX5_refuse 13 = .ok (.iconst 0, 1) := by decide +kernel
theorem dX5_refuse_14 : decode cX5_refuse 14 = .ok (.ireturn, 1) := by decide +kernel
theorem dX5_look_0 : decode cX5_look 0 = .ok (.aload_n 0, 1) := by decide +kernel
theorem dX5_look_1 : decode cX5_look 1 = .ok (.aload_n 0, 1) := by decide +kernel
theorem dX5_look_2 : decode cX5_look 2 = .ok (.getfield 66, 3) := by decide +kernel
theorem dX5_look_5 : decode cX5_look 5 = .ok (.putfield 179, 3) := by decide +kernel
theorem dX5_look_8 : decode cX5_look 8 = .ok (.aload_n 0, 1) := by decide +kernel
theorem dX5_look_9 : decode cX5_look 9 = .ok (.getfield 179, 3) := by decide +kernel
theorem dX5_look_12 : decode cX5_look 12 = .ok (.aload_n 0, 1) := by decide +kernel
theorem dX5_look_13 : decode cX5_look 13 = .ok (.getfield 57, 3) := by decide +kernel
theorem dX5_look_16 : decode cX5_look 16 = .ok (.if_icmp .ge 30, 3) := by decide +kernel
theorem dX5_look_19 : decode cX5_look 19 = .ok (.aload_n 0, 1) := by decide +kernel
theorem dX5_look_20 : decode cX5_look 20 = .ok (.aload_n 0, 1) := by decide +kernel
theorem dX5_look_21 : decode cX5_look 21 = .ok (.getfield 179, 3) := by decide +kernel
theorem dX5_look_24 : decode cX5_look 24 = .ok (.invokevirtual 185, 3) := by decide +kernel
theorem dX5_look_27 : decode cX5_look 27 = .ok (.invokestatic 189, 3) := by decide +kernel
theorem dX5_look_30 : decode cX5_look 30 = .ok (.ifCond .eq 16, 3) := by decide +kernel
theorem dX5_look_33 : decode cX5_look 33 = .ok (.aload_n 0, 1) := by decide +kernel
theorem dX5_look_34 : decode cX5_look 34 = .ok (.dup, 1) := by decide +kernel
theorem dX5_look_35 : decode cX5_look 35 = .ok (.getfield 179, 3) := by decide +kernel
theorem dX5_look_38 : decode cX5_look 38 = .ok (.iconst 1, 1) := by decide +kernel
theorem dX5_look_39 : decode cX5_look 39 = .ok (.iadd, 1) := by decide +kernel
theorem dX5_look_40 : decode cX5_look 40 = .ok (.putfield 179, 3) := by decide +kernel
theorem dX5_look_43 : decode cX5_look 43 = .ok (.goto (-35), 3) := by decide +kernel
theorem dX5_look_46 : decode cX5_look 46 = .ok (.aload_n 0, 1) := by decide +kernel
theorem dX5_look_47 : decode cX5_look 47 = .ok (.aload_n 0, 1) := by decide +kernel
theorem dX5_look_48 : decode cX5_look 48 = .ok (.getfield 179, 3) := by decide +kernel
theorem dX5_look_51 : decode cX5_look 51 = .ok (.putfield 66, 3) := by decide +kernel
theorem dX5_look_54 : decode cX5_look 54 = .ok (.aload_n 0, 1) := by decide +kernel
theorem dX5_look_55 : decode cX5_look 55 = .ok (.iconst 0, 1) := by decide +kernel
theorem dX5_look_56 : decode cX5_look 56 = .ok (.putfield 182, 3) := by decide +kernel
theorem dX5_look_59 : decode cX5_look 59 = .ok (.aload_n 0, 1) := by decide +kernel
theorem dX5_look_60 : decode cX5_look 60 = .ok (.aload_n 0, 1) := by decide +kernel
theorem dX5_look_61 : decode cX5_look 61 = .ok (.getfield 179, 3) := by decide +kernel
theorem dX5_look_64 : decode cX5_look 64 = .ok (.invokevirtual 185, 3) := by decide +kernel
theorem dX5_look_67 : decode cX5_look 67 = .ok (.istore_n 1, 1) := by decide +kernel
theorem dX5_look_68 : decode cX5_look 68 = .ok (.iload_n 1, 1) := by decide +kernel
theorem dX5_look_69 : decode cX5_look 69 = .ok (.iconst (-1), 1) := by decide +kernel
theorem dX5_look_70 : decode cX5_look 70 = .ok (.if_icmp .ne 11, 3) := by decide +kernel
theorem dX5_look_73 : decode cX5_look 73 = .ok (.aload_n 0, 1) := by decide +kernel
theorem dX5_look_74 : decode cX5_look 74 = .ok (.iconst 1, 1) := by decide +kernel
theorem dX5_look_75 : decode cX5_look 75 = .ok (.putfield 72, 3) := by decide +kernel
theorem dX5_look_78 : decode cX5_look 78 = .ok (.goto 209, 3) := by decide +kernel
theorem dX5_look_81 : decode cX5_look 81 = .ok (.iload_n 1, 1) := by decide +kernel
theorem dX5_look_82 : decode cX5_look 82 = .ok (.bipush 59, 2) := by decide +kernel
theorem dX5_look_84 : decode cX5_look 84 = .ok (.if_icmp .ne 21, 3) := by decide +kernel
theorem dX5_look_87 : decode cX5_look 87 = .ok (.aload_n 0, 1) := by decide +kernel
theorem dX5_look_88 : decode cX5_look 88 = .ok (.dup, 1) := by decide +kernel
theorem dX5_look_89 : decode cX5_look 89 = .ok (.getfield 66, 3) := by decide +kernel
theorem dX5_look_92 : decode cX5_look 92 = .ok (.iconst 1, 1) := by decide +kernel
theorem dX5_look_93 : decode cX5_look 93 = .ok (.iadd, 1) := by decide +kernel
theorem dX5_look_94 : decode cX5_look 94 = .ok (.putfield 66, 3) := by decide +kernel
theorem dX5_look_97 : decode cX5_look 97 = .ok (.aload_n 0, 1) := by decide +kernel
theorem dX5_look_98 : decode cX5_look 98 = .ok (.iconst 4, 1) := by decide +kernel
theorem dX5_look_99 : decode cX5_look 99 = .ok (.putfield 72, 3) := by decide +kernel
theorem dX5_look_102 : decode cX5_look 102 = .ok (.goto 185, 3) := by decide +kernel
theorem dX5_look_105 : decode cX5_look 105 = .ok (.iload_n 1, 1) := by decide +kernel
theorem dX5_look_106 : decode cX5_look 106 = .ok (.invokestatic 192, 3) := by decide +kernel
theorem dX5_look_109 : decode cX5_look 109 = .ok (.ifCond .eq 67, 3) := by decide +kernel
theorem dX5_look_112 : decode cX5_look 112 = .ok (.aload_n 0, 1) := by decide +kernel
theorem dX5_look_113 : decode cX5_look 113 = .ok (.getfield 66, 3) := by decide +kernel
theorem dX5_look_116 : decode cX5_look 116 = .ok (.aload_n 0, 1) := by decide +kernel
theorem dX5_look_117 : decode cX5_look 117 = .ok (.getfield 57, 3) := by decide +kernel
theorem dX5_look_120 : decode cX5_look 120 = .ok (.if_icmp .ge 30, 3) := by decide +kernel
theorem dX5_look_123 : decode cX5_look 123 = .ok (.aload_n 0, 1) := by decide +kernel
theorem dX5_look_124 : decode cX5_look 124 = .ok (.aload_n 0, 1) := by decide +kernel
theorem dX5_look_125 : decode cX5_look 125 = .ok (.getfield 66, 3) := by decide +kernel
theorem dX5_look_128 : decode cX5_look 128 = .ok (.invokevirtual 185, 3) := by decide +kernel
theorem dX5_look_131 : decode cX5_look 131 = .ok (.invokestatic 192, 3) := by decide +kernel
theorem dX5_look_134 : decode cX5_look 134 = .ok (.ifCond .eq 16, 3) := by decide +kernel
theorem dX5_look_137 : decode cX5_look 137 = .ok (.aload_n 0, 1) := by decide +kernel
theorem dX5_look_138 : decode cX5_look 138 = .ok (.dup, 1) := by decide +kernel
theorem dX5_look_139 : decode cX5_look 139 = .ok (.getfield 66, 3) := by decide +kernel
theorem dX5_look_142 : decode cX5_look 142 = .ok (.iconst 1, 1) := by decide +kernel
theorem dX5_look_143 : decode cX5_look 143 = .ok (.iadd, 1) := by decide +kernel
theorem dX5_look_144 : decode cX5_look 144 = .ok (.putfield 66, 3) := by decide +kernel
theorem dX5_look_147 : decode cX5_look 147 = .ok (.goto (-35), 3) := by decide +kernel
theorem dX5_look_150 : decode cX5_look 150 = .ok (.aload_n 0, 1) := by decide +kernel
theorem dX5_look_151 : decode cX5_look 151 = .ok (.aload_n 0, 1) := by decide +kernel
theorem dX5_look_152 : decode cX5_look 152 = .ok (.getfield 66, 3) := by decide +kernel
theorem dX5_look_155 : decode cX5_look 155 = .ok (.aload_n 0, 1) := by decide +kernel
theorem dX5_look_156 : decode cX5_look 156 = .ok (.getfield 179, 3) := by decide +kernel
theorem dX5_look_159 : decode cX5_look 159 = .ok (.isub, 1) := by decide +kernel
theorem dX5_look_160 : decode cX5_look 160 = .ok (.bipush 8, 2) := by decide +kernel
theorem dX5_look_162 : decode cX5_look 162 = .ok (.if_icmp .gt 7, 3) := by decide +kernel
theorem dX5_look_165 : decode cX5_look 165 = .ok (.iconst 2, 1) := by decide +kernel
theorem dX5_look_166 : decode cX5_look 166 = .ok (.goto 4, 3) := by decide +kernel
theorem dX5_look_169 : decode cX5_look 169 = .ok (.iconst 0, 1) := by decide +kernel
theorem dX5_look_170 : decode cX5_look 170 = .ok (.putfield 72, 3) := by decide +kernel
theorem dX5_look_173 : decode cX5_look 173 = .ok (.goto 114, 3) := by decide +kernel
theorem dX5_look_176 : decode cX5_look 176 = .ok (.iload_n 1, 1) := by decide +kernel
theorem dX5_look_177 : decode cX5_look 177 = .ok (.invokestatic 195, 3) := by decide +kernel
theorem dX5_look_180 : decode cX5_look 180 = .ok (.ifCond .eq 102, 3) := by decide +kernel
theorem dX5_look_183 : decode cX5_look 183 = .ok (.aload_n 0, 1) := by decide +kernel
theorem dX5_look_184 : decode cX5_look 184 = .ok (.getfield 66, 3) := by decide +kernel
theorem dX5_look_187 : decode cX5_look 187 = .ok (.aload_n 0, 1) := by decide +kernel
theorem dX5_look_188 : decode cX5_look 188 = .ok (.getfield 57, 3) := by decide +kernel
theorem dX5_look_191 : decode cX5_look 191 = .ok (.if_icmp .ge 66, 3) := by decide +kernel
theorem dX5_look_194 : decode cX5_look 194 = .ok (.aload_n 0, 1) := by decide +kernel
theorem dX5_look_195 : decode cX5_look 195 = .ok (.aload_n 0, 1) := by decide +kernel
theorem dX5_look_196 : decode cX5_look 196 = .ok (.getfield 66, 3) := by decide +kernel
theorem dX5_look_199 : decode cX5_look 199 = .ok (.invokevirtual 185, 3) := by decide +kernel
theorem dX5_look_202 : decode cX5_look 202 = .ok (.invokestatic 195, 3) := by decide +kernel
theorem dX5_look_205 : decode cX5_look 205 = .ok (.ifCond .eq 52, 3) := by decide +kernel
theorem dX5_look_208 : decode cX5_look 208 = .ok (.aload_n 0, 1) := by decide +kernel
theorem dX5_look_209 : decode cX5_look 209 = .ok (.getfield 66, 3) := by decide +kernel
theorem dX5_look_212 : decode cX5_look 212 = .ok (.aload_n 0, 1) := by decide +kernel
theorem dX5_look_213 : decode cX5_look 213 = .ok (.getfield 179, 3) := by decide +kernel
theorem dX5_look_216 : decode cX5_look 216 = .ok (.isub, 1) := by decide +kernel
theorem dX5_look_217 : decode cX5_look 217 = .ok (.iconst 4, 1) := by decide +kernel
theorem dX5_look_218 : decode cX5_look 218 = .ok (.if_icmp .ge 26, 3) := by decide +kernel
theorem dX5_look_221 : decode cX5_look 221 = .ok (.aload_n 0, 1) := by decide +kernel
theorem dX5_look_222 : decode cX5_look 222 = .ok (.bipush 10, 2) := by decide +kernel
theorem dX5_look_224 : decode cX5_look 224 = .ok (.aload_n 0, 1) := by decide +kernel
theorem dX5_look_225 : decode cX5_look 225 = .ok (.getfield 182, 3) := by decide +kernel
theorem dX5_look_228 : decode cX5_look 228 = .ok (.imul, 1) := by decide +kernel
theorem dX5_look_229 : decode cX5_look 229 = .ok (.aload_n 0, 1) := by decide +kernel
theorem dX5_look_230 : decode cX5_look 230 = .ok (.aload_n 0, 1) := by decide +kernel
theorem dX5_look_231 : decode cX5_look 231 = .ok (.getfield 66, 3) := by decide +kernel
theorem dX5_look_234 : decode cX5_look 234 = .ok (.invokevirtual 185, 3) := by decide +kernel
theorem dX5_look_237 : decode cX5_look 237 = .ok (.iadd, 1) := by decide +kernel
theorem dX5_look_238 : decode cX5_look 238 = .ok (.bipush 48, 2) := by decide +kernel
theorem dX5_look_240 : decode cX5_look 240 = .ok (.isub, 1) := by decide +kernel
theorem dX5_look_241 : decode cX5_look 241 = .ok (.putfield 182, 3) := by decide +kernel
theorem dX5_look_244 : decode cX5_look 244 = .ok (.aload_n 0, 1) := by decide +kernel
theorem dX5_look_245 : decode cX5_look 245 = .ok (.dup, 1) := by decide +kernel
theorem dX5_look_246 : decode cX5_look 246 = .ok (.getfield 66, 3) := by decide +kernel
theorem dX5_look_249 : decode cX5_look 249 = .ok (.iconst 1, 1) := by decide +kernel
theorem dX5_look_250 : decode cX5_look 250 = .ok (.iadd, 1) := by decide +kernel
theorem dX5_look_251 : decode cX5_look 251 = .ok (.putfield 66, 3) := by decide +kernel
theorem dX5_look_254 : decode cX5_look 254 = .ok (.goto (-71), 3) := by decide +kernel
theorem dX5_look_257 : decode cX5_look 257 = .ok (.aload_n 0, 1) := by decide +kernel
theorem dX5_look_258 : decode cX5_look 258 = .ok (.aload_n 0, 1) := by decide +kernel
theorem dX5_look_259 : decode cX5_look 259 = .ok (.getfield 66, 3) := by decide +kernel
theorem dX5_look_262 : decode cX5_look 262 = .ok (.aload_n 0, 1) := by decide +kernel
theorem dX5_look_263 : decode cX5_look 263 = .ok (.getfield 179, 3) := by decide +kernel
theorem dX5_look_266 : decode cX5_look 266 = .ok (.isub, 1) := by decide +kernel
theorem dX5_look_267 : decode cX5_look 267 = .ok (.iconst 4, 1) := by decide +kernel
theorem dX5_look_268 : decode cX5_look 268 = .ok (.if_icmp .gt 7, 3) := by decide +kernel
theorem dX5_look_271 : decode cX5_look 271 = .ok (.iconst 3, 1) := by decide +kernel
theorem dX5_look_272 : decode cX5_look 272 = .ok (.goto 4, 3) := by decide +kernel
theorem dX5_look_275 : decode cX5_look 275 = .ok (.iconst 0, 1) := by decide +kernel
theorem dX5_look_276 : decode cX5_look 276 = .ok (.putfield 72, 3) := by decide +kernel
theorem dX5_look_279 : decode cX5_look 279 = .ok (.goto 8, 3) := by decide +kernel
theorem dX5_look_282 : decode cX5_look 282 = .ok (.aload_n 0, 1) := by decide +kernel
theorem dX5_look_283 : decode cX5_look 283 = .ok (.iconst 0, 1) := by decide +kernel
theorem dX5_look_284 : decode cX5_look 284 = .ok (.putfield 72, 3) := by decide +kernel
theorem dX5_look_287 : decode cX5_look 287 = .ok (.return_, 1) := by decide +kernel
theorem dX5_isReserved_0 : decode cX5_isReserved 0 = .ok (.aload_n 0, 1) := by decide +kernel
theorem dX5_isReserved_1 : decode cX5_isReserved 1 = .ok (.ldc 75, 2) := by decide +kernel
theorem dX5_isReserved_3 : decode cX5_isReserved 3 = .ok (.invokevirtual 77, 3) := by decide +kernel
theorem dX5_isReserved_6 : decode cX5_isReserved 6 = .ok (.ifCond .ne 102, 3) := by decide +kernel
theorem dX5_isReserved_9 : decode cX5_isReserved 9 = .ok (.aload_n 0, 1) := by decide +kernel
theorem dX5_isReserved_10 : decode cX5_isReserved 10 = .ok (.ldc 104, 2) := by decide +kernel
theorem dX5_isReserved_12 : decode cX5_isReserved 12 = .ok (.invokevirtual 77, 3) := by decide +kernel
theorem dX5_isReserved_15 : decode cX5_isReserved 15 = .ok (.ifCond .ne 93, 3) := by decide +kernel
theorem dX5_isReserved_18 : decode cX5_isReserved 18 = .ok (.aload_n 0, 1) := by decide +kernel
theorem dX5_isReserved_19 : decode cX5_isReserved 19 = .ok (.ldc 113, 2) := by decide +kernel
theorem dX5_isReserved_21 : decode cX5_isReserved 21 = .ok (.invokevirtual 77, 3) := by decide +kernel
theorem dX5_isReserved_24 : decode cX5_isReserved 24 = .ok (.ifCond .ne 84, 3) := by decide +kernel
theorem dX5_isReserved_27 : decode cX5_isReserved 27 = .ok (.aload_n 0, 1) := by decide +kernel
theorem dX5_isReserved_28 : decode cX5_isReserved 28 = .ok (.ldc 115, 2) := by decide +kernel
theorem dX5_isReserved_30 : decode cX5_isReserved 30 = .ok (.invokevirtual 77, 3) := by decide +kernel
theorem dX5_isReserved_33 : decode cX5_isReserved 33 = .ok (.ifCond .ne 75, 3) := by decide +kernel
theorem dX5_isReserved_36 : decode cX5_isReserved 36 = .ok (.aload_n 0, 1) := by decide +kernel
theorem dX5_isReserved_37 : decode cX5_isReserved 37 = .ok (.ldc 135, 2) := by decide +kernel
theorem dX5_isReserved_39 : decode cX5_isReserved 39 = .ok (.invokevirtual 77, 3) := by decide +kernel
theorem dX5_isReserved_42 : decode cX5_isReserved 42 = .ok (.ifCond .ne 66, 3) := by decide +kernel
theorem dX5_isReserved_45 : decode cX5_isReserved 45 = .ok (.aload_n 0, 1) := by decide +kernel
theorem dX5_isReserved_46 : decode cX5_isReserved 46 = .ok (.ldc 137, 2) := by decide +kernel
theorem dX5_isReserved_48 : decode cX5_isReserved 48 = .ok (.invokevirtual 77, 3) := by decide +kernel
theorem dX5_isReserved_51 : decode cX5_isReserved 51 = .ok (.ifCond .ne 57, 3) := by decide +kernel
theorem dX5_isReserved_54 : decode cX5_isReserved 54 = .ok (.aload_n 0, 1) := by decide +kernel
theorem dX5_isReserved_55 : decode cX5_isReserved 55 = .ok (.ldc 139, 2) := by decide +kernel
theorem dX5_isReserved_57 : decode cX5_isReserved 57 = .ok (.invokevirtual 77, 3) := by decide +kernel
theorem dX5_isReserved_60 : decode cX5_isReserved 60 = .ok (.ifCond .ne 48, 3) := by decide +kernel
theorem dX5_isReserved_63 : decode cX5_isReserved 63 = .ok (.aload_n 0, 1) := by decide +kernel
theorem dX5_isReserved_64 : decode cX5_isReserved 64 = .ok (.ldc 141, 2) := by decide +kernel
theorem dX5_isReserved_66 : decode cX5_isReserved 66 = .ok (.invokevirtual 77, 3) := by decide +kernel
theorem dX5_isReserved_69 : decode cX5_isReserved 69 = .ok (.ifCond .ne 39, 3) := by decide +kernel
theorem dX5_isReserved_72 : decode cX5_isReserved 72 = .ok (.aload_n 0, 1) := by decide +kernel
theorem dX5_isReserved_73 : decode cX5_isReserved 73 = .ok (.ldc 143, 2) := by decide +kernel
theorem dX5_isReserved_75 : decode cX5_isReserved 75 = .ok (.invokevirtual 77, 3) := by decide +kernel
theorem dX5_isReserved_78 : decode cX5_isReserved 78 = .ok (.ifCond .ne 30, 3) := by decide +kernel
theorem dX5_isReserved_81 : decode cX5_isReserved 81 = .ok (.aload_n 0, 1) := by decide +kernel
theorem dX5_isReserved_82 : decode cX5_isReserved 82 = .ok (.ldc 147, 2) := by decide +kernel
theorem dX5_isReserved_84 : decode cX5_isReserved 84 = .ok (.invokevirtual 77, 3) := by decide +kernel
theorem dX5_isReserved_87 : decode cX5_isReserved 87 = .ok (.ifCond .ne 21, 3) := by decide +kernel
theorem dX5_isReserved_90 : decode cX5_isReserved 90 = .ok (.aload_n 0, 1) := by decide +kernel
theorem dX5_isReserved_91 : decode cX5_isReserved 91 = .ok (.ldc 145, 2) := by decide +kernel
theorem dX5_isReserved_93 : decode cX5_isReserved 93 = .ok (.invokevirtual 77, 3) := by decide +kernel
theorem dX5_isReserved_96 : decode cX5_isReserved 96 = .ok (.ifCond .ne 12, 3) := by decide +kernel
theorem dX5_isReserved_99 : decode cX5_isReserved 99 = .ok (.aload_n 0, 1) := by decide +kernel
theorem dX5_isReserved_100 : decode cX5_isReserved 100 = .ok (.ldc 85, 2) := by decide +kernel
theorem dX5_isReserved_102 : decode cX5_isReserved 102 = .ok (.invokevirtual 77, 3) := by decide +kernel
theorem dX5_isReserved_105 : decode cX5_isReserved 105 = .ok (.ifCond .eq 7, 3) := by decide +kernel
theorem dX5_isReserved_108 : decode cX5_isReserved 108 = .ok (.iconst 1, 1) := by decide +kernel
theorem dX5_isReserved_109 : decode cX5_isReserved 109 = .ok (.goto 4, 3) := by decide +kernel
theorem dX5_isReserved_112 : decode cX5_isReserved 112 = .ok (.iconst 0, 1) := by decide +kernel
theorem dX5_isReserved_113 : decode cX5_isReserved 113 = .ok (.ireturn, 1) := by decide +kernel
theorem dX5_is_0 : decode cX5_is 0 = .ok (.aload_n 0, 1) := by decide +kernel
theorem dX5_is_1 : decode cX5_is 1 = .ok (.getfield 72, 3) := by decide +kernel
theorem dX5_is_4 : decode cX5_is 4 = .ok (.iconst 2, 1) := by decide +kernel
theorem dX5_is_5 : decode cX5_is 5 = .ok (.if_icmp .ne 19, 3) := by decide +kernel
theorem dX5_is_8 : decode cX5_is 8 = .ok (.aload_n 0, 1) := by decide +kernel
theorem dX5_is_9 : decode cX5_is 9 = .ok (.getfield 66, 3) := by decide +kernel
theorem dX5_is_12 : decode cX5_is 12 = .ok (.aload_n 0, 1) := by decide +kernel
theorem dX5_is_13 : decode cX5_is 13 = .ok (.getfield 179, 3) := by decide +kernel
theorem dX5_is_16 : decode cX5_is 16 = .ok (.isub, 1) := by decide +kernel
theorem dX5_is_17 : decode cX5_is 17 = .ok (.aload_n 1, 1) := by decide +kernel
theorem dX5_is_18 : decode cX5_is 18 = .ok (.invokevirtual 198, 3) := by decide +kernel
theorem dX5_is_21 : decode cX5_is 21 = .ok (.if_icmp .eq 5, 3) := by decide +kernel
theorem dX5_is_24 : decode cX5_is 24 = .ok (.iconst 0, 1) := by decide +kernel
theorem dX5_is_25 : decode cX5_is 25 = .ok (.ireturn, 1) := by decide +kernel
theorem dX5_is_26 : decode cX5_is 26 = .ok (.iconst 0, 1) := by decide +kernel
theorem dX5_is_27 : decode cX5_is 27 = .ok (.istore_n 2, 1) := by decide +kernel
theorem dX5_is_28 : decode cX5_is 28 = .ok (.iload_n 2, 1) := by decide +kernel
theorem dX5_is_29 : decode cX5_is 29 = .ok (.aload_n 1, 1) := by decide +kernel
theorem dX5_is_30 : decode cX5_is 30 = .ok (.invokevirtual 198, 3) := by decide +kernel
theorem dX5_is_33 : decode cX5_is 33 = .ok (.if_icmp .ge 29, 3) := by decide +kernel
theorem dX5_is_36 : decode cX5_is 36 = .ok (.aload_n 0, 1) := by decide +kernel
theorem dX5_is_37 : decode cX5_is 37 = .ok (.aload_n 0, 1) := by decide +kernel
theorem dX5_is_38 : decode cX5_is 38 = .ok (.getfield 179, 3) := by decide +kernel
theorem dX5_is_41 : decode cX5_is 41 = .ok (.iload_n 2, 1) := by decide +kernel
theorem dX5_is_42 : decode cX5_is 42 = .ok (.iadd, 1) := by decide +kernel
theorem dX5_is_43 : decode cX5_is 43 = .ok (.invokevirtual 185, 3) := by decide +kernel
theorem dX5_is_46 : decode cX5_is 46 = .ok (.aload_n 1, 1) := by decide +kernel
theorem dX5_is_47 : decode cX5_is 47 = .ok (.iload_n 2, 1) := by decide +kernel
theorem dX5_is_48 : decode cX5_is 48 = .ok (.invokevirtual 202, 3) := by decide +kernel
theorem dX5_is_51 : decode cX5_is 51 = .ok (.if_icmp .eq 5, 3) := by decide +kernel
theorem dX5_is_54 : decode cX5_is 54 = .ok (.iconst 0, 1) := by decide +kernel
theorem dX5_is_55 : decode cX5_is 55 = .ok (.ireturn, 1) := by decide +kernel
theorem dX5_is_56 : decode cX5_is 56 = .ok (.iinc 2 1, 3) := by decide +kernel
theorem dX5_is_59 : decode cX5_is 59 = .ok (.goto (-31), 3) := by decide +kernel
theorem dX5_is_62 : decode cX5_is 62 = .ok (.iconst 1, 1) := by decide +kernel
theorem dX5_is_63 : decode cX5_is 63 = .ok (.ireturn, 1) := by decide +kernel
theorem dX5_isSameWord_0 : decode cX5_isSameWord 0 = .ok (.aload_n 0, 1) := by decide +kernel
theorem dX5_isSameWord_1 : decode cX5_isSameWord 1 = .ok (.getfield 66, 3) := by decide +kernel
theorem dX5_isSameWord_4 : decode cX5_isSameWord 4 = .ok (.aload_n 0, 1) := by decide +kernel
theorem dX5_isSameWord_5 : decode cX5_isSameWord 5 = .ok (.getfield 179, 3) := by decide +kernel
theorem dX5_isSameWord_8 : decode cX5_isSameWord 8 = .ok (.isub, 1) := by decide +kernel
theorem dX5_isSameWord_9 : decode cX5_isSameWord 9 = .ok (.iload_n 2, 1) := by decide +kernel
theorem dX5_isSameWord_10 : decode cX5_isSameWord 10 = .ok (.iload_n 1, 1) := by decide +kernel
theorem dX5_isSameWord_11 : decode cX5_isSameWord 11 = .ok (.isub, 1) := by decide +kernel
theorem dX5_isSameWord_12 : decode cX5_isSameWord 12 = .ok (.if_icmp .eq 5, 3) := by decide +kernel
theorem dX5_isSameWord_15 : decode cX5_isSameWord 15 = .ok (.iconst 0, 1) := by decide +kernel
theorem dX5_isSameWord_16 : decode cX5_isSameWord 16 = .ok (.ireturn, 1) := by decide +kernel
theorem dX5_isSameWord_17 : decode cX5_isSameWord 17 = .ok (.iconst 0, 1) := by decide +kernel
theorem dX5_isSameWord_18 : decode cX5_isSameWord 18 = .ok (.istore_n 3, 1) := by decide +kernel
theorem dX5_isSameWord_19 : decode cX5_isSameWord 19 = .ok (.iload_n 3, 1) := by decide +kernel
theorem dX5_isSameWord_20 : decode cX5_isSameWord 20 = .ok (.aload_n 0, 1) := by decide +kernel
theorem dX5_isSameWord_21 : decode cX5_isSameWord 21 = .ok (.getfield 66, 3) := by decide +kernel
theorem dX5_isSameWord_24 : decode cX5_isSameWord 24 = .ok (.aload_n 0, 1) := by decide +kernel
theorem dX5_isSameWord_25 : decode cX5_isSameWord 25 = .ok (.getfield 179, 3) := by decide +kernel
theorem dX5_isSameWord_28 : decode cX5_isSameWord 28 = .ok (.isub, 1) := by decide +kernel
theorem dX5_isSameWord_29 : decode cX5_isSameWord 29 = .ok (.if_icmp .ge 31, 3) := by decide +kernel
theorem dX5_isSameWord_32 : decode cX5_isSameWord 32 = .ok (.aload_n 0, 1) := by decide +kernel
theorem dX5_isSameWord_33 : decode cX5_isSameWord 33 = .ok (.aload_n 0, 1) := by decide +kernel
theorem dX5_isSameWord_34 : decode cX5_isSameWord 34 = .ok (.getfield 179, 3) := by decide +kernel
theorem dX5_isSameWord_37 : decode cX5_isSameWord 37 = .ok (.iload_n 3, 1) := by decide +kernel
theorem dX5_isSameWord_38 : decode cX5_isSameWord 38 = .ok (.iadd, 1) := by decide +kernel
theorem dX5_isSameWord_39 : decode cX5_isSameWord 39 = .ok (.invokevirtual 185, 3) := by decide +kernel
theorem dX5_isSameWord_42 : decode cX5_isSameWord 42 = .ok (.aload_n 0, 1) := by decide +kernel
theorem dX5_isSameWord_43 : decode cX5_isSameWord 43 = .ok (.iload_n 1, 1) := by decide +kernel
theorem dX5_isSameWord_44 : decode cX5_isSameWord 44 = .ok (.iload_n 3, 1) := by decide +kernel
theorem dX5_isSameWord_45 : decode cX5_isSameWord 45 = .ok (.iadd, 1) := by decide +kernel
theorem dX5_isSameWord_46 : decode cX5_isSameWord 46 = .ok (.invokevirtual 185, 3) := by decide +kernel
theorem dX5_isSameWord_49 : decode cX5_isSameWord 49 = .ok (.if_icmp .eq 5, 3) := by decide +kernel
theorem dX5_isSameWord_52 : decode cX5_isSameWord 52 = .ok (.iconst 0, 1) := by decide +kernel
theorem dX5_isSameWord_53 : decode cX5_isSameWord 53 = .ok (.ireturn, 1) := by decide +kernel
theorem dX5_isSameWord_54 : decode cX5_isSameWord 54 = .ok (.iinc 3 1, 3) := by decide +kernel
theorem dX5_isSameWord_57 : decode cX5_isSameWord 57 = .ok (.goto (-38), 3) := by decide +kernel
theorem dX5_isSameWord_60 : decode cX5_isSameWord 60 = .ok (.iconst 1, 1) := by decide +kernel
theorem dX5_isSameWord_61 : decode cX5_isSameWord 61 = .ok (.ireturn, 1) := by decide +kernel
theorem dX5_byteAt_0 : decode cX5_byteAt 0 = .ok (.iload_n 1, 1) := by decide +kernel
theorem dX5_byteAt_1 : decode cX5_byteAt 1 = .ok (.ifCond .lt 29, 3) := by decide +kernel
theorem dX5_byteAt_4 : decode cX5_byteAt 4 = .ok (.iload_n 1, 1) := by decide +kernel
theorem dX5_byteAt_5 : decode cX5_byteAt 5 = .ok (.aload_n 0, 1) := by decide +kernel
theorem dX5_byteAt_6 : decode cX5_byteAt 6 = .ok (.getfield 57, 3) := by decide +kernel
theorem dX5_byteAt_9 : decode cX5_byteAt 9 = .ok (.if_icmp .ge 21, 3) := by decide +kernel
theorem dX5_byteAt_12 : decode cX5_byteAt 12 = .ok (.iload_n 1, 1) := by decide +kernel
theorem dX5_byteAt_13 : decode cX5_byteAt 13 = .ok (.aload_n 0, 1) := by decide +kernel
theorem dX5_byteAt_14 : decode cX5_byteAt 14 = .ok (.getfield 9, 3) := by decide +kernel
theorem dX5_byteAt_17 : decode cX5_byteAt 17 = .ok (.arraylength, 1) := by decide +kernel
theorem dX5_byteAt_18 : decode cX5_byteAt 18 = .ok (.if_icmp .ge 12, 3) := by decide +kernel
theorem dX5_byteAt_21 : decode cX5_byteAt 21 = .ok (.aload_n 0, 1) := by decide +kernel
theorem dX5_byteAt_22 : decode cX5_byteAt 22 = .ok (.getfield 9, 3) := by decide +kernel
theorem dX5_byteAt_25 : decode cX5_byteAt 25 = .ok (.iload_n 1, 1) := by decide +kernel
theorem dX5_byteAt_26 : decode cX5_byteAt 26 = .ok (.iaload, 1) := by decide +kernel
theorem dX5_byteAt_27 : decode cX5_byteAt 27 = .ok (.goto 4, 3) := by decide +kernel
theorem dX5_byteAt_30 : decode cX5_byteAt 30 = .ok (.iconst (-1), 1) := by decide +kernel
theorem dX5_byteAt_31 : decode cX5_byteAt 31 = .ok (.ireturn, 1) := by decide +kernel
theorem dX5_isBlank_0 : decode cX5_isBlank 0 = .ok (.iload_n 0, 1) := by decide +kernel
theorem dX5_isBlank_1 : decode cX5_isBlank 1 = .ok (.bipush 10, 2) := by decide +kernel
theorem dX5_isBlank_3 : decode cX5_isBlank 3 = .ok (.if_icmp .eq 9, 3) := by decide +kernel
theorem dX5_isBlank_6 : decode cX5_isBlank 6 = .ok (.iload_n 0, 1) := by decide +kernel
theorem dX5_isBlank_7 : decode cX5_isBlank 7 = .ok (.bipush 32, 2) := by decide +kernel
theorem dX5_isBlank_9 : decode cX5_isBlank 9 = .ok (.if_icmp .ne 7, 3) := by decide +kernel
theorem dX5_isBlank_12 : decode cX5_isBlank 12 = .ok (.iconst 1, 1) := by decide +kernel
theorem dX5_isBlank_13 : decode cX5_isBlank 13 = .ok (.goto 4, 3) := by decide +kernel
theorem dX5_isBlank_16 : decode cX5_isBlank 16 = .ok (.iconst 0, 1) := by decide +kernel
theorem dX5_isBlank_17 : decode cX5_isBlank 17 = .ok (.ireturn, 1) := by decide +kernel
theorem dX5_isLetter_0 : decode cX5_isLetter 0 = .ok (.iload_n 0, 1) := by decide +kernel
theorem dX5_isLetter_1 : decode cX5_isLetter 1 = .ok (.bipush 97, 2) := by decide +kernel
theorem dX5_isLetter_3 : decode cX5_isLetter 3 = .ok (.if_icmp .lt 13, 3) := by decide +kernel
theorem dX5_isLetter_6 : decode cX5_isLetter 6 = .ok (.iload_n 0, 1) := by decide +kernel
theorem dX5_isLetter_7 : decode cX5_isLetter 7 = .ok (.bipush 122, 2) := by decide +kernel
theorem dX5_isLetter_9 : decode cX5_isLetter 9 = .ok (.if_icmp .gt 7, 3) := by decide +kernel
theorem dX5_isLetter_12 : decode cX5_isLetter 12 = .ok (.iconst 1, 1) := by decide +kernel
theorem dX5_isLetter_13 : decode cX5_isLetter 13 = .ok (.goto 4, 3) := by decide +kernel
theorem dX5_isLetter_16 : decode cX5_isLetter 16 = .ok (.iconst 0, 1) := by decide +kernel
theorem dX5_isLetter_17 : decode cX5_isLetter 17 = .ok (.ireturn, 1) := by decide +kernel
theorem dX5_isDigit_0 : decode cX5_isDigit 0 = .ok (.iload_n 0, 1) := by decide +kernel
theorem dX5_isDigit_1 : decode cX5_isDigit 1 = .ok (.bipush 48, 2) := by decide +kernel
theorem dX5_isDigit_3 : decode cX5_isDigit 3 = .ok (.if_icmp .lt 13, 3) := by decide +kernel
theorem dX5_isDigit_6 : decode cX5_isDigit 6 = .ok (.iload_n 0, 1) := by decide +kernel
theorem dX5_isDigit_7 : decode cX5_isDigit 7 = .ok (.bipush 57, 2) := by decide +kernel
theorem dX5_isDigit_9 : decode cX5_isDigit 9 = .ok (.if_icmp .gt 7, 3) := by decide +kernel
theorem dX5_isDigit_12 : decode cX5_isDigit 12 = .ok (.iconst 1, 1) := by decide +kernel
theorem dX5_isDigit_13 : decode cX5_isDigit 13 = .ok (.goto 4, 3) := by decide +kernel
theorem dX5_isDigit_16 : decode cX5_isDigit 16 = .ok (.iconst 0, 1) := by decide +kernel
theorem dX5_isDigit_17 : decode cX5_isDigit 17 = .ok (.ireturn, 1) := by decide +kernel
theorem dX6_init_0 : decode cX6_init 0 = .ok (.aload_n 0, 1) := by decide +kernel
theorem dX6_init_1 : decode cX6_init 1 = .ok (.invokespecial 3, 3) := by decide +kernel
theorem dX6_init_4 : decode cX6_init 4 = .ok (.aload_n 0, 1) := by decide +kernel
theorem dX6_init_5 : decode cX6_init 5 = .ok (.iconst 4, 1) := by decide +kernel
theorem dX6_init_6 : decode cX6_init 6 = .ok (.anewarray 9, 3) := by decide +kernel
theorem dX6_init_9 : decode cX6_init 9 = .ok (.putfield 11, 3) := by decide +kernel
theorem dX6_init_12 : decode cX6_init 12 = .ok (.aload_n 0, 1) := by decide +kernel
theorem dX6_init_13 : decode cX6_init 13 = .ok (.iconst 3, 1) := by decide +kernel
theorem dX6_init_14 : decode cX6_init 14 = .ok (.anewarray 17, 3) := by decide +kernel
theorem dX6_init_17 : decode cX6_init 17 = .ok (.putfield 19, 3) := by decide +kernel
theorem dX6_init_20 : decode cX6_init 20 = .ok (.aload_n 0, 1) := by decide +kernel
theorem dX6_init_21 : decode cX6_init 21 = .ok (.bipush 8, 2) := by decide +kernel
theorem dX6_init_23 : decode cX6_init 23 = .ok (.newarray .int, 2) := by decide +kernel
theorem dX6_init_25 : decode cX6_init 25 = .ok (.putfield 23, 3) := by decide +kernel
theorem dX6_init_28 : decode cX6_init 28 = .ok (.aload_n 0, 1) := by decide +kernel
theorem dX6_init_29 : decode cX6_init 29 = .ok (.bipush 8, 2) := by decide +kernel
theorem dX6_init_31 : decode cX6_init 31 = .ok (.newarray .int, 2) := by decide +kernel
theorem dX6_init_33 : decode cX6_init 33 = .ok (.putfield 27, 3) := by decide +kernel
theorem dX6_init_36 : decode cX6_init 36 = .ok (.aload_n 0, 1) := by decide +kernel
theorem dX6_init_37 : decode cX6_init 37 = .ok (.bipush 8, 2) := by decide +kernel
theorem dX6_init_39 : decode cX6_init 39 = .ok (.anewarray 9, 3) := by decide +kernel
theorem dX6_init_42 : decode cX6_init 42 = .ok (.putfield 30, 3) := by decide +kernel
theorem dX6_init_45 : decode cX6_init 45 = .ok (.iconst 0, 1) := by decide +kernel
theorem dX6_init_46 : decode cX6_init 46 = .ok (.istore_n 1, 1) := by decide +kernel
theorem dX6_init_47 : decode cX6_init 47 = .ok (.iload_n 1, 1) := by decide +kernel
theorem dX6_init_48 : decode cX6_init 48 = .ok (.aload_n 0, 1) := by decide +kernel
theorem dX6_init_49 : decode cX6_init 49 = .ok (.getfield 11, 3) := by decide +kernel
theorem dX6_init_52 : decode cX6_init 52 = .ok (.arraylength, 1) := by decide +kernel
theorem dX6_init_53 : decode cX6_init 53 = .ok (.if_icmp .ge 22, 3) := by decide +kernel
theorem dX6_init_56 : decode cX6_init 56 = .ok (.aload_n 0, 1) := by decide +kernel
theorem dX6_init_57 : decode cX6_init 57 = .ok (.getfield 11, 3) := by decide +kernel
theorem dX6_init_60 : decode cX6_init 60 = .ok (.iload_n 1, 1) := by decide +kernel
theorem dX6_init_61 : decode cX6_init 61 = .ok (.new 9, 3) := by decide +kernel
theorem dX6_init_64 : decode cX6_init 64 = .ok (.dup, 1) := by decide +kernel
theorem dX6_init_65 : decode cX6_init 65 = .ok (.invokespecial 33, 3) := by decide +kernel
theorem dX6_init_68 : decode cX6_init 68 = .ok (.aastore, 1) := by decide +kernel
theorem dX6_init_69 : decode cX6_init 69 = .ok (.iinc 1 1, 3) := by decide +kernel
theorem dX6_init_72 : decode cX6_init 72 = .ok (.goto (-25), 3) := by decide +kernel
theorem dX6_init_75 : decode cX6_init 75 = .ok (.iconst 0, 1) := by decide +kernel
theorem dX6_init_76 : decode cX6_init 76 = .ok (.istore_n 1, 1) := by decide +kernel
theorem dX6_init_77 : decode cX6_init 77 = .ok (.iload_n 1, 1) := by decide +kernel
theorem dX6_init_78 : decode cX6_init 78 = .ok (.aload_n 0, 1) := by decide +kernel
theorem dX6_init_79 : decode cX6_init 79 = .ok (.getfield 19, 3) := by decide +kernel
theorem dX6_init_82 : decode cX6_init 82 = .ok (.arraylength, 1) := by decide +kernel
theorem dX6_init_83 : decode cX6_init 83 = .ok (.if_icmp .ge 22, 3) := by decide +kernel
theorem dX6_init_86 : decode cX6_init 86 = .ok (.aload_n 0, 1) := by decide +kernel
theorem dX6_init_87 : decode cX6_init 87 = .ok (.getfield 19, 3) := by decide +kernel
theorem dX6_init_90 : decode cX6_init 90 = .ok (.iload_n 1, 1) := by decide +kernel
theorem dX6_init_91 : decode cX6_init 91 = .ok (.new 17, 3) := by decide +kernel
theorem dX6_init_94 : decode cX6_init 94 = .ok (.dup, 1) := by decide +kernel
theorem dX6_init_95 : decode cX6_init 95 = .ok (.invokespecial 34, 3) := by decide +kernel
theorem dX6_init_98 : decode cX6_init 98 = .ok (.aastore, 1) := by decide +kernel
theorem dX6_init_99 : decode cX6_init 99 = .ok (.iinc 1 1, 3) := by decide +kernel
theorem dX6_init_102 : decode cX6_init 102 = .ok (.goto (-25), 3) := by decide +kernel
theorem dX6_init_105 : decode cX6_init 105 = .ok (.iconst 0, 1) := by decide +kernel
theorem dX6_init_106 : decode cX6_init 106 = .ok (.istore_n 1, 1) := by decide +kernel
theorem dX6_init_107 : decode cX6_init 107 = .ok (.iload_n 1, 1) := by decide +kernel
theorem dX6_init_108 : decode cX6_init 108 = .ok (.aload_n 0, 1) := by decide +kernel
theorem dX6_init_109 : decode cX6_init 109 = .ok (.getfield 30, 3) := by decide +kernel
theorem dX6_init_112 : decode cX6_init 112 = .ok (.arraylength, 1) := by decide +kernel
theorem dX6_init_113 : decode cX6_init 113 = .ok (.if_icmp .ge 22, 3) := by decide +kernel
theorem dX6_init_116 : decode cX6_init 116 = .ok (.aload_n 0, 1) := by decide +kernel
theorem dX6_init_117 : decode cX6_init 117 = .ok (.getfield 30, 3) := by decide +kernel
theorem dX6_init_120 : decode cX6_init 120 = .ok (.iload_n 1, 1) := by decide +kernel
theorem dX6_init_121 : decode cX6_init 121 = .ok (.new 9, 3) := by decide +kernel
theorem dX6_init_124 : decode cX6_init 124 = .ok (.dup, 1) := by decide +kernel
theorem dX6_init_125 : decode cX6_init 125 = .ok (.invokespecial 33, 3) := by decide +kernel
theorem dX6_init_128 : decode cX6_init 128 = .ok (.aastore, 1) := by decide +kernel
theorem dX6_init_129 : decode cX6_init 129 = .ok (.iinc 1 1, 3) := by decide +kernel
theorem dX6_init_132 : decode cX6_init 132 = .ok (.goto (-25), 3) := by decide +kernel
theorem dX6_init_135 : decode cX6_init 135 = .ok (.return_, 1) := by decide +kernel
theorem dX6_sieveAt_0 : decode cX6_sieveAt 0 = .ok (.iload_n 1, 1) := by decide +kernel
theorem dX6_sieveAt_1 : decode cX6_sieveAt 1 = .ok (.iconst 0, 1) := by decide +kernel
theorem dX6_sieveAt_2 : decode cX6_sieveAt 2 = .ok (.aload_n 0, 1) := by decide +kernel
theorem dX6_sieveAt_3 : decode cX6_sieveAt 3 = .ok (.getfield 35, 3) := by decide +kernel
theorem dX6_sieveAt_6 : decode cX6_sieveAt 6 = .ok (.iconst 1, 1) := by decide +kernel
theorem dX6_sieveAt_7 : decode cX6_sieveAt 7 = .ok (.isub, 1) := by decide +kernel
theorem dX6_sieveAt_8 : decode cX6_sieveAt 8 = .ok (.invokestatic 39, 3) := by decide +kernel
theorem dX6_sieveAt_11 : decode cX6_sieveAt 11 = .ok (.ifCond .eq 21, 3) := by decide +kernel
theorem dX6_sieveAt_14 : decode cX6_sieveAt 14 = .ok (.iload_n 1, 1) := by decide +kernel
theorem dX6_sieveAt_15 : decode cX6_sieveAt 15 = .ok (.aload_n 0, 1) := by decide +kernel
theorem dX6_sieveAt_16 : decode cX6_sieveAt 16 = .ok (.getfield 11, 3) := by decide +kernel
theorem dX6_sieveAt_19 : decode cX6_sieveAt 19 = .ok (.arraylength, 1) := by decide +kernel
theorem dX6_sieveAt_20 : decode cX6_sieveAt 20 = .ok (.if_icmp .ge 12, 3) := by decide +kernel
theorem dX6_sieveAt_23 : decode cX6_sieveAt 23 = .ok (.aload_n 0, 1) := by decide +kernel
theorem dX6_sieveAt_24 : decode cX6_sieveAt 24 = .ok (.getfield 11, 3) := by decide +kernel
theorem dX6_sieveAt_27 : decode cX6_sieveAt 27 = .ok (.iload_n 1, 1) := by decide +kernel
theorem dX6_sieveAt_28 : decode cX6_sieveAt 28 = .ok (.aaload, 1) := by decide +kernel
theorem dX6_sieveAt_29 : decode cX6_sieveAt 29 = .ok (.goto 4, 3) := by decide +kernel
theorem dX6_sieveAt_32 : decode cX6_sieveAt 32 = .ok (.aconst_null, 1) := by decide +kernel
theorem dX6_sieveAt_33 : decode cX6_sieveAt 33 = .ok (.areturn, 1) := by decide +kernel
theorem dX6_listAt_0 : decode cX6_listAt 0 = .ok (.iload_n 1, 1) := by decide +kernel
theorem dX6_listAt_1 : decode cX6_listAt 1 = .ok (.iconst 0, 1) := by decide +kernel
theorem dX6_listAt_2 : decode cX6_listAt 2 = .ok (.aload_n 0, 1) := by decide +kernel
theorem dX6_listAt_3 : decode cX6_listAt 3 = .ok (.getfield 43, 3) := by decide +kernel
theorem dX6_listAt_6 : decode cX6_listAt 6 = .ok (.iconst 1, 1) := by decide +kernel
theorem dX6_listAt_7 : decode cX6_listAt 7 = .ok (.isub, 1) := by decide +kernel
theorem dX6_listAt_8 : decode cX6_listAt 8 = .ok (.invokestatic 39, 3) := by decide +kernel
theorem dX6_listAt_11 : decode cX6_listAt 11 = .ok (.ifCond .eq 21, 3) := by decide +kernel
theorem dX6_listAt_14 : decode cX6_listAt 14 = .ok (.iload_n 1, 1) := by decide +kernel
theorem dX6_listAt_15 : decode cX6_listAt 15 = .ok (.aload_n 0, 1) := by decide +kernel
theorem dX6_listAt_16 : decode cX6_listAt 16 = .ok (.getfield 19, 3) := by decide +kernel
theorem dX6_listAt_19 : decode cX6_listAt 19 = .ok (.arraylength, 1) := by decide +kernel
theorem dX6_listAt_20 : decode cX6_listAt 20 = .ok (.if_icmp .ge 12, 3) := by decide +kernel
theorem dX6_listAt_23 : decode cX6_listAt 23 = .ok (.aload_n 0, 1) := by decide +kernel
theorem dX6_listAt_24 : decode cX6_listAt 24 = .ok (.getfield 19, 3) := by decide +kernel
theorem dX6_listAt_27 : decode cX6_listAt 27 = .ok (.iload_n 1, 1) := by decide +kernel
theorem dX6_listAt_28 : decode cX6_listAt 28 = .ok (.aaload, 1) := by decide +kernel
theorem dX6_listAt_29 : decode cX6_listAt 29 = .ok (.goto 4, 3) := by decide +kernel
theorem dX6_listAt_32 : decode cX6_listAt 32 = .ok (.aconst_null, 1) := by decide +kernel
theorem dX6_listAt_33 : decode cX6_listAt 33 = .ok (.areturn, 1) := by decide +kernel
theorem dX6_takeOver_0 : decode cX6_takeOver 0 = .ok (.aload_n 0, 1) := by decide +kernel
theorem dX6_takeOver_1 : decode cX6_takeOver 1 = .ok (.iconst 0, 1) := by decide +kernel
theorem dX6_takeOver_2 : decode cX6_takeOver 2 = .ok (.putfield 46, 3) := by decide +kernel
theorem dX6_takeOver_5 : decode cX6_takeOver 5 = .ok (.aload_n 0, 1) := by decide +kernel
theorem dX6_takeOver_6 : decode cX6_takeOver 6 = .ok (.aload_n 1, 1) := by decide +kernel
theorem dX6_takeOver_7 : decode cX6_takeOver 7 = .ok (.getfield 49, 3) := by decide +kernel
theorem dX6_takeOver_10 : decode cX6_takeOver 10 = .ok (.putfield 35, 3) := by decide +kernel
theorem dX6_takeOver_13 : decode cX6_takeOver 13 = .ok (.aload_n 0, 1) := by decide +kernel
theorem dX6_takeOver_14 : decode cX6_takeOver 14 = .ok (.aload_n 1, 1) := by decide +kernel
theorem dX6_takeOver_15 : decode cX6_takeOver 15 = .ok (.getfield 54, 3) := by decide +kernel
theorem dX6_takeOver_18 : decode cX6_takeOver 18 = .ok (.putfield 43, 3) := by decide +kernel
theorem dX6_takeOver_21 : decode cX6_takeOver 21 = .ok (.iconst 0, 1) := by decide +kernel
theorem dX6_takeOver_22 : decode cX6_takeOver 22 = .ok (.istore_n 2, 1) := by decide +kernel
theorem dX6_takeOver_23 : decode cX6_takeOver 23 = .ok (.iload_n 2, 1) := by decide +kernel
theorem dX6_takeOver_24 : decode cX6_takeOver 24 = .ok (.aload_n 0, 1) := by decide +kernel
theorem dX6_takeOver_25 : decode cX6_takeOver 25 = .ok (.getfield 35, 3) := by decide +kernel
theorem dX6_takeOver_28 : decode cX6_takeOver 28 = .ok (.if_icmp .ge 37, 3) := by decide +kernel
theorem dX6_takeOver_31 : decode cX6_takeOver 31 = .ok (.aload_n 0, 1) := by decide +kernel
theorem dX6_takeOver_32 : decode cX6_takeOver 32 = .ok (.iload_n 2, 1) := by decide +kernel
theorem dX6_takeOver_33 : decode cX6_takeOver 33 = .ok (.invokevirtual 55, 3) := by decide +kernel
theorem dX6_takeOver_36 : decode cX6_takeOver 36 = .ok (.astore_n 3, 1) := by decide +kernel
theorem dX6_takeOver_37 : decode cX6_takeOver 37 = .ok (.aload_n 1, 1) := by decide +kernel
theorem dX6_takeOver_38 : decode cX6_takeOver 38 = .ok (.iload_n 2, 1) := by decide +kernel
theorem dX6_takeOver_39 : decode cX6_takeOver 39 = .ok (.invokevirtual 59, 3) := by decide +kernel
theorem dX6_takeOver_42 : decode cX6_takeOver 42 = .ok (.astore 4, 2) := by decide +kernel
theorem dX6_takeOver_44 : decode cX6_takeOver 44 = .ok (.aload_n 3, 1) := by decide +kernel
theorem dX6_takeOver_45 : decode cX6_takeOver 45 = .ok (.ifnull 14, 3) := by decide +kernel
theorem dX6_takeOver_48 : decode cX6_takeOver 48 = .ok (.aload 4, 2) := by decide +kernel
theorem dX6_takeOver_50 : decode cX6_takeOver 50 = .ok (.ifnull 9, 3) := by decide +kernel
theorem dX6_takeOver_53 : decode cX6_takeOver 53 = .ok (.aload_n 3, 1) := by decide +kernel
theorem dX6_takeOver_54 : decode cX6_takeOver 54 = .ok (.aload 4, 2) := by decide +kernel
theorem dX6_takeOver_56 : decode cX6_takeOver 56 = .ok (.invokevirtual 60, 3) := by decide +kernel
theorem dX6_takeOver_59 : decode cX6_takeOver 59 = .ok (.iinc 2 1, 3) := by decide +kernel
theorem dX6_takeOver_62 : decode cX6_takeOver 62 = .ok (.goto (-39), 3) := by decide +kernel
theorem dX6_takeOver_65 : decode cX6_takeOver 65 = .ok (.iconst 0, 1) := by decide +kernel
theorem dX6_takeOver_66 : decode cX6_takeOver 66 = .ok (.istore_n 2, 1) := by decide +kernel
theorem dX6_takeOver_67 : decode cX6_takeOver 67 = .ok (.iload_n 2, 1) := by decide +kernel
theorem dX6_takeOver_68 : decode cX6_takeOver 68 = .ok (.aload_n 0, 1) := by decide +kernel
theorem dX6_takeOver_69 : decode cX6_takeOver 69 = .ok (.getfield 43, 3) := by decide +kernel
theorem dX6_takeOver_72 : decode cX6_takeOver 72 = .ok (.if_icmp .ge 37, 3) := by decide +kernel
theorem dX6_takeOver_75 : decode cX6_takeOver 75 = .ok (.aload_n 0, 1) := by decide +kernel
theorem dX6_takeOver_76 : decode cX6_takeOver 76 = .ok (.iload_n 2, 1) := by decide +kernel
theorem dX6_takeOver_77 : decode cX6_takeOver 77 = .ok (.invokevirtual 64, 3) := by decide +kernel
theorem dX6_takeOver_80 : decode cX6_takeOver 80 = .ok (.astore_n 3, 1) := by decide +kernel
theorem dX6_takeOver_81 : decode cX6_takeOver 81 = .ok (.aload_n 1, 1) := by decide +kernel
theorem dX6_takeOver_82 : decode cX6_takeOver 82 = .ok (.iload_n 2, 1) := by decide +kernel
theorem dX6_takeOver_83 : decode cX6_takeOver 83 = .ok (.invokevirtual 68, 3) := by decide +kernel
theorem dX6_takeOver_86 : decode cX6_takeOver 86 = .ok (.astore 4, 2) := by decide +kernel
theorem dX6_takeOver_88 : decode cX6_takeOver 88 = .ok (.aload_n 3, 1) := by decide +kernel
theorem dX6_takeOver_89 : decode cX6_takeOver 89 = .ok (.ifnull 14, 3) := by decide +kernel
theorem dX6_takeOver_92 : decode cX6_takeOver 92 = .ok (.aload 4, 2) := by decide +kernel
theorem dX6_takeOver_94 : decode cX6_takeOver 94 = .ok (.ifnull 9, 3) := by decide +kernel
theorem dX6_takeOver_97 : decode cX6_takeOver 97 = .ok (.aload_n 3, 1) := by decide +kernel
theorem dX6_takeOver_98 : decode cX6_takeOver 98 = .ok (.aload 4, 2) := by decide +kernel
theorem dX6_takeOver_100 : decode cX6_takeOver 100 = .ok (.invokevirtual 69, 3) := by decide +kernel
theorem dX6_takeOver_103 : decode cX6_takeOver 103 = .ok (.iinc 2 1, 3) := by decide +kernel
theorem dX6_takeOver_106 : decode cX6_takeOver 106 = .ok (.goto (-39), 3) := by decide +kernel
theorem dX6_takeOver_109 : decode cX6_takeOver 109 = .ok (.return_, 1) := by decide +kernel
theorem dX6_keepAct_0 : decode cX6_keepAct 0 = .ok (.aload_n 0, 1) := by decide +kernel
theorem dX6_keepAct_1 : decode cX6_keepAct 1 = .ok (.getfield 46, 3) := by decide +kernel
theorem dX6_keepAct_4 : decode cX6_keepAct 4 = .ok (.bipush 8, 2) := by decide +kernel
theorem dX6_keepAct_6 : decode cX6_keepAct 6 = .ok (.if_icmp .ne 7, 3) := by decide +kernel
theorem dX6_keepAct_9 : decode cX6_keepAct 9 = .ok (.aload_n 0, 1) := by decide +kernel
theorem dX6_keepAct_10 : decode cX6_keepAct 10 = .ok (.invokevirtual 72, 3) := by decide +kernel
theorem dX6_keepAct_13 : decode cX6_keepAct 13 = .ok (.aload_n 0, 1) := by decide +kernel
theorem dX6_keepAct_14 : decode cX6_keepAct 14 = .ok (.getfield 46, 3) := by decide +kernel
theorem dX6_keepAct_17 : decode cX6_keepAct 17 = .ok (.iconst 0, 1) := by decide +kernel
theorem dX6_keepAct_18 : decode cX6_keepAct 18 = .ok (.aload_n 0, 1) := by decide +kernel
theorem dX6_keepAct_19 : decode cX6_keepAct 19 = .ok (.getfield 30, 3) := by decide +kernel
theorem dX6_keepAct_22 : decode cX6_keepAct 22 = .ok (.arraylength, 1) := by decide +kernel
theorem dX6_keepAct_23 : decode cX6_keepAct 23 = .ok (.iconst 1, 1) := by decide +kernel
theorem dX6_keepAct_24 : decode cX6_keepAct 24 = .ok (.isub, 1) := by decide +kernel
theorem dX6_keepAct_25 : decode cX6_keepAct 25 = .ok (.invokestatic 39, 3) := by decide +kernel
theorem dX6_keepAct_28 : decode cX6_keepAct 28 = .ok (.ifCond .ne 4, 3) := by decide +kernel
theorem dX6_keepAct_31 : decode cX6_keepAct 31 = .ok (.return_, 1) := by decide +kernel
theorem dX6_keepAct_32 : decode cX6_keepAct 32 = .ok (.aload_n 0, 1) := by decide +kernel
theorem dX6_keepAct_33 : decode cX6_keepAct 33 = .ok (.getfield 23, 3) := by decide +kernel
theorem dX6_keepAct_36 : decode cX6_keepAct 36 = .ok (.aload_n 0, 1) := by decide +kernel
theorem dX6_keepAct_37 : decode cX6_keepAct 37 = .ok (.getfield 46, 3) := by decide +kernel
theorem dX6_keepAct_40 : decode cX6_keepAct 40 = .ok (.iload_n 1, 1) := by decide +kernel
theorem dX6_keepAct_41 : decode cX6_keepAct 41 = .ok (.invokestatic 75, 3) := by decide +kernel
theorem dX6_keepAct_44 : decode cX6_keepAct 44 = .ok (.aload_n 0, 1) := by decide +kernel
theorem dX6_keepAct_45 : decode cX6_keepAct 45 = .ok (.getfield 27, 3) := by decide +kernel
theorem dX6_keepAct_48 : decode cX6_keepAct 48 = .ok (.aload_n 0, 1) := by decide +kernel
theorem dX6_keepAct_49 : decode cX6_keepAct 49 = .ok (.getfield 46, 3) := by decide +kernel
theorem dX6_keepAct_52 : decode cX6_keepAct 52 = .ok (.iload_n 2, 1) := by decide +kernel
theorem dX6_keepAct_53 : decode cX6_keepAct 53 = .ok (.invokestatic 75, 3) := by decide +kernel
theorem dX6_keepAct_56 : decode cX6_keepAct 56 = .ok (.aload_n 0, 1) := by decide +kernel
theorem dX6_keepAct_57 : decode cX6_keepAct 57 = .ok (.iload_n 2, 1) := by decide +kernel
theorem dX6_keepAct_58 : decode cX6_keepAct 58 = .ok (.invokevirtual 55, 3) := by decide +kernel
theorem dX6_keepAct_61 : decode cX6_keepAct 61 = .ok (.astore_n 3, 1) := by decide +kernel
theorem dX6_keepAct_62 : decode cX6_keepAct 62 = .ok (.aload_n 0, 1) := by decide +kernel
theorem dX6_keepAct_63 : decode cX6_keepAct 63 = .ok (.getfield 30, 3) := by decide +kernel
theorem dX6_keepAct_66 : decode cX6_keepAct 66 = .ok (.aload_n 0, 1) := by decide +kernel
theorem dX6_keepAct_67 : decode cX6_keepAct 67 = .ok (.getfield 46, 3) := by decide +kernel
theorem dX6_keepAct_70 : decode cX6_keepAct 70 = .ok (.aaload, 1) := by decide +kernel
theorem dX6_keepAct_71 : decode cX6_keepAct 71 = .ok (.astore 4, 2) := by decide +kernel
theorem dX6_keepAct_73 : decode cX6_keepAct 73 = .ok (.aload_n 3, 1) := by decide +kernel
theorem dX6_keepAct_74 : decode cX6_keepAct 74 = .ok (.ifnull 14, 3) := by decide +kernel
theorem dX6_keepAct_77 : decode cX6_keepAct 77 = .ok (.aload 4, 2) := by decide +kernel
theorem dX6_keepAct_79 : decode cX6_keepAct 79 = .ok (.ifnull 9, 3) := by decide +kernel
theorem dX6_keepAct_82 : decode cX6_keepAct 82 = .ok (.aload 4, 2) := by decide +kernel
theorem dX6_keepAct_84 : decode cX6_keepAct 84 = .ok (.aload_n 3, 1) := by decide +kernel
theorem dX6_keepAct_85 : decode cX6_keepAct 85 = .ok (.invokevirtual 60, 3) := by decide +kernel
theorem dX6_keepAct_88 : decode cX6_keepAct 88 = .ok (.aload_n 0, 1) := by decide +kernel
theorem dX6_keepAct_89 : decode cX6_keepAct 89 = .ok (.dup, 1) := by decide +kernel
theorem dX6_keepAct_90 : decode cX6_keepAct 90 = .ok (.getfield 46, 3) := by decide +kernel
theorem dX6_keepAct_93 : decode cX6_keepAct 93 = .ok (.iconst 1, 1) := by decide +kernel
theorem dX6_keepAct_94 : decode cX6_keepAct 94 = .ok (.iadd, 1) := by decide +kernel
theorem dX6_keepAct_95 : decode cX6_keepAct 95 = .ok (.putfield 46, 3) := by decide +kernel
theorem dX6_keepAct_98 : decode cX6_keepAct 98 = .ok (.return_, 1) := by decide +kernel
theorem dX6_forgetOldest_0 : decode cX6_forgetOldest 0 = .ok (.aload_n 0, 1) := by decide +kernel
theorem dX6_forgetOldest_1 : decode cX6_forgetOldest 1 = .ok (.getfield 30, 3) := by decide +kernel
theorem dX6_forgetOldest_4 : decode cX6_forgetOldest 4 = .ok (.arraylength, 1) := by decide +kernel
theorem dX6_forgetOldest_5 : decode cX6_forgetOldest 5 = .ok (.iconst 1, 1) := by decide +kernel
theorem dX6_forgetOldest_6 : decode cX6_forgetOldest 6 = .ok (.isub, 1) := by decide +kernel
theorem dX6_forgetOldest_7 : decode cX6_forgetOldest 7 = .ok (.istore_n 1, 1) := by decide +kernel
theorem dX6_forgetOldest_8 : decode cX6_forgetOldest 8 = .ok (.iload_n 1, 1) := by decide +kernel
theorem dX6_forgetOldest_9 : decode cX6_forgetOldest 9 = .ok (.ifCond .ge 4, 3) := by decide +kernel
theorem dX6_forgetOldest_12 : decode cX6_forgetOldest 12 = .ok (.return_, 1) := by decide +kernel
theorem dX6_forgetOldest_13 : decode cX6_forgetOldest 13 = .ok (.aload_n 0, 1) := by decide +kernel
theorem dX6_forgetOldest_14 : decode cX6_forgetOldest 14 = .ok (.getfield 30, 3) := by decide +kernel
theorem dX6_forgetOldest_17 : decode cX6_forgetOldest 17 = .ok (.iconst 0, 1) := by decide +kernel
theorem dX6_forgetOldest_18 : decode cX6_forgetOldest 18 = .ok (.aaload, 1) := by decide +kernel
theorem dX6_forgetOldest_19 : decode cX6_forgetOldest 19 = .ok (.astore_n 2, 1) := by decide +kernel
theorem dX6_forgetOldest_20 : decode cX6_forgetOldest 20 = .ok (.iconst 0, 1) := by decide +kernel
theorem dX6_forgetOldest_21 : decode cX6_forgetOldest 21 = .ok (.istore_n 3, 1) := by decide +kernel
theorem dX6_forgetOldest_22 : decode cX6_forgetOldest 22 = .ok (.iload_n 3, 1) := by decide +kernel
theorem dX6_forgetOldest_23 : decode cX6_forgetOldest 23 = .ok (.iload_n 1, 1) := by decide +kernel
theorem dX6_forgetOldest_24 : decode cX6_forgetOldest 24 = .ok (.if_icmp .ge 59, 3) := by decide +kernel
theorem dX6_forgetOldest_27 : decode cX6_forgetOldest 27 = .ok (.aload_n 0, 1) := by decide +kernel
theorem dX6_forgetOldest_28 : decode cX6_forgetOldest 28 = .ok (.getfield 23, 3) := by decide +kernel
theorem dX6_forgetOldest_31 : decode cX6_forgetOldest 31 = .ok (.iload_n 3, 1) := by decide +kernel
theorem dX6_forgetOldest_32 : decode cX6_forgetOldest 32 = .ok (.aload_n 0, 1) := by decide +kernel
theorem dX6_forgetOldest_33 : decode cX6_forgetOldest 33 = .ok (.getfield 23, 3) := by decide +kernel
theorem dX6_forgetOldest_36 : decode cX6_forgetOldest 36 = .ok (.iload_n 3, 1) := by decide +kernel
theorem dX6_forgetOldest_37 : decode cX6_forgetOldest 37 = .ok (.iconst 1, 1) := by decide +kernel
theorem dX6_forgetOldest_38 : decode cX6_forgetOldest 38 = .ok (.iadd, 1) := by decide +kernel
theorem dX6_forgetOldest_39 : decode cX6_forgetOldest 39 = .ok (.invokestatic 79, 3) := by decide +kernel
theorem dX6_forgetOldest_42 : decode cX6_forgetOldest 42 = .ok (.invokestatic 75, 3) := by decide +kernel
theorem dX6_forgetOldest_45 : decode cX6_forgetOldest 45 = .ok (.aload_n 0, 1) := by decide +kernel
theorem dX6_forgetOldest_46 : decode cX6_forgetOldest 46 = .ok (.getfield 27, 3) := by decide +kernel
theorem dX6_forgetOldest_49 : decode cX6_forgetOldest 49 = .ok (.iload_n 3, 1) := by decide +kernel
theorem dX6_forgetOldest_50 : decode cX6_forgetOldest 50 = .ok (.aload_n 0, 1) := by decide +kernel
theorem dX6_forgetOldest_51 : decode cX6_forgetOldest 51 = .ok (.getfield 27, 3) := by decide +kernel
theorem dX6_forgetOldest_54 : decode cX6_forgetOldest 54 = .ok (.iload_n 3, 1) := by decide +kernel
theorem dX6_forgetOldest_55 : decode cX6_forgetOldest 55 = .ok (.iconst 1, 1) := by decide +kernel
theorem dX6_forgetOldest_56 : decode cX6_forgetOldest 56 = .ok (.iadd, 1) := by decide +kernel
theorem dX6_forgetOldest_57 : decode cX6_forgetOldest 57 = .ok (.invokestatic 79, 3) := by decide +kernel
theorem dX6_forgetOldest_60 : decode cX6_forgetOldest 60 = .ok (.invokestatic 75, 3) := by decide +kernel
theorem dX6_forgetOldest_63 : decode cX6_forgetOldest 63 = .ok (.aload_n 0, 1) := by decide +kernel
theorem dX6_forgetOldest_64 : decode cX6_forgetOldest 64 = .ok (.getfield 30, 3) := by decide +kernel
theorem dX6_forgetOldest_67 : decode cX6_forgetOldest 67 = .ok (.iload_n 3, 1) := by decide +kernel
theorem dX6_forgetOldest_68 : decode cX6_forgetOldest 68 = .ok (.aload_n 0, 1) := by decide +kernel
theorem dX6_forgetOldest_69 : decode cX6_forgetOldest 69 = .ok (.getfield 30, 3) := by decide +kernel
theorem dX6_forgetOldest_72 : decode cX6_forgetOldest 72 = .ok (.iload_n 3, 1) := by decide +kernel
theorem dX6_forgetOldest_73 : decode cX6_forgetOldest 73 = .ok (.iconst 1, 1) := by decide +kernel
theorem dX6_forgetOldest_74 : decode cX6_forgetOldest 74 = .ok (.iadd, 1) := by decide +kernel
theorem dX6_forgetOldest_75 : decode cX6_forgetOldest 75 = .ok (.aaload, 1) := by decide +kernel
theorem dX6_forgetOldest_76 : decode cX6_forgetOldest 76 = .ok (.aastore, 1) := by decide +kernel
theorem dX6_forgetOldest_77 : decode cX6_forgetOldest 77 = .ok (.iinc 3 1, 3) := by decide +kernel
theorem dX6_forgetOldest_80 : decode cX6_forgetOldest 80 = .ok (.goto (-58), 3) := by decide +kernel
theorem dX6_forgetOldest_83 : decode cX6_forgetOldest 83 = .ok (.aload_n 0, 1) := by decide +kernel
theorem dX6_forgetOldest_84 : decode cX6_forgetOldest 84 = .ok (.getfield 30, 3) := by decide +kernel
theorem dX6_forgetOldest_87 : decode cX6_forgetOldest 87 = .ok (.iload_n 1, 1) := by decide +kernel
theorem dX6_forgetOldest_88 : decode cX6_forgetOldest 88 = .ok (.aload_n 2, 1) := by decide +kernel
theorem dX6_forgetOldest_89 : decode cX6_forgetOldest 89 = .ok (.aastore, 1) := by decide +kernel
theorem dX6_forgetOldest_90 : decode cX6_forgetOldest 90 = .ok (.aload_n 0, 1) := by decide +kernel
theorem dX6_forgetOldest_91 : decode cX6_forgetOldest 91 = .ok (.dup, 1) := by decide +kernel
theorem dX6_forgetOldest_92 : decode cX6_forgetOldest 92 = .ok (.getfield 46, 3) := by decide +kernel
theorem dX6_forgetOldest_95 : decode cX6_forgetOldest 95 = .ok (.iconst 1, 1) := by decide +kernel
theorem dX6_forgetOldest_96 : decode cX6_forgetOldest 96 = .ok (.isub, 1) := by decide +kernel
theorem dX6_forgetOldest_97 : decode cX6_forgetOldest 97 = .ok (.putfield 46, 3) := by decide +kernel
theorem dX6_forgetOldest_100 : decode cX6_forgetOldest 100 = .ok (.return_, 1) := by decide +kernel
theorem dX6_add_0 : decode cX6_add 0 = .ok (.aload_n 0, 1) := by decide +kernel
theorem dX6_add_1 : decode cX6_add 1 = .ok (.getfield 35, 3) := by decide +kernel
theorem dX6_add_4 : decode cX6_add 4 = .ok (.iconst 4, 1) := by decide +kernel
theorem dX6_add_5 : decode cX6_add 5 = .ok (.if_icmp .lt 5, 3) := by decide +kernel
theorem dX6_add_8 : decode cX6_add 8 = .ok (.aconst_null, 1) := by decide +kernel
theorem dX6_add_9 : decode cX6_add 9 = .ok (.areturn, 1) := by decide +kernel
theorem dX6_add_10 : decode cX6_add 10 = .ok (.aload_n 0, 1) := by decide +kernel
theorem dX6_add_11 : decode cX6_add 11 = .ok (.iconst 1, 1) := by decide +kernel
theorem dX6_add_12 : decode cX6_add 12 = .ok (.aload_n 0, 1) := by decide +kernel
theorem dX6_add_13 : decode cX6_add 13 = .ok (.getfield 35, 3) := by decide +kernel
theorem dX6_add_16 : decode cX6_add 16 = .ok (.invokevirtual 83, 3) := by decide +kernel
theorem dX6_add_19 : decode cX6_add 19 = .ok (.aload_n 0, 1) := by decide +kernel
theorem dX6_add_20 : decode cX6_add 20 = .ok (.dup, 1) := by decide +kernel
theorem dX6_add_21 : decode cX6_add 21 = .ok (.getfield 35, 3) := by decide +kernel
theorem dX6_add_24 : decode cX6_add 24 = .ok (.iconst 1, 1) := by decide +kernel
theorem dX6_add_25 : decode cX6_add 25 = .ok (.iadd, 1) := by decide +kernel
theorem dX6_add_26 : decode cX6_add 26 = .ok (.putfield 35, 3) := by decide +kernel
theorem dX6_add_29 : decode cX6_add 29 = .ok (.aload_n 0, 1) := by decide +kernel
theorem dX6_add_30 : decode cX6_add 30 = .ok (.aload_n 0, 1) := by decide +kernel
theorem dX6_add_31 : decode cX6_add 31 = .ok (.getfield 35, 3) := by decide +kernel
theorem dX6_add_34 : decode cX6_add 34 = .ok (.iconst 1, 1) := by decide +kernel
theorem dX6_add_35 : decode cX6_add 35 = .ok (.isub, 1) := by decide +kernel
theorem dX6_add_36 : decode cX6_add 36 = .ok (.invokevirtual 55, 3) := by decide +kernel
theorem dX6_add_39 : decode cX6_add 39 = .ok (.areturn, 1) := by decide +kernel
theorem dX6_remove_0 : decode cX6_remove 0 = .ok (.iload_n 1, 1) := by decide +kernel
theorem dX6_remove_1 : decode cX6_remove 1 = .ok (.iconst 0, 1) := by decide +kernel
theorem dX6_remove_2 : decode cX6_remove 2 = .ok (.aload_n 0, 1) := by decide +kernel
theorem dX6_remove_3 : decode cX6_remove 3 = .ok (.getfield 35, 3) := by decide +kernel
theorem dX6_remove_6 : decode cX6_remove 6 = .ok (.iconst 1, 1) := by decide +kernel
theorem dX6_remove_7 : decode cX6_remove 7 = .ok (.isub, 1) := by decide +kernel
theorem dX6_remove_8 : decode cX6_remove 8 = .ok (.invokestatic 39, 3) := by decide +kernel
theorem dX6_remove_11 : decode cX6_remove 11 = .ok (.ifCond .eq 15, 3) := by decide +kernel
theorem dX6_remove_14 : decode cX6_remove 14 = .ok (.aload_n 0, 1) := by decide +kernel
theorem dX6_remove_15 : decode cX6_remove 15 = .ok (.getfield 35, 3) := by decide +kernel
theorem dX6_remove_18 : decode cX6_remove 18 = .ok (.aload_n 0, 1) := by decide +kernel
theorem dX6_remove_19 : decode cX6_remove 19 = .ok (.getfield 11, 3) := by decide +kernel
theorem dX6_remove_22 : decode cX6_remove 22 = .ok (.arraylength, 1) := by decide +kernel
theorem dX6_remove_23 : decode cX6_remove 23 = .ok (.if_icmp .le 4, 3) := by decide +kernel
theorem dX6_remove_26 : decode cX6_remove 26 = .ok (.return_, 1) := by decide +kernel
theorem dX6_remove_27 : decode cX6_remove 27 = .ok (.aload_n 0, 1) := by decide +kernel
theorem dX6_remove_28 : decode cX6_remove 28 = .ok (.iconst 2, 1) := by decide +kernel
theorem dX6_remove_29 : decode cX6_remove 29 = .ok (.iload_n 1, 1) := by decide +kernel
theorem dX6_remove_30 : decode cX6_remove 30 = .ok (.invokevirtual 83, 3) := by decide +kernel
theorem dX6_remove_33 : decode cX6_remove 33 = .ok (.aload_n 0, 1) := by decide +kernel
theorem dX6_remove_34 : decode cX6_remove 34 = .ok (.getfield 11, 3) := by decide +kernel
theorem dX6_remove_37 : decode cX6_remove 37 = .ok (.iload_n 1, 1) := by decide +kernel
theorem dX6_remove_38 : decode cX6_remove 38 = .ok (.aaload, 1) := by decide +kernel
theorem dX6_remove_39 : decode cX6_remove 39 = .ok (.astore_n 2, 1) := by decide +kernel
theorem dX6_remove_40 : decode cX6_remove 40 = .ok (.iload_n 1, 1) := by decide +kernel
theorem dX6_remove_41 : decode cX6_remove 41 = .ok (.istore_n 3, 1) := by decide +kernel
theorem dX6_remove_42 : decode cX6_remove 42 = .ok (.iload_n 3, 1) := by decide +kernel
theorem dX6_remove_43 : decode cX6_remove 43 = .ok (.aload_n 0, 1) := by decide +kernel
theorem dX6_remove_44 : decode cX6_remove 44 = .ok (.getfield 35, 3) := by decide +kernel
theorem dX6_remove_47 : decode cX6_remove 47 = .ok (.iconst 1, 1) := by decide +kernel
theorem dX6_remove_48 : decode cX6_remove 48 = .ok (.isub, 1) := by decide +kernel
theorem dX6_remove_49 : decode cX6_remove 49 = .ok (.if_icmp .ge 23, 3) := by decide +kernel
theorem dX6_remove_52 : decode cX6_remove 52 = .ok (.aload_n 0, 1) := by decide +kernel
theorem dX6_remove_53 : decode cX6_remove 53 = .ok (.getfield 11, 3) := by decide +kernel
theorem dX6_remove_56 : decode cX6_remove 56 = .ok (.iload_n 3, 1) := by decide +kernel
theorem dX6_remove_57 : decode cX6_remove 57 = .ok (.aload_n 0, 1) := by decide +kernel
theorem dX6_remove_58 : decode cX6_remove 58 = .ok (.getfield 11, 3) := by decide +kernel
theorem dX6_remove_61 : decode cX6_remove 61 = .ok (.iload_n 3, 1) := by decide +kernel
theorem dX6_remove_62 : decode cX6_remove 62 = .ok (.iconst 1, 1) := by decide +kernel
theorem dX6_remove_63 : decode cX6_remove 63 = .ok (.iadd, 1) := by decide +kernel
theorem dX6_remove_64 : decode cX6_remove 64 = .ok (.aaload, 1) := by decide +kernel
theorem dX6_remove_65 : decode cX6_remove 65 = .ok (.aastore, 1) := by decide +kernel
theorem dX6_remove_66 : decode cX6_remove 66 = .ok (.iinc 3 1, 3) := by decide +kernel
theorem dX6_remove_69 : decode cX6_remove 69 = .ok (.goto (-27), 3) := by decide +kernel
theorem dX6_remove_72 : decode cX6_remove 72 = .ok (.aload_n 0, 1) := by decide +kernel
theorem dX6_remove_73 : decode cX6_remove 73 = .ok (.getfield 11, 3) := by decide +kernel
theorem dX6_remove_76 : decode cX6_remove 76 = .ok (.aload_n 0, 1) := by decide +kernel
theorem dX6_remove_77 : decode cX6_remove 77 = .ok (.getfield 35, 3) := by decide +kernel
theorem dX6_remove_80 : decode cX6_remove 80 = .ok (.iconst 1, 1) := by decide +kernel
theorem dX6_remove_81 : decode cX6_remove 81 = .ok (.isub, 1) := by decide +kernel
theorem dX6_remove_82 : decode cX6_remove 82 = .ok (.aload_n 2, 1) := by decide +kernel
theorem dX6_remove_83 : decode cX6_remove 83 = .ok (.aastore, 1) := by decide +kernel
theorem dX6_remove_84 : decode cX6_remove 84 = .ok (.aload_n 0, 1) := by decide +kernel
theorem dX6_remove_85 : decode cX6_remove 85 = .ok (.dup, 1) := by decide +kernel
theorem dX6_remove_86 : decode cX6_remove 86 = .ok (.getfield 35, 3) := by decide +kernel
theorem dX6_remove_89 : decode cX6_remove 89 = .ok (.iconst 1, 1) := by decide +kernel
theorem dX6_remove_90 : decode cX6_remove 90 = .ok (.isub, 1) := by decide +kernel
theorem dX6_remove_91 : decode cX6_remove 91 = .ok (.putfield 35, 3) := by decide +kernel
theorem dX6_remove_94 : decode cX6_remove 94 = .ok (.return_, 1) := by decide +kernel
theorem dX6_goBack_0 : decode cX6_goBack 0 = .ok (.aload_n 0, 1) := by decide +kernel
theorem dX6_goBack_1 : decode cX6_goBack 1 = .ok (.getfield 46, 3) := by decide +kernel
theorem dX6_goBack_4 : decode cX6_goBack 4 = .ok (.iconst 1, 1) := by decide +kernel
theorem dX6_goBack_5 : decode cX6_goBack 5 = .ok (.aload_n 0, 1) := by decide +kernel
theorem dX6_goBack_6 : decode cX6_goBack 6 = .ok (.getfield 30, 3) := by decide +kernel
theorem dX6_goBack_9 : decode cX6_goBack 9 = .ok (.arraylength, 1) := by decide +kernel
theorem dX6_goBack_10 : decode cX6_goBack 10 = .ok (.invokestatic 39, 3) := by decide +kernel
theorem dX6_goBack_13 : decode cX6_goBack 13 = .ok (.ifCond .ne 4, 3) := by decide +kernel
theorem dX6_goBack_16 : decode cX6_goBack 16 = .ok (.return_, 1) := by decide +kernel
theorem dX6_goBack_17 : decode cX6_goBack 17 = .ok (.aload_n 0, 1) := by decide +kernel
theorem dX6_goBack_18 : decode cX6_goBack 18 = .ok (.dup, 1) := by decide +kernel
theorem dX6_goBack_19 : decode cX6_goBack 19 = .ok (.getfield 46, 3) := by decide +kernel
theorem dX6_goBack_22 : decode cX6_goBack 22 = .ok (.iconst 1, 1) := by decide +kernel
theorem dX6_goBack_23 : decode cX6_goBack 23 = .ok (.isub, 1) := by decide +kernel
theorem dX6_goBack_24 : decode cX6_goBack 24 = .ok (.putfield 46, 3) := by decide +kernel
theorem dX6_goBack_27 : decode cX6_goBack 27 = .ok (.aload_n 0, 1) := by decide +kernel
theorem dX6_goBack_28 : decode cX6_goBack 28 = .ok (.getfield 23, 3) := by decide +kernel
theorem dX6_goBack_31 : decode cX6_goBack 31 = .ok (.aload_n 0, 1) := by decide +kernel
theorem dX6_goBack_32 : decode cX6_goBack 32 = .ok (.getfield 46, 3) := by decide +kernel
theorem dX6_goBack_35 : decode cX6_goBack 35 = .ok (.invokestatic 79, 3) := by decide +kernel
theorem dX6_goBack_38 : decode cX6_goBack 38 = .ok (.istore_n 1, 1) := by decide +kernel
theorem dX6_goBack_39 : decode cX6_goBack 39 = .ok (.aload_n 0, 1) := by decide +kernel
theorem dX6_goBack_40 : decode cX6_goBack 40 = .ok (.getfield 27, 3) := by decide +kernel
theorem dX6_goBack_43 : decode cX6_goBack 43 = .ok (.aload_n 0, 1) := by decide +kernel
theorem dX6_goBack_44 : decode cX6_goBack 44 = .ok (.getfield 46, 3) := by decide +kernel
theorem dX6_goBack_47 : decode cX6_goBack 47 = .ok (.invokestatic 79, 3) := by decide +kernel
theorem dX6_goBack_50 : decode cX6_goBack 50 = .ok (.istore_n 2, 1) := by decide +kernel
theorem dX6_goBack_51 : decode cX6_goBack 51 = .ok (.iload_n 1, 1) := by decide +kernel
theorem dX6_goBack_52 : decode cX6_goBack 52 = .ok (.iconst 1, 1) := by decide +kernel
theorem dX6_goBack_53 : decode cX6_goBack 53 = .ok (.if_icmp .ne 14, 3) := by decide +kernel
theorem dX6_goBack_56 : decode cX6_goBack 56 = .ok (.aload_n 0, 1) := by decide +kernel
theorem dX6_goBack_57 : decode cX6_goBack 57 = .ok (.dup, 1) := by decide +kernel
theorem dX6_goBack_58 : decode cX6_goBack 58 = .ok (.getfield 35, 3) := by decide +kernel
theorem dX6_goBack_61 : decode cX6_goBack 61 = .ok (.iconst 1, 1) := by decide +kernel
theorem dX6_goBack_62 : decode cX6_goBack 62 = .ok (.isub, 1) := by decide +kernel
theorem dX6_goBack_63 : decode cX6_goBack 63 = .ok (.putfield 35, 3) := by decide +kernel
theorem dX6_goBack_66 : decode cX6_goBack 66 = .ok (.return_, 1) := by decide +kernel
theorem dX6_goBack_67 : decode cX6_goBack 67 = .ok (.iload_n 1, 1) := by decide +kernel
theorem dX6_goBack_68 : decode cX6_goBack 68 = .ok (.iconst 2, 1) := by decide +kernel
theorem dX6_goBack_69 : decode cX6_goBack 69 = .ok (.if_icmp .ne 8, 3) := by decide +kernel
theorem dX6_goBack_72 : decode cX6_goBack 72 = .ok (.aload_n 0, 1) := by decide +kernel
theorem dX6_goBack_73 : decode cX6_goBack 73 = .ok (.iload_n 2, 1) := by decide +kernel
theorem dX6_goBack_74 : decode cX6_goBack 74 = .ok (.invokevirtual 87, 3) := by decide +kernel
theorem dX6_goBack_77 : decode cX6_goBack 77 = .ok (.aload_n 0, 1) := by decide +kernel
theorem dX6_goBack_78 : decode cX6_goBack 78 = .ok (.iload_n 2, 1) := by decide +kernel
theorem dX6_goBack_79 : decode cX6_goBack 79 = .ok (.invokevirtual 55, 3) := by decide +kernel
theorem dX6_goBack_82 : decode cX6_goBack 82 = .ok (.astore_n 3, 1) := by decide +kernel
theorem dX6_goBack_83 : decode cX6_goBack 83 = .ok (.aload_n 0, 1) := by decide +kernel
theorem dX6_goBack_84 : decode cX6_goBack 84 = .ok (.getfield 30, 3) := by decide +kernel
theorem dX6_goBack_87 : decode cX6_goBack 87 = .ok (.aload_n 0, 1) := by decide +kernel
theorem dX6_goBack_88 : decode cX6_goBack 88 = .ok (.getfield 46, 3) := by decide +kernel
theorem dX6_goBack_91 : decode cX6_goBack 91 = .ok (.aaload, 1) := by decide +kernel
theorem dX6_goBack_92 : decode cX6_goBack 92 = .ok (.astore 4, 2) := by decide +kernel
theorem dX6_goBack_94 : decode cX6_goBack 94 = .ok (.aload_n 3, 1) := by decide +kernel
theorem dX6_goBack_95 : decode cX6_goBack 95 = .ok (.ifnull 14, 3) := by decide +kernel
theorem dX6_goBack_98 : decode cX6_goBack 98 = .ok (.aload 4, 2) := by decide +kernel
theorem dX6_goBack_100 : decode cX6_goBack 100 = .ok (.ifnull 9, 3) := by decide +kernel
theorem dX6_goBack_103 : decode cX6_goBack 103 = .ok (.aload_n 3, 1) := by decide +kernel
theorem dX6_goBack_104 : decode cX6_goBack 104 = .ok (.aload 4, 2) := by decide +kernel
theorem dX6_goBack_106 : decode cX6_goBack 106 = .ok (.invokevirtual 60, 3) := by decide +kernel
theorem dX6_goBack_109 : decode cX6_goBack 109 = .ok (.return_, 1) := by decide +kernel
theorem dX6_openAt_0 : decode cX6_openAt 0 = .ok (.iload_n 1, 1) := by decide +kernel
theorem dX6_openAt_1 : decode cX6_openAt 1 = .ok (.iconst 0, 1) := by decide +kernel
theorem dX6_openAt_2 : decode cX6_openAt 2 = .ok (.aload_n 0, 1) := by decide +kernel
theorem dX6_openAt_3 : decode cX6_openAt 3 = .ok (.getfield 35, 3) := by decide +kernel
theorem dX6_openAt_6 : decode cX6_openAt 6 = .ok (.invokestatic 39, 3) := by decide +kernel
theorem dX6_openAt_9 : decode cX6_openAt 9 = .ok (.ifCond .eq 15, 3) := by decide +kernel
theorem dX6_openAt_12 : decode cX6_openAt 12 = .ok (.aload_n 0, 1) := by decide +kernel
theorem dX6_openAt_13 : decode cX6_openAt 13 = .ok (.getfield 35, 3) := by decide +kernel
theorem dX6_openAt_16 : decode cX6_openAt 16 = .ok (.aload_n 0, 1) := by decide +kernel
theorem dX6_openAt_17 : decode cX6_openAt 17 = .ok (.getfield 11, 3) := by decide +kernel
theorem dX6_openAt_20 : decode cX6_openAt 20 = .ok (.arraylength, 1) := by decide +kernel
theorem dX6_openAt_21 : decode cX6_openAt 21 = .ok (.if_icmp .lt 4, 3) := by decide +kernel
theorem dX6_openAt_24 : decode cX6_openAt 24 = .ok (.return_, 1) := by decide +kernel
theorem dX6_openAt_25 : decode cX6_openAt 25 = .ok (.aload_n 0, 1) := by decide +kernel
theorem dX6_openAt_26 : decode cX6_openAt 26 = .ok (.getfield 11, 3) := by decide +kernel
theorem dX6_openAt_29 : decode cX6_openAt 29 = .ok (.aload_n 0, 1) := by decide +kernel
theorem dX6_openAt_30 : decode cX6_openAt 30 = .ok (.getfield 35, 3) := by decide +kernel
theorem dX6_openAt_33 : decode cX6_openAt 33 = .ok (.aaload, 1) := by decide +kernel
theorem dX6_openAt_34 : decode cX6_openAt 34 = .ok (.astore_n 2, 1) := by decide +kernel
theorem dX6_openAt_35 : decode cX6_openAt 35 = .ok (.aload_n 0, 1) := by decide +kernel
theorem dX6_openAt_36 : decode cX6_openAt 36 = .ok (.getfield 35, 3) := by decide +kernel
theorem dX6_openAt_39 : decode cX6_openAt 39 = .ok (.istore_n 3, 1) := by decide +kernel
theorem dX6_openAt_40 : decode cX6_openAt 40 = .ok (.iload_n 3, 1) := by decide +kernel
theorem dX6_openAt_41 : decode cX6_openAt 41 = .ok (.iload_n 1, 1) := by decide +kernel
theorem dX6_openAt_42 : decode cX6_openAt 42 = .ok (.if_icmp .le 23, 3) := by decide +kernel
theorem dX6_openAt_45 : decode cX6_openAt 45 = .ok (.aload_n 0, 1) := by decide +kernel
theorem dX6_openAt_46 : decode cX6_openAt 46 = .ok (.getfield 11, 3) := by decide +kernel
theorem dX6_openAt_49 : decode cX6_openAt 49 = .ok (.iload_n 3, 1) := by decide +kernel
theorem dX6_openAt_50 : decode cX6_openAt 50 = .ok (.aload_n 0, 1) := by decide +kernel
theorem dX6_openAt_51 : decode cX6_openAt 51 = .ok (.getfield 11, 3) := by decide +kernel
theorem dX6_openAt_54 : decode cX6_openAt 54 = .ok (.iload_n 3, 1) := by decide +kernel
theorem dX6_openAt_55 : decode cX6_openAt 55 = .ok (.iconst 1, 1) := by decide +kernel
theorem dX6_openAt_56 : decode cX6_openAt 56 = .ok (.isub, 1) := by decide +kernel
theorem dX6_openAt_57 : decode cX6_openAt 57 = .ok (.aaload, 1) := by decide +kernel
theorem dX6_openAt_58 : decode cX6_openAt 58 = .ok (.aastore, 1) := by decide +kernel
theorem dX6_openAt_59 : decode cX6_openAt 59 = .ok (.iinc 3 (-1), 3) := by decide +kernel
theorem dX6_openAt_62 : decode cX6_openAt 62 = .ok (.goto (-22), 3) := by decide +kernel
theorem dX6_openAt_65 : decode cX6_openAt 65 = .ok (.aload_n 0, 1) := by decide +kernel
theorem dX6_openAt_66 : decode cX6_openAt 66 = .ok (.getfield 11, 3) := by decide +kernel
theorem dX6_openAt_69 : decode cX6_openAt 69 = .ok (.iload_n 1, 1) := by decide +kernel
theorem dX6_openAt_70 : decode cX6_openAt 70 = .ok (.aload_n 2, 1) := by decide +kernel
theorem dX6_openAt_71 : decode cX6_openAt 71 = .ok (.aastore, 1) := by decide +kernel
theorem dX6_openAt_72 : decode cX6_openAt 72 = .ok (.aload_n 0, 1) := by decide +kernel
theorem dX6_openAt_73 : decode cX6_openAt 73 = .ok (.dup, 1) := by decide +kernel
theorem dX6_openAt_74 : decode cX6_openAt 74 = .ok (.getfield 35, 3) := by decide +kernel
theorem dX6_openAt_77 : decode cX6_openAt 77 = .ok (.iconst 1, 1) := by decide +kernel
theorem dX6_openAt_78 : decode cX6_openAt 78 = .ok (.iadd, 1) := by decide +kernel
theorem dX6_openAt_79 : decode cX6_openAt 79 = .ok (.putfield 35, 3) := by decide +kernel
theorem dX6_openAt_82 : decode cX6_openAt 82 = .ok (.return_, 1) := by decide +kernel
theorem dX7_init_0 : decode cX7_init 0 = .ok (.aload_n 0, 1) := by decide +kernel
theorem dX7_init_1 : decode cX7_init 1 = .ok (.invokespecial 3, 3) := by decide +kernel
theorem dX7_init_4 : decode cX7_init 4 = .ok (.aload_n 0, 1) := by decide +kernel
theorem dX7_init_5 : decode cX7_init 5 = .ok (.bipush 12, 2) := by decide +kernel
theorem dX7_init_7 : decode cX7_init 7 = .ok (.newarray .int, 2) := by decide +kernel
theorem dX7_init_9 : decode cX7_init 9 = .ok (.putfield 9, 3) := by decide +kernel
theorem dX7_init_12 : decode cX7_init 12 = .ok (.aload_n 0, 1) := by decide +kernel
theorem dX7_init_13 : decode cX7_init 13 = .ok (.sipush 600, 3) := by decide +kernel
theorem dX7_init_16 : decode cX7_init 16 = .ok (.newarray .int, 2) := by decide +kernel
theorem dX7_init_18 : decode cX7_init 18 = .ok (.putfield 15, 3) := by decide +kernel
theorem dX7_init_21 : decode cX7_init 21 = .ok (.aload_n 0, 1) := by decide +kernel
theorem dX7_init_22 : decode cX7_init 22 = .ok (.sipush 601, 3) := by decide +kernel
theorem dX7_init_25 : decode cX7_init 25 = .ok (.newarray .int, 2) := by decide +kernel
theorem dX7_init_27 : decode cX7_init 27 = .ok (.putfield 18, 3) := by decide +kernel
theorem dX7_init_30 : decode cX7_init 30 = .ok (.aload_n 0, 1) := by decide +kernel
theorem dX7_init_31 : decode cX7_init 31 = .ok (.sipush 601, 3) := by decide +kernel
theorem dX7_init_34 : decode cX7_init 34 = .ok (.newarray .int, 2) := by decide +kernel
theorem dX7_init_36 : decode cX7_init 36 = .ok (.putfield 21, 3) := by decide +kernel
theorem dX7_init_39 : decode cX7_init 39 = .ok (.aload_n 0, 1) := by decide +kernel
theorem dX7_init_40 : decode cX7_init 40 = .ok (.sipush 600, 3) := by decide +kernel
theorem dX7_init_43 : decode cX7_init 43 = .ok (.newarray .int, 2) := by decide +kernel
theorem dX7_init_45 : decode cX7_init 45 = .ok (.putfield 24, 3) := by decide +kernel
theorem dX7_init_48 : decode cX7_init 48 = .ok (.return_, 1) := by decide +kernel
theorem dX7_set_0 : decode cX7_set 0 = .ok (.aload_n 0, 1) := by decide +kernel
theorem dX7_set_1 : decode cX7_set 1 = .ok (.iload_n 1, 1) := by decide +kernel
theorem dX7_set_2 : decode cX7_set 2 = .ok (.putfield 27, 3) := by decide +kernel
theorem dX7_set_5 : decode cX7_set 5 = .ok (.aload_n 0, 1) := by decide +kernel
theorem dX7_set_6 : decode cX7_set 6 = .ok (.iload_n 2, 1) := by decide +kernel
theorem dX7_set_7 : decode cX7_set 7 = .ok (.putfield 31, 3) := by decide +kernel
theorem dX7_set_10 : decode cX7_set 10 = .ok (.aload_n 0, 1) := by decide +kernel
theorem dX7_set_11 : decode cX7_set 11 = .ok (.iload_n 3, 1) := by decide +kernel
theorem dX7_set_12 : decode cX7_set 12 = .ok (.putfield 34, 3) := by decide +kernel
theorem dX7_set_15 : decode cX7_set 15 = .ok (.aload_n 0, 1) := by decide +kernel
theorem dX7_set_16 : decode cX7_set 16 = .ok (.iload 4, 2) := by decide +kernel
theorem dX7_set_18 : decode cX7_set 18 = .ok (.putfield 37, 3) := by decide +kernel
theorem dX7_set_21 : decode cX7_set 21 = .ok (.aload_n 0, 1) := by decide +kernel
theorem dX7_set_22 : decode cX7_set 22 = .ok (.iconst 0, 1) := by decide +kernel
theorem dX7_set_23 : decode cX7_set 23 = .ok (.putfield 40, 3) := by decide +kernel
theorem dX7_set_26 : decode cX7_set 26 = .ok (.aload_n 0, 1) := by decide +kernel
theorem dX7_set_27 : decode cX7_set 27 = .ok (.invokevirtual 43, 3) := by decide +kernel
theorem dX7_set_30 : decode cX7_set 30 = .ok (.return_, 1) := by decide +kernel
theorem dX7_begin_0 : decode cX7_begin 0 = .ok (.aload_n 0, 1) := by decide +kernel
theorem dX7_begin_1 : decode cX7_begin 1 = .ok (.iconst 0, 1) := by decide +kernel
theorem dX7_begin_2 : decode cX7_begin 2 = .ok (.putfield 46, 3) := by decide +kernel
theorem dX7_begin_5 : decode cX7_begin 5 = .ok (.aload_n 0, 1) := by decide +kernel
theorem dX7_begin_6 : decode cX7_begin 6 = .ok (.iconst 0, 1) := by decide +kernel
theorem dX7_begin_7 : decode cX7_begin 7 = .ok (.putfield 49, 3) := by decide +kernel
theorem dX7_begin_10 : decode cX7_begin 10 = .ok (.aload_n 0, 1) := by decide +kernel
theorem dX7_begin_11 : decode cX7_begin 11 = .ok (.iconst 0, 1) := by decide +kernel
theorem dX7_begin_12 : decode cX7_begin 12 = .ok (.putfield 52, 3) := by decide +kernel
theorem dX7_begin_15 : decode cX7_begin 15 = .ok (.iconst 0, 1) := by decide +kernel
theorem dX7_begin_16 : decode cX7_begin 16 = .ok (.istore_n 1, 1) := by decide +kernel
theorem dX7_begin_17 : decode cX7_begin 17 = .ok (.iload_n 1, 1) := by decide +kernel
theorem dX7_begin_18 : decode cX7_begin 18 = .ok (.aload_n 0, 1) := by decide +kernel
theorem dX7_begin_19 : decode cX7_begin 19 = .ok (.getfield 15, 3) := by decide +kernel
theorem dX7_begin_22 : decode cX7_begin 22 = .ok (.arraylength, 1) := by decide +kernel
theorem dX7_begin_23 : decode cX7_begin 23 = .ok (.if_icmp .ge 17, 3) := by decide +kernel
theorem dX7_begin_26 : decode cX7_begin 26 = .ok (.aload_n 0, 1) := by decide +kernel
theorem dX7_begin_27 : decode cX7_begin 27 = .ok (.getfield 15, 3) := by decide +kernel
theorem dX7_begin_30 : decode cX7_begin 30 = .ok (.iload_n 1, 1) := by decide +kernel
theorem dX7_begin_31 : decode cX7_begin 31 = .ok (.ldc 55, 2) := by decide +kernel
theorem dX7_begin_33 : decode cX7_begin 33 = .ok (.iastore, 1) := by decide +kernel
theorem dX7_begin_34 : decode cX7_begin 34 = .ok (.iinc 1 1, 3) := by decide +kernel
theorem dX7_begin_37 : decode cX7_begin 37 = .ok (.goto (-20), 3) := by decide +kernel
theorem dX7_begin_40 : decode cX7_begin 40 = .ok (.iconst 0, 1) := by decide +kernel
theorem dX7_begin_41 : decode cX7_begin 41 = .ok (.istore_n 1, 1) := by decide +kernel
theorem dX7_begin_42 : decode cX7_begin 42 = .ok (.iload_n 1, 1) := by decide +kernel
theorem dX7_begin_43 : decode cX7_begin 43 = .ok (.aload_n 0, 1) := by decide +kernel
theorem dX7_begin_44 : decode cX7_begin 44 = .ok (.getfield 37, 3) := by decide +kernel
theorem dX7_begin_47 : decode cX7_begin 47 = .ok (.if_icmp .ge 22, 3) := by decide +kernel
theorem dX7_begin_50 : decode cX7_begin 50 = .ok (.aload_n 0, 1) := by decide +kernel
theorem dX7_begin_51 : decode cX7_begin 51 = .ok (.getfield 24, 3) := by decide +kernel
theorem dX7_begin_54 : decode cX7_begin 54 = .ok (.iload_n 1, 1) := by decide +kernel
theorem dX7_begin_55 : decode cX7_begin 55 = .ok (.aload_n 0, 1) := by decide +kernel
theorem dX7_begin_56 : decode cX7_begin 56 = .ok (.iload_n 1, 1) := by decide +kernel
theorem dX7_begin_57 : decode cX7_begin 57 = .ok (.invokevirtual 56, 3) := by decide +kernel
theorem dX7_begin_60 : decode cX7_begin 60 = .ok (.invokestatic 60, 3) := by decide +kernel
theorem dX7_begin_63 : decode cX7_begin 63 = .ok (.iinc 1 1, 3) := by decide +kernel
theorem dX7_begin_66 : decode cX7_begin 66 = .ok (.goto (-24), 3) := by decide +kernel
theorem dX7_begin_69 : decode cX7_begin 69 = .ok (.aload_n 0, 1) := by decide +kernel
theorem dX7_begin_70 : decode cX7_begin 70 = .ok (.aload_n 0, 1) := by decide +kernel
theorem dX7_begin_71 : decode cX7_begin 71 = .ok (.getfield 37, 3) := by decide +kernel
theorem dX7_begin_74 : decode cX7_begin 74 = .ok (.putfield 64, 3) := by decide +kernel
theorem dX7_begin_77 : decode cX7_begin 77 = .ok (.return_, 1) := by decide +kernel
theorem dX7_takeOver_0 : decode cX7_takeOver 0 = .ok (.aload_n 0, 1) := by decide +kernel
theorem dX7_takeOver_1 : decode cX7_takeOver 1 = .ok (.aload_n 1, 1) := by decide +kernel
theorem dX7_takeOver_2 : decode cX7_takeOver 2 = .ok (.getfield 27, 3) := by decide +kernel
theorem dX7_takeOver_5 : decode cX7_takeOver 5 = .ok (.putfield 27, 3) := by decide +kernel
theorem dX7_takeOver_8 : decode cX7_takeOver 8 = .ok (.aload_n 0, 1) := by decide +kernel
theorem dX7_takeOver_9 : decode cX7_takeOver 9 = .ok (.aload_n 1, 1) := by decide +kernel
theorem dX7_takeOver_10 : decode cX7_takeOver 10 = .ok (.getfield 31, 3) := by decide +kernel
theorem dX7_takeOver_13 : decode cX7_takeOver 13 = .ok (.putfield 31, 3) := by decide +kernel
theorem dX7_takeOver_16 : decode cX7_takeOver 16 = .ok (.aload_n 0, 1) := by decide +kernel
theorem dX7_takeOver_17 : decode cX7_takeOver 17 = .ok (.aload_n 1, 1) := by decide +kernel
theorem dX7_takeOver_18 : decode cX7_takeOver 18 = .ok (.getfield 34, 3) := by decide +kernel
theorem dX7_takeOver_21 : decode cX7_takeOver 21 = .ok (.putfield 34, 3) := by decide +kernel
theorem dX7_takeOver_24 : decode cX7_takeOver 24 = .ok (.aload_n 0, 1) := by decide +kernel
theorem dX7_takeOver_25 : decode cX7_takeOver 25 = .ok (.aload_n 1, 1) := by decide +kernel
theorem dX7_takeOver_26 : decode cX7_takeOver 26 = .ok (.getfield 37, 3) := by decide +kernel
theorem dX7_takeOver_29 : decode cX7_takeOver 29 = .ok (.putfield 37, 3) := by decide +kernel
theorem dX7_takeOver_32 : decode cX7_takeOver 32 = .ok (.aload_n 0, 1) := by decide +kernel
theorem dX7_takeOver_33 : decode cX7_takeOver 33 = .ok (.aload_n 1, 1) := by decide +kernel
theorem dX7_takeOver_34 : decode cX7_takeOver 34 = .ok (.getfield 40, 3) := by decide +kernel
theorem dX7_takeOver_37 : decode cX7_takeOver 37 = .ok (.putfield 40, 3) := by decide +kernel
theorem dX7_takeOver_40 : decode cX7_takeOver 40 = .ok (.aload_n 0, 1) := by decide +kernel
theorem dX7_takeOver_41 : decode cX7_takeOver 41 = .ok (.aload_n 1, 1) := by decide +kernel
theorem dX7_takeOver_42 : decode cX7_takeOver 42 = .ok (.getfield 46, 3) := by decide +kernel
theorem dX7_takeOver_45 : decode cX7_takeOver 45 = .ok (.putfield 46, 3) := by decide +kernel
theorem dX7_takeOver_48 : decode cX7_takeOver 48 = .ok (.aload_n 0, 1) := by decide +kernel
theorem dX7_takeOver_49 : decode cX7_takeOver 49 = .ok (.aload_n 1, 1) := by decide +kernel
theorem dX7_takeOver_50 : decode cX7_takeOver 50 = .ok (.getfield 49, 3) := by decide +kernel
theorem dX7_takeOver_53 : decode cX7_takeOver 53 = .ok (.putfield 49, 3) := by decide +kernel
theorem dX7_takeOver_56 : decode cX7_takeOver 56 = .ok (.aload_n 0, 1) := by decide +kernel
theorem dX7_takeOver_57 : decode cX7_takeOver 57 = .ok (.aload_n 1, 1) := by decide +kernel
theorem dX7_takeOver_58 : decode cX7_takeOver 58 = .ok (.getfield 52, 3) := by decide +kernel
theorem dX7_takeOver_61 : decode cX7_takeOver 61 = .ok (.putfield 52, 3) := by decide +kernel
theorem dX7_takeOver_64 : decode cX7_takeOver 64 = .ok (.aload_n 0, 1) := by decide +kernel
theorem dX7_takeOver_65 : decode cX7_takeOver 65 = .ok (.aload_n 1, 1) := by decide +kernel
theorem dX7_takeOver_66 : decode cX7_takeOver 66 = .ok (.getfield 64, 3) := by decide +kernel
theorem dX7_takeOver_69 : decode cX7_takeOver 69 = .ok (.putfield 64, 3) := by decide +kernel
theorem dX7_takeOver_72 : decode cX7_takeOver 72 = .ok (.aload_n 1, 1) := by decide +kernel
theorem dX7_takeOver_73 : decode cX7_takeOver 73 = .ok (.getfield 9, 3) := by decide +kernel
theorem dX7_takeOver_76 : decode cX7_takeOver 76 = .ok (.aload_n 0, 1) := by decide +kernel
theorem dX7_takeOver_77 : decode cX7_takeOver 77 = .ok (.getfield 9, 3) := by decide +kernel
theorem dX7_takeOver_80 : decode cX7_takeOver 80 = .ok (.invokestatic 67, 3) := by decide +kernel
theorem dX7_takeOver_83 : decode cX7_takeOver 83 = .ok (.aload_n 1, 1) := by decide +kernel
theorem dX7_takeOver_84 : decode cX7_takeOver 84 = .ok (.getfield 15, 3) := by decide +kernel
theorem dX7_takeOver_87 : decode cX7_takeOver 87 = .ok (.aload_n 0, 1) := by decide +kernel
theorem dX7_takeOver_88 : decode cX7_takeOver 88 = .ok (.getfield 15, 3) := by decide +kernel
theorem dX7_takeOver_91 : decode cX7_takeOver 91 = .ok (.invokestatic 67, 3) := by decide +kernel
theorem dX7_takeOver_94 : decode cX7_takeOver 94 = .ok (.aload_n 1, 1) := by decide +kernel
theorem dX7_takeOver_95 : decode cX7_takeOver 95 = .ok (.getfield 18, 3) := by decide +kernel
theorem dX7_takeOver_98 : decode cX7_takeOver 98 = .ok (.aload_n 0, 1) := by decide +kernel
theorem dX7_takeOver_99 : decode cX7_takeOver 99 = .ok (.getfield 18, 3) := by decide +kernel
theorem dX7_takeOver_102 : decode cX7_takeOver 102 = .ok (.invokestatic 67, 3) := by decide +kernel
theorem dX7_takeOver_105 : decode cX7_takeOver 105 = .ok (.aload_n 1, 1) := by decide +kernel
theorem dX7_takeOver_106 : decode cX7_takeOver 106 = .ok (.getfield 21, 3) := by decide +kernel
theorem dX7_takeOver_109 : decode cX7_takeOver 109 = .ok (.aload_n 0, 1) := by decide +kernel
theorem dX7_takeOver_110 : decode cX7_takeOver 110 = .ok (.getfield 21, 3) := by decide +kernel
theorem dX7_takeOver_113 : decode cX7_takeOver 113 = .ok (.invokestatic 67, 3) := by decide +kernel
theorem dX7_takeOver_116 : decode cX7_takeOver 116 = .ok (.aload_n 1, 1) := by decide +kernel
theorem dX7_takeOver_117 : decode cX7_takeOver 117 = .ok (.getfield 24, 3) := by decide +kernel
theorem dX7_takeOver_120 : decode cX7_takeOver 120 = .ok (.aload_n 0, 1) := by decide +kernel
theorem dX7_takeOver_121 : decode cX7_takeOver 121 = .ok (.getfield 24, 3) := by decide +kernel
theorem dX7_takeOver_124 : decode cX7_takeOver 124 = .ok (.invokestatic 67, 3) := by decide +kernel
theorem dX7_takeOver_127 : decode cX7_takeOver 127 = .ok (.return_, 1) := by decide +kernel
theorem dX7_property_0 : decode cX7_property 0 = .ok (.iload_n 1, 1) := by decide +kernel
theorem dX7_property_1 : decode cX7_property 1 = .ok (.tableswitch 87 0 6 #[43, 48, 53, 58, 63, 68, 73], 43) := by decide +kernel
theorem dX7_property_44 : decode cX7_property 44 = .ok (.aload_n 0, 1) := by decide +kernel
theorem dX7_property_45 : decode cX7_property 45 = .ok (.getfield 27, 3) := by decide +kernel
theorem dX7_property_48 : decode cX7_property 48 = .ok (.ireturn, 1) := by decide +kernel
theorem dX7_property_49 : decode cX7_property 49 = .ok (.aload_n 0, 1) := by decide +kernel
theorem dX7_property_50 : decode cX7_property 50 = .ok (.getfield 31, 3) := by decide +kernel
theorem dX7_property_53 : decode cX7_property 53 = .ok (.ireturn, 1) := by decide +kernel
theorem dX7_property_54 : decode cX7_property 54 = .ok (.aload_n 0, 1) := by decide +kernel
theorem dX7_property_55 : decode cX7_property 55 = .ok (.getfield 34, 3) := by decide +kernel
theorem dX7_property_58 : decode cX7_property 58 = .ok (.ireturn, 1) := by decide +kernel
theorem dX7_property_59 : decode cX7_property 59 = .ok (.aload_n 0, 1) := by decide +kernel
theorem dX7_property_60 : decode cX7_property 60 = .ok (.getfield 37, 3) := by decide +kernel
theorem dX7_property_63 : decode cX7_property 63 = .ok (.ireturn, 1) := by decide +kernel
theorem dX7_property_64 : decode cX7_property 64 = .ok (.aload_n 0, 1) := by decide +kernel
theorem dX7_property_65 : decode cX7_property 65 = .ok (.getfield 64, 3) := by decide +kernel
theorem dX7_property_68 : decode cX7_property 68 = .ok (.ireturn, 1) := by decide +kernel
theorem dX7_property_69 : decode cX7_property 69 = .ok (.aload_n 0, 1) := by decide +kernel
theorem dX7_property_70 : decode cX7_property 70 = .ok (.getfield 46, 3) := by decide +kernel
theorem dX7_property_73 : decode cX7_property 73 = .ok (.ireturn, 1) := by decide +kernel
theorem dX7_property_74 : decode cX7_property 74 = .ok (.aload_n 0, 1) := by decide +kernel
theorem dX7_property_75 : decode cX7_property 75 = .ok (.invokevirtual 71, 3) := by decide +kernel
theorem dX7_property_78 : decode cX7_property 78 = .ok (.iconst (-1), 1) := by decide +kernel
theorem dX7_property_79 : decode cX7_property 79 = .ok (.if_icmp .ne 7, 3) := by decide +kernel
theorem dX7_property_82 : decode cX7_property 82 = .ok (.iconst 1, 1) := by decide +kernel
theorem dX7_property_83 : decode cX7_property 83 = .ok (.goto 4, 3) := by decide +kernel
theorem dX7_property_86 : decode cX7_property 86 = .ok (.iconst 0, 1) := by decide +kernel
theorem dX7_property_87 : decode cX7_property 87 = .ok (.ireturn, 1) := by decide +kernel
theorem dX7_property_88 : decode cX7_property 88 = .ok (.aload_n 0, 1) := by decide +kernel
theorem dX7_property_89 : decode cX7_property 89 = .ok (.getfield 52, 3) := by decide +kernel
theorem dX7_property_92 : decode cX7_property 92 = .ok (.ireturn, 1) := by decide +kernel
theorem dX7_firstNumber_0 : decode cX7_firstNumber 0 = .ok (.aload_n 0, 1) := by decide +kernel
theorem dX7_firstNumber_1 : decode cX7_firstNumber 1 = .ok (.getfield 31, 3) := by decide +kernel
theorem dX7_firstNumber_4 : decode cX7_firstNumber 4 = .ok (.aload_n 0, 1) := by decide +kernel
theorem dX7_firstNumber_5 : decode cX7_firstNumber 5 = .ok (.getfield 34, 3) := by decide +kernel
theorem dX7_firstNumber_8 : decode cX7_firstNumber 8 = .ok (.iload_n 1, 1) := by decide +kernel
theorem dX7_firstNumber_9 : decode cX7_firstNumber 9 = .ok (.imul, 1) := by decide +kernel
theorem dX7_firstNumber_10 : decode cX7_firstNumber 10 = .ok (.iadd, 1) := by decide +kernel
theorem dX7_firstNumber_11 : decode cX7_firstNumber 11 = .ok (.ireturn, 1) := by decide +kernel
theorem dX7_isHere_0 : decode cX7_isHere 0 = .ok (.aload_n 0, 1) := by decide +kernel
theorem dX7_isHere_1 : decode cX7_isHere 1 = .ok (.getfield 15, 3) := by decide +kernel
theorem dX7_isHere_4 : decode cX7_isHere 4 = .ok (.iload_n 1, 1) := by decide +kernel
theorem dX7_isHere_5 : decode cX7_isHere 5 = .ok (.invokestatic 75, 3) := by decide +kernel
theorem dX7_isHere_8 : decode cX7_isHere 8 = .ok (.ldc 55, 2) := by decide +kernel
theorem dX7_isHere_10 : decode cX7_isHere 10 = .ok (.if_icmp .ne 7, 3) := by decide +kernel
theorem dX7_isHere_13 : decode cX7_isHere 13 = .ok (.iconst 1, 1) := by decide +kernel
theorem dX7_isHere_14 : decode cX7_isHere 14 = .ok (.goto 4, 3) := by decide +kernel
theorem dX7_isHere_17 : decode cX7_isHere 17 = .ok (.iconst 0, 1) := by decide +kernel
theorem dX7_isHere_18 : decode cX7_isHere 18 = .ok (.ireturn, 1) := by decide +kernel
theorem dX7_closeUp_0 : decode cX7_closeUp 0 = .ok (.aload_n 0, 1) := by decide +kernel
theorem dX7_closeUp_1 : decode cX7_closeUp 1 = .ok (.iconst 0, 1) := by decide +kernel
theorem dX7_closeUp_2 : decode cX7_closeUp 2 = .ok (.putfield 64, 3) := by decide +kernel
theorem dX7_closeUp_5 : decode cX7_closeUp 5 = .ok (.iconst 0, 1) := by decide +kernel
theorem dX7_closeUp_6 : decode cX7_closeUp 6 = .ok (.istore_n 1, 1) := by decide +kernel
theorem dX7_closeUp_7 : decode cX7_closeUp 7 = .ok (.iload_n 1, 1) := by decide +kernel
theorem dX7_closeUp_8 : decode cX7_closeUp 8 = .ok (.aload_n 0, 1) := by decide +kernel
theorem dX7_closeUp_9 : decode cX7_closeUp 9 = .ok (.getfield 37, 3) := by decide +kernel
theorem dX7_closeUp_12 : decode cX7_closeUp 12 = .ok (.if_icmp .ge 46, 3) := by decide +kernel
theorem dX7_closeUp_15 : decode cX7_closeUp 15 = .ok (.aload_n 0, 1) := by decide +kernel
theorem dX7_closeUp_16 : decode cX7_closeUp 16 = .ok (.iload_n 1, 1) := by decide +kernel
theorem dX7_closeUp_17 : decode cX7_closeUp 17 = .ok (.invokevirtual 79, 3) := by decide +kernel
theorem dX7_closeUp_20 : decode cX7_closeUp 20 = .ok (.ifCond .ne 6, 3) := by decide +kernel
theorem dX7_closeUp_23 : decode cX7_closeUp 23 = .ok (.goto 29, 3) := by decide +kernel
theorem dX7_closeUp_26 : decode cX7_closeUp 26 = .ok (.aload_n 0, 1) := by decide +kernel
theorem dX7_closeUp_27 : decode cX7_closeUp 27 = .ok (.getfield 24, 3) := by decide +kernel
theorem dX7_closeUp_30 : decode cX7_closeUp 30 = .ok (.aload_n 0, 1) := by decide +kernel
theorem dX7_closeUp_31 : decode cX7_closeUp 31 = .ok (.getfield 64, 3) := by decide +kernel
theorem dX7_closeUp_34 : decode cX7_closeUp 34 = .ok (.aload_n 0, 1) := by decide +kernel
theorem dX7_closeUp_35 : decode cX7_closeUp 35 = .ok (.iload_n 1, 1) := by decide +kernel
theorem dX7_closeUp_36 : decode cX7_closeUp 36 = .ok (.invokevirtual 56, 3) := by decide +kernel
theorem dX7_closeUp_39 : decode cX7_closeUp 39 = .ok (.invokestatic 60, 3) := by decide +kernel
theorem dX7_closeUp_42 : decode cX7_closeUp 42 = .ok (.aload_n 0, 1) := by decide +kernel
theorem dX7_closeUp_43 : decode cX7_closeUp 43 = .ok (.dup, 1) := by decide +kernel
theorem dX7_closeUp_44 : decode cX7_closeUp 44 = .ok (.getfield 64, 3) := by decide +kernel
theorem dX7_closeUp_47 : decode cX7_closeUp 47 = .ok (.iconst 1, 1) := by decide +kernel
theorem dX7_closeUp_48 : decode cX7_closeUp 48 = .ok (.iadd, 1) := by decide +kernel
theorem dX7_closeUp_49 : decode cX7_closeUp 49 = .ok (.putfield 64, 3) := by decide +kernel
theorem dX7_closeUp_52 : decode cX7_closeUp 52 = .ok (.iinc 1 1, 3) := by decide +kernel
theorem dX7_closeUp_55 : decode cX7_closeUp 55 = .ok (.goto (-48), 3) := by decide +kernel
theorem dX7_closeUp_58 : decode cX7_closeUp 58 = .ok (.return_, 1) := by decide +kernel
theorem dX7_numberAt_0 : decode cX7_numberAt 0 = .ok (.iload_n 1, 1) := by decide +kernel
theorem dX7_numberAt_1 : decode cX7_numberAt 1 = .ok (.iconst 1, 1) := by decide +kernel
theorem dX7_numberAt_2 : decode cX7_numberAt 2 = .ok (.aload_n 0, 1) := by decide +kernel
theorem dX7_numberAt_3 : decode cX7_numberAt 3 = .ok (.getfield 64, 3) := by decide +kernel
theorem dX7_numberAt_6 : decode cX7_numberAt 6 = .ok (.invokestatic 83, 3) := by decide +kernel
theorem dX7_numberAt_9 : decode cX7_numberAt 9 = .ok (.ifCond .eq 16, 3) := by decide +kernel
theorem dX7_numberAt_12 : decode cX7_numberAt 12 = .ok (.aload_n 0, 1) := by decide +kernel
theorem dX7_numberAt_13 : decode cX7_numberAt 13 = .ok (.getfield 24, 3) := by decide +kernel
theorem dX7_numberAt_16 : decode cX7_numberAt 16 = .ok (.iload_n 1, 1) := by decide +kernel
theorem dX7_numberAt_17 : decode cX7_numberAt 17 = .ok (.iconst 1, 1) := by decide +kernel
theorem dX7_numberAt_18 : decode cX7_numberAt 18 = .ok (.isub, 1) := by decide +kernel
theorem dX7_numberAt_19 : decode cX7_numberAt 19 = .ok (.invokestatic 75, 3) := by decide +kernel
theorem dX7_numberAt_22 : decode cX7_numberAt 22 = .ok (.goto 4, 3) := by decide +kernel
theorem dX7_numberAt_25 : decode cX7_numberAt 25 = .ok (.iconst (-1), 1) := by decide +kernel
theorem dX7_numberAt_26 : decode cX7_numberAt 26 = .ok (.ireturn, 1) := by decide +kernel
theorem dX7_gapAt_0 : decode cX7_gapAt 0 = .ok (.iload_n 1, 1) := by decide +kernel
theorem dX7_gapAt_1 : decode cX7_gapAt 1 = .ok (.iconst 1, 1) := by decide +kernel
theorem dX7_gapAt_2 : decode cX7_gapAt 2 = .ok (.aload_n 0, 1) := by decide +kernel
theorem dX7_gapAt_3 : decode cX7_gapAt 3 = .ok (.getfield 64, 3) := by decide +kernel
theorem dX7_gapAt_6 : decode cX7_gapAt 6 = .ok (.iconst 1, 1) := by decide +kernel
theorem dX7_gapAt_7 : decode cX7_gapAt 7 = .ok (.isub, 1) := by decide +kernel
theorem dX7_gapAt_8 : decode cX7_gapAt 8 = .ok (.invokestatic 83, 3) := by decide +kernel
theorem dX7_gapAt_11 : decode cX7_gapAt 11 = .ok (.ifCond .eq 19, 3) := by decide +kernel
theorem dX7_gapAt_14 : decode cX7_gapAt 14 = .ok (.aload_n 0, 1) := by decide +kernel
theorem dX7_gapAt_15 : decode cX7_gapAt 15 = .ok (.iload_n 1, 1) := by decide +kernel
theorem dX7_gapAt_16 : decode cX7_gapAt 16 = .ok (.iconst 1, 1) := by decide +kernel
theorem dX7_gapAt_17 : decode cX7_gapAt 17 = .ok (.iadd, 1) := by decide +kernel
theorem dX7_gapAt_18 : decode cX7_gapAt 18 = .ok (.invokevirtual 87, 3) := by decide +kernel
theorem dX7_gapAt_21 : decode cX7_gapAt 21 = .ok (.aload_n 0, 1) := by decide +kernel
theorem dX7_gapAt_22 : decode cX7_gapAt 22 = .ok (.iload_n 1, 1) := by decide +kernel
theorem dX7_gapAt_23 : decode cX7_gapAt 23 = .ok (.invokevirtual 87, 3) := by decide +kernel
theorem dX7_gapAt_26 : decode cX7_gapAt 26 = .ok (.isub, 1) := by decide +kernel
theorem dX7_gapAt_27 : decode cX7_gapAt 27 = .ok (.goto 4, 3) := by decide +kernel
theorem dX7_gapAt_30 : decode cX7_gapAt 30 = .ok (.iconst (-1), 1) := by decide +kernel
theorem dX7_gapAt_31 : decode cX7_gapAt 31 = .ok (.ireturn, 1) := by decide +kernel
theorem dX7_indexOf_0 : decode cX7_indexOf 0 = .ok (.aload_n 0, 1) := by decide +kernel
theorem dX7_indexOf_1 : decode cX7_indexOf 1 = .ok (.getfield 34, 3) := by decide +kernel
theorem dX7_indexOf_4 : decode cX7_indexOf 4 = .ok (.iconst 1, 1) := by decide +kernel
theorem dX7_indexOf_5 : decode cX7_indexOf 5 = .ok (.if_icmp .lt 13, 3) := by decide +kernel
theorem dX7_indexOf_8 : decode cX7_indexOf 8 = .ok (.lload_n 1, 1) := by decide +kernel
theorem dX7_indexOf_9 : decode cX7_indexOf 9 = .ok (.aload_n 0, 1) := by decide +kernel
theorem dX7_indexOf_10 : decode cX7_indexOf 10 = .ok (.getfield 31, 3) := by decide +kernel
theorem dX7_indexOf_13 : decode cX7_indexOf 13 = .ok (.i2l, 1) := by decide +kernel
theorem dX7_indexOf_14 : decode cX7_indexOf 14 = .ok (.lcmp, 1) := by decide +kernel
theorem dX7_indexOf_15 : decode cX7_indexOf 15 = .ok (.ifCond .ge 5, 3) := by decide +kernel
theorem dX7_indexOf_18 : decode cX7_indexOf 18 = .ok (.iconst (-1), 1) := by decide +kernel
theorem dX7_indexOf_19 : decode cX7_indexOf 19 = .ok (.ireturn, 1) := by decide +kernel
theorem dX7_indexOf_20 : decode cX7_indexOf 20 = .ok (.lload_n 1, 1) := by decide +kernel
theorem dX7_indexOf_21 : decode cX7_indexOf 21 = .ok (.aload_n 0, 1) := by decide +kernel
theorem dX7_indexOf_22 : decode cX7_indexOf 22 = .ok (.getfield 31, 3) := by decide +kernel
theorem dX7_indexOf_25 : decode cX7_indexOf 25 = .ok (.i2l, 1) := by decide +kernel
theorem dX7_indexOf_26 : decode cX7_indexOf 26 = .ok (.lsub, 1) := by decide +kernel
theorem dX7_indexOf_27 : decode cX7_indexOf 27 = .ok (.aload_n 0, 1) := by decide +kernel
theorem dX7_indexOf_28 : decode cX7_indexOf 28 = .ok (.getfield 34, 3) := by decide +kernel
theorem dX7_indexOf_31 : decode cX7_indexOf 31 = .ok (.i2l, 1) := by decide +kernel
theorem dX7_indexOf_32 : decode cX7_indexOf 32 = .ok (.ldiv, 1) := by decide +kernel
theorem dX7_indexOf_33 : decode cX7_indexOf 33 = .ok (.lstore_n 3, 1) := by decide +kernel
theorem dX7_indexOf_34 : decode cX7_indexOf 34 = .ok (.lload_n 3, 1) := by decide +kernel
theorem dX7_indexOf_35 : decode cX7_indexOf 35 = .ok (.aload_n 0, 1) := by decide +kernel
theorem dX7_indexOf_36 : decode cX7_indexOf 36 = .ok (.getfield 37, 3) := by decide +kernel
theorem dX7_indexOf_39 : decode cX7_indexOf 39 = .ok (.i2l, 1) := by decide +kernel
theorem dX7_indexOf_40 : decode cX7_indexOf 40 = .ok (.lcmp, 1) := by decide +kernel
theorem dX7_indexOf_41 : decode cX7_indexOf 41 = .ok (.ifCond .ge 21, 3) := by decide +kernel
theorem dX7_indexOf_44 : decode cX7_indexOf 44 = .ok (.lload_n 1, 1) := by decide +kernel
theorem dX7_indexOf_45 : decode cX7_indexOf 45 = .ok (.aload_n 0, 1) := by decide +kernel
theorem dX7_indexOf_46 : decode cX7_indexOf 46 = .ok (.getfield 31, 3) := by decide +kernel
theorem dX7_indexOf_49 : decode cX7_indexOf 49 = .ok (.i2l, 1) := by decide +kernel
theorem dX7_indexOf_50 : decode cX7_indexOf 50 = .ok (.lsub, 1) := by decide +kernel
theorem dX7_indexOf_51 : decode cX7_indexOf 51 = .ok (.aload_n 0, 1) := by decide +kernel
theorem dX7_indexOf_52 : decode cX7_indexOf 52 = .ok (.getfield 34, 3) := by decide +kernel
theorem dX7_indexOf_55 : decode cX7_indexOf 55 = .ok (.i2l, 1) := by decide +kernel
theorem dX7_indexOf_56 : decode cX7_indexOf 56 = .ok (.lrem, 1) := by decide +kernel
theorem dX7_indexOf_57 : decode cX7_indexOf 57 = .ok (.lconst 0, 1) := by decide +kernel
theorem dX7_indexOf_58 : decode cX7_indexOf 58 = .ok (.lcmp, 1) := by decide +kernel
theorem dX7_indexOf_59 : decode cX7_indexOf 59 = .ok (.ifCond .eq 5, 3) := by decide +kernel
theorem dX7_indexOf_62 : decode cX7_indexOf 62 = .ok (.iconst (-1), 1) := by decide +kernel
theorem dX7_indexOf_63 : decode cX7_indexOf 63 = .ok (.ireturn, 1) := by decide +kernel
theorem dX7_indexOf_64 : decode cX7_indexOf 64 = .ok (.lload_n 3, 1) := by decide +kernel
theorem dX7_indexOf_65 : decode cX7_indexOf 65 = .ok (.l2i, 1) := by decide +kernel
theorem dX7_indexOf_66 : decode cX7_indexOf 66 = .ok (.ireturn, 1) := by decide +kernel
theorem dX7_has_0 : decode cX7_has 0 = .ok (.aload_n 0, 1) := by decide +kernel
theorem dX7_has_1 : decode cX7_has 1 = .ok (.aload_n 0, 1) := by decide +kernel
theorem dX7_has_2 : decode cX7_has 2 = .ok (.lload_n 1, 1) := by decide +kernel
theorem dX7_has_3 : decode cX7_has 3 = .ok (.invokevirtual 90, 3) := by decide +kernel
theorem dX7_has_6 : decode cX7_has 6 = .ok (.invokevirtual 79, 3) := by decide +kernel
theorem dX7_has_9 : decode cX7_has 9 = .ok (.ireturn, 1) := by decide +kernel
theorem dX7_placeOf_0 : decode cX7_placeOf 0 = .ok (.aload_n 0, 1) := by decide +kernel
theorem dX7_placeOf_1 : decode cX7_placeOf 1 = .ok (.iload_n 1, 1) := by decide +kernel
theorem dX7_placeOf_2 : decode cX7_placeOf 2 = .ok (.i2l, 1) := by decide +kernel
theorem dX7_placeOf_3 : decode cX7_placeOf 3 = .ok (.invokevirtual 94, 3) := by decide +kernel
theorem dX7_placeOf_6 : decode cX7_placeOf 6 = .ok (.ifCond .eq 11, 3) := by decide +kernel
theorem dX7_placeOf_9 : decode cX7_placeOf 9 = .ok (.aload_n 0, 1) := by decide +kernel
theorem dX7_placeOf_10 : decode cX7_placeOf 10 = .ok (.iload_n 1, 1) := by decide +kernel
theorem dX7_placeOf_11 : decode cX7_placeOf 11 = .ok (.invokevirtual 98, 3) := by decide +kernel
theorem dX7_placeOf_14 : decode cX7_placeOf 14 = .ok (.goto 4, 3) := by decide +kernel
theorem dX7_placeOf_17 : decode cX7_placeOf 17 = .ok (.iconst (-1), 1) := by decide +kernel
theorem dX7_placeOf_18 : decode cX7_placeOf 18 = .ok (.ireturn, 1) := by decide +kernel
theorem dX7_countUpTo_0 : decode cX7_countUpTo 0 = .ok (.iconst 0, 1) := by decide +kernel
theorem dX7_countUpTo_1 : decode cX7_countUpTo 1 = .ok (.istore_n 2, 1) := by decide +kernel
theorem dX7_countUpTo_2 : decode cX7_countUpTo 2 = .ok (.iload_n 2, 1) := by decide +kernel
theorem dX7_countUpTo_3 : decode cX7_countUpTo 3 = .ok (.aload_n 0, 1) := by decide +kernel
theorem dX7_countUpTo_4 : decode cX7_countUpTo 4 = .ok (.getfield 64, 3) := by decide +kernel
theorem dX7_countUpTo_7 : decode cX7_countUpTo 7 = .ok (.if_icmp .ge 21, 3) := by decide +kernel
theorem dX7_countUpTo_10 : decode cX7_countUpTo 10 = .ok (.aload_n 0, 1) := by decide +kernel
theorem dX7_countUpTo_11 : decode cX7_countUpTo 11 = .ok (.getfield 24, 3) := by decide +kernel
theorem dX7_countUpTo_14 : decode cX7_countUpTo 14 = .ok (.iload_n 2, 1) := by decide +kernel
theorem dX7_countUpTo_15 : decode cX7_countUpTo 15 = .ok (.invokestatic 75, 3) := by decide +kernel
theorem dX7_countUpTo_18 : decode cX7_countUpTo 18 = .ok (.iload_n 1, 1) := by decide +kernel
theorem dX7_countUpTo_19 : decode cX7_countUpTo 19 = .ok (.if_icmp .gt 9, 3) := by decide +kernel
theorem dX7_countUpTo_22 : decode cX7_countUpTo 22 = .ok (.iinc 2 1, 3) := by decide +kernel
theorem dX7_countUpTo_25 : decode cX7_countUpTo 25 = .ok (.goto (-23), 3) := by decide +kernel
theorem dX7_countUpTo_28 : decode cX7_countUpTo 28 = .ok (.iload_n 2, 1) := by decide +kernel
theorem dX7_countUpTo_29 : decode cX7_countUpTo 29 = .ok (.ireturn, 1) := by decide +kernel
theorem dX7_countLeft_0 : decode cX7_countLeft 0 = .ok (.iconst 0, 1) := by decide +kernel
theorem dX7_countLeft_1 : decode cX7_countLeft 1 = .ok (.istore_n 3, 1) := by decide +kernel
theorem dX7_countLeft_2 : decode cX7_countLeft 2 = .ok (.iload_n 1, 1) := by decide +kernel
theorem dX7_countLeft_3 : decode cX7_countLeft 3 = .ok (.istore 4, 2) := by decide +kernel
theorem dX7_countLeft_5 : decode cX7_countLeft 5 = .ok (.iload 4, 2) := by decide +kernel
theorem dX7_countLeft_7 : decode cX7_countLeft 7 = .ok (.iload_n 2, 1) := by decide +kernel
theorem dX7_countLeft_8 : decode cX7_countLeft 8 = .ok (.if_icmp .ge 30, 3) := by decide +kernel
theorem dX7_countLeft_11 : decode cX7_countLeft 11 = .ok (.iload 4, 2) := by decide +kernel
theorem dX7_countLeft_13 : decode cX7_countLeft 13 = .ok (.aload_n 0, 1) := by decide +kernel
theorem dX7_countLeft_14 : decode cX7_countLeft 14 = .ok (.getfield 37, 3) := by decide +kernel
theorem dX7_countLeft_17 : decode cX7_countLeft 17 = .ok (.if_icmp .ge 21, 3) := by decide +kernel
theorem dX7_countLeft_20 : decode cX7_countLeft 20 = .ok (.aload_n 0, 1) := by decide +kernel
theorem dX7_countLeft_21 : decode cX7_countLeft 21 = .ok (.iload 4, 2) := by decide +kernel
theorem dX7_countLeft_23 : decode cX7_countLeft 23 = .ok (.invokevirtual 79, 3) := by decide +kernel
theorem dX7_countLeft_26 : decode cX7_countLeft 26 = .ok (.ifCond .eq 6, 3) := by decide +kernel
theorem dX7_countLeft_29 : decode cX7_countLeft 29 = .ok (.iinc 3 1, 3) := by decide +kernel
theorem dX7_countLeft_32 : decode cX7_countLeft 32 = .ok (.iinc 4 1, 3) := by decide +kernel
theorem dX7_countLeft_35 : decode cX7_countLeft 35 = .ok (.goto (-30), 3) := by decide +kernel
theorem dX7_countLeft_38 : decode cX7_countLeft 38 = .ok (.iload_n 3, 1) := by decide +kernel
theorem dX7_countLeft_39 : decode cX7_countLeft 39 = .ok (.ireturn, 1) := by decide +kernel
theorem dX7_nextGap_0 : decode cX7_nextGap 0 = .ok (.aload_n 0, 1) := by decide +kernel
theorem dX7_nextGap_1 : decode cX7_nextGap 1 = .ok (.invokevirtual 101, 3) := by decide +kernel
theorem dX7_nextGap_4 : decode cX7_nextGap 4 = .ok (.istore_n 1, 1) := by decide +kernel
theorem dX7_nextGap_5 : decode cX7_nextGap 5 = .ok (.iload_n 1, 1) := by decide +kernel
theorem dX7_nextGap_6 : decode cX7_nextGap 6 = .ok (.iconst 2, 1) := by decide +kernel
theorem dX7_nextGap_7 : decode cX7_nextGap 7 = .ok (.if_icmp .ge 5, 3) := by decide +kernel
theorem dX7_nextGap_10 : decode cX7_nextGap 10 = .ok (.iconst (-1), 1) := by decide +kernel
theorem dX7_nextGap_11 : decode cX7_nextGap 11 = .ok (.ireturn, 1) := by decide +kernel
theorem dX7_nextGap_12 : decode cX7_nextGap 12 = .ok (.aload_n 0, 1) := by decide +kernel
theorem dX7_nextGap_13 : decode cX7_nextGap 13 = .ok (.getfield 27, 3) := by decide +kernel
theorem dX7_nextGap_16 : decode cX7_nextGap 16 = .ok (.iconst 4, 1) := by decide +kernel
theorem dX7_nextGap_17 : decode cX7_nextGap 17 = .ok (.if_icmp .eq 19, 3) := by decide +kernel
theorem dX7_nextGap_20 : decode cX7_nextGap 20 = .ok (.aload_n 0, 1) := by decide +kernel
theorem dX7_nextGap_21 : decode cX7_nextGap 21 = .ok (.getfield 27, 3) := by decide +kernel
theorem dX7_nextGap_24 : decode cX7_nextGap 24 = .ok (.iconst 5, 1) := by decide +kernel
theorem dX7_nextGap_25 : decode cX7_nextGap 25 = .ok (.if_icmp .eq 11, 3) := by decide +kernel
theorem dX7_nextGap_28 : decode cX7_nextGap 28 = .ok (.aload_n 0, 1) := by decide +kernel
theorem dX7_nextGap_29 : decode cX7_nextGap 29 = .ok (.iload_n 1, 1) := by decide +kernel
theorem dX7_nextGap_30 : decode cX7_nextGap 30 = .ok (.invokevirtual 104, 3) := by decide +kernel
theorem dX7_nextGap_33 : decode cX7_nextGap 33 = .ok (.ifCond .eq 7, 3) := by decide +kernel
theorem dX7_nextGap_36 : decode cX7_nextGap 36 = .ok (.iload_n 1, 1) := by decide +kernel
theorem dX7_nextGap_37 : decode cX7_nextGap 37 = .ok (.goto 4, 3) := by decide +kernel
theorem dX7_nextGap_40 : decode cX7_nextGap 40 = .ok (.iconst (-1), 1) := by decide +kernel
theorem dX7_nextGap_41 : decode cX7_nextGap 41 = .ok (.ireturn, 1) := by decide +kernel
theorem dX7_gapByLaw_0 : decode cX7_gapByLaw 0 = .ok (.aload_n 0, 1) := by decide +kernel
theorem dX7_gapByLaw_1 : decode cX7_gapByLaw 1 = .ok (.getfield 27, 3) := by decide +kernel
theorem dX7_gapByLaw_4 : decode cX7_gapByLaw 4 = .ok (.tableswitch 94 1 5 #[36, 94, 94, 43, 67], 36) := by decide +kernel
theorem dX7_gapByLaw_40 : decode cX7_gapByLaw 40 = .ok (.aload_n 0, 1) := by decide +kernel
theorem dX7_gapByLaw_41 : decode cX7_gapByLaw 41 = .ok (.getfield 46, 3) := by decide +kernel
theorem dX7_gapByLaw_44 : decode cX7_gapByLaw 44 = .ok (.iconst 2, 1) := by decide +kernel
theorem dX7_gapByLaw_45 : decode cX7_gapByLaw 45 = .ok (.iadd, 1) := by decide +kernel
theorem dX7_gapByLaw_46 : decode cX7_gapByLaw 46 = .ok (.ireturn, 1) := by decide +kernel
theorem dX7_gapByLaw_47 : decode cX7_gapByLaw 47 = .ok (.aload_n 0, 1) := by decide +kernel
theorem dX7_gapByLaw_48 : decode cX7_gapByLaw 48 = .ok (.getfield 46, 3) := by decide +kernel
theorem dX7_gapByLaw_51 : decode cX7_gapByLaw 51 = .ok (.aload_n 0, 1) := by decide +kernel
theorem dX7_gapByLaw_52 : decode cX7_gapByLaw 52 = .ok (.getfield 40, 3) := by decide +kernel
theorem dX7_gapByLaw_55 : decode cX7_gapByLaw 55 = .ok (.if_icmp .ge 14, 3) := by decide +kernel
theorem dX7_gapByLaw_58 : decode cX7_gapByLaw 58 = .ok (.aload_n 0, 1) := by decide +kernel
theorem dX7_gapByLaw_59 : decode cX7_gapByLaw 59 = .ok (.getfield 9, 3) := by decide +kernel
theorem dX7_gapByLaw_62 : decode cX7_gapByLaw 62 = .ok (.iconst 0, 1) := by decide +kernel
theorem dX7_gapByLaw_63 : decode cX7_gapByLaw 63 = .ok (.invokestatic 75, 3) := by decide +kernel
theorem dX7_gapByLaw_66 : decode cX7_gapByLaw 66 = .ok (.goto 4, 3) := by decide +kernel
theorem dX7_gapByLaw_69 : decode cX7_gapByLaw 69 = .ok (.iconst (-1), 1) := by decide +kernel
theorem dX7_gapByLaw_70 : decode cX7_gapByLaw 70 = .ok (.ireturn, 1) := by decide +kernel
theorem dX7_gapByLaw_71 : decode cX7_gapByLaw 71 = .ok (.aload_n 0, 1) := by decide +kernel
theorem dX7_gapByLaw_72 : decode cX7_gapByLaw 72 = .ok (.getfield 46, 3) := by decide +kernel
theorem dX7_gapByLaw_75 : decode cX7_gapByLaw 75 = .ok (.aload_n 0, 1) := by decide +kernel
theorem dX7_gapByLaw_76 : decode cX7_gapByLaw 76 = .ok (.getfield 40, 3) := by decide +kernel
theorem dX7_gapByLaw_79 : decode cX7_gapByLaw 79 = .ok (.if_icmp .ge 17, 3) := by decide +kernel
theorem dX7_gapByLaw_82 : decode cX7_gapByLaw 82 = .ok (.aload_n 0, 1) := by decide +kernel
theorem dX7_gapByLaw_83 : decode cX7_gapByLaw 83 = .ok (.getfield 9, 3) := by decide +kernel
theorem dX7_gapByLaw_86 : decode cX7_gapByLaw 86 = .ok (.aload_n 0, 1) := by decide +kernel
theorem dX7_gapByLaw_87 : decode cX7_gapByLaw 87 = .ok (.getfield 46, 3) := by decide +kernel
theorem dX7_gapByLaw_90 : decode cX7_gapByLaw 90 = .ok (.invokestatic 75, 3) := by decide +kernel
theorem dX7_gapByLaw_93 : decode cX7_gapByLaw 93 = .ok (.goto 4, 3) := by decide +kernel
theorem dX7_gapByLaw_96 : decode cX7_gapByLaw 96 = .ok (.iconst (-1), 1) := by decide +kernel
theorem dX7_gapByLaw_97 : decode cX7_gapByLaw 97 = .ok (.ireturn, 1) := by decide +kernel
theorem dX7_gapByLaw_98 : decode cX7_gapByLaw 98 = .ok (.aload_n 0, 1) := by decide +kernel
theorem dX7_gapByLaw_99 : decode cX7_gapByLaw 99 = .ok (.aload_n 0, 1) := by decide +kernel
theorem dX7_gapByLaw_100 : decode cX7_gapByLaw 100 = .ok (.getfield 46, 3) := by decide +kernel
theorem dX7_gapByLaw_103 : decode cX7_gapByLaw 103 = .ok (.iconst 2, 1) := by decide +kernel
theorem dX7_gapByLaw_104 : decode cX7_gapByLaw 104 = .ok (.iadd, 1) := by decide +kernel
theorem dX7_gapByLaw_105 : decode cX7_gapByLaw 105 = .ok (.invokevirtual 87, 3) := by decide +kernel
theorem dX7_gapByLaw_108 : decode cX7_gapByLaw 108 = .ok (.ireturn, 1) := by decide +kernel
theorem dX7_strikesAny_0 : decode cX7_strikesAny 0 = .ok (.iconst 1, 1) := by decide +kernel
theorem dX7_strikesAny_1 : decode cX7_strikesAny 1 = .ok (.istore_n 2, 1) := by decide +kernel
theorem dX7_strikesAny_2 : decode cX7_strikesAny 2 = .ok (.iload_n 2, 1) := by decide +kernel
theorem dX7_strikesAny_3 : decode cX7_strikesAny 3 = .ok (.aload_n 0, 1) := by decide +kernel
theorem dX7_strikesAny_4 : decode cX7_strikesAny 4 = .ok (.getfield 64, 3) := by decide +kernel
theorem dX7_strikesAny_7 : decode cX7_strikesAny 7 = .ok (.if_icmp .gt 25, 3) := by decide +kernel
theorem dX7_strikesAny_10 : decode cX7_strikesAny 10 = .ok (.aload_n 0, 1) := by decide +kernel
theorem dX7_strikesAny_11 : decode cX7_strikesAny 11 = .ok (.iload_n 2, 1) := by decide +kernel
theorem dX7_strikesAny_12 : decode cX7_strikesAny 12 = .ok (.aload_n 0, 1) := by decide +kernel
theorem dX7_strikesAny_13 : decode cX7_strikesAny 13 = .ok (.iload_n 2, 1) := by decide +kernel
theorem dX7_strikesAny_14 : decode cX7_strikesAny 14 = .ok (.invokevirtual 87, 3) := by decide +kernel
theorem dX7_strikesAny_17 : decode cX7_strikesAny 17 = .ok (.iload_n 1, 1) := by decide +kernel
theorem dX7_strikesAny_18 : decode cX7_strikesAny 18 = .ok (.invokevirtual 107, 3) := by decide +kernel
theorem dX7_strikesAny_21 : decode cX7_strikesAny 21 = .ok (.ifCond .eq 5, 3) := by decide +kernel
theorem dX7_strikesAny_24 : decode cX7_strikesAny 24 = .ok (.iconst 1, 1) := by decide +kernel
theorem dX7_strikesAny_25 : decode cX7_strikesAny 25 = .ok (.ireturn, 1) := by decide +kernel
theorem dX7_strikesAny_26 : decode cX7_strikesAny 26 = .ok (.iinc 2 1, 3) := by decide +kernel
theorem dX7_strikesAny_29 : decode cX7_strikesAny 29 = .ok (.goto (-27), 3) := by decide +kernel
theorem dX7_strikesAny_32 : decode cX7_strikesAny 32 = .ok (.iconst 0, 1) := by decide +kernel
theorem dX7_strikesAny_33 : decode cX7_strikesAny 33 = .ok (.ireturn, 1) := by decide +kernel
theorem dX7_strikesPlace_0 : decode cX7_strikesPlace 0 = .ok (.aload_n 0, 1) := by decide +kernel
theorem dX7_strikesPlace_1 : decode cX7_strikesPlace 1 = .ok (.getfield 46, 3) := by decide +kernel
theorem dX7_strikesPlace_4 : decode cX7_strikesPlace 4 = .ok (.iconst 2, 1) := by decide +kernel
theorem dX7_strikesPlace_5 : decode cX7_strikesPlace 5 = .ok (.iadd, 1) := by decide +kernel
theorem dX7_strikesPlace_6 : decode cX7_strikesPlace 6 = .ok (.istore 4, 2) := by decide +kernel
theorem dX7_strikesPlace_8 : decode cX7_strikesPlace 8 = .ok (.aload_n 0, 1) := by decide +kernel
theorem dX7_strikesPlace_9 : decode cX7_strikesPlace 9 = .ok (.getfield 27, 3) := by decide +kernel
theorem dX7_strikesPlace_12 : decode cX7_strikesPlace 12 = .ok (.iconst 2, 1) := by decide +kernel
theorem dX7_strikesPlace_13 : decode cX7_strikesPlace 13 = .ok (.if_icmp .ne 26, 3) := by decide +kernel
theorem dX7_strikesPlace_16 : decode cX7_strikesPlace 16 = .ok (.iload_n 1, 1) := by decide +kernel
theorem dX7_strikesPlace_17 : decode cX7_strikesPlace 17 = .ok (.iload 4, 2) := by decide +kernel
theorem dX7_strikesPlace_19 : decode cX7_strikesPlace 19 = .ok (.if_icmp .le 18, 3) := by decide +kernel
theorem dX7_strikesPlace_22 : decode cX7_strikesPlace 22 = .ok (.iload_n 1, 1) := by decide +kernel
theorem dX7_strikesPlace_23 : decode cX7_strikesPlace 23 = .ok (.iload 4, 2) := by decide +kernel
theorem dX7_strikesPlace_25 : decode cX7_strikesPlace 25 = .ok (.isub, 1) := by decide +kernel
theorem dX7_strikesPlace_26 : decode cX7_strikesPlace 26 = .ok (.iload_n 3, 1) := by decide +kernel
theorem dX7_strikesPlace_27 : decode cX7_strikesPlace 27 = .ok (.invokestatic 110, 3) := by decide +kernel
theorem dX7_strikesPlace_30 : decode cX7_strikesPlace 30 = .ok (.ifCond .ne 7, 3) := by decide +kernel
theorem dX7_strikesPlace_33 : decode cX7_strikesPlace 33 = .ok (.iconst 1, 1) := by decide +kernel
theorem dX7_strikesPlace_34 : decode cX7_strikesPlace 34 = .ok (.goto 4, 3) := by decide +kernel
theorem dX7_strikesPlace_37 : decode cX7_strikesPlace 37 = .ok (.iconst 0, 1) := by decide +kernel
theorem dX7_strikesPlace_38 : decode cX7_strikesPlace 38 = .ok (.ireturn, 1) := by decide +kernel
theorem dX7_strikesPlace_39 : decode cX7_strikesPlace 39 = .ok (.aload_n 0, 1) := by decide +kernel
theorem dX7_strikesPlace_40 : decode cX7_strikesPlace 40 = .ok (.getfield 27, 3) := by decide +kernel
theorem dX7_strikesPlace_43 : decode cX7_strikesPlace 43 = .ok (.iconst 3, 1) := by decide +kernel
theorem dX7_strikesPlace_44 : decode cX7_strikesPlace 44 = .ok (.if_icmp .ne 23, 3) := by decide +kernel
theorem dX7_strikesPlace_47 : decode cX7_strikesPlace 47 = .ok (.iload_n 1, 1) := by decide +kernel
theorem dX7_strikesPlace_48 : decode cX7_strikesPlace 48 = .ok (.iload 4, 2) := by decide +kernel
theorem dX7_strikesPlace_50 : decode cX7_strikesPlace 50 = .ok (.if_icmp .le 15, 3) := by decide +kernel
theorem dX7_strikesPlace_53 : decode cX7_strikesPlace 53 = .ok (.iload_n 2, 1) := by decide +kernel
theorem dX7_strikesPlace_54 : decode cX7_strikesPlace 54 = .ok (.iload_n 3, 1) := by decide +kernel
theorem dX7_strikesPlace_55 : decode cX7_strikesPlace 55 = .ok (.invokestatic 110, 3) := by decide +kernel
theorem dX7_strikesPlace_58 : decode cX7_strikesPlace 58 = .ok (.ifCond .ne 7, 3) := by decide +kernel
theorem dX7_strikesPlace_61 : decode cX7_strikesPlace 61 = .ok (.iconst 1, 1) := by decide +kernel
theorem dX7_strikesPlace_62 : decode cX7_strikesPlace 62 = .ok (.goto 4, 3) := by decide +kernel
theorem dX7_strikesPlace_65 : decode cX7_strikesPlace 65 = .ok (.iconst 0, 1) := by decide +kernel
theorem dX7_strikesPlace_66 : decode cX7_strikesPlace 66 = .ok (.ireturn, 1) := by decide +kernel
theorem dX7_strikesPlace_67 : decode cX7_strikesPlace 67 = .ok (.iload_n 1, 1) := by decide +kernel
theorem dX7_strikesPlace_68 : decode cX7_strikesPlace 68 = .ok (.iload_n 3, 1) := by decide +kernel
theorem dX7_strikesPlace_69 : decode cX7_strikesPlace 69 = .ok (.invokestatic 110, 3) := by decide +kernel
theorem dX7_strikesPlace_72 : decode cX7_strikesPlace 72 = .ok (.ifCond .ne 7, 3) := by decide +kernel
theorem dX7_strikesPlace_75 : decode cX7_strikesPlace 75 = .ok (.iconst 1, 1) := by decide +kernel
theorem dX7_strikesPlace_76 : decode cX7_strikesPlace 76 = .ok (.goto 4, 3) := by decide +kernel
theorem dX7_strikesPlace_79 : decode cX7_strikesPlace 79 = .ok (.iconst 0, 1) := by decide +kernel
theorem dX7_strikesPlace_80 : decode cX7_strikesPlace 80 = .ok (.ireturn, 1) := by decide +kernel
theorem dX7_sweep_0 : decode cX7_sweep 0 = .ok (.aload_n 0, 1) := by decide +kernel
theorem dX7_sweep_1 : decode cX7_sweep 1 = .ok (.dup, 1) := by decide +kernel
theorem dX7_sweep_2 : decode cX7_sweep 2 = .ok (.getfield 49, 3) := by decide +kernel
theorem dX7_sweep_5 : decode cX7_sweep 5 = .ok (.iconst 1, 1) := by decide +kernel
theorem dX7_sweep_6 : decode cX7_sweep 6 = .ok (.iadd, 1) := by decide +kernel
theorem dX7_sweep_7 : decode cX7_sweep 7 = .ok (.putfield 49, 3) := by decide +kernel
theorem dX7_sweep_10 : decode cX7_sweep 10 = .ok (.iconst 0, 1) := by decide +kernel
theorem dX7_sweep_11 : decode cX7_sweep 11 = .ok (.istore_n 2, 1) := by decide +kernel
theorem dX7_sweep_12 : decode cX7_sweep 12 = .ok (.iconst 1, 1) := by decide +kernel
theorem dX7_sweep_13 : decode cX7_sweep 13 = .ok (.istore_n 3, 1) := by decide +kernel
theorem dX7_sweep_14 : decode cX7_sweep 14 = .ok (.iload_n 3, 1) := by decide +kernel
theorem dX7_sweep_15 : decode cX7_sweep 15 = .ok (.aload_n 0, 1) := by decide +kernel
theorem dX7_sweep_16 : decode cX7_sweep 16 = .ok (.getfield 64, 3) := by decide +kernel
theorem dX7_sweep_19 : decode cX7_sweep 19 = .ok (.if_icmp .gt 61, 3) := by decide +kernel
theorem dX7_sweep_22 : decode cX7_sweep 22 = .ok (.aload_n 0, 1) := by decide +kernel
theorem dX7_sweep_23 : decode cX7_sweep 23 = .ok (.iload_n 3, 1) := by decide +kernel
theorem dX7_sweep_24 : decode cX7_sweep 24 = .ok (.invokevirtual 87, 3) := by decide +kernel
theorem dX7_sweep_27 : decode cX7_sweep 27 = .ok (.istore 4, 2) := by decide +kernel
theorem dX7_sweep_29 : decode cX7_sweep 29 = .ok (.aload_n 0, 1) := by decide +kernel
theorem dX7_sweep_30 : decode cX7_sweep 30 = .ok (.iload_n 3, 1) := by decide +kernel
theorem dX7_sweep_31 : decode cX7_sweep 31 = .ok (.iload 4, 2) := by decide +kernel
theorem dX7_sweep_33 : decode cX7_sweep 33 = .ok (.iload_n 1, 1) := by decide +kernel
theorem dX7_sweep_34 : decode cX7_sweep 34 = .ok (.invokevirtual 107, 3) := by decide +kernel
theorem dX7_sweep_37 : decode cX7_sweep 37 = .ok (.ifCond .eq 24, 3) := by decide +kernel
theorem dX7_sweep_40 : decode cX7_sweep 40 = .ok (.aload_n 0, 1) := by decide +kernel
theorem dX7_sweep_41 : decode cX7_sweep 41 = .ok (.getfield 15, 3) := by decide +kernel
theorem dX7_sweep_44 : decode cX7_sweep 44 = .ok (.aload_n 0, 1) := by decide +kernel
theorem dX7_sweep_45 : decode cX7_sweep 45 = .ok (.iload 4, 2) := by decide +kernel
theorem dX7_sweep_47 : decode cX7_sweep 47 = .ok (.i2l, 1) := by decide +kernel
theorem dX7_sweep_48 : decode cX7_sweep 48 = .ok (.invokevirtual 90, 3) := by decide +kernel
theorem dX7_sweep_51 : decode cX7_sweep 51 = .ok (.aload_n 0, 1) := by decide +kernel
theorem dX7_sweep_52 : decode cX7_sweep 52 = .ok (.getfield 49, 3) := by decide +kernel
theorem dX7_sweep_55 : decode cX7_sweep 55 = .ok (.invokestatic 60, 3) := by decide +kernel
theorem dX7_sweep_58 : decode cX7_sweep 58 = .ok (.goto 16, 3) := by decide +kernel
theorem dX7_sweep_61 : decode cX7_sweep 61 = .ok (.aload_n 0, 1) := by decide +kernel
theorem dX7_sweep_62 : decode cX7_sweep 62 = .ok (.getfield 24, 3) := by decide +kernel
theorem dX7_sweep_65 : decode cX7_sweep 65 = .ok (.iload_n 2, 1) := by decide +kernel
theorem dX7_sweep_66 : decode cX7_sweep 66 = .ok (.iload 4, 2) := by decide +kernel
theorem dX7_sweep_68 : decode cX7_sweep 68 = .ok (.invokestatic 60, 3) := by decide +kernel
theorem dX7_sweep_71 : decode cX7_sweep 71 = .ok (.iinc 2 1, 3) := by decide +kernel
theorem dX7_sweep_74 : decode cX7_sweep 74 = .ok (.iinc 3 1, 3) := by decide +kernel
theorem dX7_sweep_77 : decode cX7_sweep 77 = .ok (.goto (-63), 3) := by decide +kernel
theorem dX7_sweep_80 : decode cX7_sweep 80 = .ok (.aload_n 0, 1) := by decide +kernel
theorem dX7_sweep_81 : decode cX7_sweep 81 = .ok (.dup, 1) := by decide +kernel
theorem dX7_sweep_82 : decode cX7_sweep 82 = .ok (.getfield 46, 3) := by decide +kernel
theorem dX7_sweep_85 : decode cX7_sweep 85 = .ok (.iconst 1, 1) := by decide +kernel
theorem dX7_sweep_86 : decode cX7_sweep 86 = .ok (.iadd, 1) := by decide +kernel
theorem dX7_sweep_87 : decode cX7_sweep 87 = .ok (.putfield 46, 3) := by decide +kernel
theorem dX7_sweep_90 : decode cX7_sweep 90 = .ok (.aload_n 0, 1) := by decide +kernel
theorem dX7_sweep_91 : decode cX7_sweep 91 = .ok (.getfield 18, 3) := by decide +kernel
theorem dX7_sweep_94 : decode cX7_sweep 94 = .ok (.aload_n 0, 1) := by decide +kernel
theorem dX7_sweep_95 : decode cX7_sweep 95 = .ok (.getfield 46, 3) := by decide +kernel
theorem dX7_sweep_98 : decode cX7_sweep 98 = .ok (.iload_n 1, 1) := by decide +kernel
theorem dX7_sweep_99 : decode cX7_sweep 99 = .ok (.invokestatic 60, 3) := by decide +kernel
theorem dX7_sweep_102 : decode cX7_sweep 102 = .ok (.aload_n 0, 1) := by decide +kernel
theorem dX7_sweep_103 : decode cX7_sweep 103 = .ok (.getfield 21, 3) := by decide +kernel
theorem dX7_sweep_106 : decode cX7_sweep 106 = .ok (.aload_n 0, 1) := by decide +kernel
theorem dX7_sweep_107 : decode cX7_sweep 107 = .ok (.getfield 46, 3) := by decide +kernel
theorem dX7_sweep_110 : decode cX7_sweep 110 = .ok (.aload_n 0, 1) := by decide +kernel
theorem dX7_sweep_111 : decode cX7_sweep 111 = .ok (.getfield 49, 3) := by decide +kernel
theorem dX7_sweep_114 : decode cX7_sweep 114 = .ok (.invokestatic 60, 3) := by decide +kernel
theorem dX7_sweep_117 : decode cX7_sweep 117 = .ok (.aload_n 0, 1) := by decide +kernel
theorem dX7_sweep_118 : decode cX7_sweep 118 = .ok (.getfield 64, 3) := by decide +kernel
theorem dX7_sweep_121 : decode cX7_sweep 121 = .ok (.iload_n 2, 1) := by decide +kernel
theorem dX7_sweep_122 : decode cX7_sweep 122 = .ok (.isub, 1) := by decide +kernel
theorem dX7_sweep_123 : decode cX7_sweep 123 = .ok (.istore_n 3, 1) := by decide +kernel
theorem dX7_sweep_124 : decode cX7_sweep 124 = .ok (.aload_n 0, 1) := by decide +kernel
theorem dX7_sweep_125 : decode cX7_sweep 125 = .ok (.iload_n 2, 1) := by decide +kernel
theorem dX7_sweep_126 : decode cX7_sweep 126 = .ok (.putfield 64, 3) := by decide +kernel
theorem dX7_sweep_129 : decode cX7_sweep 129 = .ok (.iload_n 3, 1) := by decide +kernel
theorem dX7_sweep_130 : decode cX7_sweep 130 = .ok (.ireturn, 1) := by decide +kernel
theorem dX7_sweepAtMost_0 : decode cX7_sweepAtMost 0 = .ok (.iconst 0, 1) := by decide +kernel
theorem dX7_sweepAtMost_1 : decode cX7_sweepAtMost 1 = .ok (.istore_n 2, 1) := by decide +kernel
theorem dX7_sweepAtMost_2 : decode cX7_sweepAtMost 2 = .ok (.iload_n 2, 1) := by decide +kernel
theorem dX7_sweepAtMost_3 : decode cX7_sweepAtMost 3 = .ok (.iload_n 1, 1) := by decide +kernel
theorem dX7_sweepAtMost_4 : decode cX7_sweepAtMost 4 = .ok (.if_icmp .ge 27, 3) := by decide +kernel
theorem dX7_sweepAtMost_7 : decode cX7_sweepAtMost 7 = .ok (.aload_n 0, 1) := by decide +kernel
theorem dX7_sweepAtMost_8 : decode cX7_sweepAtMost 8 = .ok (.invokevirtual 71, 3) := by decide +kernel
theorem dX7_sweepAtMost_11 : decode cX7_sweepAtMost 11 = .ok (.istore_n 3, 1) := by decide +kernel
theorem dX7_sweepAtMost_12 : decode cX7_sweepAtMost 12 = .ok (.iload_n 3, 1) := by decide +kernel
theorem dX7_sweepAtMost_13 : decode cX7_sweepAtMost 13 = .ok (.iconst (-1), 1) := by decide +kernel
theorem dX7_sweepAtMost_14 : decode cX7_sweepAtMost 14 = .ok (.if_icmp .ne 5, 3) := by decide +kernel
theorem dX7_sweepAtMost_17 : decode cX7_sweepAtMost 17 = .ok (.iload_n 2, 1) := by decide +kernel
theorem dX7_sweepAtMost_18 : decode cX7_sweepAtMost 18 = .ok (.ireturn, 1) := by decide +kernel
theorem dX7_sweepAtMost_19 : decode cX7_sweepAtMost 19 = .ok (.aload_n 0, 1) := by decide +kernel
theorem dX7_sweepAtMost_20 : decode cX7_sweepAtMost 20 = .ok (.iload_n 3, 1) := by decide +kernel
theorem dX7_sweepAtMost_21 : decode cX7_sweepAtMost 21 = .ok (.invokevirtual 114, 3) := by decide +kernel
theorem dX7_sweepAtMost_24 : decode cX7_sweepAtMost 24 = .ok (.pop, 1) := by decide +kernel
theorem dX7_sweepAtMost_25 : decode cX7_sweepAtMost 25 = .ok (.iinc 2 1, 3) := by decide +kernel
theorem dX7_sweepAtMost_28 : decode cX7_sweepAtMost 28 = .ok (.goto (-26), 3) := by decide +kernel
theorem dX7_sweepAtMost_31 : decode cX7_sweepAtMost 31 = .ok (.iload_n 1, 1) := by decide +kernel
theorem dX7_sweepAtMost_32 : decode cX7_sweepAtMost 32 = .ok (.ireturn, 1) := by decide +kernel
theorem dX7_sweepTill_0 : decode cX7_sweepTill 0 = .ok (.iconst 0, 1) := by decide +kernel
theorem dX7_sweepTill_1 : decode cX7_sweepTill 1 = .ok (.istore_n 2, 1) := by decide +kernel
theorem dX7_sweepTill_2 : decode cX7_sweepTill 2 = .ok (.iload_n 2, 1) := by decide +kernel
theorem dX7_sweepTill_3 : decode cX7_sweepTill 3 = .ok (.sipush 600, 3) := by decide +kernel
theorem dX7_sweepTill_6 : decode cX7_sweepTill 6 = .ok (.if_icmp .gt 37, 3) := by decide +kernel
theorem dX7_sweepTill_9 : decode cX7_sweepTill 9 = .ok (.aload_n 0, 1) := by decide +kernel
theorem dX7_sweepTill_10 : decode cX7_sweepTill 10 = .ok (.getfield 64, 3) := by decide +kernel
theorem dX7_sweepTill_13 : decode cX7_sweepTill 13 = .ok (.iload_n 1, 1) := by decide +kernel
theorem dX7_sweepTill_14 : decode cX7_sweepTill 14 = .ok (.if_icmp .gt 5, 3) := by decide +kernel
theorem dX7_sweepTill_17 : decode cX7_sweepTill 17 = .ok (.iload_n 2, 1) := by decide +kernel
theorem dX7_sweepTill_18 : decode cX7_sweepTill 18 = .ok (.ireturn, 1) := by decide +kernel
theorem dX7_sweepTill_19 : decode cX7_sweepTill 19 = .ok (.aload_n 0, 1) := by decide +kernel
theorem dX7_sweepTill_20 : decode cX7_sweepTill 20 = .ok (.invokevirtual 71, 3) := by decide +kernel
theorem dX7_sweepTill_23 : decode cX7_sweepTill 23 = .ok (.istore_n 3, 1) := by decide +kernel
theorem dX7_sweepTill_24 : decode cX7_sweepTill 24 = .ok (.iload_n 3, 1) := by decide +kernel
theorem dX7_sweepTill_25 : decode cX7_sweepTill 25 = .ok (.iconst (-1), 1) := by decide +kernel
theorem dX7_sweepTill_26 : decode cX7_sweepTill 26 = .ok (.if_icmp .ne 5, 3) := by decide +kernel
theorem dX7_sweepTill_29 : decode cX7_sweepTill 29 = .ok (.iconst (-1), 1) := by decide +kernel
theorem dX7_sweepTill_30 : decode cX7_sweepTill 30 = .ok (.ireturn, 1) := by decide +kernel
theorem dX7_sweepTill_31 : decode cX7_sweepTill 31 = .ok (.aload_n 0, 1) := by decide +kernel
theorem dX7_sweepTill_32 : decode cX7_sweepTill 32 = .ok (.iload_n 3, 1) := by decide +kernel
theorem dX7_sweepTill_33 : decode cX7_sweepTill 33 = .ok (.invokevirtual 114, 3) := by decide +kernel
theorem dX7_sweepTill_36 : decode cX7_sweepTill 36 = .ok (.pop, 1) := by decide +kernel
theorem dX7_sweepTill_37 : decode cX7_sweepTill 37 = .ok (.iinc 2 1, 3) := by decide +kernel
theorem dX7_sweepTill_40 : decode cX7_sweepTill 40 = .ok (.goto (-38), 3) := by decide +kernel
theorem dX7_sweepTill_43 : decode cX7_sweepTill 43 = .ok (.iconst (-1), 1) := by decide +kernel
theorem dX7_sweepTill_44 : decode cX7_sweepTill 44 = .ok (.ireturn, 1) := by decide +kernel
theorem dX7_takeOut_0 : decode cX7_takeOut 0 = .ok (.aload_n 0, 1) := by decide +kernel
theorem dX7_takeOut_1 : decode cX7_takeOut 1 = .ok (.dup, 1) := by decide +kernel
theorem dX7_takeOut_2 : decode cX7_takeOut 2 = .ok (.getfield 49, 3) := by decide +kernel
theorem dX7_takeOut_5 : decode cX7_takeOut 5 = .ok (.iconst 1, 1) := by decide +kernel
theorem dX7_takeOut_6 : decode cX7_takeOut 6 = .ok (.iadd, 1) := by decide +kernel
theorem dX7_takeOut_7 : decode cX7_takeOut 7 = .ok (.putfield 49, 3) := by decide +kernel
theorem dX7_takeOut_10 : decode cX7_takeOut 10 = .ok (.aload_n 0, 1) := by decide +kernel
theorem dX7_takeOut_11 : decode cX7_takeOut 11 = .ok (.dup, 1) := by decide +kernel
theorem dX7_takeOut_12 : decode cX7_takeOut 12 = .ok (.getfield 52, 3) := by decide +kernel
theorem dX7_takeOut_15 : decode cX7_takeOut 15 = .ok (.iconst 1, 1) := by decide +kernel
theorem dX7_takeOut_16 : decode cX7_takeOut 16 = .ok (.iadd, 1) := by decide +kernel
theorem dX7_takeOut_17 : decode cX7_takeOut 17 = .ok (.putfield 52, 3) := by decide +kernel
theorem dX7_takeOut_20 : decode cX7_takeOut 20 = .ok (.aload_n 0, 1) := by decide +kernel
theorem dX7_takeOut_21 : decode cX7_takeOut 21 = .ok (.getfield 15, 3) := by decide +kernel
theorem dX7_takeOut_24 : decode cX7_takeOut 24 = .ok (.aload_n 0, 1) := by decide +kernel
theorem dX7_takeOut_25 : decode cX7_takeOut 25 = .ok (.iload_n 1, 1) := by decide +kernel
theorem dX7_takeOut_26 : decode cX7_takeOut 26 = .ok (.i2l, 1) := by decide +kernel
theorem dX7_takeOut_27 : decode cX7_takeOut 27 = .ok (.invokevirtual 90, 3) := by decide +kernel
theorem dX7_takeOut_30 : decode cX7_takeOut 30 = .ok (.aload_n 0, 1) := by decide +kernel
theorem dX7_takeOut_31 : decode cX7_takeOut 31 = .ok (.getfield 49, 3) := by decide +kernel
theorem dX7_takeOut_34 : decode cX7_takeOut 34 = .ok (.invokestatic 60, 3) := by decide +kernel
theorem dX7_takeOut_37 : decode cX7_takeOut 37 = .ok (.aload_n 0, 1) := by decide +kernel
theorem dX7_takeOut_38 : decode cX7_takeOut 38 = .ok (.invokevirtual 117, 3) := by decide +kernel
theorem dX7_takeOut_41 : decode cX7_takeOut 41 = .ok (.return_, 1) := by decide +kernel
theorem dX7_resize_0 : decode cX7_resize 0 = .ok (.aload_n 0, 1) := by decide +kernel
theorem dX7_resize_1 : decode cX7_resize 1 = .ok (.getfield 46, 3) := by decide +kernel
theorem dX7_resize_4 : decode cX7_resize 4 = .ok (.istore_n 2, 1) := by decide +kernel
theorem dX7_resize_5 : decode cX7_resize 5 = .ok (.aload_n 0, 1) := by decide +kernel
theorem dX7_resize_6 : decode cX7_resize 6 = .ok (.iload_n 1, 1) := by decide +kernel
theorem dX7_resize_7 : decode cX7_resize 7 = .ok (.putfield 37, 3) := by decide +kernel
theorem dX7_resize_10 : decode cX7_resize 10 = .ok (.aload_n 0, 1) := by decide +kernel
theorem dX7_resize_11 : decode cX7_resize 11 = .ok (.invokevirtual 43, 3) := by decide +kernel
theorem dX7_resize_14 : decode cX7_resize 14 = .ok (.aload_n 0, 1) := by decide +kernel
theorem dX7_resize_15 : decode cX7_resize 15 = .ok (.iload_n 2, 1) := by decide +kernel
theorem dX7_resize_16 : decode cX7_resize 16 = .ok (.invokevirtual 120, 3) := by decide +kernel
theorem dX7_resize_19 : decode cX7_resize 19 = .ok (.pop, 1) := by decide +kernel
theorem dX7_resize_20 : decode cX7_resize 20 = .ok (.return_, 1) := by decide +kernel
theorem dX8_placeOfGreatest_0 : decode cX8_placeOfGreatest 0 = .ok (.iconst 1, 1) := by decide +kernel
theorem dX8_placeOfGreatest_1 : decode cX8_placeOfGreatest 1 = .ok (.istore_n 1, 1) := by decide +kernel
theorem dX8_placeOfGreatest_2 : decode cX8_placeOfGreatest 2 = .ok (.iconst 2, 1) := by decide +kernel
theorem dX8_placeOfGreatest_3 : decode cX8_placeOfGreatest 3 = .ok (.istore_n 2, 1) := by decide +kernel
theorem dX8_placeOfGreatest_4 : decode cX8_placeOfGreatest 4 = .ok (.iload_n 2, 1) := by decide +kernel
theorem dX8_placeOfGreatest_5 : decode cX8_placeOfGreatest 5 = .ok (.aload_n 0, 1) := by decide +kernel
theorem dX8_placeOfGreatest_6 : decode cX8_placeOfGreatest 6 = .ok (.getfield 9, 3) := by decide +kernel
theorem dX8_placeOfGreatest_9 : decode cX8_placeOfGreatest 9 = .ok (.if_icmp .ge 24, 3) := by decide +kernel
theorem dX8_placeOfGreatest_12 : decode cX8_placeOfGreatest 12 = .ok (.aload_n 0, 1) := by decide +kernel
theorem dX8_placeOfGreatest_13 : decode cX8_placeOfGreatest 13 = .ok (.iload_n 2, 1) := by decide +kernel
theorem dX8_placeOfGreatest_14 : decode cX8_placeOfGreatest 14 = .ok (.invokevirtual 15, 3) := by decide +kernel
theorem dX8_placeOfGreatest_17 : decode cX8_placeOfGreatest 17 = .ok (.aload_n 0, 1) := by decide +kernel
theorem dX8_placeOfGreatest_18 : decode cX8_placeOfGreatest 18 = .ok (.iload_n 1, 1) := by decide +kernel
theorem dX8_placeOfGreatest_19 : decode cX8_placeOfGreatest 19 = .ok (.invokevirtual 15, 3) := by decide +kernel
theorem dX8_placeOfGreatest_22 : decode cX8_placeOfGreatest 22 = .ok (.if_icmp .le 5, 3) := by decide +kernel
theorem dX8_placeOfGreatest_25 : decode cX8_placeOfGreatest 25 = .ok (.iload_n 2, 1) := by decide +kernel
theorem dX8_placeOfGreatest_26 : decode cX8_placeOfGreatest 26 = .ok (.istore_n 1, 1) := by decide +kernel
theorem dX8_placeOfGreatest_27 : decode cX8_placeOfGreatest 27 = .ok (.iinc 2 1, 3) := by decide +kernel
theorem dX8_placeOfGreatest_30 : decode cX8_placeOfGreatest 30 = .ok (.goto (-26), 3) := by decide +kernel
theorem dX8_placeOfGreatest_33 : decode cX8_placeOfGreatest 33 = .ok (.iload_n 1, 1) := by decide +kernel
theorem dX8_placeOfGreatest_34 : decode cX8_placeOfGreatest 34 = .ok (.ireturn, 1) := by decide +kernel
theorem dX8_countGaps_0 : decode cX8_countGaps 0 = .ok (.iconst 0, 1) := by decide +kernel
theorem dX8_countGaps_1 : decode cX8_countGaps 1 = .ok (.istore_n 2, 1) := by decide +kernel
theorem dX8_countGaps_2 : decode cX8_countGaps 2 = .ok (.iconst 1, 1) := by decide +kernel
theorem dX8_countGaps_3 : decode cX8_countGaps 3 = .ok (.istore_n 3, 1) := by decide +kernel
theorem dX8_countGaps_4 : decode cX8_countGaps 4 = .ok (.iload_n 3, 1) := by decide +kernel
theorem dX8_countGaps_5 : decode cX8_countGaps 5 = .ok (.aload_n 0, 1) := by decide +kernel
theorem dX8_countGaps_6 : decode cX8_countGaps 6 = .ok (.getfield 9, 3) := by decide +kernel
theorem dX8_countGaps_9 : decode cX8_countGaps 9 = .ok (.if_icmp .ge 21, 3) := by decide +kernel
theorem dX8_countGaps_12 : decode cX8_countGaps 12 = .ok (.aload_n 0, 1) := by decide +kernel
theorem dX8_countGaps_13 : decode cX8_countGaps 13 = .ok (.iload_n 3, 1) := by decide +kernel
theorem dX8_countGaps_14 : decode cX8_countGaps 14 = .ok (.invokevirtual 15, 3) := by decide +kernel
theorem dX8_countGaps_17 : decode cX8_countGaps 17 = .ok (.iload_n 1, 1) := by decide +kernel
theorem dX8_countGaps_18 : decode cX8_countGaps 18 = .ok (.if_icmp .ne 6, 3) := by decide +kernel
theorem dX8_countGaps_21 : decode cX8_countGaps 21 = .ok (.iinc 2 1, 3) := by decide +kernel
theorem dX8_countGaps_24 : decode cX8_countGaps 24 = .ok (.iinc 3 1, 3) := by decide +kernel
theorem dX8_countGaps_27 : decode cX8_countGaps 27 = .ok (.goto (-23), 3) := by decide +kernel
theorem dX8_countGaps_30 : decode cX8_countGaps 30 = .ok (.iload_n 2, 1) := by decide +kernel
theorem dX8_countGaps_31 : decode cX8_countGaps 31 = .ok (.ireturn, 1) := by decide +kernel
theorem dX8_tallyGaps_0 : decode cX8_tallyGaps 0 = .ok (.aload_n 1, 1) := by decide +kernel
theorem dX8_tallyGaps_1 : decode cX8_tallyGaps 1 = .ok (.invokestatic 19, 3) := by decide +kernel
theorem dX8_tallyGaps_4 : decode cX8_tallyGaps 4 = .ok (.iconst 1, 1) := by decide +kernel
theorem dX8_tallyGaps_5 : decode cX8_tallyGaps 5 = .ok (.istore_n 2, 1) := by decide +kernel
theorem dX8_tallyGaps_6 : decode cX8_tallyGaps 6 = .ok (.iload_n 2, 1) := by decide +kernel
theorem dX8_tallyGaps_7 : decode cX8_tallyGaps 7 = .ok (.aload_n 0, 1) := by decide +kernel
theorem dX8_tallyGaps_8 : decode cX8_tallyGaps 8 = .ok (.getfield 9, 3) := by decide +kernel
theorem dX8_tallyGaps_11 : decode cX8_tallyGaps 11 = .ok (.if_icmp .ge 34, 3) := by decide +kernel
theorem dX8_tallyGaps_14 : decode cX8_tallyGaps 14 = .ok (.aload_n 0, 1) := by decide +kernel
theorem dX8_tallyGaps_15 : decode cX8_tallyGaps 15 = .ok (.iload_n 2, 1) := by decide +kernel
theorem dX8_tallyGaps_16 : decode cX8_tallyGaps 16 = .ok (.invokevirtual 15, 3) := by decide +kernel
theorem dX8_tallyGaps_19 : decode cX8_tallyGaps 19 = .ok (.aload_n 0, 1) := by decide +kernel
theorem dX8_tallyGaps_20 : decode cX8_tallyGaps 20 = .ok (.getfield 23, 3) := by decide +kernel
theorem dX8_tallyGaps_23 : decode cX8_tallyGaps 23 = .ok (.invokestatic 26, 3) := by decide +kernel
theorem dX8_tallyGaps_26 : decode cX8_tallyGaps 26 = .ok (.istore_n 3, 1) := by decide +kernel
theorem dX8_tallyGaps_27 : decode cX8_tallyGaps 27 = .ok (.aload_n 1, 1) := by decide +kernel
theorem dX8_tallyGaps_28 : decode cX8_tallyGaps 28 = .ok (.iload_n 3, 1) := by decide +kernel
theorem dX8_tallyGaps_29 : decode cX8_tallyGaps 29 = .ok (.aload_n 1, 1) := by decide +kernel
theorem dX8_tallyGaps_30 : decode cX8_tallyGaps 30 = .ok (.iload_n 3, 1) := by decide +kernel
theorem dX8_tallyGaps_31 : decode cX8_tallyGaps 31 = .ok (.invokestatic 30, 3) := by decide +kernel
theorem dX8_tallyGaps_34 : decode cX8_tallyGaps 34 = .ok (.iconst 1, 1) := by decide +kernel
theorem dX8_tallyGaps_35 : decode cX8_tallyGaps 35 = .ok (.iadd, 1) := by decide +kernel
theorem dX8_tallyGaps_36 : decode cX8_tallyGaps 36 = .ok (.invokestatic 34, 3) := by decide +kernel
theorem dX8_tallyGaps_39 : decode cX8_tallyGaps 39 = .ok (.iinc 2 1, 3) := by decide +kernel
theorem dX8_tallyGaps_42 : decode cX8_tallyGaps 42 = .ok (.goto (-36), 3) := by decide +kernel
theorem dX8_tallyGaps_45 : decode cX8_tallyGaps 45 = .ok (.return_, 1) := by decide +kernel
theorem dX8_unlikeGaps_0 : decode cX8_unlikeGaps 0 = .ok (.aload_n 0, 1) := by decide +kernel
theorem dX8_unlikeGaps_1 : decode cX8_unlikeGaps 1 = .ok (.aload_n 1, 1) := by decide +kernel
theorem dX8_unlikeGaps_2 : decode cX8_unlikeGaps 2 = .ok (.invokestatic 38, 3) := by decide +kernel
theorem dX8_unlikeGaps_5 : decode cX8_unlikeGaps 5 = .ok (.iconst 0, 1) := by decide +kernel
theorem dX8_unlikeGaps_6 : decode cX8_unlikeGaps 6 = .ok (.istore_n 2, 1) := by decide +kernel
theorem dX8_unlikeGaps_7 : decode cX8_unlikeGaps 7 = .ok (.iconst 1, 1) := by decide +kernel
theorem dX8_unlikeGaps_8 : decode cX8_unlikeGaps 8 = .ok (.istore_n 3, 1) := by decide +kernel
theorem dX8_unlikeGaps_9 : decode cX8_unlikeGaps 9 = .ok (.iload_n 3, 1) := by decide +kernel
theorem dX8_unlikeGaps_10 : decode cX8_unlikeGaps 10 = .ok (.sipush 600, 3) := by decide +kernel
theorem dX8_unlikeGaps_13 : decode cX8_unlikeGaps 13 = .ok (.if_icmp .ge 20, 3) := by decide +kernel
theorem dX8_unlikeGaps_16 : decode cX8_unlikeGaps 16 = .ok (.aload_n 1, 1) := by decide +kernel
theorem dX8_unlikeGaps_17 : decode cX8_unlikeGaps 17 = .ok (.iload_n 3, 1) := by decide +kernel
theorem dX8_unlikeGaps_18 : decode cX8_unlikeGaps 18 = .ok (.invokestatic 30, 3) := by decide +kernel
theorem dX8_unlikeGaps_21 : decode cX8_unlikeGaps 21 = .ok (.ifCond .le 6, 3) := by decide +kernel
theorem dX8_unlikeGaps_24 : decode cX8_unlikeGaps 24 = .ok (.iinc 2 1, 3) := by decide +kernel
theorem dX8_unlikeGaps_27 : decode cX8_unlikeGaps 27 = .ok (.iinc 3 1, 3) := by decide +kernel
theorem dX8_unlikeGaps_30 : decode cX8_unlikeGaps 30 = .ok (.goto (-21), 3) := by decide +kernel
theorem dX8_unlikeGaps_33 : decode cX8_unlikeGaps 33 = .ok (.iload_n 2, 1) := by decide +kernel
theorem dX8_unlikeGaps_34 : decode cX8_unlikeGaps 34 = .ok (.ireturn, 1) := by decide +kernel
theorem dX8_commonestGap_0 : decode cX8_commonestGap 0 = .ok (.aload_n 0, 1) := by decide +kernel
theorem dX8_commonestGap_1 : decode cX8_commonestGap 1 = .ok (.getfield 9, 3) := by decide +kernel
theorem dX8_commonestGap_4 : decode cX8_commonestGap 4 = .ok (.iconst 2, 1) := by decide +kernel
theorem dX8_commonestGap_5 : decode cX8_commonestGap 5 = .ok (.if_icmp .ge 5, 3) := by decide +kernel
theorem dX8_commonestGap_8 : decode cX8_commonestGap 8 = .ok (.iconst (-1), 1) := by decide +kernel
theorem dX8_commonestGap_9 : decode cX8_commonestGap 9 = .ok (.ireturn, 1) := by decide +kernel
theorem dX8_commonestGap_10 : decode cX8_commonestGap 10 = .ok (.aload_n 0, 1) := by decide +kernel
theorem dX8_commonestGap_11 : decode cX8_commonestGap 11 = .ok (.aload_n 1, 1) := by decide +kernel
theorem dX8_commonestGap_12 : decode cX8_commonestGap 12 = .ok (.invokestatic 38, 3) := by decide +kernel
theorem dX8_commonestGap_15 : decode cX8_commonestGap 15 = .ok (.iconst 1, 1) := by decide +kernel
theorem dX8_commonestGap_16 : decode cX8_commonestGap 16 = .ok (.istore_n 2, 1) := by decide +kernel
theorem dX8_commonestGap_17 : decode cX8_commonestGap 17 = .ok (.iconst 2, 1) := by decide +kernel
theorem dX8_commonestGap_18 : decode cX8_commonestGap 18 = .ok (.istore_n 3, 1) := by decide +kernel
theorem dX8_commonestGap_19 : decode cX8_commonestGap 19 = .ok (.iload_n 3, 1) := by decide +kernel
theorem dX8_commonestGap_20 : decode cX8_commonestGap 20 = .ok (.sipush 600, 3) := by decide +kernel
theorem dX8_commonestGap_23 : decode cX8_commonestGap 23 = .ok (.if_icmp .ge 24, 3) := by decide +kernel
theorem dX8_commonestGap_26 : decode cX8_commonestGap 26 = .ok (.aload_n 1, 1) := by decide +kernel
theorem dX8_commonestGap_27 : decode cX8_commonestGap 27 = .ok (.iload_n 3, 1) := by decide +kernel
theorem dX8_commonestGap_28 : decode cX8_commonestGap 28 = .ok (.invokestatic 30, 3) := by decide +kernel
theorem dX8_commonestGap_31 : decode cX8_commonestGap 31 = .ok (.aload_n 1, 1) := by decide +kernel
theorem dX8_commonestGap_32 : decode cX8_commonestGap 32 = .ok (.iload_n 2, 1) := by decide +kernel
theorem dX8_commonestGap_33 : decode cX8_commonestGap 33 = .ok (.invokestatic 30, 3) := by decide +kernel
theorem dX8_commonestGap_36 : decode cX8_commonestGap 36 = .ok (.if_icmp .le 5, 3) := by decide +kernel
theorem dX8_commonestGap_39 : decode cX8_commonestGap 39 = .ok (.iload_n 3, 1) := by decide +kernel
theorem dX8_commonestGap_40 : decode cX8_commonestGap 40 = .ok (.istore_n 2, 1) := by decide +kernel
theorem dX8_commonestGap_41 : decode cX8_commonestGap 41 = .ok (.iinc 3 1, 3) := by decide +kernel
theorem dX8_commonestGap_44 : decode cX8_commonestGap 44 = .ok (.goto (-25), 3) := by decide +kernel
theorem dX8_commonestGap_47 : decode cX8_commonestGap 47 = .ok (.iload_n 2, 1) := by decide +kernel
theorem dX8_commonestGap_48 : decode cX8_commonestGap 48 = .ok (.aload_n 0, 1) := by decide +kernel
theorem dX8_commonestGap_49 : decode cX8_commonestGap 49 = .ok (.getfield 23, 3) := by decide +kernel
theorem dX8_commonestGap_52 : decode cX8_commonestGap 52 = .ok (.imul, 1) := by decide +kernel
theorem dX8_commonestGap_53 : decode cX8_commonestGap 53 = .ok (.ireturn, 1) := by decide +kernel
theorem dX8_recordPlace_0 : decode cX8_recordPlace 0 = .ok (.iconst 0, 1) := by decide +kernel
theorem dX8_recordPlace_1 : decode cX8_recordPlace 1 = .ok (.istore_n 2, 1) := by decide +kernel
theorem dX8_recordPlace_2 : decode cX8_recordPlace 2 = .ok (.iconst 0, 1) := by decide +kernel
theorem dX8_recordPlace_3 : decode cX8_recordPlace 3 = .ok (.istore_n 3, 1) := by decide +kernel
theorem dX8_recordPlace_4 : decode cX8_recordPlace 4 = .ok (.iconst 1, 1) := by decide +kernel
theorem dX8_recordPlace_5 : decode cX8_recordPlace 5 = .ok (.istore 4, 2) := by decide +kernel
theorem dX8_recordPlace_7 : decode cX8_recordPlace 7 = .ok (.iload 4, 2) := by decide +kernel
theorem dX8_recordPlace_9 : decode cX8_recordPlace 9 = .ok (.aload_n 0, 1) := by decide +kernel
theorem dX8_recordPlace_10 : decode cX8_recordPlace 10 = .ok (.getfield 9, 3) := by decide +kernel
theorem dX8_recordPlace_13 : decode cX8_recordPlace 13 = .ok (.if_icmp .ge 40, 3) := by decide +kernel
theorem dX8_recordPlace_16 : decode cX8_recordPlace 16 = .ok (.aload_n 0, 1) := by decide +kernel
theorem dX8_recordPlace_17 : decode cX8_recordPlace 17 = .ok (.iload 4, 2) := by decide +kernel
theorem dX8_recordPlace_19 : decode cX8_recordPlace 19 = .ok (.invokevirtual 15, 3) := by decide +kernel
theorem dX8_recordPlace_22 : decode cX8_recordPlace 22 = .ok (.istore 5, 2) := by decide +kernel
theorem dX8_recordPlace_24 : decode cX8_recordPlace 24 = .ok (.iload 5, 2) := by decide +kernel
theorem dX8_recordPlace_26 : decode cX8_recordPlace 26 = .ok (.iload_n 2, 1) := by decide +kernel
theorem dX8_recordPlace_27 : decode cX8_recordPlace 27 = .ok (.if_icmp .gt 6, 3) := by decide +kernel
theorem dX8_recordPlace_30 : decode cX8_recordPlace 30 = .ok (.goto 17, 3) := by decide +kernel
theorem dX8_recordPlace_33 : decode cX8_recordPlace 33 = .ok (.iload_n 3, 1) := by decide +kernel
theorem dX8_recordPlace_34 : decode cX8_recordPlace 34 = .ok (.iload_n 1, 1) := by decide +kernel
theorem dX8_recordPlace_35 : decode cX8_recordPlace 35 = .ok (.if_icmp .ne 6, 3) := by decide +kernel
theorem dX8_recordPlace_38 : decode cX8_recordPlace 38 = .ok (.iload 4, 2) := by decide +kernel
theorem dX8_recordPlace_40 : decode cX8_recordPlace 40 = .ok (.ireturn, 1) := by decide +kernel
theorem dX8_recordPlace_41 : decode cX8_recordPlace 41 = .ok (.iload 5, 2) := by decide +kernel
theorem dX8_recordPlace_43 : decode cX8_recordPlace 43 = .ok (.istore_n 2, 1) := by decide +kernel
theorem dX8_recordPlace_44 : decode cX8_recordPlace 44 = .ok (.iinc 3 1, 3) := by decide +kernel
theorem dX8_recordPlace_47 : decode cX8_recordPlace 47 = .ok (.iinc 4 1, 3) := by decide +kernel
theorem dX8_recordPlace_50 : decode cX8_recordPlace 50 = .ok (.goto (-43), 3) := by decide +kernel
theorem dX8_recordPlace_53 : decode cX8_recordPlace 53 = .ok (.iload_n 1, 1) := by decide +kernel
theorem dX8_recordPlace_54 : decode cX8_recordPlace 54 = .ok (.iconst (-1), 1) := by decide +kernel
theorem dX8_recordPlace_55 : decode cX8_recordPlace 55 = .ok (.if_icmp .ne 7, 3) := by decide +kernel
theorem dX8_recordPlace_58 : decode cX8_recordPlace 58 = .ok (.iload_n 3, 1) := by decide +kernel
theorem dX8_recordPlace_59 : decode cX8_recordPlace 59 = .ok (.goto 4, 3) := by decide +kernel
theorem dX8_recordPlace_62 : decode cX8_recordPlace 62 = .ok (.iconst (-1), 1) := by decide +kernel
theorem dX8_recordPlace_63 : decode cX8_recordPlace 63 = .ok (.ireturn, 1) := by decide +kernel
theorem dX8_runEnd_0 : decode cX8_runEnd 0 = .ok (.iload_n 1, 1) := by decide +kernel
theorem dX8_runEnd_1 : decode cX8_runEnd 1 = .ok (.istore_n 2, 1) := by decide +kernel
theorem dX8_runEnd_2 : decode cX8_runEnd 2 = .ok (.iload_n 2, 1) := by decide +kernel
theorem dX8_runEnd_3 : decode cX8_runEnd 3 = .ok (.aload_n 0, 1) := by decide +kernel
theorem dX8_runEnd_4 : decode cX8_runEnd 4 = .ok (.getfield 9, 3) := by decide +kernel
theorem dX8_runEnd_7 : decode cX8_runEnd 7 = .ok (.if_icmp .ge 21, 3) := by decide +kernel
theorem dX8_runEnd_10 : decode cX8_runEnd 10 = .ok (.aload_n 0, 1) := by decide +kernel
theorem dX8_runEnd_11 : decode cX8_runEnd 11 = .ok (.iload_n 2, 1) := by decide +kernel
theorem dX8_runEnd_12 : decode cX8_runEnd 12 = .ok (.invokevirtual 15, 3) := by decide +kernel
theorem dX8_runEnd_15 : decode cX8_runEnd 15 = .ok (.aload_n 0, 1) := by decide +kernel
theorem dX8_runEnd_16 : decode cX8_runEnd 16 = .ok (.getfield 23, 3) := by decide +kernel
theorem dX8_runEnd_19 : decode cX8_runEnd 19 = .ok (.if_icmp .ne 9, 3) := by decide +kernel
theorem dX8_runEnd_22 : decode cX8_runEnd 22 = .ok (.iinc 2 1, 3) := by decide +kernel
theorem dX8_runEnd_25 : decode cX8_runEnd 25 = .ok (.goto (-23), 3) := by decide +kernel
theorem dX8_runEnd_28 : decode cX8_runEnd 28 = .ok (.iload_n 2, 1) := by decide +kernel
theorem dX8_runEnd_29 : decode cX8_runEnd 29 = .ok (.ireturn, 1) := by decide +kernel
theorem dX8_longestRunPlace_0 : decode cX8_longestRunPlace 0 = .ok (.iconst 1, 1) := by decide +kernel
theorem dX8_longestRunPlace_1 : decode cX8_longestRunPlace 1 = .ok (.istore_n 1, 1) := by decide +kernel
theorem dX8_longestRunPlace_2 : decode cX8_longestRunPlace 2 = .ok (.iconst 0, 1) := by decide +kernel
theorem dX8_longestRunPlace_3 : decode cX8_longestRunPlace 3 = .ok (.istore_n 2, 1) := by decide +kernel
theorem dX8_longestRunPlace_4 : decode cX8_longestRunPlace 4 = .ok (.iconst 0, 1) := by decide +kernel
theorem dX8_longestRunPlace_5 : decode cX8_longestRunPlace 5 = .ok (.istore_n 3, 1) := by decide +kernel
theorem dX8_longestRunPlace_6 : decode cX8_longestRunPlace 6 = .ok (.iconst 1, 1) := by decide +kernel
theorem dX8_longestRunPlace_7 : decode cX8_longestRunPlace 7 = .ok (.istore 4, 2) := by decide +kernel
theorem dX8_longestRunPlace_9 : decode cX8_longestRunPlace 9 = .ok (.iload 4, 2) := by decide +kernel
theorem dX8_longestRunPlace_11 : decode cX8_longestRunPlace 11 = .ok (.aload_n 0, 1) := by decide +kernel
theorem dX8_longestRunPlace_12 : decode cX8_longestRunPlace 12 = .ok (.getfield 9, 3) := by decide +kernel
theorem dX8_longestRunPlace_15 : decode cX8_longestRunPlace 15 = .ok (.if_icmp .gt 46, 3) := by decide +kernel
theorem dX8_longestRunPlace_18 : decode cX8_longestRunPlace 18 = .ok (.aload_n 0, 1) := by decide +kernel
theorem dX8_longestRunPlace_19 : decode cX8_longestRunPlace 19 = .ok (.iload 4, 2) := by decide +kernel
theorem dX8_longestRunPlace_21 : decode cX8_longestRunPlace 21 = .ok (.iconst 1, 1) := by decide +kernel
theorem dX8_longestRunPlace_22 : decode cX8_longestRunPlace 22 = .ok (.isub, 1) := by decide +kernel
theorem dX8_longestRunPlace_23 : decode cX8_longestRunPlace 23 = .ok (.invokevirtual 15, 3) := by decide +kernel
theorem dX8_longestRunPlace_26 : decode cX8_longestRunPlace 26 = .ok (.aload_n 0, 1) := by decide +kernel
theorem dX8_longestRunPlace_27 : decode cX8_longestRunPlace 27 = .ok (.getfield 23, 3) := by decide +kernel
theorem dX8_longestRunPlace_30 : decode cX8_longestRunPlace 30 = .ok (.if_icmp .ne 9, 3) := by decide +kernel
theorem dX8_longestRunPlace_33 : decode cX8_longestRunPlace 33 = .ok (.iload_n 3, 1) := by decide +kernel
theorem dX8_longestRunPlace_34 : decode cX8_longestRunPlace 34 = .ok (.iconst 1, 1) := by decide +kernel
theorem dX8_longestRunPlace_35 : decode cX8_longestRunPlace 35 = .ok (.iadd, 1) := by decide +kernel
theorem dX8_longestRunPlace_36 : decode cX8_longestRunPlace 36 = .ok (.goto 4, 3) := by decide +kernel
theorem dX8_longestRunPlace_39 : decode cX8_longestRunPlace 39 = .ok (.iconst 1, 1) := by decide +kernel
theorem dX8_longestRunPlace_40 : decode cX8_longestRunPlace 40 = .ok (.istore_n 3, 1) := by decide +kernel
theorem dX8_longestRunPlace_41 : decode cX8_longestRunPlace 41 = .ok (.iload_n 3, 1) := by decide +kernel
theorem dX8_longestRunPlace_42 : decode cX8_longestRunPlace 42 = .ok (.iload_n 2, 1) := by decide +kernel
theorem dX8_longestRunPlace_43 : decode cX8_longestRunPlace 43 = .ok (.if_icmp .le 12, 3) := by decide +kernel
theorem dX8_longestRunPlace_46 : decode cX8_longestRunPlace 46 = .ok (.iload_n 3, 1) := by decide +kernel
theorem dX8_longestRunPlace_47 : decode cX8_longestRunPlace 47 = .ok (.istore_n 2, 1) := by decide +kernel
theorem dX8_longestRunPlace_48 : decode cX8_longestRunPlace 48 = .ok (.iload 4, 2) := by decide +kernel
theorem dX8_longestRunPlace_50 : decode cX8_longestRunPlace 50 = .ok (.iload_n 3, 1) := by decide +kernel
theorem dX8_longestRunPlace_51 : decode cX8_longestRunPlace 51 = .ok (.isub, 1) := by decide +kernel
theorem dX8_longestRunPlace_52 : decode cX8_longestRunPlace 52 = .ok (.iconst 1, 1) := by decide +kernel
theorem dX8_longestRunPlace_53 : decode cX8_longestRunPlace 53 = .ok (.iadd, 1) := by decide +kernel
theorem dX8_longestRunPlace_54 : decode cX8_longestRunPlace 54 = .ok (.istore_n 1, 1) := by decide +kernel
theorem dX8_longestRunPlace_55 : decode cX8_longestRunPlace 55 = .ok (.iinc 4 1, 3) := by decide +kernel
theorem dX8_longestRunPlace_58 : decode cX8_longestRunPlace 58 = .ok (.goto (-49), 3) := by decide +kernel
theorem dX8_longestRunPlace_61 : decode cX8_longestRunPlace 61 = .ok (.iload_n 1, 1) := by decide +kernel
theorem dX8_longestRunPlace_62 : decode cX8_longestRunPlace 62 = .ok (.ireturn, 1) := by decide +kernel
theorem dX8_struckFromRing_0 : decode cX8_struckFromRing 0 = .ok (.iload_n 2, 1) := by decide +kernel
theorem dX8_struckFromRing_1 : decode cX8_struckFromRing 1 = .ok (.aload_n 0, 1) := by decide +kernel
theorem dX8_struckFromRing_2 : decode cX8_struckFromRing 2 = .ok (.getfield 9, 3) := by decide +kernel
theorem dX8_struckFromRing_5 : decode cX8_struckFromRing 5 = .ok (.if_icmp .lt 5, 3) := by decide +kernel
theorem dX8_struckFromRing_8 : decode cX8_struckFromRing 8 = .ok (.iconst (-1), 1) := by decide +kernel
theorem dX8_struckFromRing_9 : decode cX8_struckFromRing 9 = .ok (.ireturn, 1) := by decide +kernel
theorem dX8_struckFromRing_10 : decode cX8_struckFromRing 10 = .ok (.ldc2_w 44, 3) := by decide +kernel
theorem dX8_struckFromRing_13 : decode cX8_struckFromRing 13 = .ok (.lstore_n 3, 1) := by decide +kernel
theorem dX8_struckFromRing_14 : decode cX8_struckFromRing 14 = .ok (.aload_n 0, 1) := by decide +kernel
theorem dX8_struckFromRing_15 : decode cX8_struckFromRing 15 = .ok (.getfield 9, 3) := by decide +kernel
theorem dX8_struckFromRing_18 : decode cX8_struckFromRing 18 = .ok (.iload_n 2, 1) := by decide +kernel
theorem dX8_struckFromRing_19 : decode cX8_struckFromRing 19 = .ok (.isub, 1) := by decide +kernel
theorem dX8_struckFromRing_20 : decode cX8_struckFromRing 20 = .ok (.istore 5, 2) := by decide +kernel
theorem dX8_struckFromRing_22 : decode cX8_struckFromRing 22 = .ok (.iload 5, 2) := by decide +kernel
theorem dX8_struckFromRing_24 : decode cX8_struckFromRing 24 = .ok (.ifCond .le 27, 3) := by decide +kernel
theorem dX8_struckFromRing_27 : decode cX8_struckFromRing 27 = .ok (.iload 5, 2) := by decide +kernel
theorem dX8_struckFromRing_29 : decode cX8_struckFromRing 29 = .ok (.aload_n 0, 1) := by decide +kernel
theorem dX8_struckFromRing_30 : decode cX8_struckFromRing 30 = .ok (.getfield 9, 3) := by decide +kernel
theorem dX8_struckFromRing_33 : decode cX8_struckFromRing 33 = .ok (.if_icmp .gt 18, 3) := by decide +kernel
theorem dX8_struckFromRing_36 : decode cX8_struckFromRing 36 = .ok (.lload_n 3, 1) := by decide +kernel
theorem dX8_struckFromRing_37 : decode cX8_struckFromRing 37 = .ok (.iload_n 1, 1) := by decide +kernel
theorem dX8_struckFromRing_38 : decode cX8_struckFromRing 38 = .ok (.i2l, 1) := by decide +kernel
theorem dX8_struckFromRing_39 : decode cX8_struckFromRing 39 = .ok (.ladd, 1) := by decide +kernel
theorem dX8_struckFromRing_40 : decode cX8_struckFromRing 40 = .ok (.iload 5, 2) := by decide +kernel
theorem dX8_struckFromRing_42 : decode cX8_struckFromRing 42 = .ok (.i2l, 1) := by decide +kernel
theorem dX8_struckFromRing_43 : decode cX8_struckFromRing 43 = .ok (.lrem, 1) := by decide +kernel
theorem dX8_struckFromRing_44 : decode cX8_struckFromRing 44 = .ok (.lstore_n 3, 1) := by decide +kernel
theorem dX8_struckFromRing_45 : decode cX8_struckFromRing 45 = .ok (.iinc 5 1, 3) := by decide +kernel
theorem dX8_struckFromRing_48 : decode cX8_struckFromRing 48 = .ok (.goto (-26), 3) := by decide +kernel
theorem dX8_struckFromRing_51 : decode cX8_struckFromRing 51 = .ok (.aload_n 0, 1) := by decide +kernel
theorem dX8_struckFromRing_52 : decode cX8_struckFromRing 52 = .ok (.lload_n 3, 1) := by decide +kernel
theorem dX8_struckFromRing_53 : decode cX8_struckFromRing 53 = .ok (.l2i, 1) := by decide +kernel
theorem dX8_struckFromRing_54 : decode cX8_struckFromRing 54 = .ok (.iconst 1, 1) := by decide +kernel
theorem dX8_struckFromRing_55 : decode cX8_struckFromRing 55 = .ok (.iadd, 1) := by decide +kernel
theorem dX8_struckFromRing_56 : decode cX8_struckFromRing 56 = .ok (.invokevirtual 46, 3) := by decide +kernel
theorem dX8_struckFromRing_59 : decode cX8_struckFromRing 59 = .ok (.ireturn, 1) := by decide +kernel
theorem dX8_chainFrom_0 : decode cX8_chainFrom 0 = .ok (.aload_n 0, 1) := by decide +kernel
theorem dX8_chainFrom_1 : decode cX8_chainFrom 1 = .ok (.iload_n 1, 1) := by decide +kernel
theorem dX8_chainFrom_2 : decode cX8_chainFrom 2 = .ok (.invokevirtual 49, 3) := by decide +kernel
theorem dX8_chainFrom_5 : decode cX8_chainFrom 5 = .ok (.istore 4, 2) := by decide +kernel
theorem dX8_chainFrom_7 : decode cX8_chainFrom 7 = .ok (.iload 4, 2) := by decide +kernel
theorem dX8_chainFrom_9 : decode cX8_chainFrom 9 = .ok (.iconst (-1), 1) := by decide +kernel
theorem dX8_chainFrom_10 : decode cX8_chainFrom 10 = .ok (.if_icmp .ne 5, 3) := by decide +kernel
theorem dX8_chainFrom_13 : decode cX8_chainFrom 13 = .ok (.iconst (-1), 1) := by decide +kernel
theorem dX8_chainFrom_14 : decode cX8_chainFrom 14 = .ok (.ireturn, 1) := by decide +kernel
theorem dX8_chainFrom_15 : decode cX8_chainFrom 15 = .ok (.aload_n 3, 1) := by decide +kernel
theorem dX8_chainFrom_16 : decode cX8_chainFrom 16 = .ok (.invokestatic 19, 3) := by decide +kernel
theorem dX8_chainFrom_19 : decode cX8_chainFrom 19 = .ok (.iload_n 1, 1) := by decide +kernel
theorem dX8_chainFrom_20 : decode cX8_chainFrom 20 = .ok (.istore 5, 2) := by decide +kernel
theorem dX8_chainFrom_22 : decode cX8_chainFrom 22 = .ok (.iconst 0, 1) := by decide +kernel
theorem dX8_chainFrom_23 : decode cX8_chainFrom 23 = .ok (.istore 6, 2) := by decide +kernel
theorem dX8_chainFrom_25 : decode cX8_chainFrom 25 = .ok (.iload 4, 2) := by decide +kernel
theorem dX8_chainFrom_27 : decode cX8_chainFrom 27 = .ok (.iconst 1, 1) := by decide +kernel
theorem dX8_chainFrom_28 : decode cX8_chainFrom 28 = .ok (.aload_n 0, 1) := by decide +kernel
theorem dX8_chainFrom_29 : decode cX8_chainFrom 29 = .ok (.getfield 9, 3) := by decide +kernel
theorem dX8_chainFrom_32 : decode cX8_chainFrom 32 = .ok (.invokestatic 52, 3) := by decide +kernel
theorem dX8_chainFrom_35 : decode cX8_chainFrom 35 = .ok (.ifCond .eq 46, 3) := by decide +kernel
theorem dX8_chainFrom_38 : decode cX8_chainFrom 38 = .ok (.aload_n 3, 1) := by decide +kernel
theorem dX8_chainFrom_39 : decode cX8_chainFrom 39 = .ok (.iload 4, 2) := by decide +kernel
theorem dX8_chainFrom_41 : decode cX8_chainFrom 41 = .ok (.invokestatic 30, 3) := by decide +kernel
theorem dX8_chainFrom_44 : decode cX8_chainFrom 44 = .ok (.ifCond .ne 37, 3) := by decide +kernel
theorem dX8_chainFrom_47 : decode cX8_chainFrom 47 = .ok (.iload 6, 2) := by decide +kernel
theorem dX8_chainFrom_49 : decode cX8_chainFrom 49 = .ok (.aload_n 0, 1) := by decide +kernel
theorem dX8_chainFrom_50 : decode cX8_chainFrom 50 = .ok (.getfield 9, 3) := by decide +kernel
theorem dX8_chainFrom_53 : decode cX8_chainFrom 53 = .ok (.if_icmp .ge 28, 3) := by decide +kernel
theorem dX8_chainFrom_56 : decode cX8_chainFrom 56 = .ok (.aload_n 3, 1) := by decide +kernel
theorem dX8_chainFrom_57 : decode cX8_chainFrom 57 = .ok (.iload 4, 2) := by decide +kernel
theorem dX8_chainFrom_59 : decode cX8_chainFrom 59 = .ok (.iconst 1, 1) := by decide +kernel
theorem dX8_chainFrom_60 : decode cX8_chainFrom 60 = .ok (.invokestatic 34, 3) := by decide +kernel
theorem dX8_chainFrom_63 : decode cX8_chainFrom 63 = .ok (.aload_n 0, 1) := by decide +kernel
theorem dX8_chainFrom_64 : decode cX8_chainFrom 64 = .ok (.iload 4, 2) := by decide +kernel
theorem dX8_chainFrom_66 : decode cX8_chainFrom 66 = .ok (.invokevirtual 46, 3) := by decide +kernel
theorem dX8_chainFrom_69 : decode cX8_chainFrom 69 = .ok (.istore 5, 2) := by decide +kernel
theorem dX8_chainFrom_71 : decode cX8_chainFrom 71 = .ok (.iinc 6 1, 3) := by decide +kernel
theorem dX8_chainFrom_74 : decode cX8_chainFrom 74 = .ok (.iload 5, 2) := by decide +kernel
theorem dX8_chainFrom_76 : decode cX8_chainFrom 76 = .ok (.istore 4, 2) := by decide +kernel
theorem dX8_chainFrom_78 : decode cX8_chainFrom 78 = .ok (.goto (-53), 3) := by decide +kernel
theorem dX8_chainFrom_81 : decode cX8_chainFrom 81 = .ok (.iload_n 2, 1) := by decide +kernel
theorem dX8_chainFrom_82 : decode cX8_chainFrom 82 = .ok (.ifCond .ne 6, 3) := by decide +kernel
theorem dX8_chainFrom_85 : decode cX8_chainFrom 85 = .ok (.iload 6, 2) := by decide +kernel
theorem dX8_chainFrom_87 : decode cX8_chainFrom 87 = .ok (.ireturn, 1) := by decide +kernel
theorem dX8_chainFrom_88 : decode cX8_chainFrom 88 = .ok (.iload_n 2, 1) := by decide +kernel
theorem dX8_chainFrom_89 : decode cX8_chainFrom 89 = .ok (.iconst 1, 1) := by decide +kernel
theorem dX8_chainFrom_90 : decode cX8_chainFrom 90 = .ok (.if_icmp .ne 6, 3) := by decide +kernel
theorem dX8_chainFrom_93 : decode cX8_chainFrom 93 = .ok (.iload 5, 2) := by decide +kernel
theorem dX8_chainFrom_95 : decode cX8_chainFrom 95 = .ok (.ireturn, 1) := by decide +kernel
theorem dX8_chainFrom_96 : decode cX8_chainFrom 96 = .ok (.iload 4, 2) := by decide +kernel
theorem dX8_chainFrom_98 : decode cX8_chainFrom 98 = .ok (.iconst 1, 1) := by decide +kernel
theorem dX8_chainFrom_99 : decode cX8_chainFrom 99 = .ok (.aload_n 0, 1) := by decide +kernel
theorem dX8_chainFrom_100 : decode cX8_chainFrom 100 = .ok (.getfield 9, 3) := by decide +kernel
theorem dX8_chainFrom_103 : decode cX8_chainFrom 103 = .ok (.invokestatic 52, 3) := by decide +kernel
theorem dX8_chainFrom_106 : decode cX8_chainFrom 106 = .ok (.ifCond .eq 7, 3) := by decide +kernel
theorem dX8_chainFrom_109 : decode cX8_chainFrom 109 = .ok (.iconst 1, 1) := by decide +kernel
theorem dX8_chainFrom_110 : decode cX8_chainFrom 110 = .ok (.goto 4, 3) := by decide +kernel
theorem dX8_chainFrom_113 : decode cX8_chainFrom 113 = .ok (.iconst 0, 1) := by decide +kernel
theorem dX8_chainFrom_114 : decode cX8_chainFrom 114 = .ok (.ireturn, 1) := by decide +kernel
theorem dX8_width_0 : decode cX8_width 0 = .ok (.aload_n 0, 1) := by decide +kernel
theorem dX8_width_1 : decode cX8_width 1 = .ok (.iload_n 1, 1) := by decide +kernel
theorem dX8_width_2 : decode cX8_width 2 = .ok (.iload_n 2, 1) := by decide +kernel
theorem dX8_width_3 : decode cX8_width 3 = .ok (.iadd, 1) := by decide +kernel
theorem dX8_width_4 : decode cX8_width 4 = .ok (.iconst 1, 1) := by decide +kernel
theorem dX8_width_5 : decode cX8_width 5 = .ok (.isub, 1) := by decide +kernel
theorem dX8_width_6 : decode cX8_width 6 = .ok (.invokevirtual 46, 3) := by decide +kernel
theorem dX8_width_9 : decode cX8_width 9 = .ok (.aload_n 0, 1) := by decide +kernel
theorem dX8_width_10 : decode cX8_width 10 = .ok (.iload_n 1, 1) := by decide +kernel
theorem dX8_width_11 : decode cX8_width 11 = .ok (.invokevirtual 46, 3) := by decide +kernel
theorem dX8_width_14 : decode cX8_width 14 = .ok (.isub, 1) := by decide +kernel
theorem dX8_width_15 : decode cX8_width 15 = .ok (.ireturn, 1) := by decide +kernel
theorem dX8_closestPlace_0 : decode cX8_closestPlace 0 = .ok (.iload_n 1, 1) := by decide +kernel
theorem dX8_closestPlace_1 : decode cX8_closestPlace 1 = .ok (.aload_n 0, 1) := by decide +kernel
theorem dX8_closestPlace_2 : decode cX8_closestPlace 2 = .ok (.getfield 9, 3) := by decide +kernel
theorem dX8_closestPlace_5 : decode cX8_closestPlace 5 = .ok (.if_icmp .le 5, 3) := by decide +kernel
theorem dX8_closestPlace_8 : decode cX8_closestPlace 8 = .ok (.iconst (-1), 1) := by decide +kernel
theorem dX8_closestPlace_9 : decode cX8_closestPlace 9 = .ok (.ireturn, 1) := by decide +kernel
theorem dX8_closestPlace_10 : decode cX8_closestPlace 10 = .ok (.iconst 1, 1) := by decide +kernel
theorem dX8_closestPlace_11 : decode cX8_closestPlace 11 = .ok (.istore_n 2, 1) := by decide +kernel
theorem dX8_closestPlace_12 : decode cX8_closestPlace 12 = .ok (.iconst 2, 1) := by decide +kernel
theorem dX8_closestPlace_13 : decode cX8_closestPlace 13 = .ok (.istore_n 3, 1) := by decide +kernel
theorem dX8_closestPlace_14 : decode cX8_closestPlace 14 = .ok (.iload_n 3, 1) := by decide +kernel
theorem dX8_closestPlace_15 : decode cX8_closestPlace 15 = .ok (.aload_n 0, 1) := by decide +kernel
theorem dX8_closestPlace_16 : decode cX8_closestPlace 16 = .ok (.getfield 9, 3) := by decide +kernel
theorem dX8_closestPlace_19 : decode cX8_closestPlace 19 = .ok (.iload_n 1, 1) := by decide +kernel
theorem dX8_closestPlace_20 : decode cX8_closestPlace 20 = .ok (.isub, 1) := by decide +kernel
theorem dX8_closestPlace_21 : decode cX8_closestPlace 21 = .ok (.iconst 1, 1) := by decide +kernel
theorem dX8_closestPlace_22 : decode cX8_closestPlace 22 = .ok (.iadd, 1) := by decide +kernel
theorem dX8_closestPlace_23 : decode cX8_closestPlace 23 = .ok (.if_icmp .gt 26, 3) := by decide +kernel
theorem dX8_closestPlace_26 : decode cX8_closestPlace 26 = .ok (.aload_n 0, 1) := by decide +kernel
theorem dX8_closestPlace_27 : decode cX8_closestPlace 27 = .ok (.iload_n 3, 1) := by decide +kernel
theorem dX8_closestPlace_28 : decode cX8_closestPlace 28 = .ok (.iload_n 1, 1) := by decide +kernel
theorem dX8_closestPlace_29 : decode cX8_closestPlace 29 = .ok (.invokestatic 56, 3) := by decide +kernel
theorem dX8_closestPlace_32 : decode cX8_closestPlace 32 = .ok (.aload_n 0, 1) := by decide +kernel
theorem dX8_closestPlace_33 : decode cX8_closestPlace 33 = .ok (.iload_n 2, 1) := by decide +kernel
theorem dX8_closestPlace_34 : decode cX8_closestPlace 34 = .ok (.iload_n 1, 1) := by decide +kernel
theorem dX8_closestPlace_35 : decode cX8_closestPlace 35 = .ok (.invokestatic 56, 3) := by decide +kernel
theorem dX8_closestPlace_38 : decode cX8_closestPlace 38 = .ok (.if_icmp .ge 5, 3) := by decide +kernel
theorem dX8_closestPlace_41 : decode cX8_closestPlace 41 = .ok (.iload_n 3, 1) := by decide +kernel
theorem dX8_closestPlace_42 : decode cX8_closestPlace 42 = .ok (.istore_n 2, 1) := by decide +kernel
theorem dX8_closestPlace_43 : decode cX8_closestPlace 43 = .ok (.iinc 3 1, 3) := by decide +kernel
theorem dX8_closestPlace_46 : decode cX8_closestPlace 46 = .ok (.goto (-32), 3) := by decide +kernel
theorem dX8_closestPlace_49 : decode cX8_closestPlace 49 = .ok (.iload_n 2, 1) := by decide +kernel
theorem dX8_closestPlace_50 : decode cX8_closestPlace 50 = .ok (.ireturn, 1) := by decide +kernel
theorem dX8_countPattern_0 : decode cX8_countPattern 0 = .ok (.iconst 0, 1) := by decide +kernel
theorem dX8_countPattern_1 : decode cX8_countPattern 1 = .ok (.istore 4, 2) := by decide +kernel
theorem dX8_countPattern_3 : decode cX8_countPattern 3 = .ok (.iconst 1, 1) := by decide +kernel
theorem dX8_countPattern_4 : decode cX8_countPattern 4 = .ok (.istore 5, 2) := by decide +kernel
theorem dX8_countPattern_6 : decode cX8_countPattern 6 = .ok (.iload 5, 2) := by decide +kernel
theorem dX8_countPattern_8 : decode cX8_countPattern 8 = .ok (.aload_n 0, 1) := by decide +kernel
theorem dX8_countPattern_9 : decode cX8_countPattern 9 = .ok (.getfield 9, 3) := by decide +kernel
theorem dX8_countPattern_12 : decode cX8_countPattern 12 = .ok (.if_icmp .ge 53, 3) := by decide +kernel
theorem dX8_countPattern_15 : decode cX8_countPattern 15 = .ok (.aload_n 0, 1) := by decide +kernel
theorem dX8_countPattern_16 : decode cX8_countPattern 16 = .ok (.iload 5, 2) := by decide +kernel
theorem dX8_countPattern_18 : decode cX8_countPattern 18 = .ok (.invokevirtual 15, 3) := by decide +kernel
theorem dX8_countPattern_21 : decode cX8_countPattern 21 = .ok (.iload_n 1, 1) := by decide +kernel
theorem dX8_countPattern_22 : decode cX8_countPattern 22 = .ok (.if_icmp .ne 37, 3) := by decide +kernel
theorem dX8_countPattern_25 : decode cX8_countPattern 25 = .ok (.aload_n 0, 1) := by decide +kernel
theorem dX8_countPattern_26 : decode cX8_countPattern 26 = .ok (.iload 5, 2) := by decide +kernel
theorem dX8_countPattern_28 : decode cX8_countPattern 28 = .ok (.iconst 1, 1) := by decide +kernel
theorem dX8_countPattern_29 : decode cX8_countPattern 29 = .ok (.iadd, 1) := by decide +kernel
theorem dX8_countPattern_30 : decode cX8_countPattern 30 = .ok (.invokevirtual 15, 3) := by decide +kernel
theorem dX8_countPattern_33 : decode cX8_countPattern 33 = .ok (.iload_n 2, 1) := by decide +kernel
theorem dX8_countPattern_34 : decode cX8_countPattern 34 = .ok (.if_icmp .eq 6, 3) := by decide +kernel
theorem dX8_countPattern_37 : decode cX8_countPattern 37 = .ok (.goto 22, 3) := by decide +kernel
theorem dX8_countPattern_40 : decode cX8_countPattern 40 = .ok (.iload_n 3, 1) := by decide +kernel
theorem dX8_countPattern_41 : decode cX8_countPattern 41 = .ok (.ifCond .eq 15, 3) := by decide +kernel
theorem dX8_countPattern_44 : decode cX8_countPattern 44 = .ok (.aload_n 0, 1) := by decide +kernel
theorem dX8_countPattern_45 : decode cX8_countPattern 45 = .ok (.iload 5, 2) := by decide +kernel
theorem dX8_countPattern_47 : decode cX8_countPattern 47 = .ok (.iconst 2, 1) := by decide +kernel
theorem dX8_countPattern_48 : decode cX8_countPattern 48 = .ok (.iadd, 1) := by decide +kernel
theorem dX8_countPattern_49 : decode cX8_countPattern 49 = .ok (.invokevirtual 15, 3) := by decide +kernel
theorem dX8_countPattern_52 : decode cX8_countPattern 52 = .ok (.iload_n 3, 1) := by decide +kernel
theorem dX8_countPattern_53 : decode cX8_countPattern 53 = .ok (.if_icmp .ne 6, 3) := by decide +kernel
theorem dX8_countPattern_56 : decode cX8_countPattern 56 = .ok (.iinc 4 1, 3) := by decide +kernel
theorem dX8_countPattern_59 : decode cX8_countPattern 59 = .ok (.iinc 5 1, 3) := by decide +kernel
theorem dX8_countPattern_62 : decode cX8_countPattern 62 = .ok (.goto (-56), 3) := by decide +kernel
theorem dX8_countPattern_65 : decode cX8_countPattern 65 = .ok (.iload 4, 2) := by decide +kernel
theorem dX8_countPattern_67 : decode cX8_countPattern 67 = .ok (.ireturn, 1) := by decide +kernel
theorem dX8_longestMirror_0 : decode cX8_longestMirror 0 = .ok (.iconst 0, 1) := by decide +kernel
theorem dX8_longestMirror_1 : decode cX8_longestMirror 1 = .ok (.istore_n 3, 1) := by decide +kernel
theorem dX8_longestMirror_2 : decode cX8_longestMirror 2 = .ok (.iconst (-1), 1) := by decide +kernel
theorem dX8_longestMirror_3 : decode cX8_longestMirror 3 = .ok (.istore 4, 2) := by decide +kernel
theorem dX8_longestMirror_5 : decode cX8_longestMirror 5 = .ok (.iconst 0, 1) := by decide +kernel
theorem dX8_longestMirror_6 : decode cX8_longestMirror 6 = .ok (.istore 5, 2) := by decide +kernel
theorem dX8_longestMirror_8 : decode cX8_longestMirror 8 = .ok (.iconst 0, 1) := by decide +kernel
theorem dX8_longestMirror_9 : decode cX8_longestMirror 9 = .ok (.istore 6, 2) := by decide +kernel
theorem dX8_longestMirror_11 : decode cX8_longestMirror 11 = .ok (.iconst 2, 1) := by decide +kernel
theorem dX8_longestMirror_12 : decode cX8_longestMirror 12 = .ok (.istore 7, 2) := by decide +kernel
theorem dX8_longestMirror_14 : decode cX8_longestMirror 14 = .ok (.iload 7, 2) := by decide +kernel
theorem dX8_longestMirror_16 : decode cX8_longestMirror 16 = .ok (.iconst 2, 1) := by decide +kernel
theorem dX8_longestMirror_17 : decode cX8_longestMirror 17 = .ok (.aload_n 0, 1) := by decide +kernel
theorem dX8_longestMirror_18 : decode cX8_longestMirror 18 = .ok (.getfield 9, 3) := by decide +kernel
theorem dX8_longestMirror_21 : decode cX8_longestMirror 21 = .ok (.iconst 1, 1) := by decide +kernel
theorem dX8_longestMirror_22 : decode cX8_longestMirror 22 = .ok (.isub, 1) := by decide +kernel
theorem dX8_longestMirror_23 : decode cX8_longestMirror 23 = .ok (.imul, 1) := by decide +kernel
theorem dX8_longestMirror_24 : decode cX8_longestMirror 24 = .ok (.if_icmp .gt 105, 3) := by decide +kernel
theorem dX8_longestMirror_27 : decode cX8_longestMirror 27 = .ok (.aload_n 2, 1) := by decide +kernel
theorem dX8_longestMirror_28 : decode cX8_longestMirror 28 = .ok (.iconst 2, 1) := by decide +kernel
theorem dX8_longestMirror_29 : decode cX8_longestMirror 29 = .ok (.iload 5, 2) := by decide +kernel
theorem dX8_longestMirror_31 : decode cX8_longestMirror 31 = .ok (.imul, 1) := by decide +kernel
theorem dX8_longestMirror_32 : decode cX8_longestMirror 32 = .ok (.iload 7, 2) := by decide +kernel
theorem dX8_longestMirror_34 : decode cX8_longestMirror 34 = .ok (.isub, 1) := by decide +kernel
theorem dX8_longestMirror_35 : decode cX8_longestMirror 35 = .ok (.invokestatic 30, 3) := by decide +kernel
theorem dX8_longestMirror_38 : decode cX8_longestMirror 38 = .ok (.iconst 2, 1) := by decide +kernel
theorem dX8_longestMirror_39 : decode cX8_longestMirror 39 = .ok (.iload 6, 2) := by decide +kernel
theorem dX8_longestMirror_41 : decode cX8_longestMirror 41 = .ok (.imul, 1) := by decide +kernel
theorem dX8_longestMirror_42 : decode cX8_longestMirror 42 = .ok (.iload 7, 2) := by decide +kernel
theorem dX8_longestMirror_44 : decode cX8_longestMirror 44 = .ok (.isub, 1) := by decide +kernel
theorem dX8_longestMirror_45 : decode cX8_longestMirror 45 = .ok (.iconst 1, 1) := by decide +kernel
theorem dX8_longestMirror_46 : decode cX8_longestMirror 46 = .ok (.iadd, 1) := by decide +kernel
theorem dX8_longestMirror_47 : decode cX8_longestMirror 47 = .ok (.invokestatic 60, 3) := by decide +kernel
theorem dX8_longestMirror_50 : decode cX8_longestMirror 50 = .ok (.istore 8, 2) := by decide +kernel
theorem dX8_longestMirror_52 : decode cX8_longestMirror 52 = .ok (.aload_n 0, 1) := by decide +kernel
theorem dX8_longestMirror_53 : decode cX8_longestMirror 53 = .ok (.iload 7, 2) := by decide +kernel
theorem dX8_longestMirror_55 : decode cX8_longestMirror 55 = .ok (.iload 8, 2) := by decide +kernel
theorem dX8_longestMirror_57 : decode cX8_longestMirror 57 = .ok (.iload 7, 2) := by decide +kernel
theorem dX8_longestMirror_59 : decode cX8_longestMirror 59 = .ok (.iconst 1, 1) := by decide +kernel
theorem dX8_longestMirror_60 : decode cX8_longestMirror 60 = .ok (.iadd, 1) := by decide +kernel
theorem dX8_longestMirror_61 : decode cX8_longestMirror 61 = .ok (.iconst 2, 1) := by decide +kernel
theorem dX8_longestMirror_62 : decode cX8_longestMirror 62 = .ok (.irem, 1) := by decide +kernel
theorem dX8_longestMirror_63 : decode cX8_longestMirror 63 = .ok (.invokestatic 65, 3) := by decide +kernel
theorem dX8_longestMirror_66 : decode cX8_longestMirror 66 = .ok (.invokestatic 68, 3) := by decide +kernel
theorem dX8_longestMirror_69 : decode cX8_longestMirror 69 = .ok (.istore 9, 2) := by decide +kernel
theorem dX8_longestMirror_71 : decode cX8_longestMirror 71 = .ok (.aload_n 2, 1) := by decide +kernel
theorem dX8_longestMirror_72 : decode cX8_longestMirror 72 = .ok (.iload 7, 2) := by decide +kernel
theorem dX8_longestMirror_74 : decode cX8_longestMirror 74 = .ok (.iload 9, 2) := by decide +kernel
theorem dX8_longestMirror_76 : decode cX8_longestMirror 76 = .ok (.invokestatic 34, 3) := by decide +kernel
theorem dX8_longestMirror_79 : decode cX8_longestMirror 79 = .ok (.iload 7, 2) := by decide +kernel
theorem dX8_longestMirror_81 : decode cX8_longestMirror 81 = .ok (.iload 9, 2) := by decide +kernel
theorem dX8_longestMirror_83 : decode cX8_longestMirror 83 = .ok (.iadd, 1) := by decide +kernel
theorem dX8_longestMirror_84 : decode cX8_longestMirror 84 = .ok (.iconst 1, 1) := by decide +kernel
theorem dX8_longestMirror_85 : decode cX8_longestMirror 85 = .ok (.isub, 1) := by decide +kernel
theorem dX8_longestMirror_86 : decode cX8_longestMirror 86 = .ok (.iconst 2, 1) := by decide +kernel
theorem dX8_longestMirror_87 : decode cX8_longestMirror 87 = .ok (.idiv, 1) := by decide +kernel
theorem dX8_longestMirror_88 : decode cX8_longestMirror 88 = .ok (.istore 10, 2) := by decide +kernel
theorem dX8_longestMirror_90 : decode cX8_longestMirror 90 = .ok (.iload 10, 2) := by decide +kernel
theorem dX8_longestMirror_92 : decode cX8_longestMirror 92 = .ok (.iload 6, 2) := by decide +kernel
theorem dX8_longestMirror_94 : decode cX8_longestMirror 94 = .ok (.if_icmp .le 11, 3) := by decide +kernel
theorem dX8_longestMirror_97 : decode cX8_longestMirror 97 = .ok (.iload 10, 2) := by decide +kernel
theorem dX8_longestMirror_99 : decode cX8_longestMirror 99 = .ok (.istore 6, 2) := by decide +kernel
theorem dX8_longestMirror_101 : decode cX8_longestMirror 101 = .ok (.iload 7, 2) := by decide +kernel
theorem dX8_longestMirror_103 : decode cX8_longestMirror 103 = .ok (.istore 5, 2) := by decide +kernel
theorem dX8_longestMirror_105 : decode cX8_longestMirror 105 = .ok (.iload 9, 2) := by decide +kernel
theorem dX8_longestMirror_107 : decode cX8_longestMirror 107 = .ok (.iload_n 3, 1) := by decide +kernel
theorem dX8_longestMirror_108 : decode cX8_longestMirror 108 = .ok (.if_icmp .le 15, 3) := by decide +kernel
theorem dX8_longestMirror_111 : decode cX8_longestMirror 111 = .ok (.iload 9, 2) := by decide +kernel
theorem dX8_longestMirror_113 : decode cX8_longestMirror 113 = .ok (.istore_n 3, 1) := by decide +kernel
theorem dX8_longestMirror_114 : decode cX8_longestMirror 114 = .ok (.iload 10, 2) := by decide +kernel
theorem dX8_longestMirror_116 : decode cX8_longestMirror 116 = .ok (.iload 9, 2) := by decide +kernel
theorem dX8_longestMirror_118 : decode cX8_longestMirror 118 = .ok (.isub, 1) := by decide +kernel
theorem dX8_longestMirror_119 : decode cX8_longestMirror 119 = .ok (.iconst 1, 1) := by decide +kernel
theorem dX8_longestMirror_120 : decode cX8_longestMirror 120 = .ok (.iadd, 1) := by decide +kernel
theorem dX8_longestMirror_121 : decode cX8_longestMirror 121 = .ok (.istore 4, 2) := by decide +kernel
theorem dX8_longestMirror_123 : decode cX8_longestMirror 123 = .ok (.iinc 7 1, 3) := by decide +kernel
theorem dX8_longestMirror_126 : decode cX8_longestMirror 126 = .ok (.goto (-112), 3) := by decide +kernel
theorem dX8_longestMirror_129 : decode cX8_longestMirror 129 = .ok (.iload_n 1, 1) := by decide +kernel
theorem dX8_longestMirror_130 : decode cX8_longestMirror 130 = .ok (.iconst 1, 1) := by decide +kernel
theorem dX8_longestMirror_131 : decode cX8_longestMirror 131 = .ok (.if_icmp .eq 9, 3) := by decide +kernel
theorem dX8_longestMirror_134 : decode cX8_longestMirror 134 = .ok (.iload 4, 2) := by decide +kernel
theorem dX8_longestMirror_136 : decode cX8_longestMirror 136 = .ok (.iconst (-1), 1) := by decide +kernel
theorem dX8_longestMirror_137 : decode cX8_longestMirror 137 = .ok (.if_icmp .ne 8, 3) := by decide +kernel
theorem dX8_longestMirror_140 : decode cX8_longestMirror 140 = .ok (.iload 4, 2) := by decide +kernel
theorem dX8_longestMirror_142 : decode cX8_longestMirror 142 = .ok (.goto 4, 3) := by decide +kernel
theorem dX8_longestMirror_145 : decode cX8_longestMirror 145 = .ok (.iload_n 3, 1) := by decide +kernel
theorem dX8_longestMirror_146 : decode cX8_longestMirror 146 = .ok (.ireturn, 1) := by decide +kernel
theorem dX8_mirrorLength_0 : decode cX8_mirrorLength 0 = .ok (.iload_n 1, 1) := by decide +kernel
theorem dX8_mirrorLength_1 : decode cX8_mirrorLength 1 = .ok (.iload_n 2, 1) := by decide +kernel
theorem dX8_mirrorLength_2 : decode cX8_mirrorLength 2 = .ok (.isub, 1) := by decide +kernel
theorem dX8_mirrorLength_3 : decode cX8_mirrorLength 3 = .ok (.iconst 1, 1) := by decide +kernel
theorem dX8_mirrorLength_4 : decode cX8_mirrorLength 4 = .ok (.iadd, 1) := by decide +kernel
theorem dX8_mirrorLength_5 : decode cX8_mirrorLength 5 = .ok (.iconst 2, 1) := by decide +kernel
theorem dX8_mirrorLength_6 : decode cX8_mirrorLength 6 = .ok (.idiv, 1) := by decide +kernel
theorem dX8_mirrorLength_7 : decode cX8_mirrorLength 7 = .ok (.istore_n 3, 1) := by decide +kernel
theorem dX8_mirrorLength_8 : decode cX8_mirrorLength 8 = .ok (.iload_n 3, 1) := by decide +kernel
theorem dX8_mirrorLength_9 : decode cX8_mirrorLength 9 = .ok (.iload_n 2, 1) := by decide +kernel
theorem dX8_mirrorLength_10 : decode cX8_mirrorLength 10 = .ok (.iadd, 1) := by decide +kernel
theorem dX8_mirrorLength_11 : decode cX8_mirrorLength 11 = .ok (.iconst 1, 1) := by decide +kernel
theorem dX8_mirrorLength_12 : decode cX8_mirrorLength 12 = .ok (.isub, 1) := by decide +kernel
theorem dX8_mirrorLength_13 : decode cX8_mirrorLength 13 = .ok (.istore 4, 2) := by decide +kernel
theorem dX8_mirrorLength_15 : decode cX8_mirrorLength 15 = .ok (.iload_n 3, 1) := by decide +kernel
theorem dX8_mirrorLength_16 : decode cX8_mirrorLength 16 = .ok (.iconst 1, 1) := by decide +kernel
theorem dX8_mirrorLength_17 : decode cX8_mirrorLength 17 = .ok (.if_icmp .le 41, 3) := by decide +kernel
theorem dX8_mirrorLength_20 : decode cX8_mirrorLength 20 = .ok (.iload 4, 2) := by decide +kernel
theorem dX8_mirrorLength_22 : decode cX8_mirrorLength 22 = .ok (.iconst 1, 1) := by decide +kernel
theorem dX8_mirrorLength_23 : decode cX8_mirrorLength 23 = .ok (.iadd, 1) := by decide +kernel
theorem dX8_mirrorLength_24 : decode cX8_mirrorLength 24 = .ok (.aload_n 0, 1) := by decide +kernel
theorem dX8_mirrorLength_25 : decode cX8_mirrorLength 25 = .ok (.getfield 9, 3) := by decide +kernel
theorem dX8_mirrorLength_28 : decode cX8_mirrorLength 28 = .ok (.if_icmp .ge 30, 3) := by decide +kernel
theorem dX8_mirrorLength_31 : decode cX8_mirrorLength 31 = .ok (.aload_n 0, 1) := by decide +kernel
theorem dX8_mirrorLength_32 : decode cX8_mirrorLength 32 = .ok (.iload_n 3, 1) := by decide +kernel
theorem dX8_mirrorLength_33 : decode cX8_mirrorLength 33 = .ok (.iconst 1, 1) := by decide +kernel
theorem dX8_mirrorLength_34 : decode cX8_mirrorLength 34 = .ok (.isub, 1) := by decide +kernel
theorem dX8_mirrorLength_35 : decode cX8_mirrorLength 35 = .ok (.invokevirtual 15, 3) := by decide +kernel
theorem dX8_mirrorLength_38 : decode cX8_mirrorLength 38 = .ok (.aload_n 0, 1) := by decide +kernel
theorem dX8_mirrorLength_39 : decode cX8_mirrorLength 39 = .ok (.iload 4, 2) := by decide +kernel
theorem dX8_mirrorLength_41 : decode cX8_mirrorLength 41 = .ok (.iconst 1, 1) := by decide +kernel
theorem dX8_mirrorLength_42 : decode cX8_mirrorLength 42 = .ok (.iadd, 1) := by decide +kernel
theorem dX8_mirrorLength_43 : decode cX8_mirrorLength 43 = .ok (.invokevirtual 15, 3) := by decide +kernel
theorem dX8_mirrorLength_46 : decode cX8_mirrorLength 46 = .ok (.if_icmp .ne 12, 3) := by decide +kernel
theorem dX8_mirrorLength_49 : decode cX8_mirrorLength 49 = .ok (.iinc 3 (-1), 3) := by decide +kernel
theorem dX8_mirrorLength_52 : decode cX8_mirrorLength 52 = .ok (.iinc 4 1, 3) := by decide +kernel
theorem dX8_mirrorLength_55 : decode cX8_mirrorLength 55 = .ok (.goto (-40), 3) := by decide +kernel
theorem dX8_mirrorLength_58 : decode cX8_mirrorLength 58 = .ok (.iload 4, 2) := by decide +kernel
theorem dX8_mirrorLength_60 : decode cX8_mirrorLength 60 = .ok (.iload_n 3, 1) := by decide +kernel
theorem dX8_mirrorLength_61 : decode cX8_mirrorLength 61 = .ok (.isub, 1) := by decide +kernel
theorem dX8_mirrorLength_62 : decode cX8_mirrorLength 62 = .ok (.iconst 1, 1) := by decide +kernel
theorem dX8_mirrorLength_63 : decode cX8_mirrorLength 63 = .ok (.iadd, 1) := by decide +kernel
theorem dX8_mirrorLength_64 : decode cX8_mirrorLength 64 = .ok (.ireturn, 1) := by decide +kernel
theorem dJ6_compare_7cf53_0 : decode cJ6_compare_7cf53 0 = .ok (.iload_n 0, 1) := by decide +kernel
theorem dJ6_compare_7cf53_1 : decode cJ6_compare_7cf53 1 = .ok (.iload_n 1, 1) := by decide +kernel
theorem dJ6_compare_7cf53_2 : decode cJ6_compare_7cf53 2 = .ok (.if_icmp .ge 7, 3) := by decide +kernel
theorem dJ6_compare_7cf53_5 : decode cJ6_compare_7cf53 5 = .ok (.iconst (-1), 1) := by decide +kernel
theorem dJ6_compare_7cf53_6 : decode cJ6_compare_7cf53 6 = .ok (.goto 13, 3) := by decide +kernel
theorem dJ6_compare_7cf53_9 : decode cJ6_compare_7cf53 9 = .ok (.iload_n 0, 1) := by decide +kernel
theorem dJ6_compare_7cf53_10 : decode cJ6_compare_7cf53 10 = .ok (.iload_n 1, 1) := by decide +kernel
theorem dJ6_compare_7cf53_11 : decode cJ6_compare_7cf53 11 = .ok (.if_icmp .ne 7, 3) := by decide +kernel
theorem dJ6_compare_7cf53_14 : decode cJ6_compare_7cf53 14 = .ok (.iconst 0, 1) := by decide +kernel
theorem dJ6_compare_7cf53_15 : decode cJ6_compare_7cf53 15 = .ok (.goto 4, 3) := by decide +kernel
theorem dJ6_compare_7cf53_18 : decode cJ6_compare_7cf53 18 = .ok (.iconst 1, 1) := by decide +kernel
theorem dJ6_compare_7cf53_19 : decode cJ6_compare_7cf53 19 = .ok (.ireturn, 1) := by decide +kernel
theorem dJ9_max_7cf53_0 : decode cJ9_max_7cf53 0 = .ok (.iload_n 0, 1) := by decide +kernel
theorem dJ9_max_7cf53_1 : decode cJ9_max_7cf53 1 = .ok (.iload_n 1, 1) := by decide +kernel
theorem dJ9_max_7cf53_2 : decode cJ9_max_7cf53 2 = .ok (.if_icmp .lt 7, 3) := by decide +kernel
theorem dJ9_max_7cf53_5 : decode cJ9_max_7cf53 5 = .ok (.iload_n 0, 1) := by decide +kernel
theorem dJ9_max_7cf53_6 : decode cJ9_max_7cf53 6 = .ok (.goto 4, 3) := by decide +kernel
theorem dJ9_max_7cf53_9 : decode cJ9_max_7cf53 9 = .ok (.iload_n 1, 1) := by decide +kernel
theorem dJ9_max_7cf53_10 : decode cJ9_max_7cf53 10 = .ok (.ireturn, 1) := by decide +kernel
theorem dJ9_min_7cf53_0 : decode cJ9_min_7cf53 0 = .ok (.iload_n 0, 1) := by decide +kernel
theorem dJ9_min_7cf53_1 : decode cJ9_min_7cf53 1 = .ok (.iload_n 1, 1) := by decide +kernel
theorem dJ9_min_7cf53_2 : decode cJ9_min_7cf53 2 = .ok (.if_icmp .gt 7, 3) := by decide +kernel
theorem dJ9_min_7cf53_5 : decode cJ9_min_7cf53 5 = .ok (.iload_n 0, 1) := by decide +kernel
theorem dJ9_min_7cf53_6 : decode cJ9_min_7cf53 6 = .ok (.goto 4, 3) := by decide +kernel
theorem dJ9_min_7cf53_9 : decode cJ9_min_7cf53 9 = .ok (.iload_n 1, 1) := by decide +kernel
theorem dJ9_min_7cf53_10 : decode cJ9_min_7cf53 10 = .ok (.ireturn, 1) := by decide +kernel
theorem dJ0_length_8abf5_0 : decode cJ0_length_8abf5 0 = .ok (.aload_n 0, 1) := by decide +kernel
theorem dJ0_length_8abf5_1 : decode cJ0_length_8abf5 1 = .ok (.getfield 9, 3) := by decide +kernel
theorem dJ0_length_8abf5_4 : decode cJ0_length_8abf5 4 = .ok (.arraylength, 1) := by decide +kernel
theorem dJ0_length_8abf5_5 : decode cJ0_length_8abf5 5 = .ok (.aload_n 0, 1) := by decide +kernel
theorem dJ0_length_8abf5_6 : decode cJ0_length_8abf5 6 = .ok (.invokevirtual 335, 3) := by decide +kernel
theorem dJ0_length_8abf5_9 : decode cJ0_length_8abf5 9 = .ok (.ishr, 1) := by decide +kernel
theorem dJ0_length_8abf5_10 : decode cJ0_length_8abf5 10 = .ok (.ireturn, 1) := by decide +kernel
theorem dJ0_charAt_5068e_0 : decode cJ0_charAt_5068e 0 = .ok (.aload_n 0, 1) := by decide +kernel
theorem dJ0_charAt_5068e_1 : decode cJ0_charAt_5068e 1 = .ok (.invokevirtual 492, 3) := by decide +kernel
theorem dJ0_charAt_5068e_4 : decode cJ0_charAt_5068e 4 = .ok (.ifCond .eq 12, 3) := by decide +kernel
theorem dJ0_charAt_5068e_7 : decode cJ0_charAt_5068e 7 = .ok (.aload_n 0, 1) := by decide +kernel
theorem dJ0_charAt_5068e_8 : decode cJ0_charAt_5068e 8 = .ok (.getfield 9, 3) := by decide +kernel
theorem dJ0_charAt_5068e_11 : decode cJ0_charAt_5068e 11 = .ok (.iload_n 1, 1) := by decide +kernel
theorem dJ0_charAt_5068e_12 : decode cJ0_charAt_5068e 12 = .ok (.invokestatic 495, 3) := by decide +kernel
theorem dJ0_charAt_5068e_15 : decode cJ0_charAt_5068e 15 = .ok (.ireturn, 1) := by decide +kernel
theorem dJ0_charAt_5068e_16 : decode cJ0_charAt_5068e 16 = .ok (.aload_n 0, 1) := by decide +kernel
theorem dJ0_charAt_5068e_17 : decode cJ0_charAt_5068e 17 = .ok (.getfield 9, 3) := by decide +kernel
theorem dJ0_charAt_5068e_20 : decode cJ0_charAt_5068e 20 = .ok (.iload_n 1, 1) := by decide +kernel
theorem dJ0_charAt_5068e_21 : decode cJ0_charAt_5068e 21 = .ok (.invokestatic 498, 3) := by decide +kernel
theorem dJ0_charAt_5068e_24 : decode cJ0_charAt_5068e 24 = .ok (.ireturn, 1) := by decide +kernel
theorem dJ0_coder_7d493_0 : decode cJ0_coder_7d493 0 = .ok (.getstatic 38, 3) := by decide +kernel
theorem dJ0_coder_7d493_3 : decode cJ0_coder_7d493 3 = .ok (.ifCond .eq 10, 3) := by decide +kernel
theorem dJ0_coder_7d493_6 : decode cJ0_coder_7d493 6 = .ok (.aload_n 0, 1) := by decide +kernel
theorem dJ0_coder_7d493_7 : decode cJ0_coder_7d493 7 = .ok (.getfield 15, 3) := by decide +kernel
theorem dJ0_coder_7d493_10 : decode cJ0_coder_7d493 10 = .ok (.goto 4, 3) := by decide +kernel
theorem dJ0_coder_7d493_13 : decode cJ0_coder_7d493 13 = .ok (.iconst 1, 1) := by decide +kernel
theorem dJ0_coder_7d493_14 : decode cJ0_coder_7d493 14 = .ok (.ireturn, 1) := by decide +kernel
theorem dJ0_isLatin1_aae02_0 : decode cJ0_isLatin1_aae02 0 = .ok (.getstatic 38, 3) := by decide +kernel
theorem dJ0_isLatin1_aae02_3 : decode cJ0_isLatin1_aae02 3 = .ok (.ifCond .eq 14, 3) := by decide +kernel
theorem dJ0_isLatin1_aae02_6 : decode cJ0_isLatin1_aae02 6 = .ok (.aload_n 0, 1) := by decide +kernel
theorem dJ0_isLatin1_aae02_7 : decode cJ0_isLatin1_aae02 7 = .ok (.getfield 15, 3) := by decide +kernel
theorem dJ0_isLatin1_aae02_10 : decode cJ0_isLatin1_aae02 10 = .ok (.ifCond .ne 7, 3) := by decide +kernel
theorem dJ0_isLatin1_aae02_13 : decode cJ0_isLatin1_aae02 13 = .ok (.iconst 1, 1) := by decide +kernel
theorem dJ0_isLatin1_aae02_14 : decode cJ0_isLatin1_aae02 14 = .ok (.goto 4, 3) := by decide +kernel
theorem dJ0_isLatin1_aae02_17 : decode cJ0_isLatin1_aae02 17 = .ok (.iconst 0, 1) := by decide +kernel
theorem dJ0_isLatin1_aae02_18 : decode cJ0_isLatin1_aae02 18 = .ok (.ireturn, 1) := by decide +kernel
theorem dJ0_checkIndex_df160_0 : decode cJ0_checkIndex_df160 0 = .ok (.iload_n 0, 1) := by decide +kernel
theorem dJ0_checkIndex_df160_1 : decode cJ0_checkIndex_df160 1 = .ok (.iload_n 1, 1) := by decide +kernel
theorem dJ0_checkIndex_df160_2 : decode cJ0_checkIndex_df160 2 = .ok (.getstatic 1053, 3) := by decide +kernel
theorem dJ0_checkIndex_df160_5 : decode cJ0_checkIndex_df160 5 = .ok (.invokestatic 1059, 3) := by decide +kernel
theorem dJ0_checkIndex_df160_8 : decode cJ0_checkIndex_df160 8 = .ok (.pop, 1) := by decide +kernel
theorem dJ0_checkIndex_df160_9 : decode cJ0_checkIndex_df160 9 = .ok (.return_, 1) := by decide +kernel
theorem dJ1_charAt_3b067_0 : decode cJ1_charAt_3b067 0 = .ok (.iload_n 1, 1) := by decide +kernel
theorem dJ1_charAt_3b067_1 : decode cJ1_charAt_3b067 1 = .ok (.aload_n 0, 1) := by decide +kernel
theorem dJ1_charAt_3b067_2 : decode cJ1_charAt_3b067 2 = .ok (.arraylength, 1) := by decide +kernel
theorem dJ1_charAt_3b067_3 : decode cJ1_charAt_3b067 3 = .ok (.invokestatic 9, 3) := by decide +kernel
theorem dJ1_charAt_3b067_6 : decode cJ1_charAt_3b067 6 = .ok (.aload_n 0, 1) := by decide +kernel
theorem dJ1_charAt_3b067_7 : decode cJ1_charAt_3b067 7 = .ok (.iload_n 1, 1) := by decide +kernel
theorem dJ1_charAt_3b067_8 : decode cJ1_charAt_3b067 8 = .ok (.baload, 1) := by decide +kernel
theorem dJ1_charAt_3b067_9 : decode cJ1_charAt_3b067 9 = .ok (.sipush 255, 3) := by decide +kernel
theorem dJ1_charAt_3b067_12 : decode cJ1_charAt_3b067 12 = .ok (.iand, 1) := by decide +kernel
theorem dJ1_charAt_3b067_13 : decode cJ1_charAt_3b067 13 = .ok (.i2c, 1) := by decide +kernel
theorem dJ1_charAt_3b067_14 : decode cJ1_charAt_3b067 14 = .ok (.ireturn, 1) := by decide +kernel
theorem dJ2_getChar_3b067_0 : decode cJ2_getChar_3b067 0 = .ok (.getstatic 44, 3) := by decide +kernel
theorem dJ2_getChar_3b067_3 : decode cJ2_getChar_3b067 3 = .ok (.ifCond .ne 25, 3) := by decide +kernel
theorem dJ2_getChar_3b067_6 : decode cJ2_getChar_3b067 6 = .ok (.iload_n 1, 1) := by decide +kernel
theorem dJ2_getChar_3b067_7 : decode cJ2_getChar_3b067 7 = .ok (.ifCond .lt 11, 3) := by decide +kernel
theorem dJ2_getChar_3b067_10 : decode cJ2_getChar_3b067 10 = .ok (.iload_n 1, 1) := by decide +kernel
theorem dJ2_getChar_3b067_11 : decode cJ2_getChar_3b067 11 = .ok (.aload_n 0, 1) := by decide +kernel
theorem dJ2_getChar_3b067_12 : decode cJ2_getChar_3b067 12 = .ok (.invokestatic 48, 3) := by decide +kernel
theorem dJ2_getChar_3b067_15 : decode cJ2_getChar_3b067 15 = .ok (.if_icmp .lt 13, 3) := by decide +kernel
theorem dJ2_getChar_3b067_18 : decode cJ2_getChar_3b067 18 = .ok (.new 52, 3) := by decide +kernel
theorem dJ2_getChar_3b067_21 : decode cJ2_getChar_3b067 21 = .ok (.dup, 1) := by decide +kernel
theorem dJ2_getChar_3b067_22 : decode cJ2_getChar_3b067 22 = .ok (.ldc 54, 2) := by decide +kernel
theorem dJ2_getChar_3b067_24 : decode cJ2_getChar_3b067 24 = .ok (.invokespecial 56, 3) := by decide +kernel
theorem dJ2_getChar_3b067_27 : decode cJ2_getChar_3b067 27 = .ok (.athrow, 1) := by decide +kernel
theorem dJ2_getChar_3b067_28 : decode cJ2_getChar_3b067 28 = .ok (.iload_n 1, 1) := by decide +kernel
theorem dJ2_getChar_3b067_29 : decode cJ2_getChar_3b067 29 = .ok (.iconst 1, 1) := by decide +kernel
theorem dJ2_getChar_3b067_30 : decode cJ2_getChar_3b067 30 = .ok (.ishl, 1) := by decide +kernel
theorem dJ2_getChar_3b067_31 : decode cJ2_getChar_3b067 31 = .ok (.istore_n 1, 1) := by decide +kernel
theorem dJ2_getChar_3b067_32 : decode cJ2_getChar_3b067 32 = .ok (.aload_n 0, 1) := by decide +kernel
theorem dJ2_getChar_3b067_33 : decode cJ2_getChar_3b067 33 = .ok (.iload_n 1, 1) := by decide +kernel
theorem dJ2_getChar_3b067_34 : decode cJ2_getChar_3b067 34 = .ok (.iinc 1 1, 3) := by decide +kernel
theorem dJ2_getChar_3b067_37 : decode cJ2_getChar_3b067 37 = .ok (.baload, 1) := by decide +kernel
theorem dJ2_getChar_3b067_38 : decode cJ2_getChar_3b067 38 = .ok (.sipush 255, 3) := by decide +kernel
theorem dJ2_getChar_3b067_41 : decode cJ2_getChar_3b067 41 = .ok (.iand, 1) := by decide +kernel
theorem dJ2_getChar_3b067_42 : decode cJ2_getChar_3b067 42 = .ok (.getstatic 59, 3) := by decide +kernel
theorem dJ2_getChar_3b067_45 : decode cJ2_getChar_3b067 45 = .ok (.ishl, 1) := by decide +kernel
theorem dJ2_getChar_3b067_46 : decode cJ2_getChar_3b067 46 = .ok (.aload_n 0, 1) := by decide +kernel
theorem dJ2_getChar_3b067_47 : decode cJ2_getChar_3b067 47 = .ok (.iload_n 1, 1) := by decide +kernel
theorem dJ2_getChar_3b067_48 : decode cJ2_getChar_3b067 48 = .ok (.baload, 1) := by decide +kernel
theorem dJ2_getChar_3b067_49 : decode cJ2_getChar_3b067 49 = .ok (.sipush 255, 3) := by decide +kernel
theorem dJ2_getChar_3b067_52 : decode cJ2_getChar_3b067 52 = .ok (.iand, 1) := by decide +kernel
theorem dJ2_getChar_3b067_53 : decode cJ2_getChar_3b067 53 = .ok (.getstatic 63, 3) := by decide +kernel
theorem dJ2_getChar_3b067_56 : decode cJ2_getChar_3b067 56 = .ok (.ishl, 1) := by decide +kernel
theorem dJ2_getChar_3b067_57 : decode cJ2_getChar_3b067 57 = .ok (.ior, 1) := by decide +kernel
theorem dJ2_getChar_3b067_58 : decode cJ2_getChar_3b067 58 = .ok (.i2c, 1) := by decide +kernel
theorem dJ2_getChar_3b067_59 : decode cJ2_getChar_3b067 59 = .ok (.ireturn, 1) := by decide +kernel
theorem dJ2_length_9d52b_0 : decode cJ2_length_9d52b 0 = .ok (.aload_n 0, 1) := by decide +kernel
theorem dJ2_length_9d52b_1 : decode cJ2_length_9d52b 1 = .ok (.arraylength, 1) := by decide +kernel
theorem dJ2_length_9d52b_2 : decode cJ2_length_9d52b 2 = .ok (.iconst 1, 1) := by decide +kernel
theorem dJ2_length_9d52b_3 : decode cJ2_length_9d52b 3 = .ok (.ishr, 1) := by decide +kernel
theorem dJ2_length_9d52b_4 : decode cJ2_length_9d52b 4 = .ok (.ireturn, 1) := by decide +kernel
theorem dJ2_charAt_3b067_0 : decode cJ2_charAt_3b067 0 = .ok (.iload_n 1, 1) := by decide +kernel
theorem dJ2_charAt_3b067_1 : decode cJ2_charAt_3b067 1 = .ok (.aload_n 0, 1) := by decide +kernel
theorem dJ2_charAt_3b067_2 : decode cJ2_charAt_3b067 2 = .ok (.invokestatic 67, 3) := by decide +kernel
theorem dJ2_charAt_3b067_5 : decode cJ2_charAt_3b067 5 = .ok (.aload_n 0, 1) := by decide +kernel
theorem dJ2_charAt_3b067_6 : decode cJ2_charAt_3b067 6 = .ok (.iload_n 1, 1) := by decide +kernel
theorem dJ2_charAt_3b067_7 : decode cJ2_charAt_3b067 7 = .ok (.invokestatic 71, 3) := by decide +kernel
theorem dJ2_charAt_3b067_10 : decode cJ2_charAt_3b067 10 = .ok (.ireturn, 1) := by decide +kernel
theorem dJ2_checkIndex_2214a_0 : decode cJ2_checkIndex_2214a 0 = .ok (.iload_n 0, 1) := by decide +kernel
theorem dJ2_checkIndex_2214a_1 : decode cJ2_checkIndex_2214a 1 = .ok (.aload_n 1, 1) := by decide +kernel
theorem dJ2_checkIndex_2214a_2 : decode cJ2_checkIndex_2214a 2 = .ok (.invokestatic 48, 3) := by decide +kernel
theorem dJ2_checkIndex_2214a_5 : decode cJ2_checkIndex_2214a 5 = .ok (.invokestatic 414, 3) := by decide +kernel
theorem dJ2_checkIndex_2214a_8 : decode cJ2_checkIndex_2214a 8 = .ok (.return_, 1) := by decide +kernel
theorem dJ3_checkIndex_8e157_0 : decode cJ3_checkIndex_8e157 0 = .ok (.iload_n 0, 1) := by decide +kernel
theorem dJ3_checkIndex_8e157_1 : decode cJ3_checkIndex_8e157 1 = .ok (.ifCond .lt 8, 3) := by decide +kernel
theorem dJ3_checkIndex_8e157_4 : decode cJ3_checkIndex_8e157 4 = .ok (.iload_n 0, 1) := by decide +kernel
theorem dJ3_checkIndex_8e157_5 : decode cJ3_checkIndex_8e157 5 = .ok (.iload_n 1, 1) := by decide +kernel
theorem dJ3_checkIndex_8e157_6 : decode cJ3_checkIndex_8e157 6 = .ok (.if_icmp .lt 10, 3) := by decide +kernel
theorem dJ3_checkIndex_8e157_9 : decode cJ3_checkIndex_8e157 9 = .ok (.aload_n 2, 1) := by decide +kernel
theorem dJ3_checkIndex_8e157_10 : decode cJ3_checkIndex_8e157 10 = .ok (.iload_n 0, 1) := by decide +kernel
theorem dJ3_checkIndex_8e157_11 : decode cJ3_checkIndex_8e157 11 = .ok (.iload_n 1, 1) := by decide +kernel
theorem dJ3_checkIndex_8e157_12 : decode cJ3_checkIndex_8e157 12 = .ok (.invokestatic 95, 3) := by decide +kernel
theorem dJ3_checkIndex_8e157_15 : decode cJ3_checkIndex_8e157 15 = .ok (.athrow, 1) := by decide +kernel
theorem dJ3_checkIndex_8e157_16 : decode cJ3_checkIndex_8e157 16 = .ok (.iload_n 0, 1) := by decide +kernel
theorem dJ3_checkIndex_8e157_17 : decode cJ3_checkIndex_8e157 17 = .ok (.ireturn, 1) := by decide +kernel
