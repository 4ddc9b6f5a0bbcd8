theorem dX9_init_0 : decode cX9_init 0 = .ok (.aload_n 0, 1) := by decide +kernel
theorem dX9_init_1 : decode cX9_init 1 = .ok (.invokespecial 3, 3) := by decide +kernel
theorem dX9_init_4 : decode cX9_init 4 = .ok (.aload_n 0, 1) := by decide +kernel
theorem dX9_init_5 : decode cX9_init 5 = .ok (.new 9, 3) := by decide +kernel
theorem dX9_init_8 : decode cX9_init 8 = .ok (.dup, 1) := by decide +kernel
theorem dX9_init_9 : decode cX9_init 9 = .ok (.invokespecial 11, 3) := by decide +kernel
theorem dX9_init_12 : decode cX9_init 12 = .ok (.putfield 12, 3) := by decide +kernel
theorem dX9_init_15 : decode cX9_init 15 = .ok (.aload_n 0, 1) := by decide +kernel
theorem dX9_init_16 : decode cX9_init 16 = .ok (.new 16, 3) := by decide +kernel
theorem dX9_init_19 : decode cX9_init 19 = .ok (.dup, 1) := by decide +kernel
theorem dX9_init_20 : decode cX9_init 20 = .ok (.invokespecial 18, 3) := by decide +kernel
theorem dX9_init_23 : decode cX9_init 23 = .ok (.putfield 19, 3) := by decide +kernel
theorem dX9_init_26 : decode cX9_init 26 = .ok (.aload_n 0, 1) := by decide +kernel
theorem dX9_init_27 : decode cX9_init 27 = .ok (.new 23, 3) := by decide +kernel
theorem dX9_init_30 : decode cX9_init 30 = .ok (.dup, 1) := by decide +kernel
theorem dX9_init_31 : decode cX9_init 31 = .ok (.invokespecial 25, 3) := by decide +kernel
theorem dX9_init_34 : decode cX9_init 34 = .ok (.putfield 26, 3) := by decide +kernel
theorem dX9_init_37 : decode cX9_init 37 = .ok (.aload_n 0, 1) := by decide +kernel
theorem dX9_init_38 : decode cX9_init 38 = .ok (.new 30, 3) := by decide +kernel
theorem dX9_init_41 : decode cX9_init 41 = .ok (.dup, 1) := by decide +kernel
theorem dX9_init_42 : decode cX9_init 42 = .ok (.invokespecial 32, 3) := by decide +kernel
theorem dX9_init_45 : decode cX9_init 45 = .ok (.putfield 33, 3) := by decide +kernel
theorem dX9_init_48 : decode cX9_init 48 = .ok (.aload_n 0, 1) := by decide +kernel
theorem dX9_init_49 : decode cX9_init 49 = .ok (.sipush 1200, 3) := by decide +kernel
theorem dX9_init_52 : decode cX9_init 52 = .ok (.newarray .int, 2) := by decide +kernel
theorem dX9_init_54 : decode cX9_init 54 = .ok (.putfield 37, 3) := by decide +kernel
theorem dX9_init_57 : decode cX9_init 57 = .ok (.aload_n 0, 1) := by decide +kernel
theorem dX9_init_58 : decode cX9_init 58 = .ok (.iconst 0, 1) := by decide +kernel
theorem dX9_init_59 : decode cX9_init 59 = .ok (.putfield 41, 3) := by decide +kernel
theorem dX9_init_62 : decode cX9_init 62 = .ok (.return_, 1) := by decide +kernel
theorem dX9_status_0 : decode cX9_status 0 = .ok (.aload_n 0, 1) := by decide +kernel
theorem dX9_status_1 : decode cX9_status 1 = .ok (.getfield 41, 3) := by decide +kernel
theorem dX9_status_4 : decode cX9_status 4 = .ok (.ireturn, 1) := by decide +kernel
theorem dX9_feed_0 : decode cX9_feed 0 = .ok (.aload_n 0, 1) := by decide +kernel
theorem dX9_feed_1 : decode cX9_feed 1 = .ok (.getfield 12, 3) := by decide +kernel
theorem dX9_feed_4 : decode cX9_feed 4 = .ok (.iload_n 1, 1) := by decide +kernel
theorem dX9_feed_5 : decode cX9_feed 5 = .ok (.iload_n 2, 1) := by decide +kernel
theorem dX9_feed_6 : decode cX9_feed 6 = .ok (.iload_n 3, 1) := by decide +kernel
theorem dX9_feed_7 : decode cX9_feed 7 = .ok (.iload 4, 2) := by decide +kernel
theorem dX9_feed_9 : decode cX9_feed 9 = .ok (.iload 5, 2) := by decide +kernel
theorem dX9_feed_11 : decode cX9_feed 11 = .ok (.invokevirtual 45, 3) := by decide +kernel
theorem dX9_feed_14 : decode cX9_feed 14 = .ok (.ireturn, 1) := by decide +kernel
theorem dX9_load_0 : decode cX9_load 0 = .ok (.iload_n 1, 1) := by decide +kernel
theorem dX9_load_1 : decode cX9_load 1 = .ok (.ifCond .lt 14, 3) := by decide +kernel
theorem dX9_load_4 : decode cX9_load 4 = .ok (.iload_n 1, 1) := by decide +kernel
theorem dX9_load_5 : decode cX9_load 5 = .ok (.aload_n 0, 1) := by decide +kernel
theorem dX9_load_6 : decode cX9_load 6 = .ok (.getfield 12, 3) := by decide +kernel
theorem dX9_load_9 : decode cX9_load 9 = .ok (.getfield 49, 3) := by decide +kernel
theorem dX9_load_12 : decode cX9_load 12 = .ok (.if_icmp .le 9, 3) := by decide +kernel
theorem dX9_load_15 : decode cX9_load 15 = .ok (.aload_n 0, 1) := by decide +kernel
theorem dX9_load_16 : decode cX9_load 16 = .ok (.iconst 1, 1) := by decide +kernel
theorem dX9_load_17 : decode cX9_load 17 = .ok (.invokevirtual 52, 3) := by decide +kernel
theorem dX9_load_20 : decode cX9_load 20 = .ok (.ireturn, 1) := by decide +kernel
theorem dX9_load_21 : decode cX9_load 21 = .ok (.aload_n 0, 1) := by decide +kernel
theorem dX9_load_22 : decode cX9_load 22 = .ok (.getfield 12, 3) := by decide +kernel
theorem dX9_load_25 : decode cX9_load 25 = .ok (.iload_n 1, 1) := by decide +kernel
theorem dX9_load_26 : decode cX9_load 26 = .ok (.invokevirtual 56, 3) := by decide +kernel
theorem dX9_load_29 : decode cX9_load 29 = .ok (.ifCond .ne 10, 3) := by decide +kernel
theorem dX9_load_32 : decode cX9_load 32 = .ok (.aload_n 0, 1) := by decide +kernel
theorem dX9_load_33 : decode cX9_load 33 = .ok (.bipush 9, 2) := by decide +kernel
theorem dX9_load_35 : decode cX9_load 35 = .ok (.invokevirtual 52, 3) := by decide +kernel
theorem dX9_load_38 : decode cX9_load 38 = .ok (.ireturn, 1) := by decide +kernel
theorem dX9_load_39 : decode cX9_load 39 = .ok (.aload_n 0, 1) := by decide +kernel
theorem dX9_load_40 : decode cX9_load 40 = .ok (.getfield 19, 3) := by decide +kernel
theorem dX9_load_43 : decode cX9_load 43 = .ok (.aload_n 0, 1) := by decide +kernel
theorem dX9_load_44 : decode cX9_load 44 = .ok (.getfield 12, 3) := by decide +kernel
theorem dX9_load_47 : decode cX9_load 47 = .ok (.invokevirtual 60, 3) := by decide +kernel
theorem dX9_load_50 : decode cX9_load 50 = .ok (.aload_n 0, 1) := by decide +kernel
theorem dX9_load_51 : decode cX9_load 51 = .ok (.aload_n 0, 1) := by decide +kernel
theorem dX9_load_52 : decode cX9_load 52 = .ok (.getfield 19, 3) := by decide +kernel
theorem dX9_load_55 : decode cX9_load 55 = .ok (.getfield 64, 3) := by decide +kernel
theorem dX9_load_58 : decode cX9_load 58 = .ok (.invokevirtual 67, 3) := by decide +kernel
theorem dX9_load_61 : decode cX9_load 61 = .ok (.ireturn, 1) := by decide +kernel
theorem dX9_fault_0 : decode cX9_fault 0 = .ok (.iload_n 1, 1) := by decide +kernel
theorem dX9_fault_1 : decode cX9_fault 1 = .ok (.ifCond .ne 11, 3) := by decide +kernel
theorem dX9_fault_4 : decode cX9_fault 4 = .ok (.aload_n 0, 1) := by decide +kernel
theorem dX9_fault_5 : decode cX9_fault 5 = .ok (.getfield 12, 3) := by decide +kernel
theorem dX9_fault_8 : decode cX9_fault 8 = .ok (.getfield 70, 3) := by decide +kernel
theorem dX9_fault_11 : decode cX9_fault 11 = .ok (.ireturn, 1) := by decide +kernel
theorem dX9_fault_12 : decode cX9_fault 12 = .ok (.iload_n 1, 1) := by decide +kernel
theorem dX9_fault_13 : decode cX9_fault 13 = .ok (.iconst 1, 1) := by decide +kernel
theorem dX9_fault_14 : decode cX9_fault 14 = .ok (.if_icmp .ne 13, 3) := by decide +kernel
theorem dX9_fault_17 : decode cX9_fault 17 = .ok (.aload_n 0, 1) := by decide +kernel
theorem dX9_fault_18 : decode cX9_fault 18 = .ok (.getfield 12, 3) := by decide +kernel
theorem dX9_fault_21 : decode cX9_fault 21 = .ok (.getfield 73, 3) := by decide +kernel
theorem dX9_fault_24 : decode cX9_fault 24 = .ok (.goto 4, 3) := by decide +kernel
theorem dX9_fault_27 : decode cX9_fault 27 = .ok (.iconst (-1), 1) := by decide +kernel
theorem dX9_fault_28 : decode cX9_fault 28 = .ok (.ireturn, 1) := by decide +kernel
theorem dX9_many_0 : decode cX9_many 0 = .ok (.iload_n 1, 1) := by decide +kernel
theorem dX9_many_1 : decode cX9_many 1 = .ok (.iconst 0, 1) := by decide +kernel
theorem dX9_many_2 : decode cX9_many 2 = .ok (.iconst 2, 1) := by decide +kernel
theorem dX9_many_3 : decode cX9_many 3 = .ok (.invokestatic 76, 3) := by decide +kernel
theorem dX9_many_6 : decode cX9_many 6 = .ok (.ifCond .ne 9, 3) := by decide +kernel
theorem dX9_many_9 : decode cX9_many 9 = .ok (.aload_n 0, 1) := by decide +kernel
theorem dX9_many_10 : decode cX9_many 10 = .ok (.iconst 1, 1) := by decide +kernel
theorem dX9_many_11 : decode cX9_many 11 = .ok (.invokevirtual 52, 3) := by decide +kernel
theorem dX9_many_14 : decode cX9_many 14 = .ok (.ireturn, 1) := by decide +kernel
theorem dX9_many_15 : decode cX9_many 15 = .ok (.iload_n 1, 1) := by decide +kernel
theorem dX9_many_16 : decode cX9_many 16 = .ok (.ifCond .ne 15, 3) := by decide +kernel
theorem dX9_many_19 : decode cX9_many 19 = .ok (.aload_n 0, 1) := by decide +kernel
theorem dX9_many_20 : decode cX9_many 20 = .ok (.aload_n 0, 1) := by decide +kernel
theorem dX9_many_21 : decode cX9_many 21 = .ok (.getfield 19, 3) := by decide +kernel
theorem dX9_many_24 : decode cX9_many 24 = .ok (.getfield 64, 3) := by decide +kernel
theorem dX9_many_27 : decode cX9_many 27 = .ok (.invokevirtual 67, 3) := by decide +kernel
theorem dX9_many_30 : decode cX9_many 30 = .ok (.ireturn, 1) := by decide +kernel
theorem dX9_many_31 : decode cX9_many 31 = .ok (.aload_n 0, 1) := by decide +kernel
theorem dX9_many_32 : decode cX9_many 32 = .ok (.iload_n 1, 1) := by decide +kernel
theorem dX9_many_33 : decode cX9_many 33 = .ok (.iconst 1, 1) := by decide +kernel
theorem dX9_many_34 : decode cX9_many 34 = .ok (.if_icmp .ne 13, 3) := by decide +kernel
theorem dX9_many_37 : decode cX9_many 37 = .ok (.aload_n 0, 1) := by decide +kernel
theorem dX9_many_38 : decode cX9_many 38 = .ok (.getfield 19, 3) := by decide +kernel
theorem dX9_many_41 : decode cX9_many 41 = .ok (.getfield 80, 3) := by decide +kernel
theorem dX9_many_44 : decode cX9_many 44 = .ok (.goto 10, 3) := by decide +kernel
theorem dX9_many_47 : decode cX9_many 47 = .ok (.aload_n 0, 1) := by decide +kernel
theorem dX9_many_48 : decode cX9_many 48 = .ok (.getfield 19, 3) := by decide +kernel
theorem dX9_many_51 : decode cX9_many 51 = .ok (.getfield 83, 3) := by decide +kernel
theorem dX9_many_54 : decode cX9_many 54 = .ok (.invokevirtual 67, 3) := by decide +kernel
theorem dX9_many_57 : decode cX9_many 57 = .ok (.ireturn, 1) := by decide +kernel
theorem dX9_sieve_0 : decode cX9_sieve 0 = .ok (.iload_n 2, 1) := by decide +kernel
theorem dX9_sieve_1 : decode cX9_sieve 1 = .ok (.iconst 0, 1) := by decide +kernel
theorem dX9_sieve_2 : decode cX9_sieve 2 = .ok (.bipush 7, 2) := by decide +kernel
theorem dX9_sieve_4 : decode cX9_sieve 4 = .ok (.invokestatic 76, 3) := by decide +kernel
theorem dX9_sieve_7 : decode cX9_sieve 7 = .ok (.ifCond .ne 9, 3) := by decide +kernel
theorem dX9_sieve_10 : decode cX9_sieve 10 = .ok (.aload_n 0, 1) := by decide +kernel
theorem dX9_sieve_11 : decode cX9_sieve 11 = .ok (.iconst 1, 1) := by decide +kernel
theorem dX9_sieve_12 : decode cX9_sieve 12 = .ok (.invokevirtual 52, 3) := by decide +kernel
theorem dX9_sieve_15 : decode cX9_sieve 15 = .ok (.ireturn, 1) := by decide +kernel
theorem dX9_sieve_16 : decode cX9_sieve 16 = .ok (.aload_n 0, 1) := by decide +kernel
theorem dX9_sieve_17 : decode cX9_sieve 17 = .ok (.getfield 19, 3) := by decide +kernel
theorem dX9_sieve_20 : decode cX9_sieve 20 = .ok (.iload_n 1, 1) := by decide +kernel
theorem dX9_sieve_21 : decode cX9_sieve 21 = .ok (.invokevirtual 86, 3) := by decide +kernel
theorem dX9_sieve_24 : decode cX9_sieve 24 = .ok (.astore_n 3, 1) := by decide +kernel
theorem dX9_sieve_25 : decode cX9_sieve 25 = .ok (.aload_n 3, 1) := by decide +kernel
theorem dX9_sieve_26 : decode cX9_sieve 26 = .ok (.ifnonnull 9, 3) := by decide +kernel
theorem dX9_sieve_29 : decode cX9_sieve 29 = .ok (.aload_n 0, 1) := by decide +kernel
theorem dX9_sieve_30 : decode cX9_sieve 30 = .ok (.iconst 2, 1) := by decide +kernel
theorem dX9_sieve_31 : decode cX9_sieve 31 = .ok (.invokevirtual 52, 3) := by decide +kernel
theorem dX9_sieve_34 : decode cX9_sieve 34 = .ok (.ireturn, 1) := by decide +kernel
theorem dX9_sieve_35 : decode cX9_sieve 35 = .ok (.aload_n 0, 1) := by decide +kernel
theorem dX9_sieve_36 : decode cX9_sieve 36 = .ok (.aload_n 3, 1) := by decide +kernel
theorem dX9_sieve_37 : decode cX9_sieve 37 = .ok (.iload_n 2, 1) := by decide +kernel
theorem dX9_sieve_38 : decode cX9_sieve 38 = .ok (.invokevirtual 90, 3) := by decide +kernel
theorem dX9_sieve_41 : decode cX9_sieve 41 = .ok (.invokevirtual 67, 3) := by decide +kernel
theorem dX9_sieve_44 : decode cX9_sieve 44 = .ok (.ireturn, 1) := by decide +kernel
theorem dX9_round_0 : decode cX9_round 0 = .ok (.aload_n 0, 1) := by decide +kernel
theorem dX9_round_1 : decode cX9_round 1 = .ok (.getfield 19, 3) := by decide +kernel
theorem dX9_round_4 : decode cX9_round 4 = .ok (.iload_n 1, 1) := by decide +kernel
theorem dX9_round_5 : decode cX9_round 5 = .ok (.invokevirtual 86, 3) := by decide +kernel
theorem dX9_round_8 : decode cX9_round 8 = .ok (.astore_n 2, 1) := by decide +kernel
theorem dX9_round_9 : decode cX9_round 9 = .ok (.aload_n 2, 1) := by decide +kernel
theorem dX9_round_10 : decode cX9_round 10 = .ok (.ifnonnull 9, 3) := by decide +kernel
theorem dX9_round_13 : decode cX9_round 13 = .ok (.aload_n 0, 1) := by decide +kernel
theorem dX9_round_14 : decode cX9_round 14 = .ok (.iconst 2, 1) := by decide +kernel
theorem dX9_round_15 : decode cX9_round 15 = .ok (.invokevirtual 52, 3) := by decide +kernel
theorem dX9_round_18 : decode cX9_round 18 = .ok (.ireturn, 1) := by decide +kernel
theorem dX9_round_19 : decode cX9_round 19 = .ok (.aload_n 2, 1) := by decide +kernel
theorem dX9_round_20 : decode cX9_round 20 = .ok (.invokevirtual 93, 3) := by decide +kernel
theorem dX9_round_23 : decode cX9_round 23 = .ok (.istore_n 3, 1) := by decide +kernel
theorem dX9_round_24 : decode cX9_round 24 = .ok (.iload_n 3, 1) := by decide +kernel
theorem dX9_round_25 : decode cX9_round 25 = .ok (.iconst (-1), 1) := by decide +kernel
theorem dX9_round_26 : decode cX9_round 26 = .ok (.if_icmp .ne 9, 3) := by decide +kernel
theorem dX9_round_29 : decode cX9_round 29 = .ok (.aload_n 0, 1) := by decide +kernel
theorem dX9_round_30 : decode cX9_round 30 = .ok (.iconst 5, 1) := by decide +kernel
theorem dX9_round_31 : decode cX9_round 31 = .ok (.invokevirtual 52, 3) := by decide +kernel
theorem dX9_round_34 : decode cX9_round 34 = .ok (.ireturn, 1) := by decide +kernel
theorem dX9_round_35 : decode cX9_round 35 = .ok (.aload_n 0, 1) := by decide +kernel
theorem dX9_round_36 : decode cX9_round 36 = .ok (.getfield 19, 3) := by decide +kernel
theorem dX9_round_39 : decode cX9_round 39 = .ok (.iconst 0, 1) := by decide +kernel
theorem dX9_round_40 : decode cX9_round 40 = .ok (.iload_n 1, 1) := by decide +kernel
theorem dX9_round_41 : decode cX9_round 41 = .ok (.invokevirtual 97, 3) := by decide +kernel
theorem dX9_round_44 : decode cX9_round 44 = .ok (.aload_n 0, 1) := by decide +kernel
theorem dX9_round_45 : decode cX9_round 45 = .ok (.aload_n 2, 1) := by decide +kernel
theorem dX9_round_46 : decode cX9_round 46 = .ok (.iload_n 3, 1) := by decide +kernel
theorem dX9_round_47 : decode cX9_round 47 = .ok (.invokevirtual 101, 3) := by decide +kernel
theorem dX9_round_50 : decode cX9_round 50 = .ok (.invokevirtual 67, 3) := by decide +kernel
theorem dX9_round_53 : decode cX9_round 53 = .ok (.ireturn, 1) := by decide +kernel
theorem dX9_all_0 : decode cX9_all 0 = .ok (.aload_n 0, 1) := by decide +kernel
theorem dX9_all_1 : decode cX9_all 1 = .ok (.getfield 19, 3) := by decide +kernel
theorem dX9_all_4 : decode cX9_all 4 = .ok (.iload_n 1, 1) := by decide +kernel
theorem dX9_all_5 : decode cX9_all 5 = .ok (.invokevirtual 86, 3) := by decide +kernel
theorem dX9_all_8 : decode cX9_all 8 = .ok (.astore_n 2, 1) := by decide +kernel
theorem dX9_all_9 : decode cX9_all 9 = .ok (.aload_n 2, 1) := by decide +kernel
theorem dX9_all_10 : decode cX9_all 10 = .ok (.ifnonnull 9, 3) := by decide +kernel
theorem dX9_all_13 : decode cX9_all 13 = .ok (.aload_n 0, 1) := by decide +kernel
theorem dX9_all_14 : decode cX9_all 14 = .ok (.iconst 2, 1) := by decide +kernel
theorem dX9_all_15 : decode cX9_all 15 = .ok (.invokevirtual 52, 3) := by decide +kernel
theorem dX9_all_18 : decode cX9_all 18 = .ok (.ireturn, 1) := by decide +kernel
theorem dX9_all_19 : decode cX9_all 19 = .ok (.aload_n 2, 1) := by decide +kernel
theorem dX9_all_20 : decode cX9_all 20 = .ok (.invokevirtual 93, 3) := by decide +kernel
theorem dX9_all_23 : decode cX9_all 23 = .ok (.iconst (-1), 1) := by decide +kernel
theorem dX9_all_24 : decode cX9_all 24 = .ok (.if_icmp .ne 9, 3) := by decide +kernel
theorem dX9_all_27 : decode cX9_all 27 = .ok (.aload_n 0, 1) := by decide +kernel
theorem dX9_all_28 : decode cX9_all 28 = .ok (.iconst 5, 1) := by decide +kernel
theorem dX9_all_29 : decode cX9_all 29 = .ok (.invokevirtual 52, 3) := by decide +kernel
theorem dX9_all_32 : decode cX9_all 32 = .ok (.ireturn, 1) := by decide +kernel
theorem dX9_all_33 : decode cX9_all 33 = .ok (.aload_n 0, 1) := by decide +kernel
theorem dX9_all_34 : decode cX9_all 34 = .ok (.getfield 19, 3) := by decide +kernel
theorem dX9_all_37 : decode cX9_all 37 = .ok (.iconst 0, 1) := by decide +kernel
theorem dX9_all_38 : decode cX9_all 38 = .ok (.iload_n 1, 1) := by decide +kernel
theorem dX9_all_39 : decode cX9_all 39 = .ok (.invokevirtual 97, 3) := by decide +kernel
theorem dX9_all_42 : decode cX9_all 42 = .ok (.aload_n 0, 1) := by decide +kernel
theorem dX9_all_43 : decode cX9_all 43 = .ok (.aload_n 2, 1) := by decide +kernel
theorem dX9_all_44 : decode cX9_all 44 = .ok (.sipush 600, 3) := by decide +kernel
theorem dX9_all_47 : decode cX9_all 47 = .ok (.invokevirtual 104, 3) := by decide +kernel
theorem dX9_all_50 : decode cX9_all 50 = .ok (.invokevirtual 67, 3) := by decide +kernel
theorem dX9_all_53 : decode cX9_all 53 = .ok (.ireturn, 1) := by decide +kernel
theorem dX9_told_0 : decode cX9_told 0 = .ok (.iload_n 2, 1) := by decide +kernel
theorem dX9_told_1 : decode cX9_told 1 = .ok (.iconst 1, 1) := by decide +kernel
theorem dX9_told_2 : decode cX9_told 2 = .ok (.if_icmp .lt 12, 3) := by decide +kernel
theorem dX9_told_5 : decode cX9_told 5 = .ok (.iload_n 3, 1) := by decide +kernel
theorem dX9_told_6 : decode cX9_told 6 = .ok (.iconst 0, 1) := by decide +kernel
theorem dX9_told_7 : decode cX9_told 7 = .ok (.iconst 3, 1) := by decide +kernel
theorem dX9_told_8 : decode cX9_told 8 = .ok (.invokestatic 76, 3) := by decide +kernel
theorem dX9_told_11 : decode cX9_told 11 = .ok (.ifCond .ne 9, 3) := by decide +kernel
theorem dX9_told_14 : decode cX9_told 14 = .ok (.aload_n 0, 1) := by decide +kernel
theorem dX9_told_15 : decode cX9_told 15 = .ok (.iconst 1, 1) := by decide +kernel
theorem dX9_told_16 : decode cX9_told 16 = .ok (.invokevirtual 52, 3) := by decide +kernel
theorem dX9_told_19 : decode cX9_told 19 = .ok (.ireturn, 1) := by decide +kernel
theorem dX9_told_20 : decode cX9_told 20 = .ok (.aload_n 0, 1) := by decide +kernel
theorem dX9_told_21 : decode cX9_told 21 = .ok (.getfield 19, 3) := by decide +kernel
theorem dX9_told_24 : decode cX9_told 24 = .ok (.iload_n 1, 1) := by decide +kernel
theorem dX9_told_25 : decode cX9_told 25 = .ok (.invokevirtual 86, 3) := by decide +kernel
theorem dX9_told_28 : decode cX9_told 28 = .ok (.astore 4, 2) := by decide +kernel
theorem dX9_told_30 : decode cX9_told 30 = .ok (.aload 4, 2) := by decide +kernel
theorem dX9_told_32 : decode cX9_told 32 = .ok (.ifnonnull 9, 3) := by decide +kernel
theorem dX9_told_35 : decode cX9_told 35 = .ok (.aload_n 0, 1) := by decide +kernel
theorem dX9_told_36 : decode cX9_told 36 = .ok (.iconst 2, 1) := by decide +kernel
theorem dX9_told_37 : decode cX9_told 37 = .ok (.invokevirtual 52, 3) := by decide +kernel
theorem dX9_told_40 : decode cX9_told 40 = .ok (.ireturn, 1) := by decide +kernel
theorem dX9_told_41 : decode cX9_told 41 = .ok (.aload_n 0, 1) := by decide +kernel
theorem dX9_told_42 : decode cX9_told 42 = .ok (.aload 4, 2) := by decide +kernel
theorem dX9_told_44 : decode cX9_told 44 = .ok (.iload_n 2, 1) := by decide +kernel
theorem dX9_told_45 : decode cX9_told 45 = .ok (.iload_n 3, 1) := by decide +kernel
theorem dX9_told_46 : decode cX9_told 46 = .ok (.invokestatic 107, 3) := by decide +kernel
theorem dX9_told_49 : decode cX9_told 49 = .ok (.invokevirtual 113, 3) := by decide +kernel
theorem dX9_told_52 : decode cX9_told 52 = .ok (.ireturn, 1) := by decide +kernel
theorem dX9_strike_0 : decode cX9_strike 0 = .ok (.aload_n 0, 1) := by decide +kernel
theorem dX9_strike_1 : decode cX9_strike 1 = .ok (.getfield 19, 3) := by decide +kernel
theorem dX9_strike_4 : decode cX9_strike 4 = .ok (.iload_n 1, 1) := by decide +kernel
theorem dX9_strike_5 : decode cX9_strike 5 = .ok (.invokevirtual 86, 3) := by decide +kernel
theorem dX9_strike_8 : decode cX9_strike 8 = .ok (.astore_n 3, 1) := by decide +kernel
theorem dX9_strike_9 : decode cX9_strike 9 = .ok (.aload_n 3, 1) := by decide +kernel
theorem dX9_strike_10 : decode cX9_strike 10 = .ok (.ifnonnull 9, 3) := by decide +kernel
theorem dX9_strike_13 : decode cX9_strike 13 = .ok (.aload_n 0, 1) := by decide +kernel
theorem dX9_strike_14 : decode cX9_strike 14 = .ok (.iconst 2, 1) := by decide +kernel
theorem dX9_strike_15 : decode cX9_strike 15 = .ok (.invokevirtual 52, 3) := by decide +kernel
theorem dX9_strike_18 : decode cX9_strike 18 = .ok (.ireturn, 1) := by decide +kernel
theorem dX9_strike_19 : decode cX9_strike 19 = .ok (.aload_n 3, 1) := by decide +kernel
theorem dX9_strike_20 : decode cX9_strike 20 = .ok (.iload_n 2, 1) := by decide +kernel
theorem dX9_strike_21 : decode cX9_strike 21 = .ok (.invokevirtual 116, 3) := by decide +kernel
theorem dX9_strike_24 : decode cX9_strike 24 = .ok (.istore 4, 2) := by decide +kernel
theorem dX9_strike_26 : decode cX9_strike 26 = .ok (.iload 4, 2) := by decide +kernel
theorem dX9_strike_28 : decode cX9_strike 28 = .ok (.iconst (-1), 1) := by decide +kernel
theorem dX9_strike_29 : decode cX9_strike 29 = .ok (.if_icmp .eq 11, 3) := by decide +kernel
theorem dX9_strike_32 : decode cX9_strike 32 = .ok (.aload_n 3, 1) := by decide +kernel
theorem dX9_strike_33 : decode cX9_strike 33 = .ok (.getfield 119, 3) := by decide +kernel
theorem dX9_strike_36 : decode cX9_strike 36 = .ok (.iconst 2, 1) := by decide +kernel
theorem dX9_strike_37 : decode cX9_strike 37 = .ok (.if_icmp .ge 9, 3) := by decide +kernel
theorem dX9_strike_40 : decode cX9_strike 40 = .ok (.aload_n 0, 1) := by decide +kernel
theorem dX9_strike_41 : decode cX9_strike 41 = .ok (.iconst 5, 1) := by decide +kernel
theorem dX9_strike_42 : decode cX9_strike 42 = .ok (.invokevirtual 52, 3) := by decide +kernel
theorem dX9_strike_45 : decode cX9_strike 45 = .ok (.ireturn, 1) := by decide +kernel
theorem dX9_strike_46 : decode cX9_strike 46 = .ok (.aload_n 0, 1) := by decide +kernel
theorem dX9_strike_47 : decode cX9_strike 47 = .ok (.getfield 19, 3) := by decide +kernel
theorem dX9_strike_50 : decode cX9_strike 50 = .ok (.iconst 0, 1) := by decide +kernel
theorem dX9_strike_51 : decode cX9_strike 51 = .ok (.iload_n 1, 1) := by decide +kernel
theorem dX9_strike_52 : decode cX9_strike 52 = .ok (.invokevirtual 97, 3) := by decide +kernel
theorem dX9_strike_55 : decode cX9_strike 55 = .ok (.aload_n 3, 1) := by decide +kernel
theorem dX9_strike_56 : decode cX9_strike 56 = .ok (.iload_n 2, 1) := by decide +kernel
theorem dX9_strike_57 : decode cX9_strike 57 = .ok (.invokevirtual 122, 3) := by decide +kernel
theorem dX9_strike_60 : decode cX9_strike 60 = .ok (.aload_n 0, 1) := by decide +kernel
theorem dX9_strike_61 : decode cX9_strike 61 = .ok (.iload 4, 2) := by decide +kernel
theorem dX9_strike_63 : decode cX9_strike 63 = .ok (.invokevirtual 67, 3) := by decide +kernel
theorem dX9_strike_66 : decode cX9_strike 66 = .ok (.ireturn, 1) := by decide +kernel
theorem dX9_number_0 : decode cX9_number 0 = .ok (.iload_n 2, 1) := by decide +kernel
theorem dX9_number_1 : decode cX9_number 1 = .ok (.iconst 1, 1) := by decide +kernel
theorem dX9_number_2 : decode cX9_number 2 = .ok (.if_icmp .ge 9, 3) := by decide +kernel
theorem dX9_number_5 : decode cX9_number 5 = .ok (.aload_n 0, 1) := by decide +kernel
theorem dX9_number_6 : decode cX9_number 6 = .ok (.iconst 1, 1) := by decide +kernel
theorem dX9_number_7 : decode cX9_number 7 = .ok (.invokevirtual 52, 3) := by decide +kernel
theorem dX9_number_10 : decode cX9_number 10 = .ok (.ireturn, 1) := by decide +kernel
theorem dX9_number_11 : decode cX9_number 11 = .ok (.aload_n 0, 1) := by decide +kernel
theorem dX9_number_12 : decode cX9_number 12 = .ok (.getfield 19, 3) := by decide +kernel
theorem dX9_number_15 : decode cX9_number 15 = .ok (.iload_n 1, 1) := by decide +kernel
theorem dX9_number_16 : decode cX9_number 16 = .ok (.invokevirtual 86, 3) := by decide +kernel
theorem dX9_number_19 : decode cX9_number 19 = .ok (.astore_n 3, 1) := by decide +kernel
theorem dX9_number_20 : decode cX9_number 20 = .ok (.aload_n 3, 1) := by decide +kernel
theorem dX9_number_21 : decode cX9_number 21 = .ok (.ifnonnull 9, 3) := by decide +kernel
theorem dX9_number_24 : decode cX9_number 24 = .ok (.aload_n 0, 1) := by decide +kernel
theorem dX9_number_25 : decode cX9_number 25 = .ok (.iconst 2, 1) := by decide +kernel
theorem dX9_number_26 : decode cX9_number 26 = .ok (.invokevirtual 52, 3) := by decide +kernel
theorem dX9_number_29 : decode cX9_number 29 = .ok (.ireturn, 1) := by decide +kernel
theorem dX9_number_30 : decode cX9_number 30 = .ok (.aload_n 0, 1) := by decide +kernel
theorem dX9_number_31 : decode cX9_number 31 = .ok (.aload_n 3, 1) := by decide +kernel
theorem dX9_number_32 : decode cX9_number 32 = .ok (.iload_n 2, 1) := by decide +kernel
theorem dX9_number_33 : decode cX9_number 33 = .ok (.invokevirtual 146, 3) := by decide +kernel
theorem dX9_number_36 : decode cX9_number 36 = .ok (.invokevirtual 113, 3) := by decide +kernel
theorem dX9_number_39 : decode cX9_number 39 = .ok (.ireturn, 1) := by decide +kernel
theorem dX9_rank_0 : decode cX9_rank 0 = .ok (.aload_n 0, 1) := by decide +kernel
theorem dX9_rank_1 : decode cX9_rank 1 = .ok (.getfield 19, 3) := by decide +kernel
theorem dX9_rank_4 : decode cX9_rank 4 = .ok (.iload_n 1, 1) := by decide +kernel
theorem dX9_rank_5 : decode cX9_rank 5 = .ok (.invokevirtual 86, 3) := by decide +kernel
theorem dX9_rank_8 : decode cX9_rank 8 = .ok (.astore_n 3, 1) := by decide +kernel
theorem dX9_rank_9 : decode cX9_rank 9 = .ok (.aload_n 3, 1) := by decide +kernel
theorem dX9_rank_10 : decode cX9_rank 10 = .ok (.ifnonnull 9, 3) := by decide +kernel
theorem dX9_rank_13 : decode cX9_rank 13 = .ok (.aload_n 0, 1) := by decide +kernel
theorem dX9_rank_14 : decode cX9_rank 14 = .ok (.iconst 2, 1) := by decide +kernel
theorem dX9_rank_15 : decode cX9_rank 15 = .ok (.invokevirtual 52, 3) := by decide +kernel
theorem dX9_rank_18 : decode cX9_rank 18 = .ok (.ireturn, 1) := by decide +kernel
theorem dX9_rank_19 : decode cX9_rank 19 = .ok (.aload_n 0, 1) := by decide +kernel
theorem dX9_rank_20 : decode cX9_rank 20 = .ok (.aload_n 3, 1) := by decide +kernel
theorem dX9_rank_21 : decode cX9_rank 21 = .ok (.iload_n 2, 1) := by decide +kernel
theorem dX9_rank_22 : decode cX9_rank 22 = .ok (.invokevirtual 116, 3) := by decide +kernel
theorem dX9_rank_25 : decode cX9_rank 25 = .ok (.invokevirtual 113, 3) := by decide +kernel
theorem dX9_rank_28 : decode cX9_rank 28 = .ok (.ireturn, 1) := by decide +kernel
theorem dX9_fate_0 : decode cX9_fate 0 = .ok (.iload_n 3, 1) := by decide +kernel
theorem dX9_fate_1 : decode cX9_fate 1 = .ok (.iconst 0, 1) := by decide +kernel
theorem dX9_fate_2 : decode cX9_fate 2 = .ok (.iconst 1, 1) := by decide +kernel
theorem dX9_fate_3 : decode cX9_fate 3 = .ok (.invokestatic 76, 3) := by decide +kernel
theorem dX9_fate_6 : decode cX9_fate 6 = .ok (.ifCond .ne 9, 3) := by decide +kernel
theorem dX9_fate_9 : decode cX9_fate 9 = .ok (.aload_n 0, 1) := by decide +kernel
theorem dX9_fate_10 : decode cX9_fate 10 = .ok (.iconst 1, 1) := by decide +kernel
theorem dX9_fate_11 : decode cX9_fate 11 = .ok (.invokevirtual 52, 3) := by decide +kernel
theorem dX9_fate_14 : decode cX9_fate 14 = .ok (.ireturn, 1) := by decide +kernel
theorem dX9_fate_15 : decode cX9_fate 15 = .ok (.aload_n 0, 1) := by decide +kernel
theorem dX9_fate_16 : decode cX9_fate 16 = .ok (.getfield 19, 3) := by decide +kernel
theorem dX9_fate_19 : decode cX9_fate 19 = .ok (.iload_n 1, 1) := by decide +kernel
theorem dX9_fate_20 : decode cX9_fate 20 = .ok (.invokevirtual 86, 3) := by decide +kernel
theorem dX9_fate_23 : decode cX9_fate 23 = .ok (.astore 4, 2) := by decide +kernel
theorem dX9_fate_25 : decode cX9_fate 25 = .ok (.aload 4, 2) := by decide +kernel
theorem dX9_fate_27 : decode cX9_fate 27 = .ok (.ifnonnull 9, 3) := by decide +kernel
theorem dX9_fate_30 : decode cX9_fate 30 = .ok (.aload_n 0, 1) := by decide +kernel
theorem dX9_fate_31 : decode cX9_fate 31 = .ok (.iconst 2, 1) := by decide +kernel
theorem dX9_fate_32 : decode cX9_fate 32 = .ok (.invokevirtual 52, 3) := by decide +kernel
theorem dX9_fate_35 : decode cX9_fate 35 = .ok (.ireturn, 1) := by decide +kernel
theorem dX9_fate_36 : decode cX9_fate 36 = .ok (.aload_n 0, 1) := by decide +kernel
theorem dX9_fate_37 : decode cX9_fate 37 = .ok (.aload 4, 2) := by decide +kernel
theorem dX9_fate_39 : decode cX9_fate 39 = .ok (.iload_n 2, 1) := by decide +kernel
theorem dX9_fate_40 : decode cX9_fate 40 = .ok (.iload_n 3, 1) := by decide +kernel
theorem dX9_fate_41 : decode cX9_fate 41 = .ok (.invokestatic 149, 3) := by decide +kernel
theorem dX9_fate_44 : decode cX9_fate 44 = .ok (.invokevirtual 113, 3) := by decide +kernel
theorem dX9_fate_47 : decode cX9_fate 47 = .ok (.ireturn, 1) := by decide +kernel
theorem dX9_back_0 : decode cX9_back 0 = .ok (.iload_n 2, 1) := by decide +kernel
theorem dX9_back_1 : decode cX9_back 1 = .ok (.iconst 1, 1) := by decide +kernel
theorem dX9_back_2 : decode cX9_back 2 = .ok (.if_icmp .lt 8, 3) := by decide +kernel
theorem dX9_back_5 : decode cX9_back 5 = .ok (.iload_n 3, 1) := by decide +kernel
theorem dX9_back_6 : decode cX9_back 6 = .ok (.iconst 1, 1) := by decide +kernel
theorem dX9_back_7 : decode cX9_back 7 = .ok (.if_icmp .ge 9, 3) := by decide +kernel
theorem dX9_back_10 : decode cX9_back 10 = .ok (.aload_n 0, 1) := by decide +kernel
theorem dX9_back_11 : decode cX9_back 11 = .ok (.iconst 1, 1) := by decide +kernel
theorem dX9_back_12 : decode cX9_back 12 = .ok (.invokevirtual 52, 3) := by decide +kernel
theorem dX9_back_15 : decode cX9_back 15 = .ok (.ireturn, 1) := by decide +kernel
theorem dX9_back_16 : decode cX9_back 16 = .ok (.aload_n 0, 1) := by decide +kernel
theorem dX9_back_17 : decode cX9_back 17 = .ok (.getfield 19, 3) := by decide +kernel
theorem dX9_back_20 : decode cX9_back 20 = .ok (.iload_n 1, 1) := by decide +kernel
theorem dX9_back_21 : decode cX9_back 21 = .ok (.invokevirtual 86, 3) := by decide +kernel
theorem dX9_back_24 : decode cX9_back 24 = .ok (.astore 4, 2) := by decide +kernel
theorem dX9_back_26 : decode cX9_back 26 = .ok (.aload 4, 2) := by decide +kernel
theorem dX9_back_28 : decode cX9_back 28 = .ok (.ifnonnull 9, 3) := by decide +kernel
theorem dX9_back_31 : decode cX9_back 31 = .ok (.aload_n 0, 1) := by decide +kernel
theorem dX9_back_32 : decode cX9_back 32 = .ok (.iconst 2, 1) := by decide +kernel
theorem dX9_back_33 : decode cX9_back 33 = .ok (.invokevirtual 52, 3) := by decide +kernel
theorem dX9_back_36 : decode cX9_back 36 = .ok (.ireturn, 1) := by decide +kernel
theorem dX9_back_37 : decode cX9_back 37 = .ok (.aload_n 0, 1) := by decide +kernel
theorem dX9_back_38 : decode cX9_back 38 = .ok (.aload 4, 2) := by decide +kernel
theorem dX9_back_40 : decode cX9_back 40 = .ok (.iload_n 2, 1) := by decide +kernel
theorem dX9_back_41 : decode cX9_back 41 = .ok (.iload_n 2, 1) := by decide +kernel
theorem dX9_back_42 : decode cX9_back 42 = .ok (.iload_n 3, 1) := by decide +kernel
theorem dX9_back_43 : decode cX9_back 43 = .ok (.invokestatic 152, 3) := by decide +kernel
theorem dX9_back_46 : decode cX9_back 46 = .ok (.invokevirtual 113, 3) := by decide +kernel
theorem dX9_back_49 : decode cX9_back 49 = .ok (.ireturn, 1) := by decide +kernel
theorem dX9_ahead_0 : decode cX9_ahead 0 = .ok (.iload_n 2, 1) := by decide +kernel
theorem dX9_ahead_1 : decode cX9_ahead 1 = .ok (.iconst 1, 1) := by decide +kernel
theorem dX9_ahead_2 : decode cX9_ahead 2 = .ok (.if_icmp .lt 8, 3) := by decide +kernel
theorem dX9_ahead_5 : decode cX9_ahead 5 = .ok (.iload_n 3, 1) := by decide +kernel
theorem dX9_ahead_6 : decode cX9_ahead 6 = .ok (.iconst 1, 1) := by decide +kernel
theorem dX9_ahead_7 : decode cX9_ahead 7 = .ok (.if_icmp .ge 9, 3) := by decide +kernel
theorem dX9_ahead_10 : decode cX9_ahead 10 = .ok (.aload_n 0, 1) := by decide +kernel
theorem dX9_ahead_11 : decode cX9_ahead 11 = .ok (.iconst 1, 1) := by decide +kernel
theorem dX9_ahead_12 : decode cX9_ahead 12 = .ok (.invokevirtual 52, 3) := by decide +kernel
theorem dX9_ahead_15 : decode cX9_ahead 15 = .ok (.ireturn, 1) := by decide +kernel
theorem dX9_ahead_16 : decode cX9_ahead 16 = .ok (.aload_n 0, 1) := by decide +kernel
theorem dX9_ahead_17 : decode cX9_ahead 17 = .ok (.getfield 19, 3) := by decide +kernel
theorem dX9_ahead_20 : decode cX9_ahead 20 = .ok (.iload_n 1, 1) := by decide +kernel
theorem dX9_ahead_21 : decode cX9_ahead 21 = .ok (.invokevirtual 86, 3) := by decide +kernel
theorem dX9_ahead_24 : decode cX9_ahead 24 = .ok (.astore 4, 2) := by decide +kernel
theorem dX9_ahead_26 : decode cX9_ahead 26 = .ok (.aload 4, 2) := by decide +kernel
theorem dX9_ahead_28 : decode cX9_ahead 28 = .ok (.ifnonnull 9, 3) := by decide +kernel
theorem dX9_ahead_31 : decode cX9_ahead 31 = .ok (.aload_n 0, 1) := by decide +kernel
theorem dX9_ahead_32 : decode cX9_ahead 32 = .ok (.iconst 2, 1) := by decide +kernel
theorem dX9_ahead_33 : decode cX9_ahead 33 = .ok (.invokevirtual 52, 3) := by decide +kernel
theorem dX9_ahead_36 : decode cX9_ahead 36 = .ok (.ireturn, 1) := by decide +kernel
theorem dX9_ahead_37 : decode cX9_ahead 37 = .ok (.aload_n 0, 1) := by decide +kernel
theorem dX9_ahead_38 : decode cX9_ahead 38 = .ok (.aload 4, 2) := by decide +kernel
theorem dX9_ahead_40 : decode cX9_ahead 40 = .ok (.iload_n 2, 1) := by decide +kernel
theorem dX9_ahead_41 : decode cX9_ahead 41 = .ok (.iload_n 3, 1) := by decide +kernel
theorem dX9_ahead_42 : decode cX9_ahead 42 = .ok (.invokestatic 156, 3) := by decide +kernel
theorem dX9_ahead_45 : decode cX9_ahead 45 = .ok (.invokevirtual 113, 3) := by decide +kernel
theorem dX9_ahead_48 : decode cX9_ahead 48 = .ok (.ireturn, 1) := by decide +kernel
theorem dX9_would_0 : decode cX9_would 0 = .ok (.iload_n 2, 1) := by decide +kernel
theorem dX9_would_1 : decode cX9_would 1 = .ok (.iconst 1, 1) := by decide +kernel
theorem dX9_would_2 : decode cX9_would 2 = .ok (.if_icmp .ge 9, 3) := by decide +kernel
theorem dX9_would_5 : decode cX9_would 5 = .ok (.aload_n 0, 1) := by decide +kernel
theorem dX9_would_6 : decode cX9_would 6 = .ok (.iconst 1, 1) := by decide +kernel
theorem dX9_would_7 : decode cX9_would 7 = .ok (.invokevirtual 52, 3) := by decide +kernel
theorem dX9_would_10 : decode cX9_would 10 = .ok (.ireturn, 1) := by decide +kernel
theorem dX9_would_11 : decode cX9_would 11 = .ok (.aload_n 0, 1) := by decide +kernel
theorem dX9_would_12 : decode cX9_would 12 = .ok (.getfield 19, 3) := by decide +kernel
theorem dX9_would_15 : decode cX9_would 15 = .ok (.iload_n 1, 1) := by decide +kernel
theorem dX9_would_16 : decode cX9_would 16 = .ok (.invokevirtual 86, 3) := by decide +kernel
theorem dX9_would_19 : decode cX9_would 19 = .ok (.astore_n 3, 1) := by decide +kernel
theorem dX9_would_20 : decode cX9_would 20 = .ok (.aload_n 3, 1) := by decide +kernel
theorem dX9_would_21 : decode cX9_would 21 = .ok (.ifnonnull 9, 3) := by decide +kernel
theorem dX9_would_24 : decode cX9_would 24 = .ok (.aload_n 0, 1) := by decide +kernel
theorem dX9_would_25 : decode cX9_would 25 = .ok (.iconst 2, 1) := by decide +kernel
theorem dX9_would_26 : decode cX9_would 26 = .ok (.invokevirtual 52, 3) := by decide +kernel
theorem dX9_would_29 : decode cX9_would 29 = .ok (.ireturn, 1) := by decide +kernel
theorem dX9_would_30 : decode cX9_would 30 = .ok (.aload_n 0, 1) := by decide +kernel
theorem dX9_would_31 : decode cX9_would 31 = .ok (.aload_n 3, 1) := by decide +kernel
theorem dX9_would_32 : decode cX9_would 32 = .ok (.invokevirtual 159, 3) := by decide +kernel
theorem dX9_would_35 : decode cX9_would 35 = .ok (.aload_n 0, 1) := by decide +kernel
theorem dX9_would_36 : decode cX9_would 36 = .ok (.aload_n 0, 1) := by decide +kernel
theorem dX9_would_37 : decode cX9_would 37 = .ok (.getfield 33, 3) := by decide +kernel
theorem dX9_would_40 : decode cX9_would 40 = .ok (.iload_n 2, 1) := by decide +kernel
theorem dX9_would_41 : decode cX9_would 41 = .ok (.invokevirtual 146, 3) := by decide +kernel
theorem dX9_would_44 : decode cX9_would 44 = .ok (.invokevirtual 113, 3) := by decide +kernel
theorem dX9_would_47 : decode cX9_would 47 = .ok (.ireturn, 1) := by decide +kernel
theorem dX9_gone_0 : decode cX9_gone 0 = .ok (.iload_n 2, 1) := by decide +kernel
theorem dX9_gone_1 : decode cX9_gone 1 = .ok (.iconst (-1), 1) := by decide +kernel
theorem dX9_gone_2 : decode cX9_gone 2 = .ok (.if_icmp .ge 9, 3) := by decide +kernel
theorem dX9_gone_5 : decode cX9_gone 5 = .ok (.aload_n 0, 1) := by decide +kernel
theorem dX9_gone_6 : decode cX9_gone 6 = .ok (.iconst 1, 1) := by decide +kernel
theorem dX9_gone_7 : decode cX9_gone 7 = .ok (.invokevirtual 52, 3) := by decide +kernel
theorem dX9_gone_10 : decode cX9_gone 10 = .ok (.ireturn, 1) := by decide +kernel
theorem dX9_gone_11 : decode cX9_gone 11 = .ok (.aload_n 0, 1) := by decide +kernel
theorem dX9_gone_12 : decode cX9_gone 12 = .ok (.getfield 19, 3) := by decide +kernel
theorem dX9_gone_15 : decode cX9_gone 15 = .ok (.iload_n 1, 1) := by decide +kernel
theorem dX9_gone_16 : decode cX9_gone 16 = .ok (.invokevirtual 86, 3) := by decide +kernel
theorem dX9_gone_19 : decode cX9_gone 19 = .ok (.astore_n 3, 1) := by decide +kernel
theorem dX9_gone_20 : decode cX9_gone 20 = .ok (.aload_n 3, 1) := by decide +kernel
theorem dX9_gone_21 : decode cX9_gone 21 = .ok (.ifnonnull 9, 3) := by decide +kernel
theorem dX9_gone_24 : decode cX9_gone 24 = .ok (.aload_n 0, 1) := by decide +kernel
theorem dX9_gone_25 : decode cX9_gone 25 = .ok (.iconst 2, 1) := by decide +kernel
theorem dX9_gone_26 : decode cX9_gone 26 = .ok (.invokevirtual 52, 3) := by decide +kernel
theorem dX9_gone_29 : decode cX9_gone 29 = .ok (.ireturn, 1) := by decide +kernel
theorem dX9_gone_30 : decode cX9_gone 30 = .ok (.iload_n 2, 1) := by decide +kernel
theorem dX9_gone_31 : decode cX9_gone 31 = .ok (.iconst (-1), 1) := by decide +kernel
theorem dX9_gone_32 : decode cX9_gone 32 = .ok (.if_icmp .ne 17, 3) := by decide +kernel
theorem dX9_gone_35 : decode cX9_gone 35 = .ok (.aload_n 0, 1) := by decide +kernel
theorem dX9_gone_36 : decode cX9_gone 36 = .ok (.aload_n 3, 1) := by decide +kernel
theorem dX9_gone_37 : decode cX9_gone 37 = .ok (.getfield 126, 3) := by decide +kernel
theorem dX9_gone_40 : decode cX9_gone 40 = .ok (.aload_n 3, 1) := by decide +kernel
theorem dX9_gone_41 : decode cX9_gone 41 = .ok (.getfield 119, 3) := by decide +kernel
theorem dX9_gone_44 : decode cX9_gone 44 = .ok (.isub, 1) := by decide +kernel
theorem dX9_gone_45 : decode cX9_gone 45 = .ok (.invokevirtual 67, 3) := by decide +kernel
theorem dX9_gone_48 : decode cX9_gone 48 = .ok (.ireturn, 1) := by decide +kernel
theorem dX9_gone_49 : decode cX9_gone 49 = .ok (.aload_n 0, 1) := by decide +kernel
theorem dX9_gone_50 : decode cX9_gone 50 = .ok (.aload_n 3, 1) := by decide +kernel
theorem dX9_gone_51 : decode cX9_gone 51 = .ok (.iload_n 2, 1) := by decide +kernel
theorem dX9_gone_52 : decode cX9_gone 52 = .ok (.invokestatic 175, 3) := by decide +kernel
theorem dX9_gone_55 : decode cX9_gone 55 = .ok (.invokevirtual 113, 3) := by decide +kernel
theorem dX9_gone_58 : decode cX9_gone 58 = .ok (.ireturn, 1) := by decide +kernel
theorem dX9_upTo_0 : decode cX9_upTo 0 = .ok (.aload_n 0, 1) := by decide +kernel
theorem dX9_upTo_1 : decode cX9_upTo 1 = .ok (.getfield 19, 3) := by decide +kernel
theorem dX9_upTo_4 : decode cX9_upTo 4 = .ok (.iload_n 1, 1) := by decide +kernel
theorem dX9_upTo_5 : decode cX9_upTo 5 = .ok (.invokevirtual 86, 3) := by decide +kernel
theorem dX9_upTo_8 : decode cX9_upTo 8 = .ok (.astore_n 3, 1) := by decide +kernel
theorem dX9_upTo_9 : decode cX9_upTo 9 = .ok (.aload_n 3, 1) := by decide +kernel
theorem dX9_upTo_10 : decode cX9_upTo 10 = .ok (.ifnonnull 9, 3) := by decide +kernel
theorem dX9_upTo_13 : decode cX9_upTo 13 = .ok (.aload_n 0, 1) := by decide +kernel
theorem dX9_upTo_14 : decode cX9_upTo 14 = .ok (.iconst 2, 1) := by decide +kernel
theorem dX9_upTo_15 : decode cX9_upTo 15 = .ok (.invokevirtual 52, 3) := by decide +kernel
theorem dX9_upTo_18 : decode cX9_upTo 18 = .ok (.ireturn, 1) := by decide +kernel
theorem dX9_upTo_19 : decode cX9_upTo 19 = .ok (.aload_n 0, 1) := by decide +kernel
theorem dX9_upTo_20 : decode cX9_upTo 20 = .ok (.aload_n 3, 1) := by decide +kernel
theorem dX9_upTo_21 : decode cX9_upTo 21 = .ok (.iload_n 2, 1) := by decide +kernel
theorem dX9_upTo_22 : decode cX9_upTo 22 = .ok (.invokevirtual 179, 3) := by decide +kernel
theorem dX9_upTo_25 : decode cX9_upTo 25 = .ok (.invokevirtual 67, 3) := by decide +kernel
theorem dX9_upTo_28 : decode cX9_upTo 28 = .ok (.ireturn, 1) := by decide +kernel
theorem dX9_balance_0 : decode cX9_balance 0 = .ok (.iload_n 2, 1) := by decide +kernel
theorem dX9_balance_1 : decode cX9_balance 1 = .ok (.iconst 1, 1) := by decide +kernel
theorem dX9_balance_2 : decode cX9_balance 2 = .ok (.if_icmp .ge 9, 3) := by decide +kernel
theorem dX9_balance_5 : decode cX9_balance 5 = .ok (.aload_n 0, 1) := by decide +kernel
theorem dX9_balance_6 : decode cX9_balance 6 = .ok (.iconst 1, 1) := by decide +kernel
theorem dX9_balance_7 : decode cX9_balance 7 = .ok (.invokevirtual 52, 3) := by decide +kernel
theorem dX9_balance_10 : decode cX9_balance 10 = .ok (.ireturn, 1) := by decide +kernel
theorem dX9_balance_11 : decode cX9_balance 11 = .ok (.aload_n 0, 1) := by decide +kernel
theorem dX9_balance_12 : decode cX9_balance 12 = .ok (.getfield 19, 3) := by decide +kernel
theorem dX9_balance_15 : decode cX9_balance 15 = .ok (.iload_n 1, 1) := by decide +kernel
theorem dX9_balance_16 : decode cX9_balance 16 = .ok (.invokevirtual 86, 3) := by decide +kernel
theorem dX9_balance_19 : decode cX9_balance 19 = .ok (.astore_n 3, 1) := by decide +kernel
theorem dX9_balance_20 : decode cX9_balance 20 = .ok (.aload_n 3, 1) := by decide +kernel
theorem dX9_balance_21 : decode cX9_balance 21 = .ok (.ifnonnull 9, 3) := by decide +kernel
theorem dX9_balance_24 : decode cX9_balance 24 = .ok (.aload_n 0, 1) := by decide +kernel
theorem dX9_balance_25 : decode cX9_balance 25 = .ok (.iconst 2, 1) := by decide +kernel
theorem dX9_balance_26 : decode cX9_balance 26 = .ok (.invokevirtual 52, 3) := by decide +kernel
theorem dX9_balance_29 : decode cX9_balance 29 = .ok (.ireturn, 1) := by decide +kernel
theorem dX9_balance_30 : decode cX9_balance 30 = .ok (.aload_n 3, 1) := by decide +kernel
theorem dX9_balance_31 : decode cX9_balance 31 = .ok (.iload_n 2, 1) := by decide +kernel
theorem dX9_balance_32 : decode cX9_balance 32 = .ok (.invokevirtual 146, 3) := by decide +kernel
theorem dX9_balance_35 : decode cX9_balance 35 = .ok (.istore 4, 2) := by decide +kernel
theorem dX9_balance_37 : decode cX9_balance 37 = .ok (.iload 4, 2) := by decide +kernel
theorem dX9_balance_39 : decode cX9_balance 39 = .ok (.iconst (-1), 1) := by decide +kernel
theorem dX9_balance_40 : decode cX9_balance 40 = .ok (.if_icmp .ne 9, 3) := by decide +kernel
theorem dX9_balance_43 : decode cX9_balance 43 = .ok (.aload_n 0, 1) := by decide +kernel
theorem dX9_balance_44 : decode cX9_balance 44 = .ok (.iconst 5, 1) := by decide +kernel
theorem dX9_balance_45 : decode cX9_balance 45 = .ok (.invokevirtual 52, 3) := by decide +kernel
theorem dX9_balance_48 : decode cX9_balance 48 = .ok (.ireturn, 1) := by decide +kernel
theorem dX9_balance_49 : decode cX9_balance 49 = .ok (.aload_n 0, 1) := by decide +kernel
theorem dX9_balance_50 : decode cX9_balance 50 = .ok (.iload 4, 2) := by decide +kernel
theorem dX9_balance_52 : decode cX9_balance 52 = .ok (.aload_n 3, 1) := by decide +kernel
theorem dX9_balance_53 : decode cX9_balance 53 = .ok (.iload_n 2, 1) := by decide +kernel
theorem dX9_balance_54 : decode cX9_balance 54 = .ok (.iconst 1, 1) := by decide +kernel
theorem dX9_balance_55 : decode cX9_balance 55 = .ok (.isub, 1) := by decide +kernel
theorem dX9_balance_56 : decode cX9_balance 56 = .ok (.invokevirtual 250, 3) := by decide +kernel
theorem dX9_balance_59 : decode cX9_balance 59 = .ok (.isub, 1) := by decide +kernel
theorem dX9_balance_60 : decode cX9_balance 60 = .ok (.invokevirtual 67, 3) := by decide +kernel
theorem dX9_balance_63 : decode cX9_balance 63 = .ok (.ireturn, 1) := by decide +kernel
theorem dX9_fail_0 : decode cX9_fail 0 = .ok (.aload_n 0, 1) := by decide +kernel
theorem dX9_fail_1 : decode cX9_fail 1 = .ok (.iload_n 1, 1) := by decide +kernel
theorem dX9_fail_2 : decode cX9_fail 2 = .ok (.putfield 41, 3) := by decide +kernel
theorem dX9_fail_5 : decode cX9_fail 5 = .ok (.iconst (-1), 1) := by decide +kernel
theorem dX9_fail_6 : decode cX9_fail 6 = .ok (.ireturn, 1) := by decide +kernel
theorem dX9_succeed_0 : decode cX9_succeed 0 = .ok (.aload_n 0, 1) := by decide +kernel
theorem dX9_succeed_1 : decode cX9_succeed 1 = .ok (.iconst 0, 1) := by decide +kernel
theorem dX9_succeed_2 : decode cX9_succeed 2 = .ok (.putfield 41, 3) := by decide +kernel
theorem dX9_succeed_5 : decode cX9_succeed 5 = .ok (.iload_n 1, 1) := by decide +kernel
theorem dX9_succeed_6 : decode cX9_succeed 6 = .ok (.ireturn, 1) := by decide +kernel
theorem dX9_answer_0 : decode cX9_answer 0 = .ok (.iload_n 1, 1) := by decide +kernel
theorem dX9_answer_1 : decode cX9_answer 1 = .ok (.iconst (-1), 1) := by decide +kernel
theorem dX9_answer_2 : decode cX9_answer 2 = .ok (.if_icmp .ne 11, 3) := by decide +kernel
theorem dX9_answer_5 : decode cX9_answer 5 = .ok (.aload_n 0, 1) := by decide +kernel
theorem dX9_answer_6 : decode cX9_answer 6 = .ok (.iconst 5, 1) := by decide +kernel
theorem dX9_answer_7 : decode cX9_answer 7 = .ok (.invokevirtual 52, 3) := by decide +kernel
theorem dX9_answer_10 : decode cX9_answer 10 = .ok (.goto 8, 3) := by decide +kernel
theorem dX9_answer_13 : decode cX9_answer 13 = .ok (.aload_n 0, 1) := by decide +kernel
theorem dX9_answer_14 : decode cX9_answer 14 = .ok (.iload_n 1, 1) := by decide +kernel
theorem dX9_answer_15 : decode cX9_answer 15 = .ok (.invokevirtual 67, 3) := by decide +kernel
theorem dX9_answer_18 : decode cX9_answer 18 = .ok (.ireturn, 1) := by decide +kernel
theorem dX9_finishTrial_0 : decode cX9_finishTrial 0 = .ok (.aload_n 0, 1) := by decide +kernel
theorem dX9_finishTrial_1 : decode cX9_finishTrial 1 = .ok (.getfield 33, 3) := by decide +kernel
theorem dX9_finishTrial_4 : decode cX9_finishTrial 4 = .ok (.aload_n 1, 1) := by decide +kernel
theorem dX9_finishTrial_5 : decode cX9_finishTrial 5 = .ok (.invokevirtual 163, 3) := by decide +kernel
theorem dX9_finishTrial_8 : decode cX9_finishTrial 8 = .ok (.aload_n 0, 1) := by decide +kernel
theorem dX9_finishTrial_9 : decode cX9_finishTrial 9 = .ok (.getfield 33, 3) := by decide +kernel
theorem dX9_finishTrial_12 : decode cX9_finishTrial 12 = .ok (.sipush 600, 3) := by decide +kernel
theorem dX9_finishTrial_15 : decode cX9_finishTrial 15 = .ok (.invokevirtual 104, 3) := by decide +kernel
theorem dX9_finishTrial_18 : decode cX9_finishTrial 18 = .ok (.pop, 1) := by decide +kernel
theorem dX9_finishTrial_19 : decode cX9_finishTrial 19 = .ok (.return_, 1) := by decide +kernel
theorem dX9_within_0 : decode cX9_within 0 = .ok (.iload_n 0, 1) := by decide +kernel
theorem dX9_within_1 : decode cX9_within 1 = .ok (.iload_n 1, 1) := by decide +kernel
theorem dX9_within_2 : decode cX9_within 2 = .ok (.if_icmp .lt 12, 3) := by decide +kernel
theorem dX9_within_5 : decode cX9_within 5 = .ok (.iload_n 0, 1) := by decide +kernel
theorem dX9_within_6 : decode cX9_within 6 = .ok (.iload_n 2, 1) := by decide +kernel
theorem dX9_within_7 : decode cX9_within 7 = .ok (.if_icmp .gt 7, 3) := by decide +kernel
theorem dX9_within_10 : decode cX9_within 10 = .ok (.iconst 1, 1) := by decide +kernel
theorem dX9_within_11 : decode cX9_within 11 = .ok (.goto 4, 3) := by decide +kernel
theorem dX9_within_14 : decode cX9_within 14 = .ok (.iconst 0, 1) := by decide +kernel
theorem dX9_within_15 : decode cX9_within 15 = .ok (.ireturn, 1) := by decide +kernel
theorem dX9_at_0 : decode cX9_at 0 = .ok (.iload_n 1, 1) := by decide +kernel
theorem dX9_at_1 : decode cX9_at 1 = .ok (.ifCond .lt 15, 3) := by decide +kernel
theorem dX9_at_4 : decode cX9_at 4 = .ok (.iload_n 1, 1) := by decide +kernel
theorem dX9_at_5 : decode cX9_at 5 = .ok (.aload_n 0, 1) := by decide +kernel
theorem dX9_at_6 : decode cX9_at 6 = .ok (.arraylength, 1) := by decide +kernel
theorem dX9_at_7 : decode cX9_at 7 = .ok (.if_icmp .ge 9, 3) := by decide +kernel
theorem dX9_at_10 : decode cX9_at 10 = .ok (.aload_n 0, 1) := by decide +kernel
theorem dX9_at_11 : decode cX9_at 11 = .ok (.iload_n 1, 1) := by decide +kernel
theorem dX9_at_12 : decode cX9_at 12 = .ok (.iaload, 1) := by decide +kernel
theorem dX9_at_13 : decode cX9_at 13 = .ok (.goto 4, 3) := by decide +kernel
theorem dX9_at_16 : decode cX9_at 16 = .ok (.iconst (-1), 1) := by decide +kernel
theorem dX9_at_17 : decode cX9_at 17 = .ok (.ireturn, 1) := by decide +kernel
theorem dX9_put_0 : decode cX9_put 0 = .ok (.iload_n 1, 1) := by decide +kernel
theorem dX9_put_1 : decode cX9_put 1 = .ok (.ifCond .lt 13, 3) := by decide +kernel
theorem dX9_put_4 : decode cX9_put 4 = .ok (.iload_n 1, 1) := by decide +kernel
theorem dX9_put_5 : decode cX9_put 5 = .ok (.aload_n 0, 1) := by decide +kernel
theorem dX9_put_6 : decode cX9_put 6 = .ok (.arraylength, 1) := by decide +kernel
theorem dX9_put_7 : decode cX9_put 7 = .ok (.if_icmp .ge 7, 3) := by decide +kernel
theorem dX9_put_10 : decode cX9_put 10 = .ok (.aload_n 0, 1) := by decide +kernel
theorem dX9_put_11 : decode cX9_put 11 = .ok (.iload_n 1, 1) := by decide +kernel
theorem dX9_put_12 : decode cX9_put 12 = .ok (.iload_n 2, 1) := by decide +kernel
theorem dX9_put_13 : decode cX9_put 13 = .ok (.iastore, 1) := by decide +kernel
theorem dX9_put_14 : decode cX9_put 14 = .ok (.return_, 1) := by decide +kernel
theorem dX9_copyCells_0 : decode cX9_copyCells 0 = .ok (.iconst 0, 1) := by decide +kernel
theorem dX9_copyCells_1 : decode cX9_copyCells 1 = .ok (.istore_n 2, 1) := by decide +kernel
theorem dX9_copyCells_2 : decode cX9_copyCells 2 = .ok (.iload_n 2, 1) := by decide +kernel
theorem dX9_copyCells_3 : decode cX9_copyCells 3 = .ok (.aload_n 0, 1) := by decide +kernel
theorem dX9_copyCells_4 : decode cX9_copyCells 4 = .ok (.arraylength, 1) := by decide +kernel
theorem dX9_copyCells_5 : decode cX9_copyCells 5 = .ok (.if_icmp .ge 21, 3) := by decide +kernel
theorem dX9_copyCells_8 : decode cX9_copyCells 8 = .ok (.iload_n 2, 1) := by decide +kernel
theorem dX9_copyCells_9 : decode cX9_copyCells 9 = .ok (.aload_n 1, 1) := by decide +kernel
theorem dX9_copyCells_10 : decode cX9_copyCells 10 = .ok (.arraylength, 1) := by decide +kernel
theorem dX9_copyCells_11 : decode cX9_copyCells 11 = .ok (.if_icmp .ge 15, 3) := by decide +kernel
theorem dX9_copyCells_14 : decode cX9_copyCells 14 = .ok (.aload_n 1, 1) := by decide +kernel
theorem dX9_copyCells_15 : decode cX9_copyCells 15 = .ok (.iload_n 2, 1) := by decide +kernel
theorem dX9_copyCells_16 : decode cX9_copyCells 16 = .ok (.aload_n 0, 1) := by decide +kernel
theorem dX9_copyCells_17 : decode cX9_copyCells 17 = .ok (.iload_n 2, 1) := by decide +kernel
theorem dX9_copyCells_18 : decode cX9_copyCells 18 = .ok (.iaload, 1) := by decide +kernel
theorem dX9_copyCells_19 : decode cX9_copyCells 19 = .ok (.iastore, 1) := by decide +kernel
theorem dX9_copyCells_20 : decode cX9_copyCells 20 = .ok (.iinc 2 1, 3) := by decide +kernel
theorem dX9_copyCells_23 : decode cX9_copyCells 23 = .ok (.goto (-21), 3) := by decide +kernel
theorem dX9_copyCells_26 : decode cX9_copyCells 26 = .ok (.return_, 1) := by decide +kernel
theorem dX9_remainder_0 : decode cX9_remainder 0 = .ok (.iload_n 1, 1) := by decide +kernel
theorem dX9_remainder_1 : decode cX9_remainder 1 = .ok (.ifCond .le 9, 3) := by decide +kernel
theorem dX9_remainder_4 : decode cX9_remainder 4 = .ok (.iload_n 0, 1) := by decide +kernel
theorem dX9_remainder_5 : decode cX9_remainder 5 = .ok (.iload_n 1, 1) := by decide +kernel
theorem dX9_remainder_6 : decode cX9_remainder 6 = .ok (.irem, 1) := by decide +kernel
theorem dX9_remainder_7 : decode cX9_remainder 7 = .ok (.goto 4, 3) := by decide +kernel
theorem dX9_remainder_10 : decode cX9_remainder 10 = .ok (.iconst (-1), 1) := by decide +kernel
theorem dX9_remainder_11 : decode cX9_remainder 11 = .ok (.ireturn, 1) := by decide +kernel
