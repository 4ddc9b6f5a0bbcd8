theorem dX9_init_0 : decode cX9_init 0 = .ok (.aload_n 0, 1) := by decide +kernel
theorem dX9_init_1 : decode cX9_init 1 = .ok (.invokespecial 3, 3) := by decide +kernel
theorem dX9_init_4 : decode cX9_init 4 = .ok (.aload_n 0, 1) := by decide +kernel
theorem dX9_init_5 : decode cX9_init 5 = .ok (.new 9, 3) := by decide +kernel
theorem dX9_init_8 : decode cX9_init 8 = .ok (.dup, 1) := by decide +kernel
theorem dX9_init_9 : decode cX9_init 9 = .ok (.invokespecial 11, 3) := by decide +kernel
theorem dX9_init_12 : decode cX9_init 12 = .ok (.putfield 12, 3) := by decide +kernel
theorem dX9_init_15 : decode cX9_init 15 = .ok (.aload_n 0, 1) := by decide +kernel
theorem dX9_init_16 : decode cX9_init 16 = .ok (.new 16, 3) := by decide +kernel
theorem dX9_init_19 : decode cX9_init 19 = .ok (.dup, 1) := by decide +kernel
theorem dX9_init_20 : decode cX9_init 20 = .ok (.invokespecial 18, 3) := by decide +kernel
theorem dX9_init_23 : decode cX9_init 23 = .ok (.putfield 19, 3) := by decide +kernel
theorem dX9_init_26 : decode cX9_init 26 = .ok (.aload_n 0, 1) := by decide +kernel
theorem dX9_init_27 : decode cX9_init 27 = .ok (.new 23, 3) := by decide +kernel
theorem dX9_init_30 : decode cX9_init 30 = .ok (.dup, 1) := by decide +kernel
theorem dX9_init_31 : decode cX9_init 31 = .ok (.invokespecial 25, 3) := by decide +kernel
theorem dX9_init_34 : decode cX9_init 34 = .ok (.putfield 26, 3) := by decide +kernel
theorem dX9_init_37 : decode cX9_init 37 = .ok (.aload_n 0, 1) := by decide +kernel
theorem dX9_init_38 : decode cX9_init 38 = .ok (.new 30, 3) := by decide +kernel
theorem dX9_init_41 : decode cX9_init 41 = .ok (.dup, 1) := by decide +kernel
theorem dX9_init_42 : decode cX9_init 42 = .ok (.invokespecial 32, 3) := by decide +kernel
theorem dX9_init_45 : decode cX9_init 45 = .ok (.putfield 33, 3) := by decide +kernel
theorem dX9_init_48 : decode cX9_init 48 = .ok (.aload_n 0, 1) := by decide +kernel
theorem dX9_init_49 : decode cX9_init 49 = .ok (.sipush 1200, 3) := by decide +kernel
theorem dX9_init_52 : decode cX9_init 52 = .ok (.newarray .int, 2) := by decide +kernel
theorem dX9_init_54 : decode cX9_init 54 = .ok (.putfield 37, 3) := by decide +kernel
theorem dX9_init_57 : decode cX9_init 57 = .ok (.aload_n 0, 1) := by decide +kernel
theorem dX9_init_58 : decode cX9_init 58 = .ok (.iconst 0, 1) := by decide +kernel
theorem dX9_init_59 : decode cX9_init 59 = .ok (.putfield 41, 3) := by decide +kernel
theorem dX9_init_62 : decode cX9_init 62 = .ok (.return_, 1) := by decide +kernel
theorem dX9_status_0 : decode cX9_status 0 = .ok (.aload_n 0, 1) := by decide +kernel
theorem dX9_status_1 : decode cX9_status 1 = .ok (.getfield 41, 3) := by decide +kernel
theorem dX9_status_4 : decode cX9_status 4 = .ok (.ireturn, 1) := by decide +kernel
theorem dX9_feed_0 : decode cX9_feed 0 = .ok (.aload_n 0, 1) := by decide +kernel
theorem dX9_feed_1 : decode cX9_feed 1 = .ok (.getfield 12, 3) := by decide +kernel
theorem dX9_feed_4 : decode cX9_feed 4 = .ok (.iload_n 1, 1) := by decide +kernel
theorem dX9_feed_5 : decode cX9_feed 5 = .ok (.iload_n 2, 1) := by decide +kernel
theorem dX9_feed_6 : decode cX9_feed 6 = .ok (.iload_n 3, 1) := by decide +kernel
theorem dX9_feed_7 : decode cX9_feed 7 = .ok (.iload 4, 2) := by decide +kernel
theorem dX9_feed_9 : decode cX9_feed 9 = .ok (.iload 5, 2) := by decide +kernel
theorem dX9_feed_11 : decode cX9_feed 11 = .ok (.invokevirtual 45, 3) := by decide +kernel
theorem dX9_feed_14 : decode cX9_feed 14 = .ok (.ireturn, 1) := by decide +kernel
theorem dX9_load_0 : decode cX9_load 0 = .ok (.iload_n 1, 1) := by decide +kernel
theorem dX9_load_1 : decode cX9_load 1 = .ok (.ifCond .lt 14, 3) := by decide +kernel
theorem dX9_load_4 : decode cX9_load 4 = .ok (.iload_n 1, 1) := by decide +kernel
theorem dX9_load_5 : decode cX9_load 5 = .ok (.aload_n 0, 1) := by decide +kernel
theorem dX9_load_6 : decode cX9_load 6 = .ok (.getfield 12, 3) := by decide +kernel
theorem dX9_load_9 : decode cX9_load 9 = .ok (.getfield 49, 3) := by decide +kernel
theorem dX9_load_12 : decode cX9_load 12 = .ok (.if_icmp .le 9, 3) := by decide +kernel
theorem dX9_load_15 : decode cX9_load 15 = .ok (.aload_n 0, 1) := by decide +kernel
theorem dX9_load_16 : decode cX9_load 16 = .ok (.iconst 1, 1) := by decide +kernel
theorem dX9_load_17 : decode cX9_load 17 = .ok (.invokevirtual 52, 3) := by decide +kernel
theorem dX9_load_20 : decode cX9_load 20 = .ok (.ireturn, 1) := by decide +kernel
theorem dX9_load_21 : decode cX9_load 21 = .ok (.aload_n 0, 1) := by decide +kernel
theorem dX9_load_22 : decode cX9_load 22 = .ok (.getfield 12, 3) := by decide +kernel
theorem dX9_load_25 : decode cX9_load 25 = .ok (.iload_n 1, 1) := by decide +kernel
theorem dX9_load_26 : decode cX9_load 26 = .ok (.invokevirtual 56, 3) := by decide +kernel
theorem dX9_load_29 : decode cX9_load 29 = .ok (.ifCond .ne 10, 3) := by decide +kernel
theorem dX9_load_32 : decode cX9_load 32 = .ok (.aload_n 0, 1) := by decide +kernel
theorem dX9_load_33 : decode cX9_load 33 = .ok (.bipush 9, 2) := by decide +kernel
theorem dX9_load_35 : decode cX9_load 35 = .ok (.invokevirtual 52, 3) := by decide +kernel
theorem dX9_load_38 : decode cX9_load 38 = .ok (.ireturn, 1) := by decide +kernel
theorem dX9_load_39 : decode cX9_load 39 = .ok (.aload_n 0, 1) := by decide +kernel
theorem dX9_load_40 : decode cX9_load 40 = .ok (.getfield 19, 3) := by decide +kernel
theorem dX9_load_43 : decode cX9_load 43 = .ok (.aload_n 0, 1) := by decide +kernel
theorem dX9_load_44 : decode cX9_load 44 = .ok (.getfield 12, 3) := by decide +kernel
theorem dX9_load_47 : decode cX9_load 47 = .ok (.invokevirtual 60, 3) := by decide +kernel
theorem dX9_load_50 : decode cX9_load 50 = .ok (.aload_n 0, 1) := by decide +kernel
theorem dX9_load_51 : decode cX9_load 51 = .ok (.aload_n 0, 1) := by decide +kernel
theorem dX9_load_52 : decode cX9_load 52 = .ok (.getfield 19, 3) := by decide +kernel
theorem dX9_load_55 : decode cX9_load 55 = .ok (.getfield 64, 3) := by decide +kernel
theorem dX9_load_58 : decode cX9_load 58 = .ok (.invokevirtual 67, 3) := by decide +kernel
theorem dX9_load_61 : decode cX9_load 61 = .ok (.ireturn, 1) := by decide +kernel
theorem dX9_fault_0 : decode cX9_fault 0 = .ok (.iload_n 1, 1) := by decide +kernel
theorem dX9_fault_1 : decode cX9_fault 1 = .ok (.ifCond .ne 11, 3) := by decide +kernel
theorem dX9_fault_4 : decode cX9_fault 4 = .ok (.aload_n 0, 1) := by decide +kernel
theorem dX9_fault_5 : decode cX9_fault 5 = .ok (.getfield 12, 3) := by decide +kernel
theorem dX9_fault_8 : decode cX9_fault 8 = .ok (.getfield 70, 3) := by decide +kernel
theorem dX9_fault_11 : decode cX9_fault 11 = .ok (.ireturn, 1) := by decide +kernel
theorem dX9_fault_12 : decode cX9_fault 12 = .ok (.iload_n 1, 1) := by decide +kernel
theorem dX9_fault_13 : decode cX9_fault 13 = .ok (.iconst 1, 1) := by decide +kernel
theorem dX9_fault_14 : decode cX9_fault 14 = .ok (.if_icmp .ne 13, 3) := by decide +kernel
theorem dX9_fault_17 : decode cX9_fault 17 = .ok (.aload_n 0, 1) := by decide +kernel
theorem dX9_fault_18 : decode cX9_fault 18 = .ok (.getfield 12, 3) := by decide +kernel
theorem dX9_fault_21 : decode cX9_fault 21 = .ok (.getfield 73, 3) := by decide +kernel
theorem dX9_fault_24 : decode cX9_fault 24 = .ok (.goto 4, 3) := by decide +kernel
theorem dX9_fault_27 : decode cX9_fault 27 = .ok (.iconst (-1), 1) := by decide +kernel
theorem dX9_fault_28 : decode cX9_fault 28 = .ok (.ireturn, 1) := by decide +kernel
theorem dX9_many_0 : decode cX9_many 0 = .ok (.iload_n 1, 1) := by decide +kernel
theorem dX9_many_1 : decode cX9_many 1 = .ok (.iconst 0, 1) := by decide +kernel
theorem dX9_many_2 : decode cX9_many 2 = .ok (.iconst 2, 1) := by decide +kernel
theorem dX9_many_3 : decode cX9_many 3 = .ok (.invokestatic 76, 3) := by decide +kernel
theorem dX9_many_6 : decode cX9_many 6 = .ok (.ifCond .ne 9, 3) := by decide +kernel
theorem dX9_many_9 : decode cX9_many 9 = .ok (.aload_n 0, 1) := by decide +kernel
theorem dX9_many_10 : decode cX9_many 10 = .ok (.iconst 1, 1) := by decide +kernel
theorem dX9_many_11 : decode cX9_many 11 = .ok (.invokevirtual 52, 3) := by decide +kernel
theorem dX9_many_14 : decode cX9_many 14 = .ok (.ireturn, 1) := by decide +kernel
theorem dX9_many_15 : decode cX9_many 15 = .ok (.iload_n 1, 1) := by decide +kernel
theorem dX9_many_16 : decode cX9_many 16 = .ok (.ifCond .ne 15, 3) := by decide +kernel
theorem dX9_many_19 : decode cX9_many 19 = .ok (.aload_n 0, 1) := by decide +kernel
theorem dX9_many_20 : decode cX9_many 20 = .ok (.aload_n 0, 1) := by decide +kernel
theorem dX9_many_21 : decode cX9_many 21 = .ok (.getfield 19, 3) := by decide +kernel
theorem dX9_many_24 : decode cX9_many 24 = .ok (.getfield 64, 3) := by decide +kernel
theorem dX9_many_27 : decode cX9_many 27 = .ok (.invokevirtual 67, 3) := by decide +kernel
theorem dX9_many_30 : decode cX9_many 30 = .ok (.ireturn, 1) := by decide +kernel
theorem dX9_many_31 : decode cX9_many 31 = .ok (.aload_n 0, 1) := by decide +kernel
theorem dX9_many_32 : decode cX9_many 32 = .ok (.iload_n 1, 1) := by decide +kernel
theorem dX9_many_33 : decode cX9_many 33 = .ok (.iconst 1, 1) := by decide +kernel
theorem dX9_many_34 : decode cX9_many 34 = .ok (.if_icmp .ne 13, 3) := by decide +kernel
theorem dX9_many_37 : decode cX9_many 37 = .ok (.aload_n 0, 1) := by decide +kernel
theorem dX9_many_38 : decode cX9_many 38 = .ok (.getfield 19, 3) := by decide +kernel
theorem dX9_many_41 : decode cX9_many 41 = .ok (.getfield 80, 3) := by decide +kernel
theorem dX9_many_44 : decode cX9_many 44 = .ok (.goto 10, 3) := by decide +kernel
theorem dX9_many_47 : decode cX9_many 47 = .ok (.aload_n 0, 1) := by decide +kernel
theorem dX9_many_48 : decode cX9_many 48 = .ok (.getfield 19, 3) := by decide +kernel
theorem dX9_many_51 : decode cX9_many 51 = .ok (.getfield 83, 3) := by decide +kernel
theorem dX9_many_54 : decode cX9_many 54 = .ok (.invokevirtual 67, 3) := by decide +kernel
theorem dX9_many_57 : decode cX9_many 57 = .ok (.ireturn, 1) := by decide +kernel
theorem dX9_sieve_0 : decode cX9_sieve 0 = .ok (.iload_n 2, 1) := by decide +kernel
theorem dX9_sieve_1 : decode cX9_sieve 1 = .ok (.iconst 0, 1) := by decide +kernel
theorem dX9_sieve_2 : decode cX9_sieve 2 = .ok (.bipush 7, 2) := by decide +kernel
theorem dX9_sieve_4 : decode cX9_sieve 4 = .ok (.invokestatic 76, 3) := by decide +kernel
theorem dX9_sieve_7 : decode cX9_sieve 7 = .ok (.ifCond .ne 9, 3) := by decide +kernel
theorem dX9_sieve_10 : decode cX9_sieve 10 = .ok (.aload_n 0, 1) := by decide +kernel
theorem dX9_sieve_11 : decode cX9_sieve 11 = .ok (.iconst 1, 1) := by decide +kernel
theorem dX9_sieve_12 : decode cX9_sieve 12 = .ok (.invokevirtual 52, 3) := by decide +kernel
theorem dX9_sieve_15 : decode cX9_sieve 15 = .ok (.ireturn, 1) := by decide +kernel
theorem dX9_sieve_16 : decode cX9_sieve 16 = .ok (.aload_n 0, 1) := by decide +kernel
theorem dX9_sieve_17 : decode cX9_sieve 17 = .ok (.getfield 19, 3) := by decide +kernel
theorem dX9_sieve_20 : decode cX9_sieve 20 = .ok (.iload_n 1, 1) := by decide +kernel
theorem dX9_sieve_21 : decode cX9_sieve 21 = .ok (.invokevirtual 86, 3) := by decide +kernel
theorem dX9_sieve_24 : decode cX9_sieve 24 = .ok (.astore_n 3, 1) := by decide +kernel
theorem dX9_sieve_25 : decode cX9_sieve 25 = .ok (.aload_n 3, 1) := by decide +kernel
theorem dX9_sieve_26 : decode cX9_sieve 26 = .ok (.ifnonnull 9, 3) := by decide +kernel
theorem dX9_sieve_29 : decode cX9_sieve 29 = .ok (.aload_n 0, 1) := by decide +kernel
theorem dX9_sieve_30 : decode cX9_sieve 30 = .ok (.iconst 2, 1) := by decide +kernel
theorem dX9_sieve_31 : decode cX9_sieve 31 = .ok (.invokevirtual 52, 3) := by decide +kernel
theorem dX9_sieve_34 : decode cX9_sieve 34 = .ok (.ireturn, 1) := by decide +kernel
theorem dX9_sieve_35 : decode cX9_sieve 35 = .ok (.aload_n 0, 1) := by decide +kernel
theorem dX9_sieve_36 : decode cX9_sieve 36 = .ok (.aload_n 3, 1) := by decide +kernel
theorem dX9_sieve_37 : decode cX9_sieve 37 = .ok (.iload_n 2, 1) := by decide +kernel
theorem dX9_sieve_38 : decode cX9_sieve 38 = .ok (.invokevirtual 90, 3) := by decide +kernel
theorem dX9_sieve_41 : decode cX9_sieve 41 = .ok (.invokevirtual 67, 3) := by decide +kernel
theorem dX9_sieve_44 : decode cX9_sieve 44 = .ok (.ireturn, 1) := by decide +kernel
theorem dX9_round_0 : decode cX9_round 0 = .ok (.aload_n 0, 1) := by decide +kernel
theorem dX9_round_1 : decode cX9_round 1 = .ok (.getfield 19, 3) := by decide +kernel
theorem dX9_round_4 : decode cX9_round 4 = .ok (.iload_n 1, 1) := by decide +kernel
theorem dX9_round_5 : decode cX9_round 5 = .ok (.invokevirtual 86, 3) := by decide +kernel
theorem dX9_round_8 : decode cX9_round 8 = .ok (.astore_n 2, 1) := by decide +kernel
theorem dX9_round_9 : decode cX9_round 9 = .ok (.aload_n 2, 1) := by decide +kernel
theorem dX9_round_10 : decode cX9_round 10 = .ok (.ifnonnull 9, 3) := by decide +kernel
theorem dX9_round_13 : decode cX9_round 13 = .ok (.aload_n 0, 1) := by decide +kernel
theorem dX9_round_14 : decode cX9_round 14 = .ok (.iconst 2, 1) := by decide +kernel
theorem dX9_round_15 : decode cX9_round 15 = .ok (.invokevirtual 52, 3) := by decide +kernel
theorem dX9_round_18 : decode cX9_round 18 = .ok (.ireturn, 1) := by decide +kernel
theorem dX9_round_19 : decode cX9_round 19 = .ok (.aload_n 2, 1) := by decide +kernel
theorem dX9_round_20 : decode cX9_round 20 = .ok (.invokevirtual 93, 3) := by decide +kernel
theorem dX9_round_23 : decode cX9_round 23 = .ok (.istore_n 3, 1) := by decide +kernel
theorem dX9_round_24 : decode cX9_round 24 = .ok (.iload_n 3, 1) := by decide +kernel
theorem dX9_round_25 : decode cX9_round 25 = .ok (.iconst (-1), 1) := by decide +kernel
theorem dX9_round_26 : decode cX9_round 26 = .ok (.if_icmp .ne 9, 3) := by decide +kernel
theorem dX9_round_29 : decode cX9_round 29 = .ok (.aload_n 0, 1) := by decide +kernel
theorem dX9_round_30 : decode cX9_round 30 = .ok (.iconst 5, 1) := by decide +kernel
theorem dX9_round_31 : decode cX9_round 31 = .ok (.invokevirtual 52, 3) := by decide +kernel
theorem dX9_round_34 : decode cX9_round 34 = .ok (.ireturn, 1) := by decide +kernel
theorem dX9_round_35 : decode cX9_round 35 = .ok (.aload_n 0, 1) := by decide +kernel
theorem dX9_round_36 : decode cX9_round 36 = .ok (.getfield 19, 3) := by decide +kernel
theorem dX9_round_39 : decode cX9_round 39 = .ok (.iconst 0, 1) := by decide +kernel
theorem dX9_round_40 : decode cX9_round 40 = .ok (.iload_n 1, 1) := by decide +kernel
theorem dX9_round_41 : decode cX9_round 41 = .ok (.invokevirtual 97, 3) := by decide +kernel
theorem dX9_round_44 : decode cX9_round 44 = .ok (.aload_n 0, 1) := by decide +kernel
theorem dX9_round_45 : decode cX9_round 45 = .ok (.aload_n 2, 1) := by decide +kernel
theorem dX9_round_46 : decode cX9_round 46 = .ok (.iload_n 3, 1) := by decide +kernel
theorem dX9_round_47 : decode cX9_round 47 = .ok (.invokevirtual 101, 3) := by decide +kernel
theorem dX9_round_50 : decode cX9_round 50 = .ok (.invokevirtual 67, 3) := by decide +kernel
theorem dX9_round_53 : decode cX9_round 53 = .ok (.ireturn, 1) := by decide +kernel
theorem dX9_all_0 : decode cX9_all 0 = .ok (.aload_n 0, 1) := by decide +kernel
theorem dX9_all_1 : decode cX9_all 1 = .ok (.getfield 19, 3) := by decide +kernel
theorem dX9_all_4 : decode cX9_all 4 = .ok (.iload_n 1, 1) := by decide +kernel
theorem dX9_all_5 : decode cX9_all 5 = .ok (.invokevirtual 86, 3) := by decide +kernel
theorem dX9_all_8 : decode cX9_all 8 = .ok (.astore_n 2, 1) := by decide +kernel
theorem dX9_all_9 : decode cX9_all 9 = .ok (.aload_n 2, 1) := by decide +kernel
theorem dX9_all_10 : decode cX9_all 10 = .ok (.ifnonnull 9, 3) := by decide +kernel
theorem dX9_all_13 : decode cX9_all 13 = .ok (.aload_n 0, 1) := by decide +kernel
theorem dX9_all_14 : decode cX9_all 14 = .ok (.iconst 2, 1) := by decide +kernel
theorem dX9_all_15 : decode cX9_all 15 = .ok (.invokevirtual 52, 3) := by decide +kernel
theorem dX9_all_18 : decode cX9_all 18 = .ok (.ireturn, 1) := by decide +kernel
theorem dX9_all_19 : decode cX9_all 19 = .ok (.aload_n 2, 1) := by decide +kernel
theorem dX9_all_20 : decode cX9_all 20 = .ok (.invokevirtual 93, 3) := by decide +kernel
theorem dX9_all_23 : decode cX9_all 23 = .ok (.iconst (-1), 1) := by decide +kernel
theorem dX9_all_24 : decode cX9_all 24 = .ok (.if_icmp .ne 9, 3) := by decide +kernel
theorem dX9_all_27 : decode cX9_all 27 = .ok (.aload_n 0, 1) := by decide +kernel
theorem dX9_all_28 : decode cX9_all 28 = .ok (.iconst 5, 1) := by decide +kernel
theorem dX9_all_29 : decode cX9_all 29 = .ok (.invokevirtual 52, 3) := by decide +kernel
theorem dX9_all_32 : decode cX9_all 32 = .ok (.ireturn, 1) := by decide +kernel
theorem dX9_all_33 : decode cX9_all 33 = .ok (.aload_n 0, 1) := by decide +kernel
theorem dX9_all_34 : decode cX9_all 34 = .ok (.getfield 19, 3) := by decide +kernel
theorem dX9_all_37 : decode cX9_all 37 = .ok (.iconst 0, 1) := by decide +kernel
theorem dX9_all_38 : decode cX9_all 38 = .ok (.iload_n 1, 1) := by decide +kernel
theorem dX9_all_39 : decode cX9_all 39 = .ok (.invokevirtual 97, 3) := by decide +kernel
theorem dX9_all_42 : decode cX9_all 42 = .ok (.aload_n 0, 1) := by decide +kernel
theorem dX9_all_43 : decode cX9_all 43 = .ok (.aload_n 2, 1) := by decide +kernel
theorem dX9_all_44 : decode cX9_all 44 = .ok (.sipush 600, 3) := by decide +kernel
theorem dX9_all_47 : decode cX9_all 47 = .ok (.invokevirtual 104, 3) := by decide +kernel
theorem dX9_all_50 : decode cX9_all 50 = .ok (.invokevirtual 67, 3) := by decide +kernel
theorem dX9_all_53 : decode cX9_all 53 = .ok (.ireturn, 1) := by decide +kernel
theorem dX9_told_0 : decode cX9_told 0 = .ok (.iload_n 2, 1) := by decide +kernel
theorem dX9_told_1 : decode cX9_told 1 = .ok (.iconst 1, 1) := by decide +kernel
theorem dX9_told_2 : decode cX9_told 2 = .ok (.if_icmp .lt 12, 3) := by decide +kernel
theorem dX9_told_5 : decode cX9_told 5 = .ok (.iload_n 3, 1) := by decide +kernel
theorem dX9_told_6 : decode cX9_told 6 = .ok (.iconst 0, 1) := by decide +kernel
theorem dX9_told_7 : decode cX9_told 7 = .ok (.iconst 3, 1) := by decide +kernel
theorem dX9_told_8 : decode cX9_told 8 = .ok (.invokestatic 76, 3) := by decide +kernel
theorem dX9_told_11 : decode cX9_told 11 = .ok (.ifCond .ne 9, 3) := by decide +kernel
theorem dX9_told_14 : decode cX9_told 14 = .ok (.aload_n 0, 1) := by decide +kernel
theorem dX9_told_15 : decode cX9_told 15 = .ok (.iconst 1, 1) := by decide +kernel
theorem dX9_told_16 : decode cX9_told 16 = .ok (.invokevirtual 52, 3) := by decide +kernel
theorem dX9_told_19 : decode cX9_told 19 = .ok (.ireturn, 1) := by decide +kernel
theorem dX9_told_20 : decode cX9_told 20 = .ok (.aload_n 0, 1) := by decide +kernel
theorem dX9_told_21 : decode cX9_told 21 = .ok (.getfield 19, 3) := by decide +kernel
theorem dX9_told_24 : decode cX9_told 24 = .ok (.iload_n 1, 1) := by decide +kernel
theorem dX9_told_25 : decode cX9_told 25 = .ok (.invokevirtual 86, 3) := by decide +kernel
theorem dX9_told_28 : decode cX9_told 28 = .ok (.astore 4, 2) := by decide +kernel
theorem dX9_told_30 : decode cX9_told 30 = .ok (.aload 4, 2) := by decide +kernel
theorem dX9_told_32 : decode cX9_told 32 = .ok (.ifnonnull 9, 3) := by decide +kernel
theorem dX9_told_35 : decode cX9_told 35 = .ok (.aload_n 0, 1) := by decide +kernel
theorem dX9_told_36 : decode cX9_told 36 = .ok (.iconst 2, 1) := by decide +kernel
theorem dX9_told_37 : decode cX9_told 37 = .ok (.invokevirtual 52, 3) := by decide +kernel
theorem dX9_told_40 : decode cX9_told 40 = .ok (.ireturn, 1) := by decide +kernel
theorem dX9_told_41 : decode cX9_told 41 = .ok (.aload_n 0, 1) := by decide +kernel
theorem dX9_told_42 : decode cX9_told 42 = .ok (.aload 4, 2) := by decide +kernel
theorem dX9_told_44 : decode cX9_told 44 = .ok (.iload_n 2, 1) := by decide +kernel
theorem dX9_told_45 : decode cX9_told 45 = .ok (.iload_n 3, 1) := by decide +kernel
theorem dX9_told_46 : decode cX9_told 46 = .ok (.invokestatic 107, 3) := by decide +kernel
theorem dX9_told_49 : decode cX9_told 49 = .ok (.invokevirtual 113, 3) := by decide +kernel
theorem dX9_told_52 : decode cX9_told 52 = .ok (.ireturn, 1) := by decide +kernel
theorem dX9_strike_0 : decode cX9_strike 0 = .ok (.aload_n 0, 1) := by decide +kernel
theorem dX9_strike_1 : decode cX9_strike 1 = .ok (.getfield 19, 3) := by decide +kernel
theorem dX9_strike_4 : decode cX9_strike 4 = .ok (.iload_n 1, 1) := by decide +kernel
theorem dX9_strike_5 : decode cX9_strike 5 = .ok (.invokevirtual 86, 3) := by decide +kernel
theorem dX9_strike_8 : decode cX9_strike 8 = .ok (.astore_n 3, 1) := by decide +kernel
theorem dX9_strike_9 : decode cX9_strike 9 = .ok (.aload_n 3, 1) := by decide +kernel
theorem dX9_strike_10 : decode cX9_strike 10 = .ok (.ifnonnull 9, 3) := by decide +kernel
theorem dX9_strike_13 : decode cX9_strike 13 = .ok (.aload_n 0, 1) := by decide +kernel
theorem dX9_strike_14 : decode cX9_strike 14 = .ok (.iconst 2, 1) := by decide +kernel
theorem dX9_strike_15 : decode cX9_strike 15 = .ok (.invokevirtual 52, 3) := by decide +kernel
theorem dX9_strike_18 : decode cX9_strike 18 = .ok (.ireturn, 1) := by decide +kernel
theorem dX9_strike_19 : decode cX9_strike 19 = .ok (.aload_n 3, 1) := by decide +kernel
theorem dX9_strike_20 : decode cX9_strike 20 = .ok (.iload_n 2, 1) := by decide +kernel
theorem dX9_strike_21 : decode cX9_strike 21 = .ok (.invokevirtual 116, 3) := by decide +kernel
theorem dX9_strike_24 : decode cX9_strike 24 = .ok (.istore 4, 2) := by decide +kernel
theorem dX9_strike_26 : decode cX9_strike 26 = .ok (.iload 4, 2) := by decide +kernel
theorem dX9_strike_28 : decode cX9_strike 28 = .ok (.iconst (-1), 1) := by decide +kernel
theorem dX9_strike_29 : decode cX9_strike 29 = .ok (.if_icmp .eq 11, 3) := by decide +kernel
theorem dX9_strike_32 : decode cX9_strike 32 = .ok (.aload_n 3, 1) := by decide +kernel
theorem dX9_strike_33 : decode cX9_strike 33 = .ok (.getfield 119, 3) := by decide +kernel
theorem dX9_strike_36 : decode cX9_strike 36 = .ok (.iconst 2, 1) := by decide +kernel
theorem dX9_strike_37 : decode cX9_strike 37 = .ok (.if_icmp .ge 9, 3) := by decide +kernel
theorem dX9_strike_40 : decode cX9_strike 40 = .ok (.aload_n 0, 1) := by decide +kernel
theorem dX9_strike_41 : decode cX9_strike 41 = .ok (.iconst 5, 1) := by decide +kernel
theorem dX9_strike_42 : decode cX9_strike 42 = .ok (.invokevirtual 52, 3) := by decide +kernel
theorem dX9_strike_45 : decode cX9_strike 45 = .ok (.ireturn, 1) := by decide +kernel
theorem dX9_strike_46 : decode cX9_strike 46 = .ok (.aload_n 0, 1) := by decide +kernel
theorem dX9_strike_47 : decode cX9_strike 47 = .ok (.getfield 19, 3) := by decide +kernel
theorem dX9_strike_50 : decode cX9_strike 50 = .ok (.iconst 0, 1) := by decide +kernel
theorem dX9_strike_51 : decode cX9_strike 51 = .ok (.iload_n 1, 1) := by decide +kernel
theorem dX9_strike_52 : decode cX9_strike 52 = .ok (.invokevirtual 97, 3) := by decide +kernel
theorem dX9_strike_55 : decode cX9_strike 55 = .ok (.aload_n 3, 1) := by decide +kernel
theorem dX9_strike_56 : decode cX9_strike 56 = .ok (.iload_n 2, 1) := by decide +kernel
theorem dX9_strike_57 : decode cX9_strike 57 = .ok (.invokevirtual 122, 3) := by decide +kernel
theorem dX9_strike_60 : decode cX9_strike 60 = .ok (.aload_n 0, 1) := by decide +kernel
theorem dX9_strike_61 : decode cX9_strike 61 = .ok (.iload 4, 2) := by decide +kernel
theorem dX9_strike_63 : decode cX9_strike 63 = .ok (.invokevirtual 67, 3) := by decide +kernel
theorem dX9_strike_66 : decode cX9_strike 66 = .ok (.ireturn, 1) := by decide +kernel
theorem dX9_longer_0 : decode cX9_longer 0 = .ok (.iload_n 2, 1) := by decide +kernel
theorem dX9_longer_1 : decode cX9_longer 1 = .ok (.iconst 2, 1) := by decide +kernel
theorem dX9_longer_2 : decode cX9_longer 2 = .ok (.sipush 600, 3) := by decide +kernel
theorem dX9_longer_5 : decode cX9_longer 5 = .ok (.invokestatic 76, 3) := by decide +kernel
theorem dX9_longer_8 : decode cX9_longer 8 = .ok (.ifCond .ne 9, 3) := by decide +kernel
theorem dX9_longer_11 : decode cX9_longer 11 = .ok (.aload_n 0, 1) := by decide +kernel
theorem dX9_longer_12 : decode cX9_longer 12 = .ok (.iconst 1, 1) := by decide +kernel
theorem dX9_longer_13 : decode cX9_longer 13 = .ok (.invokevirtual 52, 3) := by decide +kernel
theorem dX9_longer_16 : decode cX9_longer 16 = .ok (.ireturn, 1) := by decide +kernel
theorem dX9_longer_17 : decode cX9_longer 17 = .ok (.aload_n 0, 1) := by decide +kernel
theorem dX9_longer_18 : decode cX9_longer 18 = .ok (.getfield 19, 3) := by decide +kernel
theorem dX9_longer_21 : decode cX9_longer 21 = .ok (.iload_n 1, 1) := by decide +kernel
theorem dX9_longer_22 : decode cX9_longer 22 = .ok (.invokevirtual 86, 3) := by decide +kernel
theorem dX9_longer_25 : decode cX9_longer 25 = .ok (.astore_n 3, 1) := by decide +kernel
theorem dX9_longer_26 : decode cX9_longer 26 = .ok (.aload_n 3, 1) := by decide +kernel
theorem dX9_longer_27 : decode cX9_longer 27 = .ok (.ifnonnull 9, 3) := by decide +kernel
theorem dX9_longer_30 : decode cX9_longer 30 = .ok (.aload_n 0, 1) := by decide +kernel
theorem dX9_longer_31 : decode cX9_longer 31 = .ok (.iconst 2, 1) := by decide +kernel
theorem dX9_longer_32 : decode cX9_longer 32 = .ok (.invokevirtual 52, 3) := by decide +kernel
theorem dX9_longer_35 : decode cX9_longer 35 = .ok (.ireturn, 1) := by decide +kernel
theorem dX9_longer_36 : decode cX9_longer 36 = .ok (.aload_n 3, 1) := by decide +kernel
theorem dX9_longer_37 : decode cX9_longer 37 = .ok (.getfield 126, 3) := by decide +kernel
theorem dX9_longer_40 : decode cX9_longer 40 = .ok (.iload_n 2, 1) := by decide +kernel
theorem dX9_longer_41 : decode cX9_longer 41 = .ok (.if_icmp .ne 9, 3) := by decide +kernel
theorem dX9_longer_44 : decode cX9_longer 44 = .ok (.aload_n 0, 1) := by decide +kernel
theorem dX9_longer_45 : decode cX9_longer 45 = .ok (.iconst 4, 1) := by decide +kernel
theorem dX9_longer_46 : decode cX9_longer 46 = .ok (.invokevirtual 52, 3) := by decide +kernel
theorem dX9_longer_49 : decode cX9_longer 49 = .ok (.ireturn, 1) := by decide +kernel
theorem dX9_longer_50 : decode cX9_longer 50 = .ok (.aload_n 0, 1) := by decide +kernel
theorem dX9_longer_51 : decode cX9_longer 51 = .ok (.getfield 19, 3) := by decide +kernel
theorem dX9_longer_54 : decode cX9_longer 54 = .ok (.iconst 0, 1) := by decide +kernel
theorem dX9_longer_55 : decode cX9_longer 55 = .ok (.iload_n 1, 1) := by decide +kernel
theorem dX9_longer_56 : decode cX9_longer 56 = .ok (.invokevirtual 97, 3) := by decide +kernel
theorem dX9_longer_59 : decode cX9_longer 59 = .ok (.aload_n 3, 1) := by decide +kernel
theorem dX9_longer_60 : decode cX9_longer 60 = .ok (.iload_n 2, 1) := by decide +kernel
theorem dX9_longer_61 : decode cX9_longer 61 = .ok (.invokevirtual 129, 3) := by decide +kernel
theorem dX9_longer_64 : decode cX9_longer 64 = .ok (.aload_n 0, 1) := by decide +kernel
theorem dX9_longer_65 : decode cX9_longer 65 = .ok (.aload_n 3, 1) := by decide +kernel
theorem dX9_longer_66 : decode cX9_longer 66 = .ok (.getfield 119, 3) := by decide +kernel
theorem dX9_longer_69 : decode cX9_longer 69 = .ok (.invokevirtual 67, 3) := by decide +kernel
theorem dX9_longer_72 : decode cX9_longer 72 = .ok (.ireturn, 1) := by decide +kernel
theorem dX9_make_0 : decode cX9_make 0 = .ok (.iload_n 1, 1) := by decide +kernel
theorem dX9_make_1 : decode cX9_make 1 = .ok (.iconst 0, 1) := by decide +kernel
theorem dX9_make_2 : decode cX9_make 2 = .ok (.iconst 3, 1) := by decide +kernel
theorem dX9_make_3 : decode cX9_make 3 = .ok (.invokestatic 76, 3) := by decide +kernel
theorem dX9_make_6 : decode cX9_make 6 = .ok (.ifCond .eq 14, 3) := by decide +kernel
theorem dX9_make_9 : decode cX9_make 9 = .ok (.iload_n 2, 1) := by decide +kernel
theorem dX9_make_10 : decode cX9_make 10 = .ok (.iconst 0, 1) := by decide +kernel
theorem dX9_make_11 : decode cX9_make 11 = .ok (.sipush 999, 3) := by decide +kernel
theorem dX9_make_14 : decode cX9_make 14 = .ok (.invokestatic 76, 3) := by decide +kernel
theorem dX9_make_17 : decode cX9_make 17 = .ok (.ifCond .ne 9, 3) := by decide +kernel
theorem dX9_make_20 : decode cX9_make 20 = .ok (.aload_n 0, 1) := by decide +kernel
theorem dX9_make_21 : decode cX9_make 21 = .ok (.iconst 1, 1) := by decide +kernel
theorem dX9_make_22 : decode cX9_make 22 = .ok (.invokevirtual 52, 3) := by decide +kernel
theorem dX9_make_25 : decode cX9_make 25 = .ok (.ireturn, 1) := by decide +kernel
theorem dX9_make_26 : decode cX9_make 26 = .ok (.iload_n 3, 1) := by decide +kernel
theorem dX9_make_27 : decode cX9_make 27 = .ok (.iconst 1, 1) := by decide +kernel
theorem dX9_make_28 : decode cX9_make 28 = .ok (.bipush 99, 2) := by decide +kernel
theorem dX9_make_30 : decode cX9_make 30 = .ok (.invokestatic 76, 3) := by decide +kernel
theorem dX9_make_33 : decode cX9_make 33 = .ok (.ifCond .eq 15, 3) := by decide +kernel
theorem dX9_make_36 : decode cX9_make 36 = .ok (.iload 4, 2) := by decide +kernel
theorem dX9_make_38 : decode cX9_make 38 = .ok (.iconst 2, 1) := by decide +kernel
theorem dX9_make_39 : decode cX9_make 39 = .ok (.sipush 600, 3) := by decide +kernel
theorem dX9_make_42 : decode cX9_make 42 = .ok (.invokestatic 76, 3) := by decide +kernel
theorem dX9_make_45 : decode cX9_make 45 = .ok (.ifCond .ne 9, 3) := by decide +kernel
theorem dX9_make_48 : decode cX9_make 48 = .ok (.aload_n 0, 1) := by decide +kernel
theorem dX9_make_49 : decode cX9_make 49 = .ok (.iconst 1, 1) := by decide +kernel
theorem dX9_make_50 : decode cX9_make 50 = .ok (.invokevirtual 52, 3) := by decide +kernel
theorem dX9_make_53 : decode cX9_make 53 = .ok (.ireturn, 1) := by decide +kernel
theorem dX9_make_54 : decode cX9_make 54 = .ok (.aload_n 0, 1) := by decide +kernel
theorem dX9_make_55 : decode cX9_make 55 = .ok (.getfield 19, 3) := by decide +kernel
theorem dX9_make_58 : decode cX9_make 58 = .ok (.invokevirtual 132, 3) := by decide +kernel
theorem dX9_make_61 : decode cX9_make 61 = .ok (.astore 5, 2) := by decide +kernel
theorem dX9_make_63 : decode cX9_make 63 = .ok (.aload 5, 2) := by decide +kernel
theorem dX9_make_65 : decode cX9_make 65 = .ok (.ifnonnull 9, 3) := by decide +kernel
theorem dX9_make_68 : decode cX9_make 68 = .ok (.aload_n 0, 1) := by decide +kernel
theorem dX9_make_69 : decode cX9_make 69 = .ok (.iconst 3, 1) := by decide +kernel
theorem dX9_make_70 : decode cX9_make 70 = .ok (.invokevirtual 52, 3) := by decide +kernel
theorem dX9_make_73 : decode cX9_make 73 = .ok (.ireturn, 1) := by decide +kernel
theorem dX9_make_74 : decode cX9_make 74 = .ok (.aload 5, 2) := by decide +kernel
theorem dX9_make_76 : decode cX9_make 76 = .ok (.iload_n 1, 1) := by decide +kernel
theorem dX9_make_77 : decode cX9_make 77 = .ok (.iload_n 2, 1) := by decide +kernel
theorem dX9_make_78 : decode cX9_make 78 = .ok (.iload_n 3, 1) := by decide +kernel
theorem dX9_make_79 : decode cX9_make 79 = .ok (.iload 4, 2) := by decide +kernel
theorem dX9_make_81 : decode cX9_make 81 = .ok (.invokevirtual 136, 3) := by decide +kernel
theorem dX9_make_84 : decode cX9_make 84 = .ok (.aload_n 0, 1) := by decide +kernel
theorem dX9_make_85 : decode cX9_make 85 = .ok (.aload_n 0, 1) := by decide +kernel
theorem dX9_make_86 : decode cX9_make 86 = .ok (.getfield 19, 3) := by decide +kernel
theorem dX9_make_89 : decode cX9_make 89 = .ok (.getfield 64, 3) := by decide +kernel
theorem dX9_make_92 : decode cX9_make 92 = .ok (.iconst 1, 1) := by decide +kernel
theorem dX9_make_93 : decode cX9_make 93 = .ok (.isub, 1) := by decide +kernel
theorem dX9_make_94 : decode cX9_make 94 = .ok (.invokevirtual 67, 3) := by decide +kernel
theorem dX9_make_97 : decode cX9_make 97 = .ok (.ireturn, 1) := by decide +kernel
theorem dX9_drop_0 : decode cX9_drop 0 = .ok (.aload_n 0, 1) := by decide +kernel
theorem dX9_drop_1 : decode cX9_drop 1 = .ok (.getfield 19, 3) := by decide +kernel
theorem dX9_drop_4 : decode cX9_drop 4 = .ok (.iload_n 1, 1) := by decide +kernel
theorem dX9_drop_5 : decode cX9_drop 5 = .ok (.invokevirtual 86, 3) := by decide +kernel
theorem dX9_drop_8 : decode cX9_drop 8 = .ok (.ifnonnull 9, 3) := by decide +kernel
theorem dX9_drop_11 : decode cX9_drop 11 = .ok (.aload_n 0, 1) := by decide +kernel
theorem dX9_drop_12 : decode cX9_drop 12 = .ok (.iconst 2, 1) := by decide +kernel
theorem dX9_drop_13 : decode cX9_drop 13 = .ok (.invokevirtual 52, 3) := by decide +kernel
theorem dX9_drop_16 : decode cX9_drop 16 = .ok (.ireturn, 1) := by decide +kernel
theorem dX9_drop_17 : decode cX9_drop 17 = .ok (.aload_n 0, 1) := by decide +kernel
theorem dX9_drop_18 : decode cX9_drop 18 = .ok (.getfield 19, 3) := by decide +kernel
theorem dX9_drop_21 : decode cX9_drop 21 = .ok (.iload_n 1, 1) := by decide +kernel
theorem dX9_drop_22 : decode cX9_drop 22 = .ok (.invokevirtual 140, 3) := by decide +kernel
theorem dX9_drop_25 : decode cX9_drop 25 = .ok (.aload_n 0, 1) := by decide +kernel
theorem dX9_drop_26 : decode cX9_drop 26 = .ok (.aload_n 0, 1) := by decide +kernel
theorem dX9_drop_27 : decode cX9_drop 27 = .ok (.getfield 19, 3) := by decide +kernel
theorem dX9_drop_30 : decode cX9_drop 30 = .ok (.getfield 64, 3) := by decide +kernel
theorem dX9_drop_33 : decode cX9_drop 33 = .ok (.invokevirtual 67, 3) := by decide +kernel
theorem dX9_drop_36 : decode cX9_drop 36 = .ok (.ireturn, 1) := by decide +kernel
theorem dX9_undo_0 : decode cX9_undo 0 = .ok (.aload_n 0, 1) := by decide +kernel
theorem dX9_undo_1 : decode cX9_undo 1 = .ok (.getfield 19, 3) := by decide +kernel
theorem dX9_undo_4 : decode cX9_undo 4 = .ok (.getfield 80, 3) := by decide +kernel
theorem dX9_undo_7 : decode cX9_undo 7 = .ok (.ifCond .ne 9, 3) := by decide +kernel
theorem dX9_undo_10 : decode cX9_undo 10 = .ok (.aload_n 0, 1) := by decide +kernel
theorem dX9_undo_11 : decode cX9_undo 11 = .ok (.iconst 5, 1) := by decide +kernel
theorem dX9_undo_12 : decode cX9_undo 12 = .ok (.invokevirtual 52, 3) := by decide +kernel
theorem dX9_undo_15 : decode cX9_undo 15 = .ok (.ireturn, 1) := by decide +kernel
theorem dX9_undo_16 : decode cX9_undo 16 = .ok (.aload_n 0, 1) := by decide +kernel
theorem dX9_undo_17 : decode cX9_undo 17 = .ok (.getfield 19, 3) := by decide +kernel
theorem dX9_undo_20 : decode cX9_undo 20 = .ok (.invokevirtual 143, 3) := by decide +kernel
theorem dX9_undo_23 : decode cX9_undo 23 = .ok (.aload_n 0, 1) := by decide +kernel
theorem dX9_undo_24 : decode cX9_undo 24 = .ok (.aload_n 0, 1) := by decide +kernel
theorem dX9_undo_25 : decode cX9_undo 25 = .ok (.getfield 19, 3) := by decide +kernel
theorem dX9_undo_28 : decode cX9_undo 28 = .ok (.getfield 80, 3) := by decide +kernel
theorem dX9_undo_31 : decode cX9_undo 31 = .ok (.invokevirtual 67, 3) := by decide +kernel
theorem dX9_undo_34 : decode cX9_undo 34 = .ok (.ireturn, 1) := by decide +kernel
theorem dX9_number_0 : decode cX9_number 0 = .ok (.iload_n 2, 1) := by decide +kernel
theorem dX9_number_1 : decode cX9_number 1 = .ok (.iconst 1, 1) := by decide +kernel
theorem dX9_number_2 : decode cX9_number 2 = .ok (.if_icmp .ge 9, 3) := by decide +kernel
theorem dX9_number_5 : decode cX9_number 5 = .ok (.aload_n 0, 1) := by decide +kernel
theorem dX9_number_6 : decode cX9_number 6 = .ok (.iconst 1, 1) := by decide +kernel
theorem dX9_number_7 : decode cX9_number 7 = .ok (.invokevirtual 52, 3) := by decide +kernel
theorem dX9_number_10 : decode cX9_number 10 = .ok (.ireturn, 1) := by decide +kernel
theorem dX9_number_11 : decode cX9_number 11 = .ok (.aload_n 0, 1) := by decide +kernel
theorem dX9_number_12 : decode cX9_number 12 = .ok (.getfield 19, 3) := by decide +kernel
theorem dX9_number_15 : decode cX9_number 15 = .ok (.iload_n 1, 1) := by decide +kernel
theorem dX9_number_16 : decode cX9_number 16 = .ok (.invokevirtual 86, 3) := by decide +kernel
theorem dX9_number_19 : decode cX9_number 19 = .ok (.astore_n 3, 1) := by decide +kernel
theorem dX9_number_20 : decode cX9_number 20 = .ok (.aload_n 3, 1) := by decide +kernel
theorem dX9_number_21 : decode cX9_number 21 = .ok (.ifnonnull 9, 3) := by decide +kernel
theorem dX9_number_24 : decode cX9_number 24 = .ok (.aload_n 0, 1) := by decide +kernel
theorem dX9_number_25 : decode cX9_number 25 = .ok (.iconst 2, 1) := by decide +kernel
theorem dX9_number_26 : decode cX9_number 26 = .ok (.invokevirtual 52, 3) := by decide +kernel
theorem dX9_number_29 : decode cX9_number 29 = .ok (.ireturn, 1) := by decide +kernel
theorem dX9_number_30 : decode cX9_number 30 = .ok (.aload_n 0, 1) := by decide +kernel
theorem dX9_number_31 : decode cX9_number 31 = .ok (.aload_n 3, 1) := by decide +kernel
theorem dX9_number_32 : decode cX9_number 32 = .ok (.iload_n 2, 1) := by decide +kernel
theorem dX9_number_33 : decode cX9_number 33 = .ok (.invokevirtual 146, 3) := by decide +kernel
theorem dX9_number_36 : decode cX9_number 36 = .ok (.invokevirtual 113, 3) := by decide +kernel
theorem dX9_number_39 : decode cX9_number 39 = .ok (.ireturn, 1) := by decide +kernel
theorem dX9_rank_0 : decode cX9_rank 0 = .ok (.aload_n 0, 1) := by decide +kernel
theorem dX9_rank_1 : decode cX9_rank 1 = .ok (.getfield 19, 3) := by decide +kernel
theorem dX9_rank_4 : decode cX9_rank 4 = .ok (.iload_n 1, 1) := by decide +kernel
theorem dX9_rank_5 : decode cX9_rank 5 = .ok (.invokevirtual 86, 3) := by decide +kernel
theorem dX9_rank_8 : decode cX9_rank 8 = .ok (.astore_n 3, 1) := by decide +kernel
theorem dX9_rank_9 : decode cX9_rank 9 = .ok (.aload_n 3, 1) := by decide +kernel
theorem dX9_rank_10 : decode cX9_rank 10 = .ok (.ifnonnull 9, 3) := by decide +kernel
theorem dX9_rank_13 : decode cX9_rank 13 = .ok (.aload_n 0, 1) := by decide +kernel
theorem dX9_rank_14 : decode cX9_rank 14 = .ok (.iconst 2, 1) := by decide +kernel
theorem dX9_rank_15 : decode cX9_rank 15 = .ok (.invokevirtual 52, 3) := by decide +kernel
theorem dX9_rank_18 : decode cX9_rank 18 = .ok (.ireturn, 1) := by decide +kernel
theorem dX9_rank_19 : decode cX9_rank 19 = .ok (.aload_n 0, 1) := by decide +kernel
theorem dX9_rank_20 : decode cX9_rank 20 = .ok (.aload_n 3, 1) := by decide +kernel
theorem dX9_rank_21 : decode cX9_rank 21 = .ok (.iload_n 2, 1) := by decide +kernel
theorem dX9_rank_22 : decode cX9_rank 22 = .ok (.invokevirtual 116, 3) := by decide +kernel
theorem dX9_rank_25 : decode cX9_rank 25 = .ok (.invokevirtual 113, 3) := by decide +kernel
theorem dX9_rank_28 : decode cX9_rank 28 = .ok (.ireturn, 1) := by decide +kernel
theorem dX9_fate_0 : decode cX9_fate 0 = .ok (.iload_n 3, 1) := by decide +kernel
theorem dX9_fate_1 : decode cX9_fate 1 = .ok (.iconst 0, 1) := by decide +kernel
theorem dX9_fate_2 : decode cX9_fate 2 = .ok (.iconst 1, 1) := by decide +kernel
theorem dX9_fate_3 : decode cX9_fate 3 = .ok (.invokestatic 76, 3) := by decide +kernel
theorem dX9_fate_6 : decode cX9_fate 6 = .ok (.ifCond .ne 9, 3) := by decide +kernel
theorem dX9_fate_9 : decode cX9_fate 9 = .ok (.aload_n 0, 1) := by decide +kernel
theorem dX9_fate_10 : decode cX9_fate 10 = .ok (.iconst 1, 1) := by decide +kernel
theorem dX9_fate_11 : decode cX9_fate 11 = .ok (.invokevirtual 52, 3) := by decide +kernel
theorem dX9_fate_14 : decode cX9_fate 14 = .ok (.ireturn, 1) := by decide +kernel
theorem dX9_fate_15 : decode cX9_fate 15 = .ok (.aload_n 0, 1) := by decide +kernel
theorem dX9_fate_16 : decode cX9_fate 16 = .ok (.getfield 19, 3) := by decide +kernel
theorem dX9_fate_19 : decode cX9_fate 19 = .ok (.iload_n 1, 1) := by decide +kernel
theorem dX9_fate_20 : decode cX9_fate 20 = .ok (.invokevirtual 86, 3) := by decide +kernel
theorem dX9_fate_23 : decode cX9_fate 23 = .ok (.astore 4, 2) := by decide +kernel
theorem dX9_fate_25 : decode cX9_fate 25 = .ok (.aload 4, 2) := by decide +kernel
theorem dX9_fate_27 : decode cX9_fate 27 = .ok (.ifnonnull 9, 3) := by decide +kernel
theorem dX9_fate_30 : decode cX9_fate 30 = .ok (.aload_n 0, 1) := by decide +kernel
theorem dX9_fate_31 : decode cX9_fate 31 = .ok (.iconst 2, 1) := by decide +kernel
theorem dX9_fate_32 : decode cX9_fate 32 = .ok (.invokevirtual 52, 3) := by decide +kernel
theorem dX9_fate_35 : decode cX9_fate 35 = .ok (.ireturn, 1) := by decide +kernel
theorem dX9_fate_36 : decode cX9_fate 36 = .ok (.aload_n 0, 1) := by decide +kernel
theorem dX9_fate_37 : decode cX9_fate 37 = .ok (.aload 4, 2) := by decide +kernel
theorem dX9_fate_39 : decode cX9_fate 39 = .ok (.iload_n 2, 1) := by decide +kernel
theorem dX9_fate_40 : decode cX9_fate 40 = .ok (.iload_n 3, 1) := by decide +kernel
theorem dX9_fate_41 : decode cX9_fate 41 = .ok (.invokestatic 149, 3) := by decide +kernel
theorem dX9_fate_44 : decode cX9_fate 44 = .ok (.invokevirtual 113, 3) := by decide +kernel
theorem dX9_fate_47 : decode cX9_fate 47 = .ok (.ireturn, 1) := by decide +kernel
theorem dX9_back_0 : decode cX9_back 0 = .ok (.iload_n 2, 1) := by decide +kernel
theorem dX9_back_1 : decode cX9_back 1 = .ok (.iconst 1, 1) := by decide +kernel
theorem dX9_back_2 : decode cX9_back 2 = .ok (.if_icmp .lt 8, 3) := by decide +kernel
theorem dX9_back_5 : decode cX9_back 5 = .ok (.iload_n 3, 1) := by decide +kernel
theorem dX9_back_6 : decode cX9_back 6 = .ok (.iconst 1, 1) := by decide +kernel
theorem dX9_back_7 : decode cX9_back 7 = .ok (.if_icmp .ge 9, 3) := by decide +kernel
theorem dX9_back_10 : decode cX9_back 10 = .ok (.aload_n 0, 1) := by decide +kernel
theorem dX9_back_11 : decode cX9_back 11 = .ok (.iconst 1, 1) := by decide +kernel
theorem dX9_back_12 : decode cX9_back 12 = .ok (.invokevirtual 52, 3) := by decide +kernel
theorem dX9_back_15 : decode cX9_back 15 = .ok (.ireturn, 1) := by decide +kernel
theorem dX9_back_16 : decode cX9_back 16 = .ok (.aload_n 0, 1) := by decide +kernel
theorem dX9_back_17 : decode cX9_back 17 = .ok (.getfield 19, 3) := by decide +kernel
theorem dX9_back_20 : decode cX9_back 20 = .ok (.iload_n 1, 1) := by decide +kernel
theorem dX9_back_21 : decode cX9_back 21 = .ok (.invokevirtual 86, 3) := by decide +kernel
theorem dX9_back_24 : decode cX9_back 24 = .ok (.astore 4, 2) := by decide +kernel
theorem dX9_back_26 : decode cX9_back 26 = .ok (.aload 4, 2) := by decide +kernel
theorem dX9_back_28 : decode cX9_back 28 = .ok (.ifnonnull 9, 3) := by decide +kernel
theorem dX9_back_31 : decode cX9_back 31 = .ok (.aload_n 0, 1) := by decide +kernel
theorem dX9_back_32 : decode cX9_back 32 = .ok (.iconst 2, 1) := by decide +kernel
theorem dX9_back_33 : decode cX9_back 33 = .ok (.invokevirtual 52, 3) := by decide +kernel
theorem dX9_back_36 : decode cX9_back 36 = .ok (.ireturn, 1) := by decide +kernel
theorem dX9_back_37 : decode cX9_back 37 = .ok (.aload_n 0, 1) := by decide +kernel
theorem dX9_back_38 : decode cX9_back 38 = .ok (.aload 4, 2) := by decide +kernel
theorem dX9_back_40 : decode cX9_back 40 = .ok (.iload_n 2, 1) := by decide +kernel
theorem dX9_back_41 : decode cX9_back 41 = .ok (.iload_n 2, 1) := by decide +kernel
theorem dX9_back_42 : decode cX9_back 42 = .ok (.iload_n 3, 1) := by decide +kernel
theorem dX9_back_43 : decode cX9_back 43 = .ok (.invokestatic 152, 3) := by decide +kernel
theorem dX9_back_46 : decode cX9_back 46 = .ok (.invokevirtual 113, 3) := by decide +kernel
theorem dX9_back_49 : decode cX9_back 49 = .ok (.ireturn, 1) := by decide +kernel
theorem dX9_ahead_0 : decode cX9_ahead 0 = .ok (.iload_n 2, 1) := by decide +kernel
theorem dX9_ahead_1 : decode cX9_ahead 1 = .ok (.iconst 1, 1) := by decide +kernel
theorem dX9_ahead_2 : decode cX9_ahead 2 = .ok (.if_icmp .lt 8, 3) := by decide +kernel
theorem dX9_ahead_5 : decode cX9_ahead 5 = .ok (.iload_n 3, 1) := by decide +kernel
theorem dX9_ahead_6 : decode cX9_ahead 6 = .ok (.iconst 1, 1) := by decide +kernel
theorem dX9_ahead_7 : decode cX9_ahead 7 = .ok (.if_icmp .ge 9, 3) := by decide +kernel
theorem dX9_ahead_10 : decode cX9_ahead 10 = .ok (.aload_n 0, 1) := by decide +kernel
theorem dX9_ahead_11 : decode cX9_ahead 11 = .ok (.iconst 1, 1) := by decide +kernel
theorem dX9_ahead_12 : decode cX9_ahead 12 = .ok (.invokevirtual 52, 3) := by decide +kernel
theorem dX9_ahead_15 : decode cX9_ahead 15 = .ok (.ireturn, 1) := by decide +kernel
theorem dX9_ahead_16 : decode cX9_ahead 16 = .ok (.aload_n 0, 1) := by decide +kernel
theorem dX9_ahead_17 : decode cX9_ahead 17 = .ok (.getfield 19, 3) := by decide +kernel
theorem dX9_ahead_20 : decode cX9_ahead 20 = .ok (.iload_n 1, 1) := by decide +kernel
theorem dX9_ahead_21 : decode cX9_ahead 21 = .ok (.invokevirtual 86, 3) := by decide +kernel
theorem dX9_ahead_24 : decode cX9_ahead 24 = .ok (.astore 4, 2) := by decide +kernel
theorem dX9_ahead_26 : decode cX9_ahead 26 = .ok (.aload 4, 2) := by decide +kernel
theorem dX9_ahead_28 : decode cX9_ahead 28 = .ok (.ifnonnull 9, 3) := by decide +kernel
theorem dX9_ahead_31 : decode cX9_ahead 31 = .ok (.aload_n 0, 1) := by decide +kernel
theorem dX9_ahead_32 : decode cX9_ahead 32 = .ok (.iconst 2, 1) := by decide +kernel
theorem dX9_ahead_33 : decode cX9_ahead 33 = .ok (.invokevirtual 52, 3) := by decide +kernel
theorem dX9_ahead_36 : decode cX9_ahead 36 = .ok (.ireturn, 1) := by decide +kernel
theorem dX9_ahead_37 : decode cX9_ahead 37 = .ok (.aload_n 0, 1) := by decide +kernel
theorem dX9_ahead_38 : decode cX9_ahead 38 = .ok (.aload 4, 2) := by decide +kernel
theorem dX9_ahead_40 : decode cX9_ahead 40 = .ok (.iload_n 2, 1) := by decide +kernel
theorem dX9_ahead_41 : decode cX9_ahead 41 = .ok (.iload_n 3, 1) := by decide +kernel
theorem dX9_ahead_42 : decode cX9_ahead 42 = .ok (.invokestatic 156, 3) := by decide +kernel
theorem dX9_ahead_45 : decode cX9_ahead 45 = .ok (.invokevirtual 113, 3) := by decide +kernel
theorem dX9_ahead_48 : decode cX9_ahead 48 = .ok (.ireturn, 1) := by decide +kernel
theorem dX9_would_0 : decode cX9_would 0 = .ok (.iload_n 2, 1) := by decide +kernel
theorem dX9_would_1 : decode cX9_would 1 = .ok (.iconst 1, 1) := by decide +kernel
theorem dX9_would_2 : decode cX9_would 2 = .ok (.if_icmp .ge 9, 3) := by decide +kernel
theorem dX9_would_5 : decode cX9_would 5 = .ok (.aload_n 0, 1) := by decide +kernel
theorem dX9_would_6 : decode cX9_would 6 = .ok (.iconst 1, 1) := by decide +kernel
theorem dX9_would_7 : decode cX9_would 7 = .ok (.invokevirtual 52, 3) := by decide +kernel
theorem dX9_would_10 : decode cX9_would 10 = .ok (.ireturn, 1) := by decide +kernel
theorem dX9_would_11 : decode cX9_would 11 = .ok (.aload_n 0, 1) := by decide +kernel
theorem dX9_would_12 : decode cX9_would 12 = .ok (.getfield 19, 3) := by decide +kernel
theorem dX9_would_15 : decode cX9_would 15 = .ok (.iload_n 1, 1) := by decide +kernel
theorem dX9_would_16 : decode cX9_would 16 = .ok (.invokevirtual 86, 3) := by decide +kernel
theorem dX9_would_19 : decode cX9_would 19 = .ok (.astore_n 3, 1) := by decide +kernel
theorem dX9_would_20 : decode cX9_would 20 = .ok (.aload_n 3, 1) := by decide +kernel
theorem dX9_would_21 : decode cX9_would 21 = .ok (.ifnonnull 9, 3) := by decide +kernel
theorem dX9_would_24 : decode cX9_would 24 = .ok (.aload_n 0, 1) := by decide +kernel
theorem dX9_would_25 : decode cX9_would 25 = .ok (.iconst 2, 1) := by decide +kernel
theorem dX9_would_26 : decode cX9_would 26 = .ok (.invokevirtual 52, 3) := by decide +kernel
theorem dX9_would_29 : decode cX9_would 29 = .ok (.ireturn, 1) := by decide +kernel
theorem dX9_would_30 : decode cX9_would 30 = .ok (.aload_n 0, 1) := by decide +kernel
theorem dX9_would_31 : decode cX9_would 31 = .ok (.aload_n 3, 1) := by decide +kernel
theorem dX9_would_32 : decode cX9_would 32 = .ok (.invokevirtual 159, 3) := by decide +kernel
theorem dX9_would_35 : decode cX9_would 35 = .ok (.aload_n 0, 1) := by decide +kernel
theorem dX9_would_36 : decode cX9_would 36 = .ok (.aload_n 0, 1) := by decide +kernel
theorem dX9_would_37 : decode cX9_would 37 = .ok (.getfield 33, 3) := by decide +kernel
theorem dX9_would_40 : decode cX9_would 40 = .ok (.iload_n 2, 1) := by decide +kernel
theorem dX9_would_41 : decode cX9_would 41 = .ok (.invokevirtual 146, 3) := by decide +kernel
theorem dX9_would_44 : decode cX9_would 44 = .ok (.invokevirtual 113, 3) := by decide +kernel
theorem dX9_would_47 : decode cX9_would 47 = .ok (.ireturn, 1) := by decide +kernel
theorem dX9_till_0 : decode cX9_till 0 = .ok (.iload_n 2, 1) := by decide +kernel
theorem dX9_till_1 : decode cX9_till 1 = .ok (.iconst 1, 1) := by decide +kernel
theorem dX9_till_2 : decode cX9_till 2 = .ok (.sipush 600, 3) := by decide +kernel
theorem dX9_till_5 : decode cX9_till 5 = .ok (.invokestatic 76, 3) := by decide +kernel
theorem dX9_till_8 : decode cX9_till 8 = .ok (.ifCond .ne 9, 3) := by decide +kernel
theorem dX9_till_11 : decode cX9_till 11 = .ok (.aload_n 0, 1) := by decide +kernel
theorem dX9_till_12 : decode cX9_till 12 = .ok (.iconst 1, 1) := by decide +kernel
theorem dX9_till_13 : decode cX9_till 13 = .ok (.invokevirtual 52, 3) := by decide +kernel
theorem dX9_till_16 : decode cX9_till 16 = .ok (.ireturn, 1) := by decide +kernel
theorem dX9_till_17 : decode cX9_till 17 = .ok (.aload_n 0, 1) := by decide +kernel
theorem dX9_till_18 : decode cX9_till 18 = .ok (.getfield 19, 3) := by decide +kernel
theorem dX9_till_21 : decode cX9_till 21 = .ok (.iload_n 1, 1) := by decide +kernel
theorem dX9_till_22 : decode cX9_till 22 = .ok (.invokevirtual 86, 3) := by decide +kernel
theorem dX9_till_25 : decode cX9_till 25 = .ok (.astore_n 3, 1) := by decide +kernel
theorem dX9_till_26 : decode cX9_till 26 = .ok (.aload_n 3, 1) := by decide +kernel
theorem dX9_till_27 : decode cX9_till 27 = .ok (.ifnonnull 9, 3) := by decide +kernel
theorem dX9_till_30 : decode cX9_till 30 = .ok (.aload_n 0, 1) := by decide +kernel
theorem dX9_till_31 : decode cX9_till 31 = .ok (.iconst 2, 1) := by decide +kernel
theorem dX9_till_32 : decode cX9_till 32 = .ok (.invokevirtual 52, 3) := by decide +kernel
theorem dX9_till_35 : decode cX9_till 35 = .ok (.ireturn, 1) := by decide +kernel
theorem dX9_till_36 : decode cX9_till 36 = .ok (.aload_n 0, 1) := by decide +kernel
theorem dX9_till_37 : decode cX9_till 37 = .ok (.getfield 33, 3) := by decide +kernel
theorem dX9_till_40 : decode cX9_till 40 = .ok (.aload_n 3, 1) := by decide +kernel
theorem dX9_till_41 : decode cX9_till 41 = .ok (.invokevirtual 163, 3) := by decide +kernel
theorem dX9_till_44 : decode cX9_till 44 = .ok (.aload_n 0, 1) := by decide +kernel
theorem dX9_till_45 : decode cX9_till 45 = .ok (.aload_n 0, 1) := by decide +kernel
theorem dX9_till_46 : decode cX9_till 46 = .ok (.getfield 33, 3) := by decide +kernel
theorem dX9_till_49 : decode cX9_till 49 = .ok (.iload_n 2, 1) := by decide +kernel
theorem dX9_till_50 : decode cX9_till 50 = .ok (.invokevirtual 165, 3) := by decide +kernel
theorem dX9_till_53 : decode cX9_till 53 = .ok (.invokevirtual 113, 3) := by decide +kernel
theorem dX9_till_56 : decode cX9_till 56 = .ok (.ireturn, 1) := by decide +kernel
theorem dX9_origin_0 : decode cX9_origin 0 = .ok (.iload_n 2, 1) := by decide +kernel
theorem dX9_origin_1 : decode cX9_origin 1 = .ok (.iconst 1, 1) := by decide +kernel
theorem dX9_origin_2 : decode cX9_origin 2 = .ok (.if_icmp .ge 9, 3) := by decide +kernel
theorem dX9_origin_5 : decode cX9_origin 5 = .ok (.aload_n 0, 1) := by decide +kernel
theorem dX9_origin_6 : decode cX9_origin 6 = .ok (.iconst 1, 1) := by decide +kernel
theorem dX9_origin_7 : decode cX9_origin 7 = .ok (.invokevirtual 52, 3) := by decide +kernel
theorem dX9_origin_10 : decode cX9_origin 10 = .ok (.ireturn, 1) := by decide +kernel
theorem dX9_origin_11 : decode cX9_origin 11 = .ok (.aload_n 0, 1) := by decide +kernel
theorem dX9_origin_12 : decode cX9_origin 12 = .ok (.getfield 19, 3) := by decide +kernel
theorem dX9_origin_15 : decode cX9_origin 15 = .ok (.iload_n 1, 1) := by decide +kernel
theorem dX9_origin_16 : decode cX9_origin 16 = .ok (.invokevirtual 86, 3) := by decide +kernel
theorem dX9_origin_19 : decode cX9_origin 19 = .ok (.astore_n 3, 1) := by decide +kernel
theorem dX9_origin_20 : decode cX9_origin 20 = .ok (.aload_n 3, 1) := by decide +kernel
theorem dX9_origin_21 : decode cX9_origin 21 = .ok (.ifnonnull 9, 3) := by decide +kernel
theorem dX9_origin_24 : decode cX9_origin 24 = .ok (.aload_n 0, 1) := by decide +kernel
theorem dX9_origin_25 : decode cX9_origin 25 = .ok (.iconst 2, 1) := by decide +kernel
theorem dX9_origin_26 : decode cX9_origin 26 = .ok (.invokevirtual 52, 3) := by decide +kernel
theorem dX9_origin_29 : decode cX9_origin 29 = .ok (.ireturn, 1) := by decide +kernel
theorem dX9_origin_30 : decode cX9_origin 30 = .ok (.aload_n 3, 1) := by decide +kernel
theorem dX9_origin_31 : decode cX9_origin 31 = .ok (.invokestatic 168, 3) := by decide +kernel
theorem dX9_origin_34 : decode cX9_origin 34 = .ok (.ifCond .eq 9, 3) := by decide +kernel
theorem dX9_origin_37 : decode cX9_origin 37 = .ok (.aload_n 0, 1) := by decide +kernel
theorem dX9_origin_38 : decode cX9_origin 38 = .ok (.iconst 5, 1) := by decide +kernel
theorem dX9_origin_39 : decode cX9_origin 39 = .ok (.invokevirtual 52, 3) := by decide +kernel
theorem dX9_origin_42 : decode cX9_origin 42 = .ok (.ireturn, 1) := by decide +kernel
theorem dX9_origin_43 : decode cX9_origin 43 = .ok (.aload_n 0, 1) := by decide +kernel
theorem dX9_origin_44 : decode cX9_origin 44 = .ok (.aload_n 3, 1) := by decide +kernel
theorem dX9_origin_45 : decode cX9_origin 45 = .ok (.iconst 1, 1) := by decide +kernel
theorem dX9_origin_46 : decode cX9_origin 46 = .ok (.aload_n 3, 1) := by decide +kernel
theorem dX9_origin_47 : decode cX9_origin 47 = .ok (.getfield 172, 3) := by decide +kernel
theorem dX9_origin_50 : decode cX9_origin 50 = .ok (.iload_n 2, 1) := by decide +kernel
theorem dX9_origin_51 : decode cX9_origin 51 = .ok (.invokestatic 152, 3) := by decide +kernel
theorem dX9_origin_54 : decode cX9_origin 54 = .ok (.invokevirtual 113, 3) := by decide +kernel
theorem dX9_origin_57 : decode cX9_origin 57 = .ok (.ireturn, 1) := by decide +kernel
theorem dX9_gone_0 : decode cX9_gone 0 = .ok (.iload_n 2, 1) := by decide +kernel
theorem dX9_gone_1 : decode cX9_gone 1 = .ok (.iconst (-1), 1) := by decide +kernel
theorem dX9_gone_2 : decode cX9_gone 2 = .ok (.if_icmp .ge 9, 3) := by decide +kernel
theorem dX9_gone_5 : decode cX9_gone 5 = .ok (.aload_n 0, 1) := by decide +kernel
theorem dX9_gone_6 : decode cX9_gone 6 = .ok (.iconst 1, 1) := by decide +kernel
theorem dX9_gone_7 : decode cX9_gone 7 = .ok (.invokevirtual 52, 3) := by decide +kernel
theorem dX9_gone_10 : decode cX9_gone 10 = .ok (.ireturn, 1) := by decide +kernel
theorem dX9_gone_11 : decode cX9_gone 11 = .ok (.aload_n 0, 1) := by decide +kernel
theorem dX9_gone_12 : decode cX9_gone 12 = .ok (.getfield 19, 3) := by decide +kernel
theorem dX9_gone_15 : decode cX9_gone 15 = .ok (.iload_n 1, 1) := by decide +kernel
theorem dX9_gone_16 : decode cX9_gone 16 = .ok (.invokevirtual 86, 3) := by decide +kernel
theorem dX9_gone_19 : decode cX9_gone 19 = .ok (.astore_n 3, 1) := by decide +kernel
theorem dX9_gone_20 : decode cX9_gone 20 = .ok (.aload_n 3, 1) := by decide +kernel
theorem dX9_gone_21 : decode cX9_gone 21 = .ok (.ifnonnull 9, 3) := by decide +kernel
theorem dX9_gone_24 : decode cX9_gone 24 = .ok (.aload_n 0, 1) := by decide +kernel
theorem dX9_gone_25 : decode cX9_gone 25 = .ok (.iconst 2, 1) := by decide +kernel
theorem dX9_gone_26 : decode cX9_gone 26 = .ok (.invokevirtual 52, 3) := by decide +kernel
theorem dX9_gone_29 : decode cX9_gone 29 = .ok (.ireturn, 1) := by decide +kernel
theorem dX9_gone_30 : decode cX9_gone 30 = .ok (.iload_n 2, 1) := by decide +kernel
theorem dX9_gone_31 : decode cX9_gone 31 = .ok (.iconst (-1), 1) := by decide +kernel
theorem dX9_gone_32 : decode cX9_gone 32 = .ok (.if_icmp .ne 17, 3) := by decide +kernel
theorem dX9_gone_35 : decode cX9_gone 35 = .ok (.aload_n 0, 1) := by decide +kernel
theorem dX9_gone_36 : decode cX9_gone 36 = .ok (.aload_n 3, 1) := by decide +kernel
theorem dX9_gone_37 : decode cX9_gone 37 = .ok (.getfield 126, 3) := by decide +kernel
theorem dX9_gone_40 : decode cX9_gone 40 = .ok (.aload_n 3, 1) := by decide +kernel
theorem dX9_gone_41 : decode cX9_gone 41 = .ok (.getfield 119, 3) := by decide +kernel
theorem dX9_gone_44 : decode cX9_gone 44 = .ok (.isub, 1) := by decide +kernel
theorem dX9_gone_45 : decode cX9_gone 45 = .ok (.invokevirtual 67, 3) := by decide +kernel
theorem dX9_gone_48 : decode cX9_gone 48 = .ok (.ireturn, 1) := by decide +kernel
theorem dX9_gone_49 : decode cX9_gone 49 = .ok (.aload_n 0, 1) := by decide +kernel
theorem dX9_gone_50 : decode cX9_gone 50 = .ok (.aload_n 3, 1) := by decide +kernel
theorem dX9_gone_51 : decode cX9_gone 51 = .ok (.iload_n 2, 1) := by decide +kernel
theorem dX9_gone_52 : decode cX9_gone 52 = .ok (.invokestatic 175, 3) := by decide +kernel
theorem dX9_gone_55 : decode cX9_gone 55 = .ok (.invokevirtual 113, 3) := by decide +kernel
theorem dX9_gone_58 : decode cX9_gone 58 = .ok (.ireturn, 1) := by decide +kernel
theorem dX9_upTo_0 : decode cX9_upTo 0 = .ok (.aload_n 0, 1) := by decide +kernel
theorem dX9_upTo_1 : decode cX9_upTo 1 = .ok (.getfield 19, 3) := by decide +kernel
theorem dX9_upTo_4 : decode cX9_upTo 4 = .ok (.iload_n 1, 1) := by decide +kernel
theorem dX9_upTo_5 : decode cX9_upTo 5 = .ok (.invokevirtual 86, 3) := by decide +kernel
theorem dX9_upTo_8 : decode cX9_upTo 8 = .ok (.astore_n 3, 1) := by decide +kernel
theorem dX9_upTo_9 : decode cX9_upTo 9 = .ok (.aload_n 3, 1) := by decide +kernel
theorem dX9_upTo_10 : decode cX9_upTo 10 = .ok (.ifnonnull 9, 3) := by decide +kernel
theorem dX9_upTo_13 : decode cX9_upTo 13 = .ok (.aload_n 0, 1) := by decide +kernel
theorem dX9_upTo_14 : decode cX9_upTo 14 = .ok (.iconst 2, 1) := by decide +kernel
theorem dX9_upTo_15 : decode cX9_upTo 15 = .ok (.invokevirtual 52, 3) := by decide +kernel
theorem dX9_upTo_18 : decode cX9_upTo 18 = .ok (.ireturn, 1) := by decide +kernel
theorem dX9_upTo_19 : decode cX9_upTo 19 = .ok (.aload_n 0, 1) := by decide +kernel
theorem dX9_upTo_20 : decode cX9_upTo 20 = .ok (.aload_n 3, 1) := by decide +kernel
theorem dX9_upTo_21 : decode cX9_upTo 21 = .ok (.iload_n 2, 1) := by decide +kernel
theorem dX9_upTo_22 : decode cX9_upTo 22 = .ok (.invokevirtual 179, 3) := by decide +kernel
theorem dX9_upTo_25 : decode cX9_upTo 25 = .ok (.invokevirtual 67, 3) := by decide +kernel
theorem dX9_upTo_28 : decode cX9_upTo 28 = .ok (.ireturn, 1) := by decide +kernel
theorem dX9_gap_0 : decode cX9_gap 0 = .ok (.iload_n 2, 1) := by decide +kernel
theorem dX9_gap_1 : decode cX9_gap 1 = .ok (.iconst 1, 1) := by decide +kernel
theorem dX9_gap_2 : decode cX9_gap 2 = .ok (.if_icmp .ge 9, 3) := by decide +kernel
theorem dX9_gap_5 : decode cX9_gap 5 = .ok (.aload_n 0, 1) := by decide +kernel
theorem dX9_gap_6 : decode cX9_gap 6 = .ok (.iconst 1, 1) := by decide +kernel
theorem dX9_gap_7 : decode cX9_gap 7 = .ok (.invokevirtual 52, 3) := by decide +kernel
theorem dX9_gap_10 : decode cX9_gap 10 = .ok (.ireturn, 1) := by decide +kernel
theorem dX9_gap_11 : decode cX9_gap 11 = .ok (.aload_n 0, 1) := by decide +kernel
theorem dX9_gap_12 : decode cX9_gap 12 = .ok (.getfield 19, 3) := by decide +kernel
theorem dX9_gap_15 : decode cX9_gap 15 = .ok (.iload_n 1, 1) := by decide +kernel
theorem dX9_gap_16 : decode cX9_gap 16 = .ok (.invokevirtual 86, 3) := by decide +kernel
theorem dX9_gap_19 : decode cX9_gap 19 = .ok (.astore_n 3, 1) := by decide +kernel
theorem dX9_gap_20 : decode cX9_gap 20 = .ok (.aload_n 3, 1) := by decide +kernel
theorem dX9_gap_21 : decode cX9_gap 21 = .ok (.ifnonnull 9, 3) := by decide +kernel
theorem dX9_gap_24 : decode cX9_gap 24 = .ok (.aload_n 0, 1) := by decide +kernel
theorem dX9_gap_25 : decode cX9_gap 25 = .ok (.iconst 2, 1) := by decide +kernel
theorem dX9_gap_26 : decode cX9_gap 26 = .ok (.invokevirtual 52, 3) := by decide +kernel
theorem dX9_gap_29 : decode cX9_gap 29 = .ok (.ireturn, 1) := by decide +kernel
theorem dX9_gap_30 : decode cX9_gap 30 = .ok (.aload_n 0, 1) := by decide +kernel
theorem dX9_gap_31 : decode cX9_gap 31 = .ok (.aload_n 3, 1) := by decide +kernel
theorem dX9_gap_32 : decode cX9_gap 32 = .ok (.iload_n 2, 1) := by decide +kernel
theorem dX9_gap_33 : decode cX9_gap 33 = .ok (.invokevirtual 182, 3) := by decide +kernel
theorem dX9_gap_36 : decode cX9_gap 36 = .ok (.invokevirtual 113, 3) := by decide +kernel
theorem dX9_gap_39 : decode cX9_gap 39 = .ok (.ireturn, 1) := by decide +kernel
theorem dX9_gaps_0 : decode cX9_gaps 0 = .ok (.iload_n 2, 1) := by decide +kernel
theorem dX9_gaps_1 : decode cX9_gaps 1 = .ok (.iconst 0, 1) := by decide +kernel
theorem dX9_gaps_2 : decode cX9_gaps 2 = .ok (.iconst 3, 1) := by decide +kernel
theorem dX9_gaps_3 : decode cX9_gaps 3 = .ok (.invokestatic 76, 3) := by decide +kernel
theorem dX9_gaps_6 : decode cX9_gaps 6 = .ok (.ifCond .ne 9, 3) := by decide +kernel
theorem dX9_gaps_9 : decode cX9_gaps 9 = .ok (.aload_n 0, 1) := by decide +kernel
theorem dX9_gaps_10 : decode cX9_gaps 10 = .ok (.iconst 1, 1) := by decide +kernel
theorem dX9_gaps_11 : decode cX9_gaps 11 = .ok (.invokevirtual 52, 3) := by decide +kernel
theorem dX9_gaps_14 : decode cX9_gaps 14 = .ok (.ireturn, 1) := by decide +kernel
theorem dX9_gaps_15 : decode cX9_gaps 15 = .ok (.aload_n 0, 1) := by decide +kernel
theorem dX9_gaps_16 : decode cX9_gaps 16 = .ok (.getfield 19, 3) := by decide +kernel
theorem dX9_gaps_19 : decode cX9_gaps 19 = .ok (.iload_n 1, 1) := by decide +kernel
theorem dX9_gaps_20 : decode cX9_gaps 20 = .ok (.invokevirtual 86, 3) := by decide +kernel
theorem dX9_gaps_23 : decode cX9_gaps 23 = .ok (.astore_n 3, 1) := by decide +kernel
theorem dX9_gaps_24 : decode cX9_gaps 24 = .ok (.aload_n 3, 1) := by decide +kernel
theorem dX9_gaps_25 : decode cX9_gaps 25 = .ok (.ifnonnull 9, 3) := by decide +kernel
theorem dX9_gaps_28 : decode cX9_gaps 28 = .ok (.aload_n 0, 1) := by decide +kernel
theorem dX9_gaps_29 : decode cX9_gaps 29 = .ok (.iconst 2, 1) := by decide +kernel
theorem dX9_gaps_30 : decode cX9_gaps 30 = .ok (.invokevirtual 52, 3) := by decide +kernel
theorem dX9_gaps_33 : decode cX9_gaps 33 = .ok (.ireturn, 1) := by decide +kernel
theorem dX9_gaps_34 : decode cX9_gaps 34 = .ok (.aload_n 3, 1) := by decide +kernel
theorem dX9_gaps_35 : decode cX9_gaps 35 = .ok (.getfield 119, 3) := by decide +kernel
theorem dX9_gaps_38 : decode cX9_gaps 38 = .ok (.iconst 2, 1) := by decide +kernel
theorem dX9_gaps_39 : decode cX9_gaps 39 = .ok (.if_icmp .ge 9, 3) := by decide +kernel
theorem dX9_gaps_42 : decode cX9_gaps 42 = .ok (.aload_n 0, 1) := by decide +kernel
theorem dX9_gaps_43 : decode cX9_gaps 43 = .ok (.iconst 5, 1) := by decide +kernel
theorem dX9_gaps_44 : decode cX9_gaps 44 = .ok (.invokevirtual 52, 3) := by decide +kernel
theorem dX9_gaps_47 : decode cX9_gaps 47 = .ok (.ireturn, 1) := by decide +kernel
theorem dX9_gaps_48 : decode cX9_gaps 48 = .ok (.iload_n 2, 1) := by decide +kernel
theorem dX9_gaps_49 : decode cX9_gaps 49 = .ok (.iconst 3, 1) := by decide +kernel
theorem dX9_gaps_50 : decode cX9_gaps 50 = .ok (.if_icmp .ne 16, 3) := by decide +kernel
theorem dX9_gaps_53 : decode cX9_gaps 53 = .ok (.aload_n 0, 1) := by decide +kernel
theorem dX9_gaps_54 : decode cX9_gaps 54 = .ok (.aload_n 3, 1) := by decide +kernel
theorem dX9_gaps_55 : decode cX9_gaps 55 = .ok (.aload_n 0, 1) := by decide +kernel
theorem dX9_gaps_56 : decode cX9_gaps 56 = .ok (.getfield 37, 3) := by decide +kernel
theorem dX9_gaps_59 : decode cX9_gaps 59 = .ok (.invokestatic 185, 3) := by decide +kernel
theorem dX9_gaps_62 : decode cX9_gaps 62 = .ok (.invokevirtual 67, 3) := by decide +kernel
theorem dX9_gaps_65 : decode cX9_gaps 65 = .ok (.ireturn, 1) := by decide +kernel
theorem dX9_gaps_66 : decode cX9_gaps 66 = .ok (.aload_n 3, 1) := by decide +kernel
theorem dX9_gaps_67 : decode cX9_gaps 67 = .ok (.invokestatic 191, 3) := by decide +kernel
theorem dX9_gaps_70 : decode cX9_gaps 70 = .ok (.istore 4, 2) := by decide +kernel
theorem dX9_gaps_72 : decode cX9_gaps 72 = .ok (.iload_n 2, 1) := by decide +kernel
theorem dX9_gaps_73 : decode cX9_gaps 73 = .ok (.iconst 1, 1) := by decide +kernel
theorem dX9_gaps_74 : decode cX9_gaps 74 = .ok (.if_icmp .ne 10, 3) := by decide +kernel
theorem dX9_gaps_77 : decode cX9_gaps 77 = .ok (.aload_n 0, 1) := by decide +kernel
theorem dX9_gaps_78 : decode cX9_gaps 78 = .ok (.iload 4, 2) := by decide +kernel
theorem dX9_gaps_80 : decode cX9_gaps 80 = .ok (.invokevirtual 67, 3) := by decide +kernel
theorem dX9_gaps_83 : decode cX9_gaps 83 = .ok (.ireturn, 1) := by decide +kernel
theorem dX9_gaps_84 : decode cX9_gaps 84 = .ok (.aload_n 3, 1) := by decide +kernel
theorem dX9_gaps_85 : decode cX9_gaps 85 = .ok (.iload 4, 2) := by decide +kernel
theorem dX9_gaps_87 : decode cX9_gaps 87 = .ok (.invokevirtual 182, 3) := by decide +kernel
theorem dX9_gaps_90 : decode cX9_gaps 90 = .ok (.istore 5, 2) := by decide +kernel
theorem dX9_gaps_92 : decode cX9_gaps 92 = .ok (.aload_n 0, 1) := by decide +kernel
theorem dX9_gaps_93 : decode cX9_gaps 93 = .ok (.iload_n 2, 1) := by decide +kernel
theorem dX9_gaps_94 : decode cX9_gaps 94 = .ok (.ifCond .ne 8, 3) := by decide +kernel
theorem dX9_gaps_97 : decode cX9_gaps 97 = .ok (.iload 5, 2) := by decide +kernel
theorem dX9_gaps_99 : decode cX9_gaps 99 = .ok (.goto 9, 3) := by decide +kernel
theorem dX9_gaps_102 : decode cX9_gaps 102 = .ok (.aload_n 3, 1) := by decide +kernel
theorem dX9_gaps_103 : decode cX9_gaps 103 = .ok (.iload 5, 2) := by decide +kernel
theorem dX9_gaps_105 : decode cX9_gaps 105 = .ok (.invokestatic 195, 3) := by decide +kernel
theorem dX9_gaps_108 : decode cX9_gaps 108 = .ok (.invokevirtual 67, 3) := by decide +kernel
theorem dX9_gaps_111 : decode cX9_gaps 111 = .ok (.ireturn, 1) := by decide +kernel
theorem dX9_gapsOf_0 : decode cX9_gapsOf 0 = .ok (.aload_n 0, 1) := by decide +kernel
theorem dX9_gapsOf_1 : decode cX9_gapsOf 1 = .ok (.getfield 19, 3) := by decide +kernel
theorem dX9_gapsOf_4 : decode cX9_gapsOf 4 = .ok (.iload_n 1, 1) := by decide +kernel
theorem dX9_gapsOf_5 : decode cX9_gapsOf 5 = .ok (.invokevirtual 86, 3) := by decide +kernel
theorem dX9_gapsOf_8 : decode cX9_gapsOf 8 = .ok (.astore_n 3, 1) := by decide +kernel
theorem dX9_gapsOf_9 : decode cX9_gapsOf 9 = .ok (.aload_n 3, 1) := by decide +kernel
theorem dX9_gapsOf_10 : decode cX9_gapsOf 10 = .ok (.ifnonnull 9, 3) := by decide +kernel
theorem dX9_gapsOf_13 : decode cX9_gapsOf 13 = .ok (.aload_n 0, 1) := by decide +kernel
theorem dX9_gapsOf_14 : decode cX9_gapsOf 14 = .ok (.iconst 2, 1) := by decide +kernel
theorem dX9_gapsOf_15 : decode cX9_gapsOf 15 = .ok (.invokevirtual 52, 3) := by decide +kernel
theorem dX9_gapsOf_18 : decode cX9_gapsOf 18 = .ok (.ireturn, 1) := by decide +kernel
theorem dX9_gapsOf_19 : decode cX9_gapsOf 19 = .ok (.aload_n 0, 1) := by decide +kernel
theorem dX9_gapsOf_20 : decode cX9_gapsOf 20 = .ok (.aload_n 3, 1) := by decide +kernel
theorem dX9_gapsOf_21 : decode cX9_gapsOf 21 = .ok (.iload_n 2, 1) := by decide +kernel
theorem dX9_gapsOf_22 : decode cX9_gapsOf 22 = .ok (.invokestatic 195, 3) := by decide +kernel
theorem dX9_gapsOf_25 : decode cX9_gapsOf 25 = .ok (.invokevirtual 67, 3) := by decide +kernel
theorem dX9_gapsOf_28 : decode cX9_gapsOf 28 = .ok (.ireturn, 1) := by decide +kernel
theorem dX9_record_0 : decode cX9_record 0 = .ok (.iload_n 2, 1) := by decide +kernel
theorem dX9_record_1 : decode cX9_record 1 = .ok (.iconst (-1), 1) := by decide +kernel
theorem dX9_record_2 : decode cX9_record 2 = .ok (.if_icmp .ge 9, 3) := by decide +kernel
theorem dX9_record_5 : decode cX9_record 5 = .ok (.aload_n 0, 1) := by decide +kernel
theorem dX9_record_6 : decode cX9_record 6 = .ok (.iconst 1, 1) := by decide +kernel
theorem dX9_record_7 : decode cX9_record 7 = .ok (.invokevirtual 52, 3) := by decide +kernel
theorem dX9_record_10 : decode cX9_record 10 = .ok (.ireturn, 1) := by decide +kernel
theorem dX9_record_11 : decode cX9_record 11 = .ok (.aload_n 0, 1) := by decide +kernel
theorem dX9_record_12 : decode cX9_record 12 = .ok (.getfield 19, 3) := by decide +kernel
theorem dX9_record_15 : decode cX9_record 15 = .ok (.iload_n 1, 1) := by decide +kernel
theorem dX9_record_16 : decode cX9_record 16 = .ok (.invokevirtual 86, 3) := by decide +kernel
theorem dX9_record_19 : decode cX9_record 19 = .ok (.astore_n 3, 1) := by decide +kernel
theorem dX9_record_20 : decode cX9_record 20 = .ok (.aload_n 3, 1) := by decide +kernel
theorem dX9_record_21 : decode cX9_record 21 = .ok (.ifnonnull 9, 3) := by decide +kernel
theorem dX9_record_24 : decode cX9_record 24 = .ok (.aload_n 0, 1) := by decide +kernel
theorem dX9_record_25 : decode cX9_record 25 = .ok (.iconst 2, 1) := by decide +kernel
theorem dX9_record_26 : decode cX9_record 26 = .ok (.invokevirtual 52, 3) := by decide +kernel
theorem dX9_record_29 : decode cX9_record 29 = .ok (.ireturn, 1) := by decide +kernel
theorem dX9_record_30 : decode cX9_record 30 = .ok (.aload_n 0, 1) := by decide +kernel
theorem dX9_record_31 : decode cX9_record 31 = .ok (.aload_n 3, 1) := by decide +kernel
theorem dX9_record_32 : decode cX9_record 32 = .ok (.iload_n 2, 1) := by decide +kernel
theorem dX9_record_33 : decode cX9_record 33 = .ok (.invokestatic 198, 3) := by decide +kernel
theorem dX9_record_36 : decode cX9_record 36 = .ok (.invokevirtual 113, 3) := by decide +kernel
theorem dX9_record_39 : decode cX9_record 39 = .ok (.ireturn, 1) := by decide +kernel
theorem dX9_pairs_0 : decode cX9_pairs 0 = .ok (.iload_n 2, 1) := by decide +kernel
theorem dX9_pairs_1 : decode cX9_pairs 1 = .ok (.iconst 1, 1) := by decide +kernel
theorem dX9_pairs_2 : decode cX9_pairs 2 = .ok (.if_icmp .lt 12, 3) := by decide +kernel
theorem dX9_pairs_5 : decode cX9_pairs 5 = .ok (.iload_n 3, 1) := by decide +kernel
theorem dX9_pairs_6 : decode cX9_pairs 6 = .ok (.iconst 0, 1) := by decide +kernel
theorem dX9_pairs_7 : decode cX9_pairs 7 = .ok (.iconst 2, 1) := by decide +kernel
theorem dX9_pairs_8 : decode cX9_pairs 8 = .ok (.invokestatic 76, 3) := by decide +kernel
theorem dX9_pairs_11 : decode cX9_pairs 11 = .ok (.ifCond .ne 9, 3) := by decide +kernel
theorem dX9_pairs_14 : decode cX9_pairs 14 = .ok (.aload_n 0, 1) := by decide +kernel
theorem dX9_pairs_15 : decode cX9_pairs 15 = .ok (.iconst 1, 1) := by decide +kernel
theorem dX9_pairs_16 : decode cX9_pairs 16 = .ok (.invokevirtual 52, 3) := by decide +kernel
theorem dX9_pairs_19 : decode cX9_pairs 19 = .ok (.ireturn, 1) := by decide +kernel
theorem dX9_pairs_20 : decode cX9_pairs 20 = .ok (.aload_n 0, 1) := by decide +kernel
theorem dX9_pairs_21 : decode cX9_pairs 21 = .ok (.getfield 19, 3) := by decide +kernel
theorem dX9_pairs_24 : decode cX9_pairs 24 = .ok (.iload_n 1, 1) := by decide +kernel
theorem dX9_pairs_25 : decode cX9_pairs 25 = .ok (.invokevirtual 86, 3) := by decide +kernel
theorem dX9_pairs_28 : decode cX9_pairs 28 = .ok (.astore 4, 2) := by decide +kernel
theorem dX9_pairs_30 : decode cX9_pairs 30 = .ok (.aload 4, 2) := by decide +kernel
theorem dX9_pairs_32 : decode cX9_pairs 32 = .ok (.ifnonnull 9, 3) := by decide +kernel
theorem dX9_pairs_35 : decode cX9_pairs 35 = .ok (.aload_n 0, 1) := by decide +kernel
theorem dX9_pairs_36 : decode cX9_pairs 36 = .ok (.iconst 2, 1) := by decide +kernel
theorem dX9_pairs_37 : decode cX9_pairs 37 = .ok (.invokevirtual 52, 3) := by decide +kernel
theorem dX9_pairs_40 : decode cX9_pairs 40 = .ok (.ireturn, 1) := by decide +kernel
theorem dX9_pairs_41 : decode cX9_pairs 41 = .ok (.aload_n 0, 1) := by decide +kernel
theorem dX9_pairs_42 : decode cX9_pairs 42 = .ok (.aload 4, 2) := by decide +kernel
theorem dX9_pairs_44 : decode cX9_pairs 44 = .ok (.iload_n 2, 1) := by decide +kernel
theorem dX9_pairs_45 : decode cX9_pairs 45 = .ok (.iload_n 3, 1) := by decide +kernel
theorem dX9_pairs_46 : decode cX9_pairs 46 = .ok (.invokestatic 201, 3) := by decide +kernel
theorem dX9_pairs_49 : decode cX9_pairs 49 = .ok (.invokevirtual 113, 3) := by decide +kernel
theorem dX9_pairs_52 : decode cX9_pairs 52 = .ok (.ireturn, 1) := by decide +kernel
theorem dX9_triples_0 : decode cX9_triples 0 = .ok (.iload_n 2, 1) := by decide +kernel
theorem dX9_triples_1 : decode cX9_triples 1 = .ok (.iconst 1, 1) := by decide +kernel
theorem dX9_triples_2 : decode cX9_triples 2 = .ok (.if_icmp .lt 8, 3) := by decide +kernel
theorem dX9_triples_5 : decode cX9_triples 5 = .ok (.iload_n 3, 1) := by decide +kernel
theorem dX9_triples_6 : decode cX9_triples 6 = .ok (.iload_n 2, 1) := by decide +kernel
theorem dX9_triples_7 : decode cX9_triples 7 = .ok (.if_icmp .gt 9, 3) := by decide +kernel
theorem dX9_triples_10 : decode cX9_triples 10 = .ok (.aload_n 0, 1) := by decide +kernel
theorem dX9_triples_11 : decode cX9_triples 11 = .ok (.iconst 1, 1) := by decide +kernel
theorem dX9_triples_12 : decode cX9_triples 12 = .ok (.invokevirtual 52, 3) := by decide +kernel
theorem dX9_triples_15 : decode cX9_triples 15 = .ok (.ireturn, 1) := by decide +kernel
theorem dX9_triples_16 : decode cX9_triples 16 = .ok (.aload_n 0, 1) := by decide +kernel
theorem dX9_triples_17 : decode cX9_triples 17 = .ok (.getfield 19, 3) := by decide +kernel
theorem dX9_triples_20 : decode cX9_triples 20 = .ok (.iload_n 1, 1) := by decide +kernel
theorem dX9_triples_21 : decode cX9_triples 21 = .ok (.invokevirtual 86, 3) := by decide +kernel
theorem dX9_triples_24 : decode cX9_triples 24 = .ok (.astore 4, 2) := by decide +kernel
theorem dX9_triples_26 : decode cX9_triples 26 = .ok (.aload 4, 2) := by decide +kernel
theorem dX9_triples_28 : decode cX9_triples 28 = .ok (.ifnonnull 9, 3) := by decide +kernel
theorem dX9_triples_31 : decode cX9_triples 31 = .ok (.aload_n 0, 1) := by decide +kernel
theorem dX9_triples_32 : decode cX9_triples 32 = .ok (.iconst 2, 1) := by decide +kernel
theorem dX9_triples_33 : decode cX9_triples 33 = .ok (.invokevirtual 52, 3) := by decide +kernel
theorem dX9_triples_36 : decode cX9_triples 36 = .ok (.ireturn, 1) := by decide +kernel
theorem dX9_triples_37 : decode cX9_triples 37 = .ok (.aload_n 0, 1) := by decide +kernel
theorem dX9_triples_38 : decode cX9_triples 38 = .ok (.aload 4, 2) := by decide +kernel
theorem dX9_triples_40 : decode cX9_triples 40 = .ok (.iload_n 2, 1) := by decide +kernel
theorem dX9_triples_41 : decode cX9_triples 41 = .ok (.iload_n 3, 1) := by decide +kernel
theorem dX9_triples_42 : decode cX9_triples 42 = .ok (.invokestatic 206, 3) := by decide +kernel
theorem dX9_triples_45 : decode cX9_triples 45 = .ok (.invokevirtual 67, 3) := by decide +kernel
theorem dX9_triples_48 : decode cX9_triples 48 = .ok (.ireturn, 1) := by decide +kernel
theorem dX9_sums_0 : decode cX9_sums 0 = .ok (.aload_n 0, 1) := by decide +kernel
theorem dX9_sums_1 : decode cX9_sums 1 = .ok (.getfield 19, 3) := by decide +kernel
theorem dX9_sums_4 : decode cX9_sums 4 = .ok (.iload_n 1, 1) := by decide +kernel
theorem dX9_sums_5 : decode cX9_sums 5 = .ok (.invokevirtual 86, 3) := by decide +kernel
theorem dX9_sums_8 : decode cX9_sums 8 = .ok (.astore_n 3, 1) := by decide +kernel
theorem dX9_sums_9 : decode cX9_sums 9 = .ok (.aload_n 3, 1) := by decide +kernel
theorem dX9_sums_10 : decode cX9_sums 10 = .ok (.ifnonnull 9, 3) := by decide +kernel
theorem dX9_sums_13 : decode cX9_sums 13 = .ok (.aload_n 0, 1) := by decide +kernel
theorem dX9_sums_14 : decode cX9_sums 14 = .ok (.iconst 2, 1) := by decide +kernel
theorem dX9_sums_15 : decode cX9_sums 15 = .ok (.invokevirtual 52, 3) := by decide +kernel
theorem dX9_sums_18 : decode cX9_sums 18 = .ok (.ireturn, 1) := by decide +kernel
theorem dX9_sums_19 : decode cX9_sums 19 = .ok (.aload_n 0, 1) := by decide +kernel
theorem dX9_sums_20 : decode cX9_sums 20 = .ok (.aload_n 3, 1) := by decide +kernel
theorem dX9_sums_21 : decode cX9_sums 21 = .ok (.iload_n 2, 1) := by decide +kernel
theorem dX9_sums_22 : decode cX9_sums 22 = .ok (.invokestatic 209, 3) := by decide +kernel
theorem dX9_sums_25 : decode cX9_sums 25 = .ok (.invokevirtual 67, 3) := by decide +kernel
theorem dX9_sums_28 : decode cX9_sums 28 = .ok (.ireturn, 1) := by decide +kernel
theorem dX9_misses_0 : decode cX9_misses 0 = .ok (.iload_n 2, 1) := by decide +kernel
theorem dX9_misses_1 : decode cX9_misses 1 = .ok (.iconst 1, 1) := by decide +kernel
theorem dX9_misses_2 : decode cX9_misses 2 = .ok (.bipush 99, 2) := by decide +kernel
theorem dX9_misses_4 : decode cX9_misses 4 = .ok (.invokestatic 76, 3) := by decide +kernel
theorem dX9_misses_7 : decode cX9_misses 7 = .ok (.ifCond .ne 9, 3) := by decide +kernel
theorem dX9_misses_10 : decode cX9_misses 10 = .ok (.aload_n 0, 1) := by decide +kernel
theorem dX9_misses_11 : decode cX9_misses 11 = .ok (.iconst 1, 1) := by decide +kernel
theorem dX9_misses_12 : decode cX9_misses 12 = .ok (.invokevirtual 52, 3) := by decide +kernel
theorem dX9_misses_15 : decode cX9_misses 15 = .ok (.ireturn, 1) := by decide +kernel
theorem dX9_misses_16 : decode cX9_misses 16 = .ok (.aload_n 0, 1) := by decide +kernel
theorem dX9_misses_17 : decode cX9_misses 17 = .ok (.getfield 19, 3) := by decide +kernel
theorem dX9_misses_20 : decode cX9_misses 20 = .ok (.iload_n 1, 1) := by decide +kernel
theorem dX9_misses_21 : decode cX9_misses 21 = .ok (.invokevirtual 86, 3) := by decide +kernel
theorem dX9_misses_24 : decode cX9_misses 24 = .ok (.astore_n 3, 1) := by decide +kernel
theorem dX9_misses_25 : decode cX9_misses 25 = .ok (.aload_n 3, 1) := by decide +kernel
theorem dX9_misses_26 : decode cX9_misses 26 = .ok (.ifnonnull 9, 3) := by decide +kernel
theorem dX9_misses_29 : decode cX9_misses 29 = .ok (.aload_n 0, 1) := by decide +kernel
theorem dX9_misses_30 : decode cX9_misses 30 = .ok (.iconst 2, 1) := by decide +kernel
theorem dX9_misses_31 : decode cX9_misses 31 = .ok (.invokevirtual 52, 3) := by decide +kernel
theorem dX9_misses_34 : decode cX9_misses 34 = .ok (.ireturn, 1) := by decide +kernel
theorem dX9_misses_35 : decode cX9_misses 35 = .ok (.aload_n 0, 1) := by decide +kernel
theorem dX9_misses_36 : decode cX9_misses 36 = .ok (.aload_n 3, 1) := by decide +kernel
theorem dX9_misses_37 : decode cX9_misses 37 = .ok (.iload_n 2, 1) := by decide +kernel
theorem dX9_misses_38 : decode cX9_misses 38 = .ok (.invokestatic 212, 3) := by decide +kernel
theorem dX9_misses_41 : decode cX9_misses 41 = .ok (.invokevirtual 113, 3) := by decide +kernel
theorem dX9_misses_44 : decode cX9_misses 44 = .ok (.ireturn, 1) := by decide +kernel
theorem dX9_run_0 : decode cX9_run 0 = .ok (.iload_n 2, 1) := by decide +kernel
theorem dX9_run_1 : decode cX9_run 1 = .ok (.iconst 0, 1) := by decide +kernel
theorem dX9_run_2 : decode cX9_run 2 = .ok (.iconst 1, 1) := by decide +kernel
theorem dX9_run_3 : decode cX9_run 3 = .ok (.invokestatic 76, 3) := by decide +kernel
theorem dX9_run_6 : decode cX9_run 6 = .ok (.ifCond .ne 9, 3) := by decide +kernel
theorem dX9_run_9 : decode cX9_run 9 = .ok (.aload_n 0, 1) := by decide +kernel
theorem dX9_run_10 : decode cX9_run 10 = .ok (.iconst 1, 1) := by decide +kernel
theorem dX9_run_11 : decode cX9_run 11 = .ok (.invokevirtual 52, 3) := by decide +kernel
theorem dX9_run_14 : decode cX9_run 14 = .ok (.ireturn, 1) := by decide +kernel
theorem dX9_run_15 : decode cX9_run 15 = .ok (.aload_n 0, 1) := by decide +kernel
theorem dX9_run_16 : decode cX9_run 16 = .ok (.getfield 19, 3) := by decide +kernel
theorem dX9_run_19 : decode cX9_run 19 = .ok (.iload_n 1, 1) := by decide +kernel
theorem dX9_run_20 : decode cX9_run 20 = .ok (.invokevirtual 86, 3) := by decide +kernel
theorem dX9_run_23 : decode cX9_run 23 = .ok (.astore_n 3, 1) := by decide +kernel
theorem dX9_run_24 : decode cX9_run 24 = .ok (.aload_n 3, 1) := by decide +kernel
theorem dX9_run_25 : decode cX9_run 25 = .ok (.ifnonnull 9, 3) := by decide +kernel
theorem dX9_run_28 : decode cX9_run 28 = .ok (.aload_n 0, 1) := by decide +kernel
theorem dX9_run_29 : decode cX9_run 29 = .ok (.iconst 2, 1) := by decide +kernel
theorem dX9_run_30 : decode cX9_run 30 = .ok (.invokevirtual 52, 3) := by decide +kernel
theorem dX9_run_33 : decode cX9_run 33 = .ok (.ireturn, 1) := by decide +kernel
theorem dX9_run_34 : decode cX9_run 34 = .ok (.aload_n 3, 1) := by decide +kernel
theorem dX9_run_35 : decode cX9_run 35 = .ok (.invokestatic 215, 3) := by decide +kernel
theorem dX9_run_38 : decode cX9_run 38 = .ok (.istore 4, 2) := by decide +kernel
theorem dX9_run_40 : decode cX9_run 40 = .ok (.aload_n 0, 1) := by decide +kernel
theorem dX9_run_41 : decode cX9_run 41 = .ok (.iload_n 2, 1) := by decide +kernel
theorem dX9_run_42 : decode cX9_run 42 = .ok (.iconst 1, 1) := by decide +kernel
theorem dX9_run_43 : decode cX9_run 43 = .ok (.if_icmp .ne 8, 3) := by decide +kernel
theorem dX9_run_46 : decode cX9_run 46 = .ok (.iload 4, 2) := by decide +kernel
theorem dX9_run_48 : decode cX9_run 48 = .ok (.goto 14, 3) := by decide +kernel
theorem dX9_run_51 : decode cX9_run 51 = .ok (.aload_n 3, 1) := by decide +kernel
theorem dX9_run_52 : decode cX9_run 52 = .ok (.iload 4, 2) := by decide +kernel
theorem dX9_run_54 : decode cX9_run 54 = .ok (.invokestatic 218, 3) := by decide +kernel
theorem dX9_run_57 : decode cX9_run 57 = .ok (.iload 4, 2) := by decide +kernel
theorem dX9_run_59 : decode cX9_run 59 = .ok (.isub, 1) := by decide +kernel
theorem dX9_run_60 : decode cX9_run 60 = .ok (.iconst 1, 1) := by decide +kernel
theorem dX9_run_61 : decode cX9_run 61 = .ok (.iadd, 1) := by decide +kernel
theorem dX9_run_62 : decode cX9_run 62 = .ok (.invokevirtual 67, 3) := by decide +kernel
theorem dX9_run_65 : decode cX9_run 65 = .ok (.ireturn, 1) := by decide +kernel
theorem dX9_progression_0 : decode cX9_progression 0 = .ok (.iload_n 2, 1) := by decide +kernel
theorem dX9_progression_1 : decode cX9_progression 1 = .ok (.iconst 1, 1) := by decide +kernel
theorem dX9_progression_2 : decode cX9_progression 2 = .ok (.if_icmp .lt 12, 3) := by decide +kernel
theorem dX9_progression_5 : decode cX9_progression 5 = .ok (.iload_n 3, 1) := by decide +kernel
theorem dX9_progression_6 : decode cX9_progression 6 = .ok (.iconst 0, 1) := by decide +kernel
theorem dX9_progression_7 : decode cX9_progression 7 = .ok (.iconst 1, 1) := by decide +kernel
theorem dX9_progression_8 : decode cX9_progression 8 = .ok (.invokestatic 76, 3) := by decide +kernel
theorem dX9_progression_11 : decode cX9_progression 11 = .ok (.ifCond .ne 9, 3) := by decide +kernel
theorem dX9_progression_14 : decode cX9_progression 14 = .ok (.aload_n 0, 1) := by decide +kernel
theorem dX9_progression_15 : decode cX9_progression 15 = .ok (.iconst 1, 1) := by decide +kernel
theorem dX9_progression_16 : decode cX9_progression 16 = .ok (.invokevirtual 52, 3) := by decide +kernel
theorem dX9_progression_19 : decode cX9_progression 19 = .ok (.ireturn, 1) := by decide +kernel
theorem dX9_progression_20 : decode cX9_progression 20 = .ok (.aload_n 0, 1) := by decide +kernel
theorem dX9_progression_21 : decode cX9_progression 21 = .ok (.getfield 19, 3) := by decide +kernel
theorem dX9_progression_24 : decode cX9_progression 24 = .ok (.iload_n 1, 1) := by decide +kernel
theorem dX9_progression_25 : decode cX9_progression 25 = .ok (.invokevirtual 86, 3) := by decide +kernel
theorem dX9_progression_28 : decode cX9_progression 28 = .ok (.astore 4, 2) := by decide +kernel
theorem dX9_progression_30 : decode cX9_progression 30 = .ok (.aload 4, 2) := by decide +kernel
theorem dX9_progression_32 : decode cX9_progression 32 = .ok (.ifnonnull 9, 3) := by decide +kernel
theorem dX9_progression_35 : decode cX9_progression 35 = .ok (.aload_n 0, 1) := by decide +kernel
theorem dX9_progression_36 : decode cX9_progression 36 = .ok (.iconst 2, 1) := by decide +kernel
theorem dX9_progression_37 : decode cX9_progression 37 = .ok (.invokevirtual 52, 3) := by decide +kernel
theorem dX9_progression_40 : decode cX9_progression 40 = .ok (.ireturn, 1) := by decide +kernel
theorem dX9_progression_41 : decode cX9_progression 41 = .ok (.aload 4, 2) := by decide +kernel
theorem dX9_progression_43 : decode cX9_progression 43 = .ok (.iload_n 2, 1) := by decide +kernel
theorem dX9_progression_44 : decode cX9_progression 44 = .ok (.invokestatic 221, 3) := by decide +kernel
theorem dX9_progression_47 : decode cX9_progression 47 = .ok (.istore 5, 2) := by decide +kernel
theorem dX9_progression_49 : decode cX9_progression 49 = .ok (.aload_n 0, 1) := by decide +kernel
theorem dX9_progression_50 : decode cX9_progression 50 = .ok (.iload_n 3, 1) := by decide +kernel
theorem dX9_progression_51 : decode cX9_progression 51 = .ok (.iconst 1, 1) := by decide +kernel
theorem dX9_progression_52 : decode cX9_progression 52 = .ok (.if_icmp .ne 8, 3) := by decide +kernel
theorem dX9_progression_55 : decode cX9_progression 55 = .ok (.iload 5, 2) := by decide +kernel
theorem dX9_progression_57 : decode cX9_progression 57 = .ok (.goto 11, 3) := by decide +kernel
theorem dX9_progression_60 : decode cX9_progression 60 = .ok (.aload 4, 2) := by decide +kernel
theorem dX9_progression_62 : decode cX9_progression 62 = .ok (.iload 5, 2) := by decide +kernel
theorem dX9_progression_64 : decode cX9_progression 64 = .ok (.iload_n 2, 1) := by decide +kernel
theorem dX9_progression_65 : decode cX9_progression 65 = .ok (.invokestatic 224, 3) := by decide +kernel
theorem dX9_progression_68 : decode cX9_progression 68 = .ok (.invokevirtual 67, 3) := by decide +kernel
theorem dX9_progression_71 : decode cX9_progression 71 = .ok (.ireturn, 1) := by decide +kernel
theorem dX9_rests_0 : decode cX9_rests 0 = .ok (.iload_n 2, 1) := by decide +kernel
theorem dX9_rests_1 : decode cX9_rests 1 = .ok (.iconst 1, 1) := by decide +kernel
theorem dX9_rests_2 : decode cX9_rests 2 = .ok (.sipush 999, 3) := by decide +kernel
theorem dX9_rests_5 : decode cX9_rests 5 = .ok (.invokestatic 76, 3) := by decide +kernel
theorem dX9_rests_8 : decode cX9_rests 8 = .ok (.ifCond .eq 14, 3) := by decide +kernel
theorem dX9_rests_11 : decode cX9_rests 11 = .ok (.iload_n 3, 1) := by decide +kernel
theorem dX9_rests_12 : decode cX9_rests 12 = .ok (.iconst (-1), 1) := by decide +kernel
theorem dX9_rests_13 : decode cX9_rests 13 = .ok (.iload_n 2, 1) := by decide +kernel
theorem dX9_rests_14 : decode cX9_rests 14 = .ok (.iconst 1, 1) := by decide +kernel
theorem dX9_rests_15 : decode cX9_rests 15 = .ok (.isub, 1) := by decide +kernel
theorem dX9_rests_16 : decode cX9_rests 16 = .ok (.invokestatic 76, 3) := by decide +kernel
theorem dX9_rests_19 : decode cX9_rests 19 = .ok (.ifCond .ne 9, 3) := by decide +kernel
theorem dX9_rests_22 : decode cX9_rests 22 = .ok (.aload_n 0, 1) := by decide +kernel
theorem dX9_rests_23 : decode cX9_rests 23 = .ok (.iconst 1, 1) := by decide +kernel
theorem dX9_rests_24 : decode cX9_rests 24 = .ok (.invokevirtual 52, 3) := by decide +kernel
theorem dX9_rests_27 : decode cX9_rests 27 = .ok (.ireturn, 1) := by decide +kernel
theorem dX9_rests_28 : decode cX9_rests 28 = .ok (.aload_n 0, 1) := by decide +kernel
theorem dX9_rests_29 : decode cX9_rests 29 = .ok (.getfield 19, 3) := by decide +kernel
theorem dX9_rests_32 : decode cX9_rests 32 = .ok (.iload_n 1, 1) := by decide +kernel
theorem dX9_rests_33 : decode cX9_rests 33 = .ok (.invokevirtual 86, 3) := by decide +kernel
theorem dX9_rests_36 : decode cX9_rests 36 = .ok (.astore 4, 2) := by decide +kernel
theorem dX9_rests_38 : decode cX9_rests 38 = .ok (.aload 4, 2) := by decide +kernel
theorem dX9_rests_40 : decode cX9_rests 40 = .ok (.ifnonnull 9, 3) := by decide +kernel
theorem dX9_rests_43 : decode cX9_rests 43 = .ok (.aload_n 0, 1) := by decide +kernel
theorem dX9_rests_44 : decode cX9_rests 44 = .ok (.iconst 2, 1) := by decide +kernel
theorem dX9_rests_45 : decode cX9_rests 45 = .ok (.invokevirtual 52, 3) := by decide +kernel
theorem dX9_rests_48 : decode cX9_rests 48 = .ok (.ireturn, 1) := by decide +kernel
theorem dX9_rests_49 : decode cX9_rests 49 = .ok (.aload_n 0, 1) := by decide +kernel
theorem dX9_rests_50 : decode cX9_rests 50 = .ok (.aload 4, 2) := by decide +kernel
theorem dX9_rests_52 : decode cX9_rests 52 = .ok (.iload_n 2, 1) := by decide +kernel
theorem dX9_rests_53 : decode cX9_rests 53 = .ok (.iload_n 3, 1) := by decide +kernel
theorem dX9_rests_54 : decode cX9_rests 54 = .ok (.aload_n 0, 1) := by decide +kernel
theorem dX9_rests_55 : decode cX9_rests 55 = .ok (.getfield 37, 3) := by decide +kernel
theorem dX9_rests_58 : decode cX9_rests 58 = .ok (.invokestatic 227, 3) := by decide +kernel
theorem dX9_rests_61 : decode cX9_rests 61 = .ok (.invokevirtual 67, 3) := by decide +kernel
theorem dX9_rests_64 : decode cX9_rests 64 = .ok (.ireturn, 1) := by decide +kernel
theorem dX9_ring_0 : decode cX9_ring 0 = .ok (.iload_n 2, 1) := by decide +kernel
theorem dX9_ring_1 : decode cX9_ring 1 = .ok (.iconst 1, 1) := by decide +kernel
theorem dX9_ring_2 : decode cX9_ring 2 = .ok (.if_icmp .lt 8, 3) := by decide +kernel
theorem dX9_ring_5 : decode cX9_ring 5 = .ok (.iload_n 3, 1) := by decide +kernel
theorem dX9_ring_6 : decode cX9_ring 6 = .ok (.iconst (-1), 1) := by decide +kernel
theorem dX9_ring_7 : decode cX9_ring 7 = .ok (.if_icmp .ge 9, 3) := by decide +kernel
theorem dX9_ring_10 : decode cX9_ring 10 = .ok (.aload_n 0, 1) := by decide +kernel
theorem dX9_ring_11 : decode cX9_ring 11 = .ok (.iconst 1, 1) := by decide +kernel
theorem dX9_ring_12 : decode cX9_ring 12 = .ok (.invokevirtual 52, 3) := by decide +kernel
theorem dX9_ring_15 : decode cX9_ring 15 = .ok (.ireturn, 1) := by decide +kernel
theorem dX9_ring_16 : decode cX9_ring 16 = .ok (.aload_n 0, 1) := by decide +kernel
theorem dX9_ring_17 : decode cX9_ring 17 = .ok (.getfield 19, 3) := by decide +kernel
theorem dX9_ring_20 : decode cX9_ring 20 = .ok (.iload_n 1, 1) := by decide +kernel
theorem dX9_ring_21 : decode cX9_ring 21 = .ok (.invokevirtual 86, 3) := by decide +kernel
theorem dX9_ring_24 : decode cX9_ring 24 = .ok (.astore 4, 2) := by decide +kernel
theorem dX9_ring_26 : decode cX9_ring 26 = .ok (.aload 4, 2) := by decide +kernel
theorem dX9_ring_28 : decode cX9_ring 28 = .ok (.ifnonnull 9, 3) := by decide +kernel
theorem dX9_ring_31 : decode cX9_ring 31 = .ok (.aload_n 0, 1) := by decide +kernel
theorem dX9_ring_32 : decode cX9_ring 32 = .ok (.iconst 2, 1) := by decide +kernel
theorem dX9_ring_33 : decode cX9_ring 33 = .ok (.invokevirtual 52, 3) := by decide +kernel
theorem dX9_ring_36 : decode cX9_ring 36 = .ok (.ireturn, 1) := by decide +kernel
theorem dX9_ring_37 : decode cX9_ring 37 = .ok (.iload_n 3, 1) := by decide +kernel
theorem dX9_ring_38 : decode cX9_ring 38 = .ok (.iconst (-1), 1) := by decide +kernel
theorem dX9_ring_39 : decode cX9_ring 39 = .ok (.if_icmp .ne 13, 3) := by decide +kernel
theorem dX9_ring_42 : decode cX9_ring 42 = .ok (.aload 4, 2) := by decide +kernel
theorem dX9_ring_44 : decode cX9_ring 44 = .ok (.getfield 119, 3) := by decide +kernel
theorem dX9_ring_47 : decode cX9_ring 47 = .ok (.iconst 1, 1) := by decide +kernel
theorem dX9_ring_48 : decode cX9_ring 48 = .ok (.isub, 1) := by decide +kernel
theorem dX9_ring_49 : decode cX9_ring 49 = .ok (.goto 4, 3) := by decide +kernel
theorem dX9_ring_52 : decode cX9_ring 52 = .ok (.iload_n 3, 1) := by decide +kernel
theorem dX9_ring_53 : decode cX9_ring 53 = .ok (.istore 5, 2) := by decide +kernel
theorem dX9_ring_55 : decode cX9_ring 55 = .ok (.aload_n 0, 1) := by decide +kernel
theorem dX9_ring_56 : decode cX9_ring 56 = .ok (.aload 4, 2) := by decide +kernel
theorem dX9_ring_58 : decode cX9_ring 58 = .ok (.iload_n 2, 1) := by decide +kernel
theorem dX9_ring_59 : decode cX9_ring 59 = .ok (.iload 5, 2) := by decide +kernel
theorem dX9_ring_61 : decode cX9_ring 61 = .ok (.invokestatic 231, 3) := by decide +kernel
theorem dX9_ring_64 : decode cX9_ring 64 = .ok (.invokevirtual 113, 3) := by decide +kernel
theorem dX9_ring_67 : decode cX9_ring 67 = .ok (.ireturn, 1) := by decide +kernel
theorem dX9_chain_0 : decode cX9_chain 0 = .ok (.iload_n 3, 1) := by decide +kernel
theorem dX9_chain_1 : decode cX9_chain 1 = .ok (.iconst 0, 1) := by decide +kernel
theorem dX9_chain_2 : decode cX9_chain 2 = .ok (.iconst 2, 1) := by decide +kernel
theorem dX9_chain_3 : decode cX9_chain 3 = .ok (.invokestatic 76, 3) := by decide +kernel
theorem dX9_chain_6 : decode cX9_chain 6 = .ok (.ifCond .ne 9, 3) := by decide +kernel
theorem dX9_chain_9 : decode cX9_chain 9 = .ok (.aload_n 0, 1) := by decide +kernel
theorem dX9_chain_10 : decode cX9_chain 10 = .ok (.iconst 1, 1) := by decide +kernel
theorem dX9_chain_11 : decode cX9_chain 11 = .ok (.invokevirtual 52, 3) := by decide +kernel
theorem dX9_chain_14 : decode cX9_chain 14 = .ok (.ireturn, 1) := by decide +kernel
theorem dX9_chain_15 : decode cX9_chain 15 = .ok (.aload_n 0, 1) := by decide +kernel
theorem dX9_chain_16 : decode cX9_chain 16 = .ok (.getfield 19, 3) := by decide +kernel
theorem dX9_chain_19 : decode cX9_chain 19 = .ok (.iload_n 1, 1) := by decide +kernel
theorem dX9_chain_20 : decode cX9_chain 20 = .ok (.invokevirtual 86, 3) := by decide +kernel
theorem dX9_chain_23 : decode cX9_chain 23 = .ok (.astore 4, 2) := by decide +kernel
theorem dX9_chain_25 : decode cX9_chain 25 = .ok (.aload 4, 2) := by decide +kernel
theorem dX9_chain_27 : decode cX9_chain 27 = .ok (.ifnonnull 9, 3) := by decide +kernel
theorem dX9_chain_30 : decode cX9_chain 30 = .ok (.aload_n 0, 1) := by decide +kernel
theorem dX9_chain_31 : decode cX9_chain 31 = .ok (.iconst 2, 1) := by decide +kernel
theorem dX9_chain_32 : decode cX9_chain 32 = .ok (.invokevirtual 52, 3) := by decide +kernel
theorem dX9_chain_35 : decode cX9_chain 35 = .ok (.ireturn, 1) := by decide +kernel
theorem dX9_chain_36 : decode cX9_chain 36 = .ok (.aload_n 0, 1) := by decide +kernel
theorem dX9_chain_37 : decode cX9_chain 37 = .ok (.aload 4, 2) := by decide +kernel
theorem dX9_chain_39 : decode cX9_chain 39 = .ok (.iload_n 2, 1) := by decide +kernel
theorem dX9_chain_40 : decode cX9_chain 40 = .ok (.iload_n 3, 1) := by decide +kernel
theorem dX9_chain_41 : decode cX9_chain 41 = .ok (.aload_n 0, 1) := by decide +kernel
theorem dX9_chain_42 : decode cX9_chain 42 = .ok (.getfield 37, 3) := by decide +kernel
theorem dX9_chain_45 : decode cX9_chain 45 = .ok (.invokestatic 234, 3) := by decide +kernel
theorem dX9_chain_48 : decode cX9_chain 48 = .ok (.invokevirtual 113, 3) := by decide +kernel
theorem dX9_chain_51 : decode cX9_chain 51 = .ok (.ireturn, 1) := by decide +kernel
theorem dX9_spread_0 : decode cX9_spread 0 = .ok (.iload_n 2, 1) := by decide +kernel
theorem dX9_spread_1 : decode cX9_spread 1 = .ok (.iconst 2, 1) := by decide +kernel
theorem dX9_spread_2 : decode cX9_spread 2 = .ok (.if_icmp .lt 12, 3) := by decide +kernel
theorem dX9_spread_5 : decode cX9_spread 5 = .ok (.iload_n 3, 1) := by decide +kernel
theorem dX9_spread_6 : decode cX9_spread 6 = .ok (.iconst 0, 1) := by decide +kernel
theorem dX9_spread_7 : decode cX9_spread 7 = .ok (.iconst 1, 1) := by decide +kernel
theorem dX9_spread_8 : decode cX9_spread 8 = .ok (.invokestatic 76, 3) := by decide +kernel
theorem dX9_spread_11 : decode cX9_spread 11 = .ok (.ifCond .ne 9, 3) := by decide +kernel
theorem dX9_spread_14 : decode cX9_spread 14 = .ok (.aload_n 0, 1) := by decide +kernel
theorem dX9_spread_15 : decode cX9_spread 15 = .ok (.iconst 1, 1) := by decide +kernel
theorem dX9_spread_16 : decode cX9_spread 16 = .ok (.invokevirtual 52, 3) := by decide +kernel
theorem dX9_spread_19 : decode cX9_spread 19 = .ok (.ireturn, 1) := by decide +kernel
theorem dX9_spread_20 : decode cX9_spread 20 = .ok (.aload_n 0, 1) := by decide +kernel
theorem dX9_spread_21 : decode cX9_spread 21 = .ok (.getfield 19, 3) := by decide +kernel
theorem dX9_spread_24 : decode cX9_spread 24 = .ok (.iload_n 1, 1) := by decide +kernel
theorem dX9_spread_25 : decode cX9_spread 25 = .ok (.invokevirtual 86, 3) := by decide +kernel
theorem dX9_spread_28 : decode cX9_spread 28 = .ok (.astore 4, 2) := by decide +kernel
theorem dX9_spread_30 : decode cX9_spread 30 = .ok (.aload 4, 2) := by decide +kernel
theorem dX9_spread_32 : decode cX9_spread 32 = .ok (.ifnonnull 9, 3) := by decide +kernel
theorem dX9_spread_35 : decode cX9_spread 35 = .ok (.aload_n 0, 1) := by decide +kernel
theorem dX9_spread_36 : decode cX9_spread 36 = .ok (.iconst 2, 1) := by decide +kernel
theorem dX9_spread_37 : decode cX9_spread 37 = .ok (.invokevirtual 52, 3) := by decide +kernel
theorem dX9_spread_40 : decode cX9_spread 40 = .ok (.ireturn, 1) := by decide +kernel
theorem dX9_spread_41 : decode cX9_spread 41 = .ok (.aload 4, 2) := by decide +kernel
theorem dX9_spread_43 : decode cX9_spread 43 = .ok (.iload_n 2, 1) := by decide +kernel
theorem dX9_spread_44 : decode cX9_spread 44 = .ok (.invokestatic 237, 3) := by decide +kernel
theorem dX9_spread_47 : decode cX9_spread 47 = .ok (.istore 5, 2) := by decide +kernel
theorem dX9_spread_49 : decode cX9_spread 49 = .ok (.iload 5, 2) := by decide +kernel
theorem dX9_spread_51 : decode cX9_spread 51 = .ok (.iconst (-1), 1) := by decide +kernel
theorem dX9_spread_52 : decode cX9_spread 52 = .ok (.if_icmp .ne 9, 3) := by decide +kernel
theorem dX9_spread_55 : decode cX9_spread 55 = .ok (.aload_n 0, 1) := by decide +kernel
theorem dX9_spread_56 : decode cX9_spread 56 = .ok (.iconst 5, 1) := by decide +kernel
theorem dX9_spread_57 : decode cX9_spread 57 = .ok (.invokevirtual 52, 3) := by decide +kernel
theorem dX9_spread_60 : decode cX9_spread 60 = .ok (.ireturn, 1) := by decide +kernel
theorem dX9_spread_61 : decode cX9_spread 61 = .ok (.aload_n 0, 1) := by decide +kernel
theorem dX9_spread_62 : decode cX9_spread 62 = .ok (.iload_n 3, 1) := by decide +kernel
theorem dX9_spread_63 : decode cX9_spread 63 = .ok (.iconst 1, 1) := by decide +kernel
theorem dX9_spread_64 : decode cX9_spread 64 = .ok (.if_icmp .ne 8, 3) := by decide +kernel
theorem dX9_spread_67 : decode cX9_spread 67 = .ok (.iload 5, 2) := by decide +kernel
theorem dX9_spread_69 : decode cX9_spread 69 = .ok (.goto 11, 3) := by decide +kernel
theorem dX9_spread_72 : decode cX9_spread 72 = .ok (.aload 4, 2) := by decide +kernel
theorem dX9_spread_74 : decode cX9_spread 74 = .ok (.iload 5, 2) := by decide +kernel
theorem dX9_spread_76 : decode cX9_spread 76 = .ok (.iload_n 2, 1) := by decide +kernel
theorem dX9_spread_77 : decode cX9_spread 77 = .ok (.invokestatic 240, 3) := by decide +kernel
theorem dX9_spread_80 : decode cX9_spread 80 = .ok (.invokevirtual 67, 3) := by decide +kernel
theorem dX9_spread_83 : decode cX9_spread 83 = .ok (.ireturn, 1) := by decide +kernel
theorem dX9_sketch_0 : decode cX9_sketch 0 = .ok (.iload_n 2, 1) := by decide +kernel
theorem dX9_sketch_1 : decode cX9_sketch 1 = .ok (.iconst 1, 1) := by decide +kernel
theorem dX9_sketch_2 : decode cX9_sketch 2 = .ok (.sipush 600, 3) := by decide +kernel
theorem dX9_sketch_5 : decode cX9_sketch 5 = .ok (.invokestatic 76, 3) := by decide +kernel
theorem dX9_sketch_8 : decode cX9_sketch 8 = .ok (.ifCond .eq 8, 3) := by decide +kernel
theorem dX9_sketch_11 : decode cX9_sketch 11 = .ok (.iload_n 3, 1) := by decide +kernel
theorem dX9_sketch_12 : decode cX9_sketch 12 = .ok (.iconst (-1), 1) := by decide +kernel
theorem dX9_sketch_13 : decode cX9_sketch 13 = .ok (.if_icmp .ge 9, 3) := by decide +kernel
theorem dX9_sketch_16 : decode cX9_sketch 16 = .ok (.aload_n 0, 1) := by decide +kernel
theorem dX9_sketch_17 : decode cX9_sketch 17 = .ok (.iconst 1, 1) := by decide +kernel
theorem dX9_sketch_18 : decode cX9_sketch 18 = .ok (.invokevirtual 52, 3) := by decide +kernel
theorem dX9_sketch_21 : decode cX9_sketch 21 = .ok (.ireturn, 1) := by decide +kernel
theorem dX9_sketch_22 : decode cX9_sketch 22 = .ok (.aload_n 0, 1) := by decide +kernel
theorem dX9_sketch_23 : decode cX9_sketch 23 = .ok (.getfield 19, 3) := by decide +kernel
theorem dX9_sketch_26 : decode cX9_sketch 26 = .ok (.iload_n 1, 1) := by decide +kernel
theorem dX9_sketch_27 : decode cX9_sketch 27 = .ok (.invokevirtual 86, 3) := by decide +kernel
theorem dX9_sketch_30 : decode cX9_sketch 30 = .ok (.astore 4, 2) := by decide +kernel
theorem dX9_sketch_32 : decode cX9_sketch 32 = .ok (.aload 4, 2) := by decide +kernel
theorem dX9_sketch_34 : decode cX9_sketch 34 = .ok (.ifnonnull 9, 3) := by decide +kernel
theorem dX9_sketch_37 : decode cX9_sketch 37 = .ok (.aload_n 0, 1) := by decide +kernel
theorem dX9_sketch_38 : decode cX9_sketch 38 = .ok (.iconst 2, 1) := by decide +kernel
theorem dX9_sketch_39 : decode cX9_sketch 39 = .ok (.invokevirtual 52, 3) := by decide +kernel
theorem dX9_sketch_42 : decode cX9_sketch 42 = .ok (.ireturn, 1) := by decide +kernel
theorem dX9_sketch_43 : decode cX9_sketch 43 = .ok (.aload 4, 2) := by decide +kernel
theorem dX9_sketch_45 : decode cX9_sketch 45 = .ok (.getfield 126, 3) := by decide +kernel
theorem dX9_sketch_48 : decode cX9_sketch 48 = .ok (.iload_n 2, 1) := by decide +kernel
theorem dX9_sketch_49 : decode cX9_sketch 49 = .ok (.iadd, 1) := by decide +kernel
theorem dX9_sketch_50 : decode cX9_sketch 50 = .ok (.iconst 1, 1) := by decide +kernel
theorem dX9_sketch_51 : decode cX9_sketch 51 = .ok (.isub, 1) := by decide +kernel
theorem dX9_sketch_52 : decode cX9_sketch 52 = .ok (.iload_n 2, 1) := by decide +kernel
theorem dX9_sketch_53 : decode cX9_sketch 53 = .ok (.invokestatic 243, 3) := by decide +kernel
theorem dX9_sketch_56 : decode cX9_sketch 56 = .ok (.istore 5, 2) := by decide +kernel
theorem dX9_sketch_58 : decode cX9_sketch 58 = .ok (.iload_n 3, 1) := by decide +kernel
theorem dX9_sketch_59 : decode cX9_sketch 59 = .ok (.iconst (-1), 1) := by decide +kernel
theorem dX9_sketch_60 : decode cX9_sketch 60 = .ok (.if_icmp .ne 10, 3) := by decide +kernel
theorem dX9_sketch_63 : decode cX9_sketch 63 = .ok (.aload_n 0, 1) := by decide +kernel
theorem dX9_sketch_64 : decode cX9_sketch 64 = .ok (.iload 5, 2) := by decide +kernel
theorem dX9_sketch_66 : decode cX9_sketch 66 = .ok (.invokevirtual 67, 3) := by decide +kernel
theorem dX9_sketch_69 : decode cX9_sketch 69 = .ok (.ireturn, 1) := by decide +kernel
theorem dX9_sketch_70 : decode cX9_sketch 70 = .ok (.iload_n 3, 1) := by decide +kernel
theorem dX9_sketch_71 : decode cX9_sketch 71 = .ok (.iload 5, 2) := by decide +kernel
theorem dX9_sketch_73 : decode cX9_sketch 73 = .ok (.if_icmp .lt 9, 3) := by decide +kernel
theorem dX9_sketch_76 : decode cX9_sketch 76 = .ok (.aload_n 0, 1) := by decide +kernel
theorem dX9_sketch_77 : decode cX9_sketch 77 = .ok (.iconst 5, 1) := by decide +kernel
theorem dX9_sketch_78 : decode cX9_sketch 78 = .ok (.invokevirtual 52, 3) := by decide +kernel
theorem dX9_sketch_81 : decode cX9_sketch 81 = .ok (.ireturn, 1) := by decide +kernel
theorem dX9_sketch_82 : decode cX9_sketch 82 = .ok (.aload_n 0, 1) := by decide +kernel
theorem dX9_sketch_83 : decode cX9_sketch 83 = .ok (.aload 4, 2) := by decide +kernel
theorem dX9_sketch_85 : decode cX9_sketch 85 = .ok (.iload_n 3, 1) := by decide +kernel
theorem dX9_sketch_86 : decode cX9_sketch 86 = .ok (.iload_n 2, 1) := by decide +kernel
theorem dX9_sketch_87 : decode cX9_sketch 87 = .ok (.imul, 1) := by decide +kernel
theorem dX9_sketch_88 : decode cX9_sketch 88 = .ok (.iload_n 3, 1) := by decide +kernel
theorem dX9_sketch_89 : decode cX9_sketch 89 = .ok (.iload_n 2, 1) := by decide +kernel
theorem dX9_sketch_90 : decode cX9_sketch 90 = .ok (.imul, 1) := by decide +kernel
theorem dX9_sketch_91 : decode cX9_sketch 91 = .ok (.iload_n 2, 1) := by decide +kernel
theorem dX9_sketch_92 : decode cX9_sketch 92 = .ok (.iadd, 1) := by decide +kernel
theorem dX9_sketch_93 : decode cX9_sketch 93 = .ok (.invokevirtual 247, 3) := by decide +kernel
theorem dX9_sketch_96 : decode cX9_sketch 96 = .ok (.invokevirtual 67, 3) := by decide +kernel
theorem dX9_sketch_99 : decode cX9_sketch 99 = .ok (.ireturn, 1) := by decide +kernel
theorem dX9_balance_0 : decode cX9_balance 0 = .ok (.iload_n 2, 1) := by decide +kernel
theorem dX9_balance_1 : decode cX9_balance 1 = .ok (.iconst 1, 1) := by decide +kernel
theorem dX9_balance_2 : decode cX9_balance 2 = .ok (.if_icmp .ge 9, 3) := by decide +kernel
theorem dX9_balance_5 : decode cX9_balance 5 = .ok (.aload_n 0, 1) := by decide +kernel
theorem dX9_balance_6 : decode cX9_balance 6 = .ok (.iconst 1, 1) := by decide +kernel
theorem dX9_balance_7 : decode cX9_balance 7 = .ok (.invokevirtual 52, 3) := by decide +kernel
theorem dX9_balance_10 : decode cX9_balance 10 = .ok (.ireturn, 1) := by decide +kernel
theorem dX9_balance_11 : decode cX9_balance 11 = .ok (.aload_n 0, 1) := by decide +kernel
theorem dX9_balance_12 : decode cX9_balance 12 = .ok (.getfield 19, 3) := by decide +kernel
theorem dX9_balance_15 : decode cX9_balance 15 = .ok (.iload_n 1, 1) := by decide +kernel
theorem dX9_balance_16 : decode cX9_balance 16 = .ok (.invokevirtual 86, 3) := by decide +kernel
theorem dX9_balance_19 : decode cX9_balance 19 = .ok (.astore_n 3, 1) := by decide +kernel
theorem dX9_balance_20 : decode cX9_balance 20 = .ok (.aload_n 3, 1) := by decide +kernel
theorem dX9_balance_21 : decode cX9_balance 21 = .ok (.ifnonnull 9, 3) := by decide +kernel
theorem dX9_balance_24 : decode cX9_balance 24 = .ok (.aload_n 0, 1) := by decide +kernel
theorem dX9_balance_25 : decode cX9_balance 25 = .ok (.iconst 2, 1) := by decide +kernel
theorem dX9_balance_26 : decode cX9_balance 26 = .ok (.invokevirtual 52, 3) := by decide +kernel
theorem dX9_balance_29 : decode cX9_balance 29 = .ok (.ireturn, 1) := by decide +kernel
theorem dX9_balance_30 : decode cX9_balance 30 = .ok (.aload_n 3, 1) := by decide +kernel
theorem dX9_balance_31 : decode cX9_balance 31 = .ok (.iload_n 2, 1) := by decide +kernel
theorem dX9_balance_32 : decode cX9_balance 32 = .ok (.invokevirtual 146, 3) := by decide +kernel
theorem dX9_balance_35 : decode cX9_balance 35 = .ok (.istore 4, 2) := by decide +kernel
theorem dX9_balance_37 : decode cX9_balance 37 = .ok (.iload 4, 2) := by decide +kernel
theorem dX9_balance_39 : decode cX9_balance 39 = .ok (.iconst (-1), 1) := by decide +kernel
theorem dX9_balance_40 : decode cX9_balance 40 = .ok (.if_icmp .ne 9, 3) := by decide +kernel
theorem dX9_balance_43 : decode cX9_balance 43 = .ok (.aload_n 0, 1) := by decide +kernel
theorem dX9_balance_44 : decode cX9_balance 44 = .ok (.iconst 5, 1) := by decide +kernel
theorem dX9_balance_45 : decode cX9_balance 45 = .ok (.invokevirtual 52, 3) := by decide +kernel
theorem dX9_balance_48 : decode cX9_balance 48 = .ok (.ireturn, 1) := by decide +kernel
theorem dX9_balance_49 : decode cX9_balance 49 = .ok (.aload_n 0, 1) := by decide +kernel
theorem dX9_balance_50 : decode cX9_balance 50 = .ok (.iload 4, 2) := by decide +kernel
theorem dX9_balance_52 : decode cX9_balance 52 = .ok (.aload_n 3, 1) := by decide +kernel
theorem dX9_balance_53 : decode cX9_balance 53 = .ok (.iload_n 2, 1) := by decide +kernel
theorem dX9_balance_54 : decode cX9_balance 54 = .ok (.iconst 1, 1) := by decide +kernel
theorem dX9_balance_55 : decode cX9_balance 55 = .ok (.isub, 1) := by decide +kernel
theorem dX9_balance_56 : decode cX9_balance 56 = .ok (.invokevirtual 250, 3) := by decide +kernel
theorem dX9_balance_59 : decode cX9_balance 59 = .ok (.isub, 1) := by decide +kernel
theorem dX9_balance_60 : decode cX9_balance 60 = .ok (.invokevirtual 67, 3) := by decide +kernel
theorem dX9_balance_63 : decode cX9_balance 63 = .ok (.ireturn, 1) := by decide +kernel
theorem dX9_pattern_0 : decode cX9_pattern 0 = .ok (.iload_n 2, 1) := by decide +kernel
theorem dX9_pattern_1 : decode cX9_pattern 1 = .ok (.iconst 1, 1) := by decide +kernel
theorem dX9_pattern_2 : decode cX9_pattern 2 = .ok (.if_icmp .lt 13, 3) := by decide +kernel
theorem dX9_pattern_5 : decode cX9_pattern 5 = .ok (.iload_n 3, 1) := by decide +kernel
theorem dX9_pattern_6 : decode cX9_pattern 6 = .ok (.iconst 1, 1) := by decide +kernel
theorem dX9_pattern_7 : decode cX9_pattern 7 = .ok (.if_icmp .lt 8, 3) := by decide +kernel
theorem dX9_pattern_10 : decode cX9_pattern 10 = .ok (.iload 4, 2) := by decide +kernel
theorem dX9_pattern_12 : decode cX9_pattern 12 = .ok (.ifCond .ge 9, 3) := by decide +kernel
theorem dX9_pattern_15 : decode cX9_pattern 15 = .ok (.aload_n 0, 1) := by decide +kernel
theorem dX9_pattern_16 : decode cX9_pattern 16 = .ok (.iconst 1, 1) := by decide +kernel
theorem dX9_pattern_17 : decode cX9_pattern 17 = .ok (.invokevirtual 52, 3) := by decide +kernel
theorem dX9_pattern_20 : decode cX9_pattern 20 = .ok (.ireturn, 1) := by decide +kernel
theorem dX9_pattern_21 : decode cX9_pattern 21 = .ok (.aload_n 0, 1) := by decide +kernel
theorem dX9_pattern_22 : decode cX9_pattern 22 = .ok (.getfield 19, 3) := by decide +kernel
theorem dX9_pattern_25 : decode cX9_pattern 25 = .ok (.iload_n 1, 1) := by decide +kernel
theorem dX9_pattern_26 : decode cX9_pattern 26 = .ok (.invokevirtual 86, 3) := by decide +kernel
theorem dX9_pattern_29 : decode cX9_pattern 29 = .ok (.astore 5, 2) := by decide +kernel
theorem dX9_pattern_31 : decode cX9_pattern 31 = .ok (.aload 5, 2) := by decide +kernel
theorem dX9_pattern_33 : decode cX9_pattern 33 = .ok (.ifnonnull 9, 3) := by decide +kernel
theorem dX9_pattern_36 : decode cX9_pattern 36 = .ok (.aload_n 0, 1) := by decide +kernel
theorem dX9_pattern_37 : decode cX9_pattern 37 = .ok (.iconst 2, 1) := by decide +kernel
theorem dX9_pattern_38 : decode cX9_pattern 38 = .ok (.invokevirtual 52, 3) := by decide +kernel
theorem dX9_pattern_41 : decode cX9_pattern 41 = .ok (.ireturn, 1) := by decide +kernel
theorem dX9_pattern_42 : decode cX9_pattern 42 = .ok (.aload_n 0, 1) := by decide +kernel
theorem dX9_pattern_43 : decode cX9_pattern 43 = .ok (.aload 5, 2) := by decide +kernel
theorem dX9_pattern_45 : decode cX9_pattern 45 = .ok (.iload_n 2, 1) := by decide +kernel
theorem dX9_pattern_46 : decode cX9_pattern 46 = .ok (.iload_n 3, 1) := by decide +kernel
theorem dX9_pattern_47 : decode cX9_pattern 47 = .ok (.iload 4, 2) := by decide +kernel
theorem dX9_pattern_49 : decode cX9_pattern 49 = .ok (.invokestatic 253, 3) := by decide +kernel
theorem dX9_pattern_52 : decode cX9_pattern 52 = .ok (.invokevirtual 67, 3) := by decide +kernel
theorem dX9_pattern_55 : decode cX9_pattern 55 = .ok (.ireturn, 1) := by decide +kernel
theorem dX9_mirror_0 : decode cX9_mirror 0 = .ok (.iload_n 2, 1) := by decide +kernel
theorem dX9_mirror_1 : decode cX9_mirror 1 = .ok (.iconst 0, 1) := by decide +kernel
theorem dX9_mirror_2 : decode cX9_mirror 2 = .ok (.iconst 1, 1) := by decide +kernel
theorem dX9_mirror_3 : decode cX9_mirror 3 = .ok (.invokestatic 76, 3) := by decide +kernel
theorem dX9_mirror_6 : decode cX9_mirror 6 = .ok (.ifCond .ne 9, 3) := by decide +kernel
theorem dX9_mirror_9 : decode cX9_mirror 9 = .ok (.aload_n 0, 1) := by decide +kernel
theorem dX9_mirror_10 : decode cX9_mirror 10 = .ok (.iconst 1, 1) := by decide +kernel
theorem dX9_mirror_11 : decode cX9_mirror 11 = .ok (.invokevirtual 52, 3) := by decide +kernel
theorem dX9_mirror_14 : decode cX9_mirror 14 = .ok (.ireturn, 1) := by decide +kernel
theorem dX9_mirror_15 : decode cX9_mirror 15 = .ok (.aload_n 0, 1) := by decide +kernel
theorem dX9_mirror_16 : decode cX9_mirror 16 = .ok (.getfield 19, 3) := by decide +kernel
theorem dX9_mirror_19 : decode cX9_mirror 19 = .ok (.iload_n 1, 1) := by decide +kernel
theorem dX9_mirror_20 : decode cX9_mirror 20 = .ok (.invokevirtual 86, 3) := by decide +kernel
theorem dX9_mirror_23 : decode cX9_mirror 23 = .ok (.astore_n 3, 1) := by decide +kernel
theorem dX9_mirror_24 : decode cX9_mirror 24 = .ok (.aload_n 3, 1) := by decide +kernel
theorem dX9_mirror_25 : decode cX9_mirror 25 = .ok (.ifnonnull 9, 3) := by decide +kernel
theorem dX9_mirror_28 : decode cX9_mirror 28 = .ok (.aload_n 0, 1) := by decide +kernel
theorem dX9_mirror_29 : decode cX9_mirror 29 = .ok (.iconst 2, 1) := by decide +kernel
theorem dX9_mirror_30 : decode cX9_mirror 30 = .ok (.invokevirtual 52, 3) := by decide +kernel
theorem dX9_mirror_33 : decode cX9_mirror 33 = .ok (.ireturn, 1) := by decide +kernel
theorem dX9_mirror_34 : decode cX9_mirror 34 = .ok (.aload_n 0, 1) := by decide +kernel
theorem dX9_mirror_35 : decode cX9_mirror 35 = .ok (.aload_n 3, 1) := by decide +kernel
theorem dX9_mirror_36 : decode cX9_mirror 36 = .ok (.iload_n 2, 1) := by decide +kernel
theorem dX9_mirror_37 : decode cX9_mirror 37 = .ok (.aload_n 0, 1) := by decide +kernel
theorem dX9_mirror_38 : decode cX9_mirror 38 = .ok (.getfield 37, 3) := by decide +kernel
theorem dX9_mirror_41 : decode cX9_mirror 41 = .ok (.invokestatic 256, 3) := by decide +kernel
theorem dX9_mirror_44 : decode cX9_mirror 44 = .ok (.invokevirtual 113, 3) := by decide +kernel
theorem dX9_mirror_47 : decode cX9_mirror 47 = .ok (.ireturn, 1) := by decide +kernel
theorem dX9_half_0 : decode cX9_half 0 = .ok (.aload_n 0, 1) := by decide +kernel
theorem dX9_half_1 : decode cX9_half 1 = .ok (.getfield 19, 3) := by decide +kernel
theorem dX9_half_4 : decode cX9_half 4 = .ok (.iload_n 1, 1) := by decide +kernel
theorem dX9_half_5 : decode cX9_half 5 = .ok (.invokevirtual 86, 3) := by decide +kernel
theorem dX9_half_8 : decode cX9_half 8 = .ok (.astore_n 2, 1) := by decide +kernel
theorem dX9_half_9 : decode cX9_half 9 = .ok (.aload_n 2, 1) := by decide +kernel
theorem dX9_half_10 : decode cX9_half 10 = .ok (.ifnonnull 9, 3) := by decide +kernel
theorem dX9_half_13 : decode cX9_half 13 = .ok (.aload_n 0, 1) := by decide +kernel
theorem dX9_half_14 : decode cX9_half 14 = .ok (.iconst 2, 1) := by decide +kernel
theorem dX9_half_15 : decode cX9_half 15 = .ok (.invokevirtual 52, 3) := by decide +kernel
theorem dX9_half_18 : decode cX9_half 18 = .ok (.ireturn, 1) := by decide +kernel
theorem dX9_half_19 : decode cX9_half 19 = .ok (.aload_n 0, 1) := by decide +kernel
theorem dX9_half_20 : decode cX9_half 20 = .ok (.aload_n 2, 1) := by decide +kernel
theorem dX9_half_21 : decode cX9_half 21 = .ok (.aload_n 2, 1) := by decide +kernel
theorem dX9_half_22 : decode cX9_half 22 = .ok (.getfield 119, 3) := by decide +kernel
theorem dX9_half_25 : decode cX9_half 25 = .ok (.iconst 1, 1) := by decide +kernel
theorem dX9_half_26 : decode cX9_half 26 = .ok (.iadd, 1) := by decide +kernel
theorem dX9_half_27 : decode cX9_half 27 = .ok (.iconst 2, 1) := by decide +kernel
theorem dX9_half_28 : decode cX9_half 28 = .ok (.idiv, 1) := by decide +kernel
theorem dX9_half_29 : decode cX9_half 29 = .ok (.invokevirtual 146, 3) := by decide +kernel
theorem dX9_half_32 : decode cX9_half 32 = .ok (.invokevirtual 67, 3) := by decide +kernel
theorem dX9_half_35 : decode cX9_half 35 = .ok (.ireturn, 1) := by decide +kernel
theorem dX9_usual_0 : decode cX9_usual 0 = .ok (.aload_n 0, 1) := by decide +kernel
theorem dX9_usual_1 : decode cX9_usual 1 = .ok (.getfield 19, 3) := by decide +kernel
theorem dX9_usual_4 : decode cX9_usual 4 = .ok (.iload_n 1, 1) := by decide +kernel
theorem dX9_usual_5 : decode cX9_usual 5 = .ok (.invokevirtual 86, 3) := by decide +kernel
theorem dX9_usual_8 : decode cX9_usual 8 = .ok (.astore_n 2, 1) := by decide +kernel
theorem dX9_usual_9 : decode cX9_usual 9 = .ok (.aload_n 2, 1) := by decide +kernel
theorem dX9_usual_10 : decode cX9_usual 10 = .ok (.ifnonnull 9, 3) := by decide +kernel
theorem dX9_usual_13 : decode cX9_usual 13 = .ok (.aload_n 0, 1) := by decide +kernel
theorem dX9_usual_14 : decode cX9_usual 14 = .ok (.iconst 2, 1) := by decide +kernel
theorem dX9_usual_15 : decode cX9_usual 15 = .ok (.invokevirtual 52, 3) := by decide +kernel
theorem dX9_usual_18 : decode cX9_usual 18 = .ok (.ireturn, 1) := by decide +kernel
theorem dX9_usual_19 : decode cX9_usual 19 = .ok (.aload_n 0, 1) := by decide +kernel
theorem dX9_usual_20 : decode cX9_usual 20 = .ok (.aload_n 2, 1) := by decide +kernel
theorem dX9_usual_21 : decode cX9_usual 21 = .ok (.aload_n 0, 1) := by decide +kernel
theorem dX9_usual_22 : decode cX9_usual 22 = .ok (.getfield 37, 3) := by decide +kernel
theorem dX9_usual_25 : decode cX9_usual 25 = .ok (.invokestatic 260, 3) := by decide +kernel
theorem dX9_usual_28 : decode cX9_usual 28 = .ok (.invokevirtual 113, 3) := by decide +kernel
theorem dX9_usual_31 : decode cX9_usual 31 = .ok (.ireturn, 1) := by decide +kernel
theorem dX9_both_0 : decode cX9_both 0 = .ok (.iload_n 3, 1) := by decide +kernel
theorem dX9_both_1 : decode cX9_both 1 = .ok (.iconst 0, 1) := by decide +kernel
theorem dX9_both_2 : decode cX9_both 2 = .ok (.iconst 3, 1) := by decide +kernel
theorem dX9_both_3 : decode cX9_both 3 = .ok (.invokestatic 76, 3) := by decide +kernel
theorem dX9_both_6 : decode cX9_both 6 = .ok (.ifCond .ne 9, 3) := by decide +kernel
theorem dX9_both_9 : decode cX9_both 9 = .ok (.aload_n 0, 1) := by decide +kernel
theorem dX9_both_10 : decode cX9_both 10 = .ok (.iconst 1, 1) := by decide +kernel
theorem dX9_both_11 : decode cX9_both 11 = .ok (.invokevirtual 52, 3) := by decide +kernel
theorem dX9_both_14 : decode cX9_both 14 = .ok (.ireturn, 1) := by decide +kernel
theorem dX9_both_15 : decode cX9_both 15 = .ok (.aload_n 0, 1) := by decide +kernel
theorem dX9_both_16 : decode cX9_both 16 = .ok (.getfield 19, 3) := by decide +kernel
theorem dX9_both_19 : decode cX9_both 19 = .ok (.iload_n 1, 1) := by decide +kernel
theorem dX9_both_20 : decode cX9_both 20 = .ok (.invokevirtual 86, 3) := by decide +kernel
theorem dX9_both_23 : decode cX9_both 23 = .ok (.astore 4, 2) := by decide +kernel
theorem dX9_both_25 : decode cX9_both 25 = .ok (.aload_n 0, 1) := by decide +kernel
theorem dX9_both_26 : decode cX9_both 26 = .ok (.getfield 19, 3) := by decide +kernel
theorem dX9_both_29 : decode cX9_both 29 = .ok (.iload_n 2, 1) := by decide +kernel
theorem dX9_both_30 : decode cX9_both 30 = .ok (.invokevirtual 86, 3) := by decide +kernel
theorem dX9_both_33 : decode cX9_both 33 = .ok (.astore 5, 2) := by decide +kernel
theorem dX9_both_35 : decode cX9_both 35 = .ok (.aload 4, 2) := by decide +kernel
theorem dX9_both_37 : decode cX9_both 37 = .ok (.ifnull 8, 3) := by decide +kernel
theorem dX9_both_40 : decode cX9_both 40 = .ok (.aload 5, 2) := by decide +kernel
theorem dX9_both_42 : decode cX9_both 42 = .ok (.ifnonnull 9, 3) := by decide +kernel
theorem dX9_both_45 : decode cX9_both 45 = .ok (.aload_n 0, 1) := by decide +kernel
theorem dX9_both_46 : decode cX9_both 46 = .ok (.iconst 2, 1) := by decide +kernel
theorem dX9_both_47 : decode cX9_both 47 = .ok (.invokevirtual 52, 3) := by decide +kernel
theorem dX9_both_50 : decode cX9_both 50 = .ok (.ireturn, 1) := by decide +kernel
theorem dX9_both_51 : decode cX9_both 51 = .ok (.aload 4, 2) := by decide +kernel
theorem dX9_both_53 : decode cX9_both 53 = .ok (.aload 5, 2) := by decide +kernel
theorem dX9_both_55 : decode cX9_both 55 = .ok (.invokestatic 263, 3) := by decide +kernel
theorem dX9_both_58 : decode cX9_both 58 = .ok (.istore 6, 2) := by decide +kernel
theorem dX9_both_60 : decode cX9_both 60 = .ok (.iload_n 3, 1) := by decide +kernel
theorem dX9_both_61 : decode cX9_both 61 = .ok (.ifCond .ne 10, 3) := by decide +kernel
theorem dX9_both_64 : decode cX9_both 64 = .ok (.aload_n 0, 1) := by decide +kernel
theorem dX9_both_65 : decode cX9_both 65 = .ok (.iload 6, 2) := by decide +kernel
theorem dX9_both_67 : decode cX9_both 67 = .ok (.invokevirtual 67, 3) := by decide +kernel
theorem dX9_both_70 : decode cX9_both 70 = .ok (.ireturn, 1) := by decide +kernel
theorem dX9_both_71 : decode cX9_both 71 = .ok (.iload_n 3, 1) := by decide +kernel
theorem dX9_both_72 : decode cX9_both 72 = .ok (.iconst 1, 1) := by decide +kernel
theorem dX9_both_73 : decode cX9_both 73 = .ok (.if_icmp .ne 16, 3) := by decide +kernel
theorem dX9_both_76 : decode cX9_both 76 = .ok (.aload_n 0, 1) := by decide +kernel
theorem dX9_both_77 : decode cX9_both 77 = .ok (.aload 4, 2) := by decide +kernel
theorem dX9_both_79 : decode cX9_both 79 = .ok (.getfield 119, 3) := by decide +kernel
theorem dX9_both_82 : decode cX9_both 82 = .ok (.iload 6, 2) := by decide +kernel
theorem dX9_both_84 : decode cX9_both 84 = .ok (.isub, 1) := by decide +kernel
theorem dX9_both_85 : decode cX9_both 85 = .ok (.invokevirtual 67, 3) := by decide +kernel
theorem dX9_both_88 : decode cX9_both 88 = .ok (.ireturn, 1) := by decide +kernel
theorem dX9_both_89 : decode cX9_both 89 = .ok (.iload_n 3, 1) := by decide +kernel
theorem dX9_both_90 : decode cX9_both 90 = .ok (.iconst 2, 1) := by decide +kernel
theorem dX9_both_91 : decode cX9_both 91 = .ok (.if_icmp .ne 16, 3) := by decide +kernel
theorem dX9_both_94 : decode cX9_both 94 = .ok (.aload_n 0, 1) := by decide +kernel
theorem dX9_both_95 : decode cX9_both 95 = .ok (.aload 5, 2) := by decide +kernel
theorem dX9_both_97 : decode cX9_both 97 = .ok (.getfield 119, 3) := by decide +kernel
theorem dX9_both_100 : decode cX9_both 100 = .ok (.iload 6, 2) := by decide +kernel
theorem dX9_both_102 : decode cX9_both 102 = .ok (.isub, 1) := by decide +kernel
theorem dX9_both_103 : decode cX9_both 103 = .ok (.invokevirtual 67, 3) := by decide +kernel
theorem dX9_both_106 : decode cX9_both 106 = .ok (.ireturn, 1) := by decide +kernel
theorem dX9_both_107 : decode cX9_both 107 = .ok (.aload_n 0, 1) := by decide +kernel
theorem dX9_both_108 : decode cX9_both 108 = .ok (.aload 4, 2) := by decide +kernel
theorem dX9_both_110 : decode cX9_both 110 = .ok (.aload 5, 2) := by decide +kernel
theorem dX9_both_112 : decode cX9_both 112 = .ok (.invokestatic 269, 3) := by decide +kernel
theorem dX9_both_115 : decode cX9_both 115 = .ok (.invokevirtual 113, 3) := by decide +kernel
theorem dX9_both_118 : decode cX9_both 118 = .ok (.ireturn, 1) := by decide +kernel
theorem dX9_lead_0 : decode cX9_lead 0 = .ok (.iload_n 3, 1) := by decide +kernel
theorem dX9_lead_1 : decode cX9_lead 1 = .ok (.iconst 0, 1) := by decide +kernel
theorem dX9_lead_2 : decode cX9_lead 2 = .ok (.iconst 4, 1) := by decide +kernel
theorem dX9_lead_3 : decode cX9_lead 3 = .ok (.invokestatic 76, 3) := by decide +kernel
theorem dX9_lead_6 : decode cX9_lead 6 = .ok (.ifCond .ne 9, 3) := by decide +kernel
theorem dX9_lead_9 : decode cX9_lead 9 = .ok (.aload_n 0, 1) := by decide +kernel
theorem dX9_lead_10 : decode cX9_lead 10 = .ok (.iconst 1, 1) := by decide +kernel
theorem dX9_lead_11 : decode cX9_lead 11 = .ok (.invokevirtual 52, 3) := by decide +kernel
theorem dX9_lead_14 : decode cX9_lead 14 = .ok (.ireturn, 1) := by decide +kernel
theorem dX9_lead_15 : decode cX9_lead 15 = .ok (.aload_n 0, 1) := by decide +kernel
theorem dX9_lead_16 : decode cX9_lead 16 = .ok (.getfield 19, 3) := by decide +kernel
theorem dX9_lead_19 : decode cX9_lead 19 = .ok (.iload_n 1, 1) := by decide +kernel
theorem dX9_lead_20 : decode cX9_lead 20 = .ok (.invokevirtual 86, 3) := by decide +kernel
theorem dX9_lead_23 : decode cX9_lead 23 = .ok (.astore 4, 2) := by decide +kernel
theorem dX9_lead_25 : decode cX9_lead 25 = .ok (.aload_n 0, 1) := by decide +kernel
theorem dX9_lead_26 : decode cX9_lead 26 = .ok (.getfield 19, 3) := by decide +kernel
theorem dX9_lead_29 : decode cX9_lead 29 = .ok (.iload_n 2, 1) := by decide +kernel
theorem dX9_lead_30 : decode cX9_lead 30 = .ok (.invokevirtual 86, 3) := by decide +kernel
theorem dX9_lead_33 : decode cX9_lead 33 = .ok (.astore 5, 2) := by decide +kernel
theorem dX9_lead_35 : decode cX9_lead 35 = .ok (.aload 4, 2) := by decide +kernel
theorem dX9_lead_37 : decode cX9_lead 37 = .ok (.ifnull 8, 3) := by decide +kernel
theorem dX9_lead_40 : decode cX9_lead 40 = .ok (.aload 5, 2) := by decide +kernel
theorem dX9_lead_42 : decode cX9_lead 42 = .ok (.ifnonnull 9, 3) := by decide +kernel
theorem dX9_lead_45 : decode cX9_lead 45 = .ok (.aload_n 0, 1) := by decide +kernel
theorem dX9_lead_46 : decode cX9_lead 46 = .ok (.iconst 2, 1) := by decide +kernel
theorem dX9_lead_47 : decode cX9_lead 47 = .ok (.invokevirtual 52, 3) := by decide +kernel
theorem dX9_lead_50 : decode cX9_lead 50 = .ok (.ireturn, 1) := by decide +kernel
theorem dX9_lead_51 : decode cX9_lead 51 = .ok (.aload_n 0, 1) := by decide +kernel
theorem dX9_lead_52 : decode cX9_lead 52 = .ok (.aload 4, 2) := by decide +kernel
theorem dX9_lead_54 : decode cX9_lead 54 = .ok (.aload 5, 2) := by decide +kernel
theorem dX9_lead_56 : decode cX9_lead 56 = .ok (.iload_n 3, 1) := by decide +kernel
theorem dX9_lead_57 : decode cX9_lead 57 = .ok (.invokestatic 272, 3) := by decide +kernel
theorem dX9_lead_60 : decode cX9_lead 60 = .ok (.invokevirtual 67, 3) := by decide +kernel
theorem dX9_lead_63 : decode cX9_lead 63 = .ok (.ireturn, 1) := by decide +kernel
theorem dX9_alike_0 : decode cX9_alike 0 = .ok (.aload_n 0, 1) := by decide +kernel
theorem dX9_alike_1 : decode cX9_alike 1 = .ok (.getfield 19, 3) := by decide +kernel
theorem dX9_alike_4 : decode cX9_alike 4 = .ok (.iload_n 1, 1) := by decide +kernel
theorem dX9_alike_5 : decode cX9_alike 5 = .ok (.invokevirtual 86, 3) := by decide +kernel
theorem dX9_alike_8 : decode cX9_alike 8 = .ok (.astore_n 3, 1) := by decide +kernel
theorem dX9_alike_9 : decode cX9_alike 9 = .ok (.aload_n 0, 1) := by decide +kernel
theorem dX9_alike_10 : decode cX9_alike 10 = .ok (.getfield 19, 3) := by decide +kernel
theorem dX9_alike_13 : decode cX9_alike 13 = .ok (.iload_n 2, 1) := by decide +kernel
theorem dX9_alike_14 : decode cX9_alike 14 = .ok (.invokevirtual 86, 3) := by decide +kernel
theorem dX9_alike_17 : decode cX9_alike 17 = .ok (.astore 4, 2) := by decide +kernel
theorem dX9_alike_19 : decode cX9_alike 19 = .ok (.aload_n 3, 1) := by decide +kernel
theorem dX9_alike_20 : decode cX9_alike 20 = .ok (.ifnull 8, 3) := by decide +kernel
theorem dX9_alike_23 : decode cX9_alike 23 = .ok (.aload 4, 2) := by decide +kernel
theorem dX9_alike_25 : decode cX9_alike 25 = .ok (.ifnonnull 9, 3) := by decide +kernel
theorem dX9_alike_28 : decode cX9_alike 28 = .ok (.aload_n 0, 1) := by decide +kernel
theorem dX9_alike_29 : decode cX9_alike 29 = .ok (.iconst 2, 1) := by decide +kernel
theorem dX9_alike_30 : decode cX9_alike 30 = .ok (.invokevirtual 52, 3) := by decide +kernel
theorem dX9_alike_33 : decode cX9_alike 33 = .ok (.ireturn, 1) := by decide +kernel
theorem dX9_alike_34 : decode cX9_alike 34 = .ok (.aload_n 0, 1) := by decide +kernel
theorem dX9_alike_35 : decode cX9_alike 35 = .ok (.aload_n 3, 1) := by decide +kernel
theorem dX9_alike_36 : decode cX9_alike 36 = .ok (.aload 4, 2) := by decide +kernel
theorem dX9_alike_38 : decode cX9_alike 38 = .ok (.invokestatic 276, 3) := by decide +kernel
theorem dX9_alike_41 : decode cX9_alike 41 = .ok (.invokevirtual 67, 3) := by decide +kernel
theorem dX9_alike_44 : decode cX9_alike 44 = .ok (.ireturn, 1) := by decide +kernel
theorem dX9_through_0 : decode cX9_through 0 = .ok (.iload_n 3, 1) := by decide +kernel
theorem dX9_through_1 : decode cX9_through 1 = .ok (.iconst (-1), 1) := by decide +kernel
theorem dX9_through_2 : decode cX9_through 2 = .ok (.if_icmp .ge 9, 3) := by decide +kernel
theorem dX9_through_5 : decode cX9_through 5 = .ok (.aload_n 0, 1) := by decide +kernel
theorem dX9_through_6 : decode cX9_through 6 = .ok (.iconst 1, 1) := by decide +kernel
theorem dX9_through_7 : decode cX9_through 7 = .ok (.invokevirtual 52, 3) := by decide +kernel
theorem dX9_through_10 : decode cX9_through 10 = .ok (.ireturn, 1) := by decide +kernel
theorem dX9_through_11 : decode cX9_through 11 = .ok (.aload_n 0, 1) := by decide +kernel
theorem dX9_through_12 : decode cX9_through 12 = .ok (.getfield 19, 3) := by decide +kernel
theorem dX9_through_15 : decode cX9_through 15 = .ok (.iload_n 1, 1) := by decide +kernel
theorem dX9_through_16 : decode cX9_through 16 = .ok (.invokevirtual 86, 3) := by decide +kernel
theorem dX9_through_19 : decode cX9_through 19 = .ok (.astore 4, 2) := by decide +kernel
theorem dX9_through_21 : decode cX9_through 21 = .ok (.aload_n 0, 1) := by decide +kernel
theorem dX9_through_22 : decode cX9_through 22 = .ok (.getfield 19, 3) := by decide +kernel
theorem dX9_through_25 : decode cX9_through 25 = .ok (.iload_n 2, 1) := by decide +kernel
theorem dX9_through_26 : decode cX9_through 26 = .ok (.invokevirtual 86, 3) := by decide +kernel
theorem dX9_through_29 : decode cX9_through 29 = .ok (.astore 5, 2) := by decide +kernel
theorem dX9_through_31 : decode cX9_through 31 = .ok (.aload 4, 2) := by decide +kernel
theorem dX9_through_33 : decode cX9_through 33 = .ok (.ifnull 8, 3) := by decide +kernel
theorem dX9_through_36 : decode cX9_through 36 = .ok (.aload 5, 2) := by decide +kernel
theorem dX9_through_38 : decode cX9_through 38 = .ok (.ifnonnull 9, 3) := by decide +kernel
theorem dX9_through_41 : decode cX9_through 41 = .ok (.aload_n 0, 1) := by decide +kernel
theorem dX9_through_42 : decode cX9_through 42 = .ok (.iconst 2, 1) := by decide +kernel
theorem dX9_through_43 : decode cX9_through 43 = .ok (.invokevirtual 52, 3) := by decide +kernel
theorem dX9_through_46 : decode cX9_through 46 = .ok (.ireturn, 1) := by decide +kernel
theorem dX9_through_47 : decode cX9_through 47 = .ok (.aload_n 0, 1) := by decide +kernel
theorem dX9_through_48 : decode cX9_through 48 = .ok (.aload 4, 2) := by decide +kernel
theorem dX9_through_50 : decode cX9_through 50 = .ok (.aload 5, 2) := by decide +kernel
theorem dX9_through_52 : decode cX9_through 52 = .ok (.iload_n 3, 1) := by decide +kernel
theorem dX9_through_53 : decode cX9_through 53 = .ok (.invokestatic 279, 3) := by decide +kernel
theorem dX9_through_56 : decode cX9_through 56 = .ok (.invokevirtual 113, 3) := by decide +kernel
theorem dX9_through_59 : decode cX9_through 59 = .ok (.ireturn, 1) := by decide +kernel
theorem dX9_list_0 : decode cX9_list 0 = .ok (.iload_n 2, 1) := by decide +kernel
theorem dX9_list_1 : decode cX9_list 1 = .ok (.iconst (-1), 1) := by decide +kernel
theorem dX9_list_2 : decode cX9_list 2 = .ok (.if_icmp .ge 9, 3) := by decide +kernel
theorem dX9_list_5 : decode cX9_list 5 = .ok (.aload_n 0, 1) := by decide +kernel
theorem dX9_list_6 : decode cX9_list 6 = .ok (.iconst 1, 1) := by decide +kernel
theorem dX9_list_7 : decode cX9_list 7 = .ok (.invokevirtual 52, 3) := by decide +kernel
theorem dX9_list_10 : decode cX9_list 10 = .ok (.ireturn, 1) := by decide +kernel
theorem dX9_list_11 : decode cX9_list 11 = .ok (.aload_n 0, 1) := by decide +kernel
theorem dX9_list_12 : decode cX9_list 12 = .ok (.getfield 19, 3) := by decide +kernel
theorem dX9_list_15 : decode cX9_list 15 = .ok (.iload_n 1, 1) := by decide +kernel
theorem dX9_list_16 : decode cX9_list 16 = .ok (.invokevirtual 282, 3) := by decide +kernel
theorem dX9_list_19 : decode cX9_list 19 = .ok (.astore_n 3, 1) := by decide +kernel
theorem dX9_list_20 : decode cX9_list 20 = .ok (.aload_n 3, 1) := by decide +kernel
theorem dX9_list_21 : decode cX9_list 21 = .ok (.ifnonnull 9, 3) := by decide +kernel
theorem dX9_list_24 : decode cX9_list 24 = .ok (.aload_n 0, 1) := by decide +kernel
theorem dX9_list_25 : decode cX9_list 25 = .ok (.iconst 2, 1) := by decide +kernel
theorem dX9_list_26 : decode cX9_list 26 = .ok (.invokevirtual 52, 3) := by decide +kernel
theorem dX9_list_29 : decode cX9_list 29 = .ok (.ireturn, 1) := by decide +kernel
theorem dX9_list_30 : decode cX9_list 30 = .ok (.iload_n 2, 1) := by decide +kernel
theorem dX9_list_31 : decode cX9_list 31 = .ok (.iconst (-1), 1) := by decide +kernel
theorem dX9_list_32 : decode cX9_list 32 = .ok (.if_icmp .ne 14, 3) := by decide +kernel
theorem dX9_list_35 : decode cX9_list 35 = .ok (.aload_n 0, 1) := by decide +kernel
theorem dX9_list_36 : decode cX9_list 36 = .ok (.aload_n 3, 1) := by decide +kernel
theorem dX9_list_37 : decode cX9_list 37 = .ok (.getfield 286, 3) := by decide +kernel
theorem dX9_list_40 : decode cX9_list 40 = .ok (.invokevirtual 67, 3) := by decide +kernel
theorem dX9_list_43 : decode cX9_list 43 = .ok (.goto 12, 3) := by decide +kernel
theorem dX9_list_46 : decode cX9_list 46 = .ok (.aload_n 0, 1) := by decide +kernel
theorem dX9_list_47 : decode cX9_list 47 = .ok (.aload_n 3, 1) := by decide +kernel
theorem dX9_list_48 : decode cX9_list 48 = .ok (.iload_n 2, 1) := by decide +kernel
theorem dX9_list_49 : decode cX9_list 49 = .ok (.invokevirtual 289, 3) := by decide +kernel
theorem dX9_list_52 : decode cX9_list 52 = .ok (.invokevirtual 113, 3) := by decide +kernel
theorem dX9_list_55 : decode cX9_list 55 = .ok (.ireturn, 1) := by decide +kernel
theorem dX9_fits_0 : decode cX9_fits 0 = .ok (.iload_n 3, 1) := by decide +kernel
theorem dX9_fits_1 : decode cX9_fits 1 = .ok (.iconst 0, 1) := by decide +kernel
theorem dX9_fits_2 : decode cX9_fits 2 = .ok (.iconst 2, 1) := by decide +kernel
theorem dX9_fits_3 : decode cX9_fits 3 = .ok (.invokestatic 76, 3) := by decide +kernel
theorem dX9_fits_6 : decode cX9_fits 6 = .ok (.ifCond .ne 9, 3) := by decide +kernel
theorem dX9_fits_9 : decode cX9_fits 9 = .ok (.aload_n 0, 1) := by decide +kernel
theorem dX9_fits_10 : decode cX9_fits 10 = .ok (.iconst 1, 1) := by decide +kernel
theorem dX9_fits_11 : decode cX9_fits 11 = .ok (.invokevirtual 52, 3) := by decide +kernel
theorem dX9_fits_14 : decode cX9_fits 14 = .ok (.ireturn, 1) := by decide +kernel
theorem dX9_fits_15 : decode cX9_fits 15 = .ok (.aload_n 0, 1) := by decide +kernel
theorem dX9_fits_16 : decode cX9_fits 16 = .ok (.getfield 19, 3) := by decide +kernel
theorem dX9_fits_19 : decode cX9_fits 19 = .ok (.iload_n 1, 1) := by decide +kernel
theorem dX9_fits_20 : decode cX9_fits 20 = .ok (.invokevirtual 86, 3) := by decide +kernel
theorem dX9_fits_23 : decode cX9_fits 23 = .ok (.astore 4, 2) := by decide +kernel
theorem dX9_fits_25 : decode cX9_fits 25 = .ok (.aload_n 0, 1) := by decide +kernel
theorem dX9_fits_26 : decode cX9_fits 26 = .ok (.getfield 19, 3) := by decide +kernel
theorem dX9_fits_29 : decode cX9_fits 29 = .ok (.iload_n 2, 1) := by decide +kernel
theorem dX9_fits_30 : decode cX9_fits 30 = .ok (.invokevirtual 282, 3) := by decide +kernel
theorem dX9_fits_33 : decode cX9_fits 33 = .ok (.astore 5, 2) := by decide +kernel
theorem dX9_fits_35 : decode cX9_fits 35 = .ok (.aload 4, 2) := by decide +kernel
theorem dX9_fits_37 : decode cX9_fits 37 = .ok (.ifnull 8, 3) := by decide +kernel
theorem dX9_fits_40 : decode cX9_fits 40 = .ok (.aload 5, 2) := by decide +kernel
theorem dX9_fits_42 : decode cX9_fits 42 = .ok (.ifnonnull 9, 3) := by decide +kernel
theorem dX9_fits_45 : decode cX9_fits 45 = .ok (.aload_n 0, 1) := by decide +kernel
theorem dX9_fits_46 : decode cX9_fits 46 = .ok (.iconst 2, 1) := by decide +kernel
theorem dX9_fits_47 : decode cX9_fits 47 = .ok (.invokevirtual 52, 3) := by decide +kernel
theorem dX9_fits_50 : decode cX9_fits 50 = .ok (.ireturn, 1) := by decide +kernel
theorem dX9_fits_51 : decode cX9_fits 51 = .ok (.iload_n 3, 1) := by decide +kernel
theorem dX9_fits_52 : decode cX9_fits 52 = .ok (.ifCond .ne 15, 3) := by decide +kernel
theorem dX9_fits_55 : decode cX9_fits 55 = .ok (.aload_n 0, 1) := by decide +kernel
theorem dX9_fits_56 : decode cX9_fits 56 = .ok (.aload 5, 2) := by decide +kernel
theorem dX9_fits_58 : decode cX9_fits 58 = .ok (.aload 4, 2) := by decide +kernel
theorem dX9_fits_60 : decode cX9_fits 60 = .ok (.invokevirtual 290, 3) := by decide +kernel
theorem dX9_fits_63 : decode cX9_fits 63 = .ok (.invokevirtual 67, 3) := by decide +kernel
theorem dX9_fits_66 : decode cX9_fits 66 = .ok (.ireturn, 1) := by decide +kernel
theorem dX9_fits_67 : decode cX9_fits 67 = .ok (.iload_n 3, 1) := by decide +kernel
theorem dX9_fits_68 : decode cX9_fits 68 = .ok (.iconst 1, 1) := by decide +kernel
theorem dX9_fits_69 : decode cX9_fits 69 = .ok (.if_icmp .ne 15, 3) := by decide +kernel
theorem dX9_fits_72 : decode cX9_fits 72 = .ok (.aload_n 0, 1) := by decide +kernel
theorem dX9_fits_73 : decode cX9_fits 73 = .ok (.aload 5, 2) := by decide +kernel
theorem dX9_fits_75 : decode cX9_fits 75 = .ok (.aload 4, 2) := by decide +kernel
theorem dX9_fits_77 : decode cX9_fits 77 = .ok (.invokevirtual 293, 3) := by decide +kernel
theorem dX9_fits_80 : decode cX9_fits 80 = .ok (.invokevirtual 113, 3) := by decide +kernel
theorem dX9_fits_83 : decode cX9_fits 83 = .ok (.ireturn, 1) := by decide +kernel
theorem dX9_fits_84 : decode cX9_fits 84 = .ok (.aload_n 0, 1) := by decide +kernel
theorem dX9_fits_85 : decode cX9_fits 85 = .ok (.aload 5, 2) := by decide +kernel
theorem dX9_fits_87 : decode cX9_fits 87 = .ok (.aload 4, 2) := by decide +kernel
theorem dX9_fits_89 : decode cX9_fits 89 = .ok (.invokevirtual 296, 3) := by decide +kernel
theorem dX9_fits_92 : decode cX9_fits 92 = .ok (.ifCond .eq 7, 3) := by decide +kernel
theorem dX9_fits_95 : decode cX9_fits 95 = .ok (.iconst 1, 1) := by decide +kernel
theorem dX9_fits_96 : decode cX9_fits 96 = .ok (.goto 4, 3) := by decide +kernel
theorem dX9_fits_99 : decode cX9_fits 99 = .ok (.iconst 0, 1) := by decide +kernel
theorem dX9_fits_100 : decode cX9_fits 100 = .ok (.invokevirtual 67, 3) := by decide +kernel
theorem dX9_fits_103 : decode cX9_fits 103 = .ok (.ireturn, 1) := by decide +kernel
theorem dX9_guess_0 : decode cX9_guess 0 = .ok (.aload_n 0, 1) := by decide +kernel
theorem dX9_guess_1 : decode cX9_guess 1 = .ok (.getfield 19, 3) := by decide +kernel
theorem dX9_guess_4 : decode cX9_guess 4 = .ok (.iload_n 1, 1) := by decide +kernel
theorem dX9_guess_5 : decode cX9_guess 5 = .ok (.invokevirtual 282, 3) := by decide +kernel
theorem dX9_guess_8 : decode cX9_guess 8 = .ok (.astore_n 2, 1) := by decide +kernel
theorem dX9_guess_9 : decode cX9_guess 9 = .ok (.aload_n 2, 1) := by decide +kernel
theorem dX9_guess_10 : decode cX9_guess 10 = .ok (.ifnonnull 9, 3) := by decide +kernel
theorem dX9_guess_13 : decode cX9_guess 13 = .ok (.aload_n 0, 1) := by decide +kernel
theorem dX9_guess_14 : decode cX9_guess 14 = .ok (.iconst 2, 1) := by decide +kernel
theorem dX9_guess_15 : decode cX9_guess 15 = .ok (.invokevirtual 52, 3) := by decide +kernel
theorem dX9_guess_18 : decode cX9_guess 18 = .ok (.ireturn, 1) := by decide +kernel
theorem dX9_guess_19 : decode cX9_guess 19 = .ok (.iconst 0, 1) := by decide +kernel
theorem dX9_guess_20 : decode cX9_guess 20 = .ok (.istore_n 3, 1) := by decide +kernel
theorem dX9_guess_21 : decode cX9_guess 21 = .ok (.iload_n 3, 1) := by decide +kernel
theorem dX9_guess_22 : decode cX9_guess 22 = .ok (.aload_n 0, 1) := by decide +kernel
theorem dX9_guess_23 : decode cX9_guess 23 = .ok (.getfield 19, 3) := by decide +kernel
theorem dX9_guess_26 : decode cX9_guess 26 = .ok (.getfield 64, 3) := by decide +kernel
theorem dX9_guess_29 : decode cX9_guess 29 = .ok (.if_icmp .ge 50, 3) := by decide +kernel
theorem dX9_guess_32 : decode cX9_guess 32 = .ok (.aload_n 0, 1) := by decide +kernel
theorem dX9_guess_33 : decode cX9_guess 33 = .ok (.getfield 19, 3) := by decide +kernel
theorem dX9_guess_36 : decode cX9_guess 36 = .ok (.iload_n 3, 1) := by decide +kernel
theorem dX9_guess_37 : decode cX9_guess 37 = .ok (.invokevirtual 86, 3) := by decide +kernel
theorem dX9_guess_40 : decode cX9_guess 40 = .ok (.astore 4, 2) := by decide +kernel
theorem dX9_guess_42 : decode cX9_guess 42 = .ok (.aload 4, 2) := by decide +kernel
theorem dX9_guess_44 : decode cX9_guess 44 = .ok (.ifnonnull 6, 3) := by decide +kernel
theorem dX9_guess_47 : decode cX9_guess 47 = .ok (.goto 26, 3) := by decide +kernel
theorem dX9_guess_50 : decode cX9_guess 50 = .ok (.aload_n 0, 1) := by decide +kernel
theorem dX9_guess_51 : decode cX9_guess 51 = .ok (.aload 4, 2) := by decide +kernel
theorem dX9_guess_53 : decode cX9_guess 53 = .ok (.invokevirtual 159, 3) := by decide +kernel
theorem dX9_guess_56 : decode cX9_guess 56 = .ok (.aload_n 2, 1) := by decide +kernel
theorem dX9_guess_57 : decode cX9_guess 57 = .ok (.aload_n 0, 1) := by decide +kernel
theorem dX9_guess_58 : decode cX9_guess 58 = .ok (.getfield 33, 3) := by decide +kernel
theorem dX9_guess_61 : decode cX9_guess 61 = .ok (.invokevirtual 296, 3) := by decide +kernel
theorem dX9_guess_64 : decode cX9_guess 64 = .ok (.ifCond .eq 9, 3) := by decide +kernel
theorem dX9_guess_67 : decode cX9_guess 67 = .ok (.aload_n 0, 1) := by decide +kernel
theorem dX9_guess_68 : decode cX9_guess 68 = .ok (.iload_n 3, 1) := by decide +kernel
theorem dX9_guess_69 : decode cX9_guess 69 = .ok (.invokevirtual 67, 3) := by decide +kernel
theorem dX9_guess_72 : decode cX9_guess 72 = .ok (.ireturn, 1) := by decide +kernel
theorem dX9_guess_73 : decode cX9_guess 73 = .ok (.iinc 3 1, 3) := by decide +kernel
theorem dX9_guess_76 : decode cX9_guess 76 = .ok (.goto (-55), 3) := by decide +kernel
theorem dX9_guess_79 : decode cX9_guess 79 = .ok (.aload_n 0, 1) := by decide +kernel
theorem dX9_guess_80 : decode cX9_guess 80 = .ok (.iconst 5, 1) := by decide +kernel
theorem dX9_guess_81 : decode cX9_guess 81 = .ok (.invokevirtual 52, 3) := by decide +kernel
theorem dX9_guess_84 : decode cX9_guess 84 = .ok (.ireturn, 1) := by decide +kernel
theorem dX9_meets_0 : decode cX9_meets 0 = .ok (.iload 4, 2) := by decide +kernel
theorem dX9_meets_2 : decode cX9_meets 2 = .ok (.iconst 0, 1) := by decide +kernel
theorem dX9_meets_3 : decode cX9_meets 3 = .ok (.iconst 1, 1) := by decide +kernel
theorem dX9_meets_4 : decode cX9_meets 4 = .ok (.invokestatic 76, 3) := by decide +kernel
theorem dX9_meets_7 : decode cX9_meets 7 = .ok (.ifCond .ne 9, 3) := by decide +kernel
theorem dX9_meets_10 : decode cX9_meets 10 = .ok (.aload_n 0, 1) := by decide +kernel
theorem dX9_meets_11 : decode cX9_meets 11 = .ok (.iconst 1, 1) := by decide +kernel
theorem dX9_meets_12 : decode cX9_meets 12 = .ok (.invokevirtual 52, 3) := by decide +kernel
theorem dX9_meets_15 : decode cX9_meets 15 = .ok (.ireturn, 1) := by decide +kernel
theorem dX9_meets_16 : decode cX9_meets 16 = .ok (.aload_n 0, 1) := by decide +kernel
theorem dX9_meets_17 : decode cX9_meets 17 = .ok (.getfield 19, 3) := by decide +kernel
theorem dX9_meets_20 : decode cX9_meets 20 = .ok (.iload_n 1, 1) := by decide +kernel
theorem dX9_meets_21 : decode cX9_meets 21 = .ok (.invokevirtual 86, 3) := by decide +kernel
theorem dX9_meets_24 : decode cX9_meets 24 = .ok (.astore 5, 2) := by decide +kernel
theorem dX9_meets_26 : decode cX9_meets 26 = .ok (.aload_n 0, 1) := by decide +kernel
theorem dX9_meets_27 : decode cX9_meets 27 = .ok (.getfield 19, 3) := by decide +kernel
theorem dX9_meets_30 : decode cX9_meets 30 = .ok (.iload_n 2, 1) := by decide +kernel
theorem dX9_meets_31 : decode cX9_meets 31 = .ok (.invokevirtual 86, 3) := by decide +kernel
theorem dX9_meets_34 : decode cX9_meets 34 = .ok (.astore 6, 2) := by decide +kernel
theorem dX9_meets_36 : decode cX9_meets 36 = .ok (.aload 5, 2) := by decide +kernel
theorem dX9_meets_38 : decode cX9_meets 38 = .ok (.ifnull 8, 3) := by decide +kernel
theorem dX9_meets_41 : decode cX9_meets 41 = .ok (.aload 6, 2) := by decide +kernel
theorem dX9_meets_43 : decode cX9_meets 43 = .ok (.ifnonnull 9, 3) := by decide +kernel
theorem dX9_meets_46 : decode cX9_meets 46 = .ok (.aload_n 0, 1) := by decide +kernel
theorem dX9_meets_47 : decode cX9_meets 47 = .ok (.iconst 2, 1) := by decide +kernel
theorem dX9_meets_48 : decode cX9_meets 48 = .ok (.invokevirtual 52, 3) := by decide +kernel
theorem dX9_meets_51 : decode cX9_meets 51 = .ok (.ireturn, 1) := by decide +kernel
theorem dX9_meets_52 : decode cX9_meets 52 = .ok (.aload_n 0, 1) := by decide +kernel
theorem dX9_meets_53 : decode cX9_meets 53 = .ok (.aload 5, 2) := by decide +kernel
theorem dX9_meets_55 : decode cX9_meets 55 = .ok (.aload 6, 2) := by decide +kernel
theorem dX9_meets_57 : decode cX9_meets 57 = .ok (.iload_n 3, 1) := by decide +kernel
theorem dX9_meets_58 : decode cX9_meets 58 = .ok (.iload 4, 2) := by decide +kernel
theorem dX9_meets_60 : decode cX9_meets 60 = .ok (.iconst 1, 1) := by decide +kernel
theorem dX9_meets_61 : decode cX9_meets 61 = .ok (.if_icmp .ne 7, 3) := by decide +kernel
theorem dX9_meets_64 : decode cX9_meets 64 = .ok (.iconst 1, 1) := by decide +kernel
theorem dX9_meets_65 : decode cX9_meets 65 = .ok (.goto 4, 3) := by decide +kernel
theorem dX9_meets_68 : decode cX9_meets 68 = .ok (.iconst 0, 1) := by decide +kernel
theorem dX9_meets_69 : decode cX9_meets 69 = .ok (.invokestatic 299, 3) := by decide +kernel
theorem dX9_meets_72 : decode cX9_meets 72 = .ok (.invokevirtual 67, 3) := by decide +kernel
theorem dX9_meets_75 : decode cX9_meets 75 = .ok (.ireturn, 1) := by decide +kernel
theorem dX9_apart_0 : decode cX9_apart 0 = .ok (.iload_n 3, 1) := by decide +kernel
theorem dX9_apart_1 : decode cX9_apart 1 = .ok (.iconst 0, 1) := by decide +kernel
theorem dX9_apart_2 : decode cX9_apart 2 = .ok (.iconst 1, 1) := by decide +kernel
theorem dX9_apart_3 : decode cX9_apart 3 = .ok (.invokestatic 76, 3) := by decide +kernel
theorem dX9_apart_6 : decode cX9_apart 6 = .ok (.ifCond .ne 9, 3) := by decide +kernel
theorem dX9_apart_9 : decode cX9_apart 9 = .ok (.aload_n 0, 1) := by decide +kernel
theorem dX9_apart_10 : decode cX9_apart 10 = .ok (.iconst 1, 1) := by decide +kernel
theorem dX9_apart_11 : decode cX9_apart 11 = .ok (.invokevirtual 52, 3) := by decide +kernel
theorem dX9_apart_14 : decode cX9_apart 14 = .ok (.ireturn, 1) := by decide +kernel
theorem dX9_apart_15 : decode cX9_apart 15 = .ok (.aload_n 0, 1) := by decide +kernel
theorem dX9_apart_16 : decode cX9_apart 16 = .ok (.getfield 19, 3) := by decide +kernel
theorem dX9_apart_19 : decode cX9_apart 19 = .ok (.iload_n 1, 1) := by decide +kernel
theorem dX9_apart_20 : decode cX9_apart 20 = .ok (.invokevirtual 86, 3) := by decide +kernel
theorem dX9_apart_23 : decode cX9_apart 23 = .ok (.astore 4, 2) := by decide +kernel
theorem dX9_apart_25 : decode cX9_apart 25 = .ok (.aload_n 0, 1) := by decide +kernel
theorem dX9_apart_26 : decode cX9_apart 26 = .ok (.getfield 19, 3) := by decide +kernel
theorem dX9_apart_29 : decode cX9_apart 29 = .ok (.iload_n 2, 1) := by decide +kernel
theorem dX9_apart_30 : decode cX9_apart 30 = .ok (.invokevirtual 86, 3) := by decide +kernel
theorem dX9_apart_33 : decode cX9_apart 33 = .ok (.astore 5, 2) := by decide +kernel
theorem dX9_apart_35 : decode cX9_apart 35 = .ok (.aload 4, 2) := by decide +kernel
theorem dX9_apart_37 : decode cX9_apart 37 = .ok (.ifnull 8, 3) := by decide +kernel
theorem dX9_apart_40 : decode cX9_apart 40 = .ok (.aload 5, 2) := by decide +kernel
theorem dX9_apart_42 : decode cX9_apart 42 = .ok (.ifnonnull 9, 3) := by decide +kernel
theorem dX9_apart_45 : decode cX9_apart 45 = .ok (.aload_n 0, 1) := by decide +kernel
theorem dX9_apart_46 : decode cX9_apart 46 = .ok (.iconst 2, 1) := by decide +kernel
theorem dX9_apart_47 : decode cX9_apart 47 = .ok (.invokevirtual 52, 3) := by decide +kernel
theorem dX9_apart_50 : decode cX9_apart 50 = .ok (.ireturn, 1) := by decide +kernel
theorem dX9_apart_51 : decode cX9_apart 51 = .ok (.iload_n 3, 1) := by decide +kernel
theorem dX9_apart_52 : decode cX9_apart 52 = .ok (.iconst 1, 1) := by decide +kernel
theorem dX9_apart_53 : decode cX9_apart 53 = .ok (.if_icmp .ne 15, 3) := by decide +kernel
theorem dX9_apart_56 : decode cX9_apart 56 = .ok (.aload_n 0, 1) := by decide +kernel
theorem dX9_apart_57 : decode cX9_apart 57 = .ok (.aload 4, 2) := by decide +kernel
theorem dX9_apart_59 : decode cX9_apart 59 = .ok (.aload 5, 2) := by decide +kernel
theorem dX9_apart_61 : decode cX9_apart 61 = .ok (.invokestatic 303, 3) := by decide +kernel
theorem dX9_apart_64 : decode cX9_apart 64 = .ok (.invokevirtual 67, 3) := by decide +kernel
theorem dX9_apart_67 : decode cX9_apart 67 = .ok (.ireturn, 1) := by decide +kernel
theorem dX9_apart_68 : decode cX9_apart 68 = .ok (.aload_n 0, 1) := by decide +kernel
theorem dX9_apart_69 : decode cX9_apart 69 = .ok (.aload 4, 2) := by decide +kernel
theorem dX9_apart_71 : decode cX9_apart 71 = .ok (.aload 5, 2) := by decide +kernel
theorem dX9_apart_73 : decode cX9_apart 73 = .ok (.invokestatic 306, 3) := by decide +kernel
theorem dX9_apart_76 : decode cX9_apart 76 = .ok (.invokevirtual 113, 3) := by decide +kernel
theorem dX9_apart_79 : decode cX9_apart 79 = .ok (.ireturn, 1) := by decide +kernel
theorem dX9_print_0 : decode cX9_print 0 = .ok (.aload_n 0, 1) := by decide +kernel
theorem dX9_print_1 : decode cX9_print 1 = .ok (.getfield 19, 3) := by decide +kernel
theorem dX9_print_4 : decode cX9_print 4 = .ok (.iload_n 1, 1) := by decide +kernel
theorem dX9_print_5 : decode cX9_print 5 = .ok (.invokevirtual 86, 3) := by decide +kernel
theorem dX9_print_8 : decode cX9_print 8 = .ok (.astore_n 2, 1) := by decide +kernel
theorem dX9_print_9 : decode cX9_print 9 = .ok (.aload_n 2, 1) := by decide +kernel
theorem dX9_print_10 : decode cX9_print 10 = .ok (.ifnonnull 9, 3) := by decide +kernel
theorem dX9_print_13 : decode cX9_print 13 = .ok (.aload_n 0, 1) := by decide +kernel
theorem dX9_print_14 : decode cX9_print 14 = .ok (.iconst 2, 1) := by decide +kernel
theorem dX9_print_15 : decode cX9_print 15 = .ok (.invokevirtual 52, 3) := by decide +kernel
theorem dX9_print_18 : decode cX9_print 18 = .ok (.ireturn, 1) := by decide +kernel
theorem dX9_print_19 : decode cX9_print 19 = .ok (.aload_n 0, 1) := by decide +kernel
theorem dX9_print_20 : decode cX9_print 20 = .ok (.getfield 26, 3) := by decide +kernel
theorem dX9_print_23 : decode cX9_print 23 = .ok (.aload_n 2, 1) := by decide +kernel
theorem dX9_print_24 : decode cX9_print 24 = .ok (.invokevirtual 309, 3) := by decide +kernel
theorem dX9_print_27 : decode cX9_print 27 = .ok (.aload_n 0, 1) := by decide +kernel
theorem dX9_print_28 : decode cX9_print 28 = .ok (.aload_n 0, 1) := by decide +kernel
theorem dX9_print_29 : decode cX9_print 29 = .ok (.getfield 26, 3) := by decide +kernel
theorem dX9_print_32 : decode cX9_print 32 = .ok (.getfield 312, 3) := by decide +kernel
theorem dX9_print_35 : decode cX9_print 35 = .ok (.invokevirtual 67, 3) := by decide +kernel
theorem dX9_print_38 : decode cX9_print 38 = .ok (.ireturn, 1) := by decide +kernel
theorem dX9_out_0 : decode cX9_out 0 = .ok (.iload_n 1, 1) := by decide +kernel
theorem dX9_out_1 : decode cX9_out 1 = .ok (.ifCond .ge 9, 3) := by decide +kernel
theorem dX9_out_4 : decode cX9_out 4 = .ok (.aload_n 0, 1) := by decide +kernel
theorem dX9_out_5 : decode cX9_out 5 = .ok (.iconst 1, 1) := by decide +kernel
theorem dX9_out_6 : decode cX9_out 6 = .ok (.invokevirtual 52, 3) := by decide +kernel
theorem dX9_out_9 : decode cX9_out 9 = .ok (.ireturn, 1) := by decide +kernel
theorem dX9_out_10 : decode cX9_out 10 = .ok (.iload_n 1, 1) := by decide +kernel
theorem dX9_out_11 : decode cX9_out 11 = .ok (.aload_n 0, 1) := by decide +kernel
theorem dX9_out_12 : decode cX9_out 12 = .ok (.getfield 26, 3) := by decide +kernel
theorem dX9_out_15 : decode cX9_out 15 = .ok (.getfield 312, 3) := by decide +kernel
theorem dX9_out_18 : decode cX9_out 18 = .ok (.if_icmp .ge 21, 3) := by decide +kernel
theorem dX9_out_21 : decode cX9_out 21 = .ok (.aload_n 0, 1) := by decide +kernel
theorem dX9_out_22 : decode cX9_out 22 = .ok (.aload_n 0, 1) := by decide +kernel
theorem dX9_out_23 : decode cX9_out 23 = .ok (.getfield 26, 3) := by decide +kernel
theorem dX9_out_26 : decode cX9_out 26 = .ok (.getfield 315, 3) := by decide +kernel
theorem dX9_out_29 : decode cX9_out 29 = .ok (.iload_n 1, 1) := by decide +kernel
theorem dX9_out_30 : decode cX9_out 30 = .ok (.invokestatic 318, 3) := by decide +kernel
theorem dX9_out_33 : decode cX9_out 33 = .ok (.invokevirtual 113, 3) := by decide +kernel
theorem dX9_out_36 : decode cX9_out 36 = .ok (.goto 8, 3) := by decide +kernel
theorem dX9_out_39 : decode cX9_out 39 = .ok (.aload_n 0, 1) := by decide +kernel
theorem dX9_out_40 : decode cX9_out 40 = .ok (.iconst 5, 1) := by decide +kernel
theorem dX9_out_41 : decode cX9_out 41 = .ok (.invokevirtual 52, 3) := by decide +kernel
theorem dX9_out_44 : decode cX9_out 44 = .ok (.ireturn, 1) := by decide +kernel
theorem dX9_fail_0 : decode cX9_fail 0 = .ok (.aload_n 0, 1) := by decide +kernel
theorem dX9_fail_1 : decode cX9_fail 1 = .ok (.iload_n 1, 1) := by decide +kernel
theorem dX9_fail_2 : decode cX9_fail 2 = .ok (.putfield 41, 3) := by decide +kernel
theorem dX9_fail_5 : decode cX9_fail 5 = .ok (.iconst (-1), 1) := by decide +kernel
theorem dX9_fail_6 : decode cX9_fail 6 = .ok (.ireturn, 1) := by decide +kernel
theorem dX9_succeed_0 : decode cX9_succeed 0 = .ok (.aload_n 0, 1) := by decide +kernel
theorem dX9_succeed_1 : decode cX9_succeed 1 = .ok (.iconst 0, 1) := by decide +kernel
theorem dX9_succeed_2 : decode cX9_succeed 2 = .ok (.putfield 41, 3) := by decide +kernel
theorem dX9_succeed_5 : decode cX9_succeed 5 = .ok (.iload_n 1, 1) := by decide +kernel
theorem dX9_succeed_6 : decode cX9_succeed 6 = .ok (.ireturn, 1) := by decide +kernel
theorem dX9_answer_0 : decode cX9_answer 0 = .ok (.iload_n 1, 1) := by decide +kernel
theorem dX9_answer_1 : decode cX9_answer 1 = .ok (.iconst (-1), 1) := by decide +kernel
theorem dX9_answer_2 : decode cX9_answer 2 = .ok (.if_icmp .ne 11, 3) := by decide +kernel
theorem dX9_answer_5 : decode cX9_answer 5 = .ok (.aload_n 0, 1) := by decide +kernel
theorem dX9_answer_6 : decode cX9_answer 6 = .ok (.iconst 5, 1) := by decide +kernel
theorem dX9_answer_7 : decode cX9_answer 7 = .ok (.invokevirtual 52, 3) := by decide +kernel
theorem dX9_answer_10 : decode cX9_answer 10 = .ok (.goto 8, 3) := by decide +kernel
theorem dX9_answer_13 : decode cX9_answer 13 = .ok (.aload_n 0, 1) := by decide +kernel
theorem dX9_answer_14 : decode cX9_answer 14 = .ok (.iload_n 1, 1) := by decide +kernel
theorem dX9_answer_15 : decode cX9_answer 15 = .ok (.invokevirtual 67, 3) := by decide +kernel
theorem dX9_answer_18 : decode cX9_answer 18 = .ok (.ireturn, 1) := by decide +kernel
theorem dX9_finishTrial_0 : decode cX9_finishTrial 0 = .ok (.aload_n 0, 1) := by decide +kernel
theorem dX9_finishTrial_1 : decode cX9_finishTrial 1 = .ok (.getfield 33, 3) := by decide +kernel
theorem dX9_finishTrial_4 : decode cX9_finishTrial 4 = .ok (.aload_n 1, 1) := by decide +kernel
theorem dX9_finishTrial_5 : decode cX9_finishTrial 5 = .ok (.invokevirtual 163, 3) := by decide +kernel
theorem dX9_finishTrial_8 : decode cX9_finishTrial 8 = .ok (.aload_n 0, 1) := by decide +kernel
theorem dX9_finishTrial_9 : decode cX9_finishTrial 9 = .ok (.getfield 33, 3) := by decide +kernel
theorem dX9_finishTrial_12 : decode cX9_finishTrial 12 = .ok (.sipush 600, 3) := by decide +kernel
theorem dX9_finishTrial_15 : decode cX9_finishTrial 15 = .ok (.invokevirtual 104, 3) := by decide +kernel
theorem dX9_finishTrial_18 : decode cX9_finishTrial 18 = .ok (.pop, 1) := by decide +kernel
theorem dX9_finishTrial_19 : decode cX9_finishTrial 19 = .ok (.return_, 1) := by decide +kernel
theorem dX9_within_0 : decode cX9_within 0 = .ok (.iload_n 0, 1) := by decide +kernel
theorem dX9_within_1 : decode cX9_within 1 = .ok (.iload_n 1, 1) := by decide +kernel
theorem dX9_within_2 : decode cX9_within 2 = .ok (.if_icmp .lt 12, 3) := by decide +kernel
theorem dX9_within_5 : decode cX9_within 5 = .ok (.iload_n 0, 1) := by decide +kernel
theorem dX9_within_6 : decode cX9_within 6 = .ok (.iload_n 2, 1) := by decide +kernel
theorem dX9_within_7 : decode cX9_within 7 = .ok (.if_icmp .gt 7, 3) := by decide +kernel
theorem dX9_within_10 : decode cX9_within 10 = .ok (.iconst 1, 1) := by decide +kernel
theorem dX9_within_11 : decode cX9_within 11 = .ok (.goto 4, 3) := by decide +kernel
theorem dX9_within_14 : decode cX9_within 14 = .ok (.iconst 0, 1) := by decide +kernel
theorem dX9_within_15 : decode cX9_within 15 = .ok (.ireturn, 1) := by decide +kernel
theorem dX9_at_0 : decode cX9_at 0 = .ok (.iload_n 1, 1) := by decide +kernel
theorem dX9_at_1 : decode cX9_at 1 = .ok (.ifCond .lt 15, 3) := by decide +kernel
theorem dX9_at_4 : decode cX9_at 4 = .ok (.iload_n 1, 1) := by decide +kernel
theorem dX9_at_5 : decode cX9_at 5 = .ok (.aload_n 0, 1) := by decide +kernel
theorem dX9_at_6 : decode cX9_at 6 = .ok (.arraylength, 1) := by decide +kernel
theorem dX9_at_7 : decode cX9_at 7 = .ok (.if_icmp .ge 9, 3) := by decide +kernel
theorem dX9_at_10 : decode cX9_at 10 = .ok (.aload_n 0, 1) := by decide +kernel
theorem dX9_at_11 : decode cX9_at 11 = .ok (.iload_n 1, 1) := by decide +kernel
theorem dX9_at_12 : decode cX9_at 12 = .ok (.iaload, 1) := by decide +kernel
theorem dX9_at_13 : decode cX9_at 13 = .ok (.goto 4, 3) := by decide +kernel
theorem dX9_at_16 : decode cX9_at 16 = .ok (.iconst (-1), 1) := by decide +kernel
theorem dX9_at_17 : decode cX9_at 17 = .ok (.ireturn, 1) := by decide +kernel
theorem dX9_put_0 : decode cX9_put 0 = .ok (.iload_n 1, 1) := by decide +kernel
theorem dX9_put_1 : decode cX9_put 1 = .ok (.ifCond .lt 13, 3) := by decide +kernel
theorem dX9_put_4 : decode cX9_put 4 = .ok (.iload_n 1, 1) := by decide +kernel
theorem dX9_put_5 : decode cX9_put 5 = .ok (.aload_n 0, 1) := by decide +kernel
theorem dX9_put_6 : decode cX9_put 6 = .ok (.arraylength, 1) := by decide +kernel
theorem dX9_put_7 : decode cX9_put 7 = .ok (.if_icmp .ge 7, 3) := by decide +kernel
theorem dX9_put_10 : decode cX9_put 10 = .ok (.aload_n 0, 1) := by decide +kernel
theorem dX9_put_11 : decode cX9_put 11 = .ok (.iload_n 1, 1) := by decide +kernel
theorem dX9_put_12 : decode cX9_put 12 = .ok (.iload_n 2, 1) := by decide +kernel
theorem dX9_put_13 : decode cX9_put 13 = .ok (.iastore, 1) := by decide +kernel
theorem dX9_put_14 : decode cX9_put 14 = .ok (.return_, 1) := by decide +kernel
theorem dX9_copyCells_0 : decode cX9_copyCells 0 = .ok (.iconst 0, 1) := by decide +kernel
theorem dX9_copyCells_1 : decode cX9_copyCells 1 = .ok (.istore_n 2, 1) := by decide +kernel
theorem dX9_copyCells_2 : decode cX9_copyCells 2 = .ok (.iload_n 2, 1) := by decide +kernel
theorem dX9_copyCells_3 : decode cX9_copyCells 3 = .ok (.aload_n 0, 1) := by decide +kernel
theorem dX9_copyCells_4 : decode cX9_copyCells 4 = .ok (.arraylength, 1) := by decide +kernel
theorem dX9_copyCells_5 : decode cX9_copyCells 5 = .ok (.if_icmp .ge 21, 3) := by decide +kernel
theorem dX9_copyCells_8 : decode cX9_copyCells 8 = .ok (.iload_n 2, 1) := by decide +kernel
theorem dX9_copyCells_9 : decode cX9_copyCells 9 = .ok (.aload_n 1, 1) := by decide +kernel
theorem dX9_copyCells_10 : decode cX9_copyCells 10 = .ok (.arraylength, 1) := by decide +kernel
theorem dX9_copyCells_11 : decode cX9_copyCells 11 = .ok (.if_icmp .ge 15, 3) := by decide +kernel
theorem dX9_copyCells_14 : decode cX9_copyCells 14 = .ok (.aload_n 1, 1) := by decide +kernel
theorem dX9_copyCells_15 : decode cX9_copyCells 15 = .ok (.iload_n 2, 1) := by decide +kernel
theorem dX9_copyCells_16 : decode cX9_copyCells 16 = .ok (.aload_n 0, 1) := by decide +kernel
theorem dX9_copyCells_17 : decode cX9_copyCells 17 = .ok (.iload_n 2, 1) := by decide +kernel
theorem dX9_copyCells_18 : decode cX9_copyCells 18 = .ok (.iaload, 1) := by decide +kernel
theorem dX9_copyCells_19 : decode cX9_copyCells 19 = .ok (.iastore, 1) := by decide +kernel
theorem dX9_copyCells_20 : decode cX9_copyCells 20 = .ok (.iinc 2 1, 3) := by decide +kernel
theorem dX9_copyCells_23 : decode cX9_copyCells 23 = .ok (.goto (-21), 3) := by decide +kernel
theorem dX9_copyCells_26 : decode cX9_copyCells 26 = .ok (.return_, 1) := by decide +kernel
theorem dX9_clearCells_0 : decode cX9_clearCells 0 = .ok (.iconst 0, 1) := by decide +kernel
theorem dX9_clearCells_1 : decode cX9_clearCells 1 = .ok (.istore_n 1, 1) := by decide +kernel
theorem dX9_clearCells_2 : decode cX9_clearCells 2 = .ok (.iload_n 1, 1) := by decide +kernel
theorem dX9_clearCells_3 : decode cX9_clearCells 3 = .ok (.aload_n 0, 1) := by decide +kernel
theorem dX9_clearCells_4 : decode cX9_clearCells 4 = .ok (.arraylength, 1) := by decide +kernel
theorem dX9_clearCells_5 : decode cX9_clearCells 5 = .ok (.if_icmp .ge 13, 3) := by decide +kernel
theorem dX9_clearCells_8 : decode cX9_clearCells 8 = .ok (.aload_n 0, 1) := by decide +kernel
theorem dX9_clearCells_9 : decode cX9_clearCells 9 = .ok (.iload_n 1, 1) := by decide +kernel
theorem dX9_clearCells_10 : decode cX9_clearCells 10 = .ok (.iconst 0, 1) := by decide +kernel
theorem dX9_clearCells_11 : decode cX9_clearCells 11 = .ok (.iastore, 1) := by decide +kernel
theorem dX9_clearCells_12 : decode cX9_clearCells 12 = .ok (.iinc 1 1, 3) := by decide +kernel
theorem dX9_clearCells_15 : decode cX9_clearCells 15 = .ok (.goto (-13), 3) := by decide +kernel
theorem dX9_clearCells_18 : decode cX9_clearCells 18 = .ok (.return_, 1) := by decide +kernel
theorem dX9_quotient_0 : decode cX9_quotient 0 = .ok (.iload_n 1, 1) := by decide +kernel
theorem dX9_quotient_1 : decode cX9_quotient 1 = .ok (.ifCond .le 9, 3) := by decide +kernel
theorem dX9_quotient_4 : decode cX9_quotient 4 = .ok (.iload_n 0, 1) := by decide +kernel
theorem dX9_quotient_5 : decode cX9_quotient 5 = .ok (.iload_n 1, 1) := by decide +kernel
theorem dX9_quotient_6 : decode cX9_quotient 6 = .ok (.idiv, 1) := by decide +kernel
theorem dX9_quotient_7 : decode cX9_quotient 7 = .ok (.goto 4, 3) := by decide +kernel
theorem dX9_quotient_10 : decode cX9_quotient 10 = .ok (.iconst (-1), 1) := by decide +kernel
theorem dX9_quotient_11 : decode cX9_quotient 11 = .ok (.ireturn, 1) := by decide +kernel
theorem dX9_remainder_0 : decode cX9_remainder 0 = .ok (.iload_n 1, 1) := by decide +kernel
theorem dX9_remainder_1 : decode cX9_remainder 1 = .ok (.ifCond .le 9, 3) := by decide +kernel
theorem dX9_remainder_4 : decode cX9_remainder 4 = .ok (.iload_n 0, 1) := by decide +kernel
theorem dX9_remainder_5 : decode cX9_remainder 5 = .ok (.iload_n 1, 1) := by decide +kernel
theorem dX9_remainder_6 : decode cX9_remainder 6 = .ok (.irem, 1) := by decide +kernel
theorem dX9_remainder_7 : decode cX9_remainder 7 = .ok (.goto 4, 3) := by decide +kernel
theorem dX9_remainder_10 : decode cX9_remainder 10 = .ok (.iconst (-1), 1) := by decide +kernel
theorem dX9_remainder_11 : decode cX9_remainder 11 = .ok (.ireturn, 1) := by decide +kernel
