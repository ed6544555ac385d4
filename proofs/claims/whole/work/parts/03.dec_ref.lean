theorem dX6_init_0 : decode cX6_init 0 = .ok (.aload_n 0, 1) := by decide +kernel
theorem dX6_init_1 : decode cX6_init 1 = .ok (.invokespecial 1, 3) := by decide +kernel
theorem dX6_init_4 : decode cX6_init 4 = .ok (.aload_n 0, 1) := by decide +kernel
theorem dX6_init_5 : decode cX6_init 5 = .ok (.bipush 110, 2) := by decide +kernel
theorem dX6_init_7 : decode cX6_init 7 = .ok (.newarray .int, 2) := by decide +kernel
theorem dX6_init_9 : decode cX6_init 9 = .ok (.putfield 7, 3) := by decide +kernel
theorem dX6_init_12 : decode cX6_init 12 = .ok (.aload_n 0, 1) := by decide +kernel
theorem dX6_init_13 : decode cX6_init 13 = .ok (.bipush 110, 2) := by decide +kernel
theorem dX6_init_15 : decode cX6_init 15 = .ok (.newarray .int, 2) := by decide +kernel
theorem dX6_init_17 : decode cX6_init 17 = .ok (.putfield 13, 3) := by decide +kernel
theorem dX6_init_20 : decode cX6_init 20 = .ok (.aload_n 0, 1) := by decide +kernel
theorem dX6_init_21 : decode cX6_init 21 = .ok (.bipush 110, 2) := by decide +kernel
theorem dX6_init_23 : decode cX6_init 23 = .ok (.newarray .int, 2) := by decide +kernel
theorem dX6_init_25 : decode cX6_init 25 = .ok (.putfield 16, 3) := by decide +kernel
theorem dX6_init_28 : decode cX6_init 28 = .ok (.aload_n 0, 1) := by decide +kernel
theorem dX6_init_29 : decode cX6_init 29 = .ok (.sipush 660, 3) := by decide +kernel
theorem dX6_init_32 : decode cX6_init 32 = .ok (.newarray .int, 2) := by decide +kernel
theorem dX6_init_34 : decode cX6_init 34 = .ok (.putfield 19, 3) := by decide +kernel
theorem dX6_init_37 : decode cX6_init 37 = .ok (.aload_n 0, 1) := by decide +kernel
theorem dX6_init_38 : decode cX6_init 38 = .ok (.sipush 220, 3) := by decide +kernel
theorem dX6_init_41 : decode cX6_init 41 = .ok (.newarray .int, 2) := by decide +kernel
theorem dX6_init_43 : decode cX6_init 43 = .ok (.putfield 22, 3) := by decide +kernel
theorem dX6_init_46 : decode cX6_init 46 = .ok (.aload_n 0, 1) := by decide +kernel
theorem dX6_init_47 : decode cX6_init 47 = .ok (.iconst 2, 1) := by decide +kernel
theorem dX6_init_48 : decode cX6_init 48 = .ok (.newarray .boolean, 2) := by decide +kernel
theorem dX6_init_50 : decode cX6_init 50 = .ok (.putfield 25, 3) := by decide +kernel
theorem dX6_init_53 : decode cX6_init 53 = .ok (.aload_n 0, 1) := by decide +kernel
theorem dX6_init_54 : decode cX6_init 54 = .ok (.bipush 33, 2) := by decide +kernel
theorem dX6_init_56 : decode cX6_init 56 = .ok (.newarray .int, 2) := by decide +kernel
theorem dX6_init_58 : decode cX6_init 58 = .ok (.putfield 29, 3) := by decide +kernel
theorem dX6_init_61 : decode cX6_init 61 = .ok (.aload_n 0, 1) := by decide +kernel
theorem dX6_init_62 : decode cX6_init 62 = .ok (.bipush 60, 2) := by decide +kernel
theorem dX6_init_64 : decode cX6_init 64 = .ok (.newarray .char, 2) := by decide +kernel
theorem dX6_init_66 : decode cX6_init 66 = .ok (.putfield 32, 3) := by decide +kernel
theorem dX6_init_69 : decode cX6_init 69 = .ok (.aload_n 0, 1) := by decide +kernel
theorem dX6_init_70 : decode cX6_init 70 = .ok (.getfield 7, 3) := by decide +kernel
theorem dX6_init_73 : decode cX6_init 73 = .ok (.iconst 0, 1) := by decide +kernel
theorem dX6_init_74 : decode cX6_init 74 = .ok (.bipush 8, 2) := by decide +kernel
theorem dX6_init_76 : decode cX6_init 76 = .ok (.iastore, 1) := by decide +kernel
theorem dX6_init_77 : decode cX6_init 77 = .ok (.aload_n 0, 1) := by decide +kernel
theorem dX6_init_78 : decode cX6_init 78 = .ok (.getfield 7, 3) := by decide +kernel
theorem dX6_init_81 : decode cX6_init 81 = .ok (.iconst 1, 1) := by decide +kernel
theorem dX6_init_82 : decode cX6_init 82 = .ok (.iconst 4, 1) := by decide +kernel
theorem dX6_init_83 : decode cX6_init 83 = .ok (.iastore, 1) := by decide +kernel
theorem dX6_init_84 : decode cX6_init 84 = .ok (.return_, 1) := by decide +kernel
theorem dX6_in_0 : decode cX6_in 0 = .ok (.iload_n 0, 1) := by decide +kernel
theorem dX6_in_1 : decode cX6_in 1 = .ok (.iload_n 1, 1) := by decide +kernel
theorem dX6_in_2 : decode cX6_in 2 = .ok (.if_icmp .lt 12, 3) := by decide +kernel
theorem dX6_in_5 : decode cX6_in 5 = .ok (.iload_n 0, 1) := by decide +kernel
theorem dX6_in_6 : decode cX6_in 6 = .ok (.iload_n 2, 1) := by decide +kernel
theorem dX6_in_7 : decode cX6_in 7 = .ok (.if_icmp .gt 7, 3) := by decide +kernel
theorem dX6_in_10 : decode cX6_in 10 = .ok (.iconst 1, 1) := by decide +kernel
theorem dX6_in_11 : decode cX6_in 11 = .ok (.goto 4, 3) := by decide +kernel
theorem dX6_in_14 : decode cX6_in 14 = .ok (.iconst 0, 1) := by decide +kernel
theorem dX6_in_15 : decode cX6_in 15 = .ok (.ireturn, 1) := by decide +kernel
theorem dX6_b_0 : decode cX6_b 0 = .ok (.bipush 6, 2) := by decide +kernel
theorem dX6_b_2 : decode cX6_b 2 = .ok (.iconst 4, 1) := by decide +kernel
theorem dX6_b_3 : decode cX6_b 3 = .ok (.iload_n 0, 1) := by decide +kernel
theorem dX6_b_4 : decode cX6_b 4 = .ok (.imul, 1) := by decide +kernel
theorem dX6_b_5 : decode cX6_b 5 = .ok (.iadd, 1) := by decide +kernel
theorem dX6_b_6 : decode cX6_b 6 = .ok (.ireturn, 1) := by decide +kernel
theorem dX6_m_0 : decode cX6_m 0 = .ok (.bipush 70, 2) := by decide +kernel
theorem dX6_m_2 : decode cX6_m 2 = .ok (.bipush 10, 2) := by decide +kernel
theorem dX6_m_4 : decode cX6_m 4 = .ok (.iload_n 0, 1) := by decide +kernel
theorem dX6_m_5 : decode cX6_m 5 = .ok (.imul, 1) := by decide +kernel
theorem dX6_m_6 : decode cX6_m 6 = .ok (.iadd, 1) := by decide +kernel
theorem dX6_m_7 : decode cX6_m 7 = .ok (.ireturn, 1) := by decide +kernel
theorem dX6_isStream_0 : decode cX6_isStream 0 = .ok (.iload_n 1, 1) := by decide +kernel
theorem dX6_isStream_1 : decode cX6_isStream 1 = .ok (.iconst 0, 1) := by decide +kernel
theorem dX6_isStream_2 : decode cX6_isStream 2 = .ok (.aload_n 0, 1) := by decide +kernel
theorem dX6_isStream_3 : decode cX6_isStream 3 = .ok (.getfield 7, 3) := by decide +kernel
theorem dX6_isStream_6 : decode cX6_isStream 6 = .ok (.iconst 5, 1) := by decide +kernel
theorem dX6_isStream_7 : decode cX6_isStream 7 = .ok (.iaload, 1) := by decide +kernel
theorem dX6_isStream_8 : decode cX6_isStream 8 = .ok (.iconst 1, 1) := by decide +kernel
theorem dX6_isStream_9 : decode cX6_isStream 9 = .ok (.isub, 1) := by decide +kernel
theorem dX6_isStream_10 : decode cX6_isStream 10 = .ok (.invokestatic 36, 3) := by decide +kernel
theorem dX6_isStream_13 : decode cX6_isStream 13 = .ok (.ireturn, 1) := by decide +kernel
theorem dX6_hold_0 : decode cX6_hold 0 = .ok (.iconst 0, 1) := by decide +kernel
theorem dX6_hold_1 : decode cX6_hold 1 = .ok (.istore_n 1, 1) := by decide +kernel
theorem dX6_hold_2 : decode cX6_hold 2 = .ok (.iload_n 1, 1) := by decide +kernel
theorem dX6_hold_3 : decode cX6_hold 3 = .ok (.bipush 110, 2) := by decide +kernel
theorem dX6_hold_5 : decode cX6_hold 5 = .ok (.if_icmp .ge 21, 3) := by decide +kernel
theorem dX6_hold_8 : decode cX6_hold 8 = .ok (.aload_n 0, 1) := by decide +kernel
theorem dX6_hold_9 : decode cX6_hold 9 = .ok (.getfield 13, 3) := by decide +kernel
theorem dX6_hold_12 : decode cX6_hold 12 = .ok (.iload_n 1, 1) := by decide +kernel
theorem dX6_hold_13 : decode cX6_hold 13 = .ok (.aload_n 0, 1) := by decide +kernel
theorem dX6_hold_14 : decode cX6_hold 14 = .ok (.getfield 7, 3) := by decide +kernel
theorem dX6_hold_17 : decode cX6_hold 17 = .ok (.iload_n 1, 1) := by decide +kernel
theorem dX6_hold_18 : decode cX6_hold 18 = .ok (.iaload, 1) := by decide +kernel
theorem dX6_hold_19 : decode cX6_hold 19 = .ok (.iastore, 1) := by decide +kernel
theorem dX6_hold_20 : decode cX6_hold 20 = .ok (.iinc 1 1, 3) := by decide +kernel
theorem dX6_hold_23 : decode cX6_hold 23 = .ok (.goto (-21), 3) := by decide +kernel
theorem dX6_hold_26 : decode cX6_hold 26 = .ok (.return_, 1) := by decide +kernel
theorem dX6_recorded_0 : decode cX6_recorded 0 = .ok (.aload_n 0, 1) := by decide +kernel
theorem dX6_recorded_1 : decode cX6_recorded 1 = .ok (.getfield 40, 3) := by decide +kernel
theorem dX6_recorded_4 : decode cX6_recorded 4 = .ok (.bipush 6, 2) := by decide +kernel
theorem dX6_recorded_6 : decode cX6_recorded 6 = .ok (.if_icmp .ne 43, 3) := by decide +kernel
theorem dX6_recorded_9 : decode cX6_recorded 9 = .ok (.iconst 0, 1) := by decide +kernel
theorem dX6_recorded_10 : decode cX6_recorded 10 = .ok (.istore_n 2, 1) := by decide +kernel
theorem dX6_recorded_11 : decode cX6_recorded 11 = .ok (.iload_n 2, 1) := by decide +kernel
theorem dX6_recorded_12 : decode cX6_recorded 12 = .ok (.sipush 550, 3) := by decide +kernel
theorem dX6_recorded_15 : decode cX6_recorded 15 = .ok (.if_icmp .ge 24, 3) := by decide +kernel
theorem dX6_recorded_18 : decode cX6_recorded 18 = .ok (.aload_n 0, 1) := by decide +kernel
theorem dX6_recorded_19 : decode cX6_recorded 19 = .ok (.getfield 19, 3) := by decide +kernel
theorem dX6_recorded_22 : decode cX6_recorded 22 = .ok (.iload_n 2, 1) := by decide +kernel
theorem dX6_recorded_23 : decode cX6_recorded 23 = .ok (.aload_n 0, 1) := by decide +kernel
theorem dX6_recorded_24 : decode cX6_recorded 24 = .ok (.getfield 19, 3) := by decide +kernel
theorem dX6_recorded_27 : decode cX6_recorded 27 = .ok (.bipush 110, 2) := by decide +kernel
theorem dX6_recorded_29 : decode cX6_recorded 29 = .ok (.iload_n 2, 1) := by decide +kernel
theorem dX6_recorded_30 : decode cX6_recorded 30 = .ok (.iadd, 1) := by decide +kernel
theorem dX6_recorded_31 : decode cX6_recorded 31 = .ok (.iaload, 1) := by decide +kernel
theorem dX6_recorded_32 : decode cX6_recorded 32 = .ok (.iastore, 1) := by decide +kernel
theorem dX6_recorded_33 : decode cX6_recorded 33 = .ok (.iinc 2 1, 3) := by decide +kernel
theorem dX6_recorded_36 : decode cX6_recorded 36 = .ok (.goto (-25), 3) := by decide +kernel
theorem dX6_recorded_39 : decode cX6_recorded 39 = .ok (.aload_n 0, 1) := by decide +kernel
theorem dX6_recorded_40 : decode cX6_recorded 40 = .ok (.dup, 1) := by decide +kernel
theorem dX6_recorded_41 : decode cX6_recorded 41 = .ok (.getfield 40, 3) := by decide +kernel
theorem dX6_recorded_44 : decode cX6_recorded 44 = .ok (.iconst 1, 1) := by decide +kernel
theorem dX6_recorded_45 : decode cX6_recorded 45 = .ok (.isub, 1) := by decide +kernel
theorem dX6_recorded_46 : decode cX6_recorded 46 = .ok (.putfield 40, 3) := by decide +kernel
theorem dX6_recorded_49 : decode cX6_recorded 49 = .ok (.iconst 0, 1) := by decide +kernel
theorem dX6_recorded_50 : decode cX6_recorded 50 = .ok (.istore_n 2, 1) := by decide +kernel
theorem dX6_recorded_51 : decode cX6_recorded 51 = .ok (.iload_n 2, 1) := by decide +kernel
theorem dX6_recorded_52 : decode cX6_recorded 52 = .ok (.bipush 110, 2) := by decide +kernel
theorem dX6_recorded_54 : decode cX6_recorded 54 = .ok (.if_icmp .ge 29, 3) := by decide +kernel
theorem dX6_recorded_57 : decode cX6_recorded 57 = .ok (.aload_n 0, 1) := by decide +kernel
theorem dX6_recorded_58 : decode cX6_recorded 58 = .ok (.getfield 19, 3) := by decide +kernel
theorem dX6_recorded_61 : decode cX6_recorded 61 = .ok (.bipush 110, 2) := by decide +kernel
theorem dX6_recorded_63 : decode cX6_recorded 63 = .ok (.aload_n 0, 1) := by decide +kernel
theorem dX6_recorded_64 : decode cX6_recorded 64 = .ok (.getfield 40, 3) := by decide +kernel
theorem dX6_recorded_67 : decode cX6_recorded 67 = .ok (.imul, 1) := by decide +kernel
theorem dX6_recorded_68 : decode cX6_recorded 68 = .ok (.iload_n 2, 1) := by decide +kernel
theorem dX6_recorded_69 : decode cX6_recorded 69 = .ok (.iadd, 1) := by decide +kernel
theorem dX6_recorded_70 : decode cX6_recorded 70 = .ok (.aload_n 0, 1) := by decide +kernel
theorem dX6_recorded_71 : decode cX6_recorded 71 = .ok (.getfield 13, 3) := by decide +kernel
theorem dX6_recorded_74 : decode cX6_recorded 74 = .ok (.iload_n 2, 1) := by decide +kernel
theorem dX6_recorded_75 : decode cX6_recorded 75 = .ok (.iaload, 1) := by decide +kernel
theorem dX6_recorded_76 : decode cX6_recorded 76 = .ok (.iastore, 1) := by decide +kernel
theorem dX6_recorded_77 : decode cX6_recorded 77 = .ok (.iinc 2 1, 3) := by decide +kernel
theorem dX6_recorded_80 : decode cX6_recorded 80 = .ok (.goto (-29), 3) := by decide +kernel
theorem dX6_recorded_83 : decode cX6_recorded 83 = .ok (.aload_n 0, 1) := by decide +kernel
theorem dX6_recorded_84 : decode cX6_recorded 84 = .ok (.dup, 1) := by decide +kernel
theorem dX6_recorded_85 : decode cX6_recorded 85 = .ok (.getfield 40, 3) := by decide +kernel
theorem dX6_recorded_88 : decode cX6_recorded 88 = .ok (.iconst 1, 1) := by decide +kernel
theorem dX6_recorded_89 : decode cX6_recorded 89 = .ok (.iadd, 1) := by decide +kernel
theorem dX6_recorded_90 : decode cX6_recorded 90 = .ok (.putfield 40, 3) := by decide +kernel
theorem dX6_recorded_93 : decode cX6_recorded 93 = .ok (.iload_n 1, 1) := by decide +kernel
theorem dX6_recorded_94 : decode cX6_recorded 94 = .ok (.ireturn, 1) := by decide +kernel
theorem dX6_keepTrial_0 : decode cX6_keepTrial 0 = .ok (.iconst 0, 1) := by decide +kernel
theorem dX6_keepTrial_1 : decode cX6_keepTrial 1 = .ok (.istore_n 1, 1) := by decide +kernel
theorem dX6_keepTrial_2 : decode cX6_keepTrial 2 = .ok (.iload_n 1, 1) := by decide +kernel
theorem dX6_keepTrial_3 : decode cX6_keepTrial 3 = .ok (.bipush 110, 2) := by decide +kernel
theorem dX6_keepTrial_5 : decode cX6_keepTrial 5 = .ok (.if_icmp .ge 21, 3) := by decide +kernel
theorem dX6_keepTrial_8 : decode cX6_keepTrial 8 = .ok (.aload_n 0, 1) := by decide +kernel
theorem dX6_keepTrial_9 : decode cX6_keepTrial 9 = .ok (.getfield 16, 3) := by decide +kernel
theorem dX6_keepTrial_12 : decode cX6_keepTrial 12 = .ok (.iload_n 1, 1) := by decide +kernel
theorem dX6_keepTrial_13 : decode cX6_keepTrial 13 = .ok (.aload_n 0, 1) := by decide +kernel
theorem dX6_keepTrial_14 : decode cX6_keepTrial 14 = .ok (.getfield 7, 3) := by decide +kernel
theorem dX6_keepTrial_17 : decode cX6_keepTrial 17 = .ok (.iload_n 1, 1) := by decide +kernel
theorem dX6_keepTrial_18 : decode cX6_keepTrial 18 = .ok (.iaload, 1) := by decide +kernel
theorem dX6_keepTrial_19 : decode cX6_keepTrial 19 = .ok (.iastore, 1) := by decide +kernel
theorem dX6_keepTrial_20 : decode cX6_keepTrial 20 = .ok (.iinc 1 1, 3) := by decide +kernel
theorem dX6_keepTrial_23 : decode cX6_keepTrial 23 = .ok (.goto (-21), 3) := by decide +kernel
theorem dX6_keepTrial_26 : decode cX6_keepTrial 26 = .ok (.return_, 1) := by decide +kernel
theorem dX6_putBack_0 : decode cX6_putBack 0 = .ok (.iconst 0, 1) := by decide +kernel
theorem dX6_putBack_1 : decode cX6_putBack 1 = .ok (.istore_n 1, 1) := by decide +kernel
theorem dX6_putBack_2 : decode cX6_putBack 2 = .ok (.iload_n 1, 1) := by decide +kernel
theorem dX6_putBack_3 : decode cX6_putBack 3 = .ok (.bipush 110, 2) := by decide +kernel
theorem dX6_putBack_5 : decode cX6_putBack 5 = .ok (.if_icmp .ge 21, 3) := by decide +kernel
theorem dX6_putBack_8 : decode cX6_putBack 8 = .ok (.aload_n 0, 1) := by decide +kernel
theorem dX6_putBack_9 : decode cX6_putBack 9 = .ok (.getfield 7, 3) := by decide +kernel
theorem dX6_putBack_12 : decode cX6_putBack 12 = .ok (.iload_n 1, 1) := by decide +kernel
theorem dX6_putBack_13 : decode cX6_putBack 13 = .ok (.aload_n 0, 1) := by decide +kernel
theorem dX6_putBack_14 : decode cX6_putBack 14 = .ok (.getfield 16, 3) := by decide +kernel
theorem dX6_putBack_17 : decode cX6_putBack 17 = .ok (.iload_n 1, 1) := by decide +kernel
theorem dX6_putBack_18 : decode cX6_putBack 18 = .ok (.iaload, 1) := by decide +kernel
theorem dX6_putBack_19 : decode cX6_putBack 19 = .ok (.iastore, 1) := by decide +kernel
theorem dX6_putBack_20 : decode cX6_putBack 20 = .ok (.iinc 1 1, 3) := by decide +kernel
theorem dX6_putBack_23 : decode cX6_putBack 23 = .ok (.goto (-21), 3) := by decide +kernel
theorem dX6_putBack_26 : decode cX6_putBack 26 = .ok (.return_, 1) := by decide +kernel
theorem dX6_isPrime_0 : decode cX6_isPrime 0 = .ok (.iconst 1, 1) := by decide +kernel
theorem dX6_isPrime_1 : decode cX6_isPrime 1 = .ok (.istore_n 1, 1) := by decide +kernel
theorem dX6_isPrime_2 : decode cX6_isPrime 2 = .ok (.iconst 2, 1) := by decide +kernel
theorem dX6_isPrime_3 : decode cX6_isPrime 3 = .ok (.istore_n 2, 1) := by decide +kernel
theorem dX6_isPrime_4 : decode cX6_isPrime 4 = .ok (.iload_n 2, 1) := by decide +kernel
theorem dX6_isPrime_5 : decode cX6_isPrime 5 = .ok (.iload_n 0, 1) := by decide +kernel
theorem dX6_isPrime_6 : decode cX6_isPrime 6 = .ok (.if_icmp .ge 25, 3) := by decide +kernel
theorem dX6_isPrime_9 : decode cX6_isPrime 9 = .ok (.iload_n 1, 1) := by decide +kernel
theorem dX6_isPrime_10 : decode cX6_isPrime 10 = .ok (.ifCond .eq 13, 3) := by decide +kernel
theorem dX6_isPrime_13 : decode cX6_isPrime 13 = .ok (.iload_n 0, 1) := by decide +kernel
theorem dX6_isPrime_14 : decode cX6_isPrime 14 = .ok (.iload_n 2, 1) := by decide +kernel
theorem dX6_isPrime_15 : decode cX6_isPrime 15 = .ok (.irem, 1) := by decide +kernel
theorem dX6_isPrime_16 : decode cX6_isPrime 16 = .ok (.ifCond .le 7, 3) := by decide +kernel
theorem dX6_isPrime_19 : decode cX6_isPrime 19 = .ok (.iconst 1, 1) := by decide +kernel
theorem dX6_isPrime_20 : decode cX6_isPrime 20 = .ok (.goto 4, 3) := by decide +kernel
theorem dX6_isPrime_23 : decode cX6_isPrime 23 = .ok (.iconst 0, 1) := by decide +kernel
theorem dX6_isPrime_24 : decode cX6_isPrime 24 = .ok (.istore_n 1, 1) := by decide +kernel
theorem dX6_isPrime_25 : decode cX6_isPrime 25 = .ok (.iinc 2 1, 3) := by decide +kernel
theorem dX6_isPrime_28 : decode cX6_isPrime 28 = .ok (.goto (-24), 3) := by decide +kernel
theorem dX6_isPrime_31 : decode cX6_isPrime 31 = .ok (.iload_n 1, 1) := by decide +kernel
theorem dX6_isPrime_32 : decode cX6_isPrime 32 = .ok (.ireturn, 1) := by decide +kernel
theorem dX6_prime_0 : decode cX6_prime 0 = .ok (.aload_n 0, 1) := by decide +kernel
theorem dX6_prime_1 : decode cX6_prime 1 = .ok (.getfield 7, 3) := by decide +kernel
theorem dX6_prime_4 : decode cX6_prime 4 = .ok (.iconst 0, 1) := by decide +kernel
theorem dX6_prime_5 : decode cX6_prime 5 = .ok (.iaload, 1) := by decide +kernel
theorem dX6_prime_6 : decode cX6_prime 6 = .ok (.istore_n 1, 1) := by decide +kernel
theorem dX6_prime_7 : decode cX6_prime 7 = .ok (.iload_n 1, 1) := by decide +kernel
theorem dX6_prime_8 : decode cX6_prime 8 = .ok (.invokestatic 44, 3) := by decide +kernel
theorem dX6_prime_11 : decode cX6_prime 11 = .ok (.ifCond .ne 9, 3) := by decide +kernel
theorem dX6_prime_14 : decode cX6_prime 14 = .ok (.iinc 1 (-1), 3) := by decide +kernel
theorem dX6_prime_17 : decode cX6_prime 17 = .ok (.goto (-10), 3) := by decide +kernel
theorem dX6_prime_20 : decode cX6_prime 20 = .ok (.iload_n 1, 1) := by decide +kernel
theorem dX6_prime_21 : decode cX6_prime 21 = .ok (.ireturn, 1) := by decide +kernel
theorem dX6_bankAt_0 : decode cX6_bankAt 0 = .ok (.aload_n 0, 1) := by decide +kernel
theorem dX6_bankAt_1 : decode cX6_bankAt 1 = .ok (.getfield 7, 3) := by decide +kernel
theorem dX6_bankAt_4 : decode cX6_bankAt 4 = .ok (.iconst 0, 1) := by decide +kernel
theorem dX6_bankAt_5 : decode cX6_bankAt 5 = .ok (.iaload, 1) := by decide +kernel
theorem dX6_bankAt_6 : decode cX6_bankAt 6 = .ok (.istore_n 2, 1) := by decide +kernel
theorem dX6_bankAt_7 : decode cX6_bankAt 7 = .ok (.aload_n 0, 1) := by decide +kernel
theorem dX6_bankAt_8 : decode cX6_bankAt 8 = .ok (.getfield 7, 3) := by decide +kernel
theorem dX6_bankAt_11 : decode cX6_bankAt 11 = .ok (.iconst 2, 1) := by decide +kernel
theorem dX6_bankAt_12 : decode cX6_bankAt 12 = .ok (.iaload, 1) := by decide +kernel
theorem dX6_bankAt_13 : decode cX6_bankAt 13 = .ok (.ifCond .ne 9, 3) := by decide +kernel
theorem dX6_bankAt_16 : decode cX6_bankAt 16 = .ok (.iload_n 1, 1) := by decide +kernel
theorem dX6_bankAt_17 : decode cX6_bankAt 17 = .ok (.iload_n 2, 1) := by decide +kernel
theorem dX6_bankAt_18 : decode cX6_bankAt 18 = .ok (.irem, 1) := by decide +kernel
theorem dX6_bankAt_19 : decode cX6_bankAt 19 = .ok (.goto 29, 3) := by decide +kernel
theorem dX6_bankAt_22 : decode cX6_bankAt 22 = .ok (.aload_n 0, 1) := by decide +kernel
theorem dX6_bankAt_23 : decode cX6_bankAt 23 = .ok (.getfield 7, 3) := by decide +kernel
theorem dX6_bankAt_26 : decode cX6_bankAt 26 = .ok (.iconst 2, 1) := by decide +kernel
theorem dX6_bankAt_27 : decode cX6_bankAt 27 = .ok (.iaload, 1) := by decide +kernel
theorem dX6_bankAt_28 : decode cX6_bankAt 28 = .ok (.iconst 1, 1) := by decide +kernel
theorem dX6_bankAt_29 : decode cX6_bankAt 29 = .ok (.if_icmp .ne 13, 3) := by decide +kernel
theorem dX6_bankAt_32 : decode cX6_bankAt 32 = .ok (.iload_n 1, 1) := by decide +kernel
theorem dX6_bankAt_33 : decode cX6_bankAt 33 = .ok (.iload_n 1, 1) := by decide +kernel
theorem dX6_bankAt_34 : decode cX6_bankAt 34 = .ok (.iload_n 2, 1) := by decide +kernel
theorem dX6_bankAt_35 : decode cX6_bankAt 35 = .ok (.idiv, 1) := by decide +kernel
theorem dX6_bankAt_36 : decode cX6_bankAt 36 = .ok (.iadd, 1) := by decide +kernel
theorem dX6_bankAt_37 : decode cX6_bankAt 37 = .ok (.iload_n 2, 1) := by decide +kernel
theorem dX6_bankAt_38 : decode cX6_bankAt 38 = .ok (.irem, 1) := by decide +kernel
theorem dX6_bankAt_39 : decode cX6_bankAt 39 = .ok (.goto 9, 3) := by decide +kernel
theorem dX6_bankAt_42 : decode cX6_bankAt 42 = .ok (.iload_n 1, 1) := by decide +kernel
theorem dX6_bankAt_43 : decode cX6_bankAt 43 = .ok (.aload_n 0, 1) := by decide +kernel
theorem dX6_bankAt_44 : decode cX6_bankAt 44 = .ok (.invokevirtual 48, 3) := by decide +kernel
theorem dX6_bankAt_47 : decode cX6_bankAt 47 = .ok (.irem, 1) := by decide +kernel
theorem dX6_bankAt_48 : decode cX6_bankAt 48 = .ok (.ireturn, 1) := by decide +kernel
theorem dX6_asks_0 : decode cX6_asks 0 = .ok (.iload_n 1, 1) := by decide +kernel
theorem dX6_asks_1 : decode cX6_asks 1 = .ok (.invokestatic 52, 3) := by decide +kernel
theorem dX6_asks_4 : decode cX6_asks 4 = .ok (.istore_n 2, 1) := by decide +kernel
theorem dX6_asks_5 : decode cX6_asks 5 = .ok (.aload_n 0, 1) := by decide +kernel
theorem dX6_asks_6 : decode cX6_asks 6 = .ok (.aload_n 0, 1) := by decide +kernel
theorem dX6_asks_7 : decode cX6_asks 7 = .ok (.getfield 7, 3) := by decide +kernel
theorem dX6_asks_10 : decode cX6_asks 10 = .ok (.iload_n 2, 1) := by decide +kernel
theorem dX6_asks_11 : decode cX6_asks 11 = .ok (.iconst 4, 1) := by decide +kernel
theorem dX6_asks_12 : decode cX6_asks 12 = .ok (.iadd, 1) := by decide +kernel
theorem dX6_asks_13 : decode cX6_asks 13 = .ok (.iaload, 1) := by decide +kernel
theorem dX6_asks_14 : decode cX6_asks 14 = .ok (.invokevirtual 56, 3) := by decide +kernel
theorem dX6_asks_17 : decode cX6_asks 17 = .ok (.invokestatic 59, 3) := by decide +kernel
theorem dX6_asks_20 : decode cX6_asks 20 = .ok (.istore_n 3, 1) := by decide +kernel
theorem dX6_asks_21 : decode cX6_asks 21 = .ok (.aload_n 0, 1) := by decide +kernel
theorem dX6_asks_22 : decode cX6_asks 22 = .ok (.getfield 7, 3) := by decide +kernel
theorem dX6_asks_25 : decode cX6_asks 25 = .ok (.iload_n 3, 1) := by decide +kernel
theorem dX6_asks_26 : decode cX6_asks 26 = .ok (.iconst 0, 1) := by decide +kernel
theorem dX6_asks_27 : decode cX6_asks 27 = .ok (.iadd, 1) := by decide +kernel
theorem dX6_asks_28 : decode cX6_asks 28 = .ok (.iaload, 1) := by decide +kernel
theorem dX6_asks_29 : decode cX6_asks 29 = .ok (.aload_n 0, 1) := by decide +kernel
theorem dX6_asks_30 : decode cX6_asks 30 = .ok (.getfield 7, 3) := by decide +kernel
theorem dX6_asks_33 : decode cX6_asks 33 = .ok (.iconst 4, 1) := by decide +kernel
theorem dX6_asks_34 : decode cX6_asks 34 = .ok (.iaload, 1) := by decide +kernel
theorem dX6_asks_35 : decode cX6_asks 35 = .ok (.if_icmp .le 59, 3) := by decide +kernel
theorem dX6_asks_38 : decode cX6_asks 38 = .ok (.aload_n 0, 1) := by decide +kernel
theorem dX6_asks_39 : decode cX6_asks 39 = .ok (.getfield 7, 3) := by decide +kernel
theorem dX6_asks_42 : decode cX6_asks 42 = .ok (.iload_n 2, 1) := by decide +kernel
theorem dX6_asks_43 : decode cX6_asks 43 = .ok (.bipush 6, 2) := by decide +kernel
theorem dX6_asks_45 : decode cX6_asks 45 = .ok (.iadd, 1) := by decide +kernel
theorem dX6_asks_46 : decode cX6_asks 46 = .ok (.dup2, 1) := by decide +kernel
theorem dX6_asks_47 : decode cX6_asks 47 = .ok (.iaload, 1) := by decide +kernel
theorem dX6_asks_48 : decode cX6_asks 48 = .ok (.iconst 1, 1) := by decide +kernel
theorem dX6_asks_49 : decode cX6_asks 49 = .ok (.iadd, 1) := by decide +kernel
theorem dX6_asks_50 : decode cX6_asks 50 = .ok (.iastore, 1) := by decide +kernel
theorem dX6_asks_51 : decode cX6_asks 51 = .ok (.aload_n 0, 1) := by decide +kernel
theorem dX6_asks_52 : decode cX6_asks 52 = .ok (.getfield 7, 3) := by decide +kernel
theorem dX6_asks_55 : decode cX6_asks 55 = .ok (.iload_n 2, 1) := by decide +kernel
theorem dX6_asks_56 : decode cX6_asks 56 = .ok (.bipush 7, 2) := by decide +kernel
theorem dX6_asks_58 : decode cX6_asks 58 = .ok (.iadd, 1) := by decide +kernel
theorem dX6_asks_59 : decode cX6_asks 59 = .ok (.dup2, 1) := by decide +kernel
theorem dX6_asks_60 : decode cX6_asks 60 = .ok (.iaload, 1) := by decide +kernel
theorem dX6_asks_61 : decode cX6_asks 61 = .ok (.aload_n 0, 1) := by decide +kernel
theorem dX6_asks_62 : decode cX6_asks 62 = .ok (.getfield 7, 3) := by decide +kernel
theorem dX6_asks_65 : decode cX6_asks 65 = .ok (.iload_n 3, 1) := by decide +kernel
theorem dX6_asks_66 : decode cX6_asks 66 = .ok (.iconst 1, 1) := by decide +kernel
theorem dX6_asks_67 : decode cX6_asks 67 = .ok (.iadd, 1) := by decide +kernel
theorem dX6_asks_68 : decode cX6_asks 68 = .ok (.iaload, 1) := by decide +kernel
theorem dX6_asks_69 : decode cX6_asks 69 = .ok (.iload_n 1, 1) := by decide +kernel
theorem dX6_asks_70 : decode cX6_asks 70 = .ok (.if_icmp .ne 7, 3) := by decide +kernel
theorem dX6_asks_73 : decode cX6_asks 73 = .ok (.iconst 0, 1) := by decide +kernel
theorem dX6_asks_74 : decode cX6_asks 74 = .ok (.goto 4, 3) := by decide +kernel
theorem dX6_asks_77 : decode cX6_asks 77 = .ok (.iconst 1, 1) := by decide +kernel
theorem dX6_asks_78 : decode cX6_asks 78 = .ok (.iadd, 1) := by decide +kernel
theorem dX6_asks_79 : decode cX6_asks 79 = .ok (.iastore, 1) := by decide +kernel
theorem dX6_asks_80 : decode cX6_asks 80 = .ok (.aload_n 0, 1) := by decide +kernel
theorem dX6_asks_81 : decode cX6_asks 81 = .ok (.getfield 7, 3) := by decide +kernel
theorem dX6_asks_84 : decode cX6_asks 84 = .ok (.iload_n 3, 1) := by decide +kernel
theorem dX6_asks_85 : decode cX6_asks 85 = .ok (.iconst 3, 1) := by decide +kernel
theorem dX6_asks_86 : decode cX6_asks 86 = .ok (.iadd, 1) := by decide +kernel
theorem dX6_asks_87 : decode cX6_asks 87 = .ok (.dup2, 1) := by decide +kernel
theorem dX6_asks_88 : decode cX6_asks 88 = .ok (.iaload, 1) := by decide +kernel
theorem dX6_asks_89 : decode cX6_asks 89 = .ok (.iconst 1, 1) := by decide +kernel
theorem dX6_asks_90 : decode cX6_asks 90 = .ok (.iadd, 1) := by decide +kernel
theorem dX6_asks_91 : decode cX6_asks 91 = .ok (.iastore, 1) := by decide +kernel
theorem dX6_asks_92 : decode cX6_asks 92 = .ok (.iconst 0, 1) := by decide +kernel
theorem dX6_asks_93 : decode cX6_asks 93 = .ok (.ireturn, 1) := by decide +kernel
theorem dX6_asks_94 : decode cX6_asks 94 = .ok (.aload_n 0, 1) := by decide +kernel
theorem dX6_asks_95 : decode cX6_asks 95 = .ok (.getfield 7, 3) := by decide +kernel
theorem dX6_asks_98 : decode cX6_asks 98 = .ok (.iload_n 3, 1) := by decide +kernel
theorem dX6_asks_99 : decode cX6_asks 99 = .ok (.iconst 0, 1) := by decide +kernel
theorem dX6_asks_100 : decode cX6_asks 100 = .ok (.iadd, 1) := by decide +kernel
theorem dX6_asks_101 : decode cX6_asks 101 = .ok (.aload_n 0, 1) := by decide +kernel
theorem dX6_asks_102 : decode cX6_asks 102 = .ok (.getfield 7, 3) := by decide +kernel
theorem dX6_asks_105 : decode cX6_asks 105 = .ok (.iconst 4, 1) := by decide +kernel
theorem dX6_asks_106 : decode cX6_asks 106 = .ok (.iaload, 1) := by decide +kernel
theorem dX6_asks_107 : decode cX6_asks 107 = .ok (.aload_n 0, 1) := by decide +kernel
theorem dX6_asks_108 : decode cX6_asks 108 = .ok (.getfield 7, 3) := by decide +kernel
theorem dX6_asks_111 : decode cX6_asks 111 = .ok (.iconst 1, 1) := by decide +kernel
theorem dX6_asks_112 : decode cX6_asks 112 = .ok (.iaload, 1) := by decide +kernel
theorem dX6_asks_113 : decode cX6_asks 113 = .ok (.iadd, 1) := by decide +kernel
theorem dX6_asks_114 : decode cX6_asks 114 = .ok (.iastore, 1) := by decide +kernel
theorem dX6_asks_115 : decode cX6_asks 115 = .ok (.aload_n 0, 1) := by decide +kernel
theorem dX6_asks_116 : decode cX6_asks 116 = .ok (.getfield 7, 3) := by decide +kernel
theorem dX6_asks_119 : decode cX6_asks 119 = .ok (.iload_n 3, 1) := by decide +kernel
theorem dX6_asks_120 : decode cX6_asks 120 = .ok (.iconst 1, 1) := by decide +kernel
theorem dX6_asks_121 : decode cX6_asks 121 = .ok (.iadd, 1) := by decide +kernel
theorem dX6_asks_122 : decode cX6_asks 122 = .ok (.iload_n 1, 1) := by decide +kernel
theorem dX6_asks_123 : decode cX6_asks 123 = .ok (.iastore, 1) := by decide +kernel
theorem dX6_asks_124 : decode cX6_asks 124 = .ok (.aload_n 0, 1) := by decide +kernel
theorem dX6_asks_125 : decode cX6_asks 125 = .ok (.getfield 7, 3) := by decide +kernel
theorem dX6_asks_128 : decode cX6_asks 128 = .ok (.iload_n 3, 1) := by decide +kernel
theorem dX6_asks_129 : decode cX6_asks 129 = .ok (.iconst 2, 1) := by decide +kernel
theorem dX6_asks_130 : decode cX6_asks 130 = .ok (.iadd, 1) := by decide +kernel
theorem dX6_asks_131 : decode cX6_asks 131 = .ok (.dup2, 1) := by decide +kernel
theorem dX6_asks_132 : decode cX6_asks 132 = .ok (.iaload, 1) := by decide +kernel
theorem dX6_asks_133 : decode cX6_asks 133 = .ok (.iconst 1, 1) := by decide +kernel
theorem dX6_asks_134 : decode cX6_asks 134 = .ok (.iadd, 1) := by decide +kernel
theorem dX6_asks_135 : decode cX6_asks 135 = .ok (.iastore, 1) := by decide +kernel
theorem dX6_asks_136 : decode cX6_asks 136 = .ok (.aload_n 0, 1) := by decide +kernel
theorem dX6_asks_137 : decode cX6_asks 137 = .ok (.getfield 7, 3) := by decide +kernel
theorem dX6_asks_140 : decode cX6_asks 140 = .ok (.iload_n 2, 1) := by decide +kernel
theorem dX6_asks_141 : decode cX6_asks 141 = .ok (.iconst 5, 1) := by decide +kernel
theorem dX6_asks_142 : decode cX6_asks 142 = .ok (.iadd, 1) := by decide +kernel
theorem dX6_asks_143 : decode cX6_asks 143 = .ok (.aload_n 0, 1) := by decide +kernel
theorem dX6_asks_144 : decode cX6_asks 144 = .ok (.getfield 7, 3) := by decide +kernel
theorem dX6_asks_147 : decode cX6_asks 147 = .ok (.iload_n 2, 1) := by decide +kernel
theorem dX6_asks_148 : decode cX6_asks 148 = .ok (.iconst 4, 1) := by decide +kernel
theorem dX6_asks_149 : decode cX6_asks 149 = .ok (.iadd, 1) := by decide +kernel
theorem dX6_asks_150 : decode cX6_asks 150 = .ok (.iaload, 1) := by decide +kernel
theorem dX6_asks_151 : decode cX6_asks 151 = .ok (.iastore, 1) := by decide +kernel
theorem dX6_asks_152 : decode cX6_asks 152 = .ok (.aload_n 0, 1) := by decide +kernel
theorem dX6_asks_153 : decode cX6_asks 153 = .ok (.getfield 7, 3) := by decide +kernel
theorem dX6_asks_156 : decode cX6_asks 156 = .ok (.iload_n 2, 1) := by decide +kernel
theorem dX6_asks_157 : decode cX6_asks 157 = .ok (.iconst 4, 1) := by decide +kernel
theorem dX6_asks_158 : decode cX6_asks 158 = .ok (.iadd, 1) := by decide +kernel
theorem dX6_asks_159 : decode cX6_asks 159 = .ok (.aload_n 0, 1) := by decide +kernel
theorem dX6_asks_160 : decode cX6_asks 160 = .ok (.getfield 7, 3) := by decide +kernel
theorem dX6_asks_163 : decode cX6_asks 163 = .ok (.iload_n 2, 1) := by decide +kernel
theorem dX6_asks_164 : decode cX6_asks 164 = .ok (.iconst 4, 1) := by decide +kernel
theorem dX6_asks_165 : decode cX6_asks 165 = .ok (.iadd, 1) := by decide +kernel
theorem dX6_asks_166 : decode cX6_asks 166 = .ok (.iaload, 1) := by decide +kernel
theorem dX6_asks_167 : decode cX6_asks 167 = .ok (.aload_n 0, 1) := by decide +kernel
theorem dX6_asks_168 : decode cX6_asks 168 = .ok (.getfield 7, 3) := by decide +kernel
theorem dX6_asks_171 : decode cX6_asks 171 = .ok (.iload_n 2, 1) := by decide +kernel
theorem dX6_asks_172 : decode cX6_asks 172 = .ok (.iconst 1, 1) := by decide +kernel
theorem dX6_asks_173 : decode cX6_asks 173 = .ok (.iadd, 1) := by decide +kernel
theorem dX6_asks_174 : decode cX6_asks 174 = .ok (.iaload, 1) := by decide +kernel
theorem dX6_asks_175 : decode cX6_asks 175 = .ok (.iadd, 1) := by decide +kernel
theorem dX6_asks_176 : decode cX6_asks 176 = .ok (.sipush 4096, 3) := by decide +kernel
theorem dX6_asks_179 : decode cX6_asks 179 = .ok (.irem, 1) := by decide +kernel
theorem dX6_asks_180 : decode cX6_asks 180 = .ok (.iastore, 1) := by decide +kernel
theorem dX6_asks_181 : decode cX6_asks 181 = .ok (.aload_n 0, 1) := by decide +kernel
theorem dX6_asks_182 : decode cX6_asks 182 = .ok (.getfield 7, 3) := by decide +kernel
theorem dX6_asks_185 : decode cX6_asks 185 = .ok (.iload_n 2, 1) := by decide +kernel
theorem dX6_asks_186 : decode cX6_asks 186 = .ok (.iconst 3, 1) := by decide +kernel
theorem dX6_asks_187 : decode cX6_asks 187 = .ok (.iadd, 1) := by decide +kernel
theorem dX6_asks_188 : decode cX6_asks 188 = .ok (.dup2, 1) := by decide +kernel
theorem dX6_asks_189 : decode cX6_asks 189 = .ok (.iaload, 1) := by decide +kernel
theorem dX6_asks_190 : decode cX6_asks 190 = .ok (.iconst 1, 1) := by decide +kernel
theorem dX6_asks_191 : decode cX6_asks 191 = .ok (.isub, 1) := by decide +kernel
theorem dX6_asks_192 : decode cX6_asks 192 = .ok (.iastore, 1) := by decide +kernel
theorem dX6_asks_193 : decode cX6_asks 193 = .ok (.aload_n 0, 1) := by decide +kernel
theorem dX6_asks_194 : decode cX6_asks 194 = .ok (.getfield 7, 3) := by decide +kernel
theorem dX6_asks_197 : decode cX6_asks 197 = .ok (.iload_n 2, 1) := by decide +kernel
theorem dX6_asks_198 : decode cX6_asks 198 = .ok (.bipush 8, 2) := by decide +kernel
theorem dX6_asks_200 : decode cX6_asks 200 = .ok (.iadd, 1) := by decide +kernel
theorem dX6_asks_201 : decode cX6_asks 201 = .ok (.aload_n 0, 1) := by decide +kernel
theorem dX6_asks_202 : decode cX6_asks 202 = .ok (.getfield 7, 3) := by decide +kernel
theorem dX6_asks_205 : decode cX6_asks 205 = .ok (.iload_n 2, 1) := by decide +kernel
theorem dX6_asks_206 : decode cX6_asks 206 = .ok (.iconst 3, 1) := by decide +kernel
theorem dX6_asks_207 : decode cX6_asks 207 = .ok (.iadd, 1) := by decide +kernel
theorem dX6_asks_208 : decode cX6_asks 208 = .ok (.iaload, 1) := by decide +kernel
theorem dX6_asks_209 : decode cX6_asks 209 = .ok (.ifCond .ne 12, 3) := by decide +kernel
theorem dX6_asks_212 : decode cX6_asks 212 = .ok (.aload_n 0, 1) := by decide +kernel
theorem dX6_asks_213 : decode cX6_asks 213 = .ok (.getfield 7, 3) := by decide +kernel
theorem dX6_asks_216 : decode cX6_asks 216 = .ok (.iconst 4, 1) := by decide +kernel
theorem dX6_asks_217 : decode cX6_asks 217 = .ok (.iaload, 1) := by decide +kernel
theorem dX6_asks_218 : decode cX6_asks 218 = .ok (.goto 4, 3) := by decide +kernel
theorem dX6_asks_221 : decode cX6_asks 221 = .ok (.iconst (-1), 1) := by decide +kernel
theorem dX6_asks_222 : decode cX6_asks 222 = .ok (.iastore, 1) := by decide +kernel
theorem dX6_asks_223 : decode cX6_asks 223 = .ok (.iconst 1, 1) := by decide +kernel
theorem dX6_asks_224 : decode cX6_asks 224 = .ok (.ireturn, 1) := by decide +kernel
theorem dX6_cycle_0 : decode cX6_cycle 0 = .ok (.iconst 0, 1) := by decide +kernel
theorem dX6_cycle_1 : decode cX6_cycle 1 = .ok (.istore_n 1, 1) := by decide +kernel
theorem dX6_cycle_2 : decode cX6_cycle 2 = .ok (.aload_n 0, 1) := by decide +kernel
theorem dX6_cycle_3 : decode cX6_cycle 3 = .ok (.getfield 7, 3) := by decide +kernel
theorem dX6_cycle_6 : decode cX6_cycle 6 = .ok (.iconst 3, 1) := by decide +kernel
theorem dX6_cycle_7 : decode cX6_cycle 7 = .ok (.iaload, 1) := by decide +kernel
theorem dX6_cycle_8 : decode cX6_cycle 8 = .ok (.iconst 1, 1) := by decide +kernel
theorem dX6_cycle_9 : decode cX6_cycle 9 = .ok (.if_icmp .ne 28, 3) := by decide +kernel
theorem dX6_cycle_12 : decode cX6_cycle 12 = .ok (.aload_n 0, 1) := by decide +kernel
theorem dX6_cycle_13 : decode cX6_cycle 13 = .ok (.getfield 7, 3) := by decide +kernel
theorem dX6_cycle_16 : decode cX6_cycle 16 = .ok (.iconst 5, 1) := by decide +kernel
theorem dX6_cycle_17 : decode cX6_cycle 17 = .ok (.iaload, 1) := by decide +kernel
theorem dX6_cycle_18 : decode cX6_cycle 18 = .ok (.ifCond .le 19, 3) := by decide +kernel
theorem dX6_cycle_21 : decode cX6_cycle 21 = .ok (.aload_n 0, 1) := by decide +kernel
theorem dX6_cycle_22 : decode cX6_cycle 22 = .ok (.getfield 7, 3) := by decide +kernel
theorem dX6_cycle_25 : decode cX6_cycle 25 = .ok (.iconst 4, 1) := by decide +kernel
theorem dX6_cycle_26 : decode cX6_cycle 26 = .ok (.iaload, 1) := by decide +kernel
theorem dX6_cycle_27 : decode cX6_cycle 27 = .ok (.aload_n 0, 1) := by decide +kernel
theorem dX6_cycle_28 : decode cX6_cycle 28 = .ok (.getfield 7, 3) := by decide +kernel
theorem dX6_cycle_31 : decode cX6_cycle 31 = .ok (.iconst 5, 1) := by decide +kernel
theorem dX6_cycle_32 : decode cX6_cycle 32 = .ok (.iaload, 1) := by decide +kernel
theorem dX6_cycle_33 : decode cX6_cycle 33 = .ok (.irem, 1) := by decide +kernel
theorem dX6_cycle_34 : decode cX6_cycle 34 = .ok (.goto 4, 3) := by decide +kernel
theorem dX6_cycle_37 : decode cX6_cycle 37 = .ok (.iconst 0, 1) := by decide +kernel
theorem dX6_cycle_38 : decode cX6_cycle 38 = .ok (.istore_n 2, 1) := by decide +kernel
theorem dX6_cycle_39 : decode cX6_cycle 39 = .ok (.iconst 0, 1) := by decide +kernel
theorem dX6_cycle_40 : decode cX6_cycle 40 = .ok (.istore_n 3, 1) := by decide +kernel
theorem dX6_cycle_41 : decode cX6_cycle 41 = .ok (.iload_n 3, 1) := by decide +kernel
theorem dX6_cycle_42 : decode cX6_cycle 42 = .ok (.aload_n 0, 1) := by decide +kernel
theorem dX6_cycle_43 : decode cX6_cycle 43 = .ok (.getfield 7, 3) := by decide +kernel
theorem dX6_cycle_46 : decode cX6_cycle 46 = .ok (.iconst 5, 1) := by decide +kernel
theorem dX6_cycle_47 : decode cX6_cycle 47 = .ok (.iaload, 1) := by decide +kernel
theorem dX6_cycle_48 : decode cX6_cycle 48 = .ok (.if_icmp .ge 49, 3) := by decide +kernel
theorem dX6_cycle_51 : decode cX6_cycle 51 = .ok (.iload_n 2, 1) := by decide +kernel
theorem dX6_cycle_52 : decode cX6_cycle 52 = .ok (.iload_n 3, 1) := by decide +kernel
theorem dX6_cycle_53 : decode cX6_cycle 53 = .ok (.iadd, 1) := by decide +kernel
theorem dX6_cycle_54 : decode cX6_cycle 54 = .ok (.aload_n 0, 1) := by decide +kernel
theorem dX6_cycle_55 : decode cX6_cycle 55 = .ok (.getfield 7, 3) := by decide +kernel
theorem dX6_cycle_58 : decode cX6_cycle 58 = .ok (.iconst 5, 1) := by decide +kernel
theorem dX6_cycle_59 : decode cX6_cycle 59 = .ok (.iaload, 1) := by decide +kernel
theorem dX6_cycle_60 : decode cX6_cycle 60 = .ok (.irem, 1) := by decide +kernel
theorem dX6_cycle_61 : decode cX6_cycle 61 = .ok (.istore 4, 2) := by decide +kernel
theorem dX6_cycle_63 : decode cX6_cycle 63 = .ok (.iload_n 1, 1) := by decide +kernel
theorem dX6_cycle_64 : decode cX6_cycle 64 = .ok (.aload_n 0, 1) := by decide +kernel
theorem dX6_cycle_65 : decode cX6_cycle 65 = .ok (.getfield 7, 3) := by decide +kernel
theorem dX6_cycle_68 : decode cX6_cycle 68 = .ok (.iload 4, 2) := by decide +kernel
theorem dX6_cycle_70 : decode cX6_cycle 70 = .ok (.invokestatic 52, 3) := by decide +kernel
theorem dX6_cycle_73 : decode cX6_cycle 73 = .ok (.iconst 3, 1) := by decide +kernel
theorem dX6_cycle_74 : decode cX6_cycle 74 = .ok (.iadd, 1) := by decide +kernel
theorem dX6_cycle_75 : decode cX6_cycle 75 = .ok (.iaload, 1) := by decide +kernel
theorem dX6_cycle_76 : decode cX6_cycle 76 = .ok (.ifCond .le 12, 3) := by decide +kernel
theorem dX6_cycle_79 : decode cX6_cycle 79 = .ok (.aload_n 0, 1) := by decide +kernel
theorem dX6_cycle_80 : decode cX6_cycle 80 = .ok (.iload 4, 2) := by decide +kernel
theorem dX6_cycle_82 : decode cX6_cycle 82 = .ok (.invokevirtual 62, 3) := by decide +kernel
theorem dX6_cycle_85 : decode cX6_cycle 85 = .ok (.goto 4, 3) := by decide +kernel
theorem dX6_cycle_88 : decode cX6_cycle 88 = .ok (.iconst 0, 1) := by decide +kernel
theorem dX6_cycle_89 : decode cX6_cycle 89 = .ok (.iadd, 1) := by decide +kernel
theorem dX6_cycle_90 : decode cX6_cycle 90 = .ok (.istore_n 1, 1) := by decide +kernel
theorem dX6_cycle_91 : decode cX6_cycle 91 = .ok (.iinc 3 1, 3) := by decide +kernel
theorem dX6_cycle_94 : decode cX6_cycle 94 = .ok (.goto (-53), 3) := by decide +kernel
theorem dX6_cycle_97 : decode cX6_cycle 97 = .ok (.aload_n 0, 1) := by decide +kernel
theorem dX6_cycle_98 : decode cX6_cycle 98 = .ok (.getfield 7, 3) := by decide +kernel
theorem dX6_cycle_101 : decode cX6_cycle 101 = .ok (.iconst 4, 1) := by decide +kernel
theorem dX6_cycle_102 : decode cX6_cycle 102 = .ok (.dup2, 1) := by decide +kernel
theorem dX6_cycle_103 : decode cX6_cycle 103 = .ok (.iaload, 1) := by decide +kernel
theorem dX6_cycle_104 : decode cX6_cycle 104 = .ok (.iconst 1, 1) := by decide +kernel
theorem dX6_cycle_105 : decode cX6_cycle 105 = .ok (.iadd, 1) := by decide +kernel
theorem dX6_cycle_106 : decode cX6_cycle 106 = .ok (.iastore, 1) := by decide +kernel
theorem dX6_cycle_107 : decode cX6_cycle 107 = .ok (.iload_n 1, 1) := by decide +kernel
theorem dX6_cycle_108 : decode cX6_cycle 108 = .ok (.ireturn, 1) := by decide +kernel
theorem dX6_wordsLeft_0 : decode cX6_wordsLeft 0 = .ok (.iconst 0, 1) := by decide +kernel
theorem dX6_wordsLeft_1 : decode cX6_wordsLeft 1 = .ok (.istore_n 1, 1) := by decide +kernel
theorem dX6_wordsLeft_2 : decode cX6_wordsLeft 2 = .ok (.iconst 0, 1) := by decide +kernel
theorem dX6_wordsLeft_3 : decode cX6_wordsLeft 3 = .ok (.istore_n 2, 1) := by decide +kernel
theorem dX6_wordsLeft_4 : decode cX6_wordsLeft 4 = .ok (.iload_n 2, 1) := by decide +kernel
theorem dX6_wordsLeft_5 : decode cX6_wordsLeft 5 = .ok (.aload_n 0, 1) := by decide +kernel
theorem dX6_wordsLeft_6 : decode cX6_wordsLeft 6 = .ok (.getfield 7, 3) := by decide +kernel
theorem dX6_wordsLeft_9 : decode cX6_wordsLeft 9 = .ok (.iconst 5, 1) := by decide +kernel
theorem dX6_wordsLeft_10 : decode cX6_wordsLeft 10 = .ok (.iaload, 1) := by decide +kernel
theorem dX6_wordsLeft_11 : decode cX6_wordsLeft 11 = .ok (.if_icmp .ge 23, 3) := by decide +kernel
theorem dX6_wordsLeft_14 : decode cX6_wordsLeft 14 = .ok (.iload_n 1, 1) := by decide +kernel
theorem dX6_wordsLeft_15 : decode cX6_wordsLeft 15 = .ok (.aload_n 0, 1) := by decide +kernel
theorem dX6_wordsLeft_16 : decode cX6_wordsLeft 16 = .ok (.getfield 7, 3) := by decide +kernel
theorem dX6_wordsLeft_19 : decode cX6_wordsLeft 19 = .ok (.iload_n 2, 1) := by decide +kernel
theorem dX6_wordsLeft_20 : decode cX6_wordsLeft 20 = .ok (.invokestatic 52, 3) := by decide +kernel
theorem dX6_wordsLeft_23 : decode cX6_wordsLeft 23 = .ok (.iconst 3, 1) := by decide +kernel
theorem dX6_wordsLeft_24 : decode cX6_wordsLeft 24 = .ok (.iadd, 1) := by decide +kernel
theorem dX6_wordsLeft_25 : decode cX6_wordsLeft 25 = .ok (.iaload, 1) := by decide +kernel
theorem dX6_wordsLeft_26 : decode cX6_wordsLeft 26 = .ok (.iadd, 1) := by decide +kernel
theorem dX6_wordsLeft_27 : decode cX6_wordsLeft 27 = .ok (.istore_n 1, 1) := by decide +kernel
theorem dX6_wordsLeft_28 : decode cX6_wordsLeft 28 = .ok (.iinc 2 1, 3) := by decide +kernel
theorem dX6_wordsLeft_31 : decode cX6_wordsLeft 31 = .ok (.goto (-27), 3) := by decide +kernel
theorem dX6_wordsLeft_34 : decode cX6_wordsLeft 34 = .ok (.iload_n 1, 1) := by decide +kernel
theorem dX6_wordsLeft_35 : decode cX6_wordsLeft 35 = .ok (.ireturn, 1) := by decide +kernel
theorem dX6_begins_0 : decode cX6_begins 0 = .ok (.iload_n 1, 1) := by decide +kernel
theorem dX6_begins_1 : decode cX6_begins 1 = .ok (.invokestatic 52, 3) := by decide +kernel
theorem dX6_begins_4 : decode cX6_begins 4 = .ok (.istore_n 2, 1) := by decide +kernel
theorem dX6_begins_5 : decode cX6_begins 5 = .ok (.aload_n 0, 1) := by decide +kernel
theorem dX6_begins_6 : decode cX6_begins 6 = .ok (.getfield 7, 3) := by decide +kernel
theorem dX6_begins_9 : decode cX6_begins 9 = .ok (.iload_n 2, 1) := by decide +kernel
theorem dX6_begins_10 : decode cX6_begins 10 = .ok (.iconst 3, 1) := by decide +kernel
theorem dX6_begins_11 : decode cX6_begins 11 = .ok (.iadd, 1) := by decide +kernel
theorem dX6_begins_12 : decode cX6_begins 12 = .ok (.aload_n 0, 1) := by decide +kernel
theorem dX6_begins_13 : decode cX6_begins 13 = .ok (.getfield 7, 3) := by decide +kernel
theorem dX6_begins_16 : decode cX6_begins 16 = .ok (.iload_n 2, 1) := by decide +kernel
theorem dX6_begins_17 : decode cX6_begins 17 = .ok (.iconst 2, 1) := by decide +kernel
theorem dX6_begins_18 : decode cX6_begins 18 = .ok (.iadd, 1) := by decide +kernel
theorem dX6_begins_19 : decode cX6_begins 19 = .ok (.iaload, 1) := by decide +kernel
theorem dX6_begins_20 : decode cX6_begins 20 = .ok (.iastore, 1) := by decide +kernel
theorem dX6_begins_21 : decode cX6_begins 21 = .ok (.aload_n 0, 1) := by decide +kernel
theorem dX6_begins_22 : decode cX6_begins 22 = .ok (.getfield 7, 3) := by decide +kernel
theorem dX6_begins_25 : decode cX6_begins 25 = .ok (.iload_n 2, 1) := by decide +kernel
theorem dX6_begins_26 : decode cX6_begins 26 = .ok (.iconst 4, 1) := by decide +kernel
theorem dX6_begins_27 : decode cX6_begins 27 = .ok (.iadd, 1) := by decide +kernel
theorem dX6_begins_28 : decode cX6_begins 28 = .ok (.aload_n 0, 1) := by decide +kernel
theorem dX6_begins_29 : decode cX6_begins 29 = .ok (.getfield 7, 3) := by decide +kernel
theorem dX6_begins_32 : decode cX6_begins 32 = .ok (.iload_n 2, 1) := by decide +kernel
theorem dX6_begins_33 : decode cX6_begins 33 = .ok (.iconst 0, 1) := by decide +kernel
theorem dX6_begins_34 : decode cX6_begins 34 = .ok (.iadd, 1) := by decide +kernel
theorem dX6_begins_35 : decode cX6_begins 35 = .ok (.iaload, 1) := by decide +kernel
theorem dX6_begins_36 : decode cX6_begins 36 = .ok (.iastore, 1) := by decide +kernel
theorem dX6_begins_37 : decode cX6_begins 37 = .ok (.aload_n 0, 1) := by decide +kernel
theorem dX6_begins_38 : decode cX6_begins 38 = .ok (.getfield 7, 3) := by decide +kernel
theorem dX6_begins_41 : decode cX6_begins 41 = .ok (.iload_n 2, 1) := by decide +kernel
theorem dX6_begins_42 : decode cX6_begins 42 = .ok (.iconst 5, 1) := by decide +kernel
theorem dX6_begins_43 : decode cX6_begins 43 = .ok (.iadd, 1) := by decide +kernel
theorem dX6_begins_44 : decode cX6_begins 44 = .ok (.iconst (-1), 1) := by decide +kernel
theorem dX6_begins_45 : decode cX6_begins 45 = .ok (.iastore, 1) := by decide +kernel
theorem dX6_begins_46 : decode cX6_begins 46 = .ok (.aload_n 0, 1) := by decide +kernel
theorem dX6_begins_47 : decode cX6_begins 47 = .ok (.getfield 7, 3) := by decide +kernel
theorem dX6_begins_50 : decode cX6_begins 50 = .ok (.iload_n 2, 1) := by decide +kernel
theorem dX6_begins_51 : decode cX6_begins 51 = .ok (.bipush 6, 2) := by decide +kernel
theorem dX6_begins_53 : decode cX6_begins 53 = .ok (.iadd, 1) := by decide +kernel
theorem dX6_begins_54 : decode cX6_begins 54 = .ok (.iconst 0, 1) := by decide +kernel
theorem dX6_begins_55 : decode cX6_begins 55 = .ok (.iastore, 1) := by decide +kernel
theorem dX6_begins_56 : decode cX6_begins 56 = .ok (.aload_n 0, 1) := by decide +kernel
theorem dX6_begins_57 : decode cX6_begins 57 = .ok (.getfield 7, 3) := by decide +kernel
theorem dX6_begins_60 : decode cX6_begins 60 = .ok (.iload_n 2, 1) := by decide +kernel
theorem dX6_begins_61 : decode cX6_begins 61 = .ok (.bipush 7, 2) := by decide +kernel
theorem dX6_begins_63 : decode cX6_begins 63 = .ok (.iadd, 1) := by decide +kernel
theorem dX6_begins_64 : decode cX6_begins 64 = .ok (.iconst 0, 1) := by decide +kernel
theorem dX6_begins_65 : decode cX6_begins 65 = .ok (.iastore, 1) := by decide +kernel
theorem dX6_begins_66 : decode cX6_begins 66 = .ok (.aload_n 0, 1) := by decide +kernel
theorem dX6_begins_67 : decode cX6_begins 67 = .ok (.getfield 7, 3) := by decide +kernel
theorem dX6_begins_70 : decode cX6_begins 70 = .ok (.iload_n 2, 1) := by decide +kernel
theorem dX6_begins_71 : decode cX6_begins 71 = .ok (.bipush 8, 2) := by decide +kernel
theorem dX6_begins_73 : decode cX6_begins 73 = .ok (.iadd, 1) := by decide +kernel
theorem dX6_begins_74 : decode cX6_begins 74 = .ok (.iconst (-1), 1) := by decide +kernel
theorem dX6_begins_75 : decode cX6_begins 75 = .ok (.iastore, 1) := by decide +kernel
theorem dX6_begins_76 : decode cX6_begins 76 = .ok (.return_, 1) := by decide +kernel
theorem dX6_beginsAnew_0 : decode cX6_beginsAnew 0 = .ok (.aload_n 0, 1) := by decide +kernel
theorem dX6_beginsAnew_1 : decode cX6_beginsAnew 1 = .ok (.getfield 7, 3) := by decide +kernel
theorem dX6_beginsAnew_4 : decode cX6_beginsAnew 4 = .ok (.iconst 4, 1) := by decide +kernel
theorem dX6_beginsAnew_5 : decode cX6_beginsAnew 5 = .ok (.iconst 0, 1) := by decide +kernel
theorem dX6_beginsAnew_6 : decode cX6_beginsAnew 6 = .ok (.iastore, 1) := by decide +kernel
theorem dX6_beginsAnew_7 : decode cX6_beginsAnew 7 = .ok (.iconst 0, 1) := by decide +kernel
theorem dX6_beginsAnew_8 : decode cX6_beginsAnew 8 = .ok (.istore_n 1, 1) := by decide +kernel
theorem dX6_beginsAnew_9 : decode cX6_beginsAnew 9 = .ok (.iload_n 1, 1) := by decide +kernel
theorem dX6_beginsAnew_10 : decode cX6_beginsAnew 10 = .ok (.bipush 64, 2) := by decide +kernel
theorem dX6_beginsAnew_12 : decode cX6_beginsAnew 12 = .ok (.if_icmp .ge 19, 3) := by decide +kernel
theorem dX6_beginsAnew_15 : decode cX6_beginsAnew 15 = .ok (.aload_n 0, 1) := by decide +kernel
theorem dX6_beginsAnew_16 : decode cX6_beginsAnew 16 = .ok (.getfield 7, 3) := by decide +kernel
theorem dX6_beginsAnew_19 : decode cX6_beginsAnew 19 = .ok (.bipush 6, 2) := by decide +kernel
theorem dX6_beginsAnew_21 : decode cX6_beginsAnew 21 = .ok (.iload_n 1, 1) := by decide +kernel
theorem dX6_beginsAnew_22 : decode cX6_beginsAnew 22 = .ok (.iadd, 1) := by decide +kernel
theorem dX6_beginsAnew_23 : decode cX6_beginsAnew 23 = .ok (.iconst 0, 1) := by decide +kernel
theorem dX6_beginsAnew_24 : decode cX6_beginsAnew 24 = .ok (.iastore, 1) := by decide +kernel
theorem dX6_beginsAnew_25 : decode cX6_beginsAnew 25 = .ok (.iinc 1 1, 3) := by decide +kernel
theorem dX6_beginsAnew_28 : decode cX6_beginsAnew 28 = .ok (.goto (-19), 3) := by decide +kernel
theorem dX6_beginsAnew_31 : decode cX6_beginsAnew 31 = .ok (.iconst 0, 1) := by decide +kernel
theorem dX6_beginsAnew_32 : decode cX6_beginsAnew 32 = .ok (.istore_n 1, 1) := by decide +kernel
theorem dX6_beginsAnew_33 : decode cX6_beginsAnew 33 = .ok (.iload_n 1, 1) := by decide +kernel
theorem dX6_beginsAnew_34 : decode cX6_beginsAnew 34 = .ok (.aload_n 0, 1) := by decide +kernel
theorem dX6_beginsAnew_35 : decode cX6_beginsAnew 35 = .ok (.getfield 7, 3) := by decide +kernel
theorem dX6_beginsAnew_38 : decode cX6_beginsAnew 38 = .ok (.iconst 5, 1) := by decide +kernel
theorem dX6_beginsAnew_39 : decode cX6_beginsAnew 39 = .ok (.iaload, 1) := by decide +kernel
theorem dX6_beginsAnew_40 : decode cX6_beginsAnew 40 = .ok (.if_icmp .ge 14, 3) := by decide +kernel
theorem dX6_beginsAnew_43 : decode cX6_beginsAnew 43 = .ok (.aload_n 0, 1) := by decide +kernel
theorem dX6_beginsAnew_44 : decode cX6_beginsAnew 44 = .ok (.iload_n 1, 1) := by decide +kernel
theorem dX6_beginsAnew_45 : decode cX6_beginsAnew 45 = .ok (.invokevirtual 65, 3) := by decide +kernel
theorem dX6_beginsAnew_48 : decode cX6_beginsAnew 48 = .ok (.iinc 1 1, 3) := by decide +kernel
theorem dX6_beginsAnew_51 : decode cX6_beginsAnew 51 = .ok (.goto (-18), 3) := by decide +kernel
theorem dX6_beginsAnew_54 : decode cX6_beginsAnew 54 = .ok (.return_, 1) := by decide +kernel
theorem dX6_runsOut_0 : decode cX6_runsOut 0 = .ok (.iconst 0, 1) := by decide +kernel
theorem dX6_runsOut_1 : decode cX6_runsOut 1 = .ok (.istore_n 1, 1) := by decide +kernel
theorem dX6_runsOut_2 : decode cX6_runsOut 2 = .ok (.aload_n 0, 1) := by decide +kernel
theorem dX6_runsOut_3 : decode cX6_runsOut 3 = .ok (.invokevirtual 69, 3) := by decide +kernel
theorem dX6_runsOut_6 : decode cX6_runsOut 6 = .ok (.ifCond .le 14, 3) := by decide +kernel
theorem dX6_runsOut_9 : decode cX6_runsOut 9 = .ok (.aload_n 0, 1) := by decide +kernel
theorem dX6_runsOut_10 : decode cX6_runsOut 10 = .ok (.invokevirtual 72, 3) := by decide +kernel
theorem dX6_runsOut_13 : decode cX6_runsOut 13 = .ok (.istore_n 2, 1) := by decide +kernel
theorem dX6_runsOut_14 : decode cX6_runsOut 14 = .ok (.iinc 1 1, 3) := by decide +kernel
theorem dX6_runsOut_17 : decode cX6_runsOut 17 = .ok (.goto (-15), 3) := by decide +kernel
theorem dX6_runsOut_20 : decode cX6_runsOut 20 = .ok (.iload_n 1, 1) := by decide +kernel
theorem dX6_runsOut_21 : decode cX6_runsOut 21 = .ok (.ireturn, 1) := by decide +kernel
theorem dX6_isSetting_0 : decode cX6_isSetting 0 = .ok (.iload_n 0, 1) := by decide +kernel
theorem dX6_isSetting_1 : decode cX6_isSetting 1 = .ok (.tableswitch 61 0 3 #[31, 39, 47, 54], 31) := by decide +kernel
theorem dX6_isSetting_32 : decode cX6_isSetting 32 = .ok (.iload_n 1, 1) := by decide +kernel
theorem dX6_isSetting_33 : decode cX6_isSetting 33 = .ok (.iconst 2, 1) := by decide +kernel
theorem dX6_isSetting_34 : decode cX6_isSetting 34 = .ok (.bipush 16, 2) := by decide +kernel
theorem dX6_isSetting_36 : decode cX6_isSetting 36 = .ok (.invokestatic 36, 3) := by decide +kernel
theorem dX6_isSetting_39 : decode cX6_isSetting 39 = .ok (.ireturn, 1) := by decide +kernel
theorem dX6_isSetting_40 : decode cX6_isSetting 40 = .ok (.iload_n 1, 1) := by decide +kernel
theorem dX6_isSetting_41 : decode cX6_isSetting 41 = .ok (.iconst 1, 1) := by decide +kernel
theorem dX6_isSetting_42 : decode cX6_isSetting 42 = .ok (.bipush 12, 2) := by decide +kernel
theorem dX6_isSetting_44 : decode cX6_isSetting 44 = .ok (.invokestatic 36, 3) := by decide +kernel
theorem dX6_isSetting_47 : decode cX6_isSetting 47 = .ok (.ireturn, 1) := by decide +kernel
theorem dX6_isSetting_48 : decode cX6_isSetting 48 = .ok (.iload_n 1, 1) := by decide +kernel
theorem dX6_isSetting_49 : decode cX6_isSetting 49 = .ok (.iconst 0, 1) := by decide +kernel
theorem dX6_isSetting_50 : decode cX6_isSetting 50 = .ok (.iconst 2, 1) := by decide +kernel
theorem dX6_isSetting_51 : decode cX6_isSetting 51 = .ok (.invokestatic 36, 3) := by decide +kernel
theorem dX6_isSetting_54 : decode cX6_isSetting 54 = .ok (.ireturn, 1) := by decide +kernel
theorem dX6_isSetting_55 : decode cX6_isSetting 55 = .ok (.iload_n 1, 1) := by decide +kernel
theorem dX6_isSetting_56 : decode cX6_isSetting 56 = .ok (.iconst 0, 1) := by decide +kernel
theorem dX6_isSetting_57 : decode cX6_isSetting 57 = .ok (.iconst 1, 1) := by decide +kernel
theorem dX6_isSetting_58 : decode cX6_isSetting 58 = .ok (.invokestatic 36, 3) := by decide +kernel
theorem dX6_isSetting_61 : decode cX6_isSetting 61 = .ok (.ireturn, 1) := by decide +kernel
theorem dX6_isSetting_62 : decode cX6_isSetting 62 = .ok (.iconst 0, 1) := by decide +kernel
theorem dX6_isSetting_63 : decode cX6_isSetting 63 = .ok (.ireturn, 1) := by decide +kernel
theorem dX6_set_0 : decode cX6_set 0 = .ok (.iload_n 1, 1) := by decide +kernel
theorem dX6_set_1 : decode cX6_set 1 = .ok (.iload_n 2, 1) := by decide +kernel
theorem dX6_set_2 : decode cX6_set 2 = .ok (.invokestatic 75, 3) := by decide +kernel
theorem dX6_set_5 : decode cX6_set 5 = .ok (.ifCond .ne 6, 3) := by decide +kernel
theorem dX6_set_8 : decode cX6_set 8 = .ok (.bipush (-2), 2) := by decide +kernel
theorem dX6_set_10 : decode cX6_set 10 = .ok (.ireturn, 1) := by decide +kernel
theorem dX6_set_11 : decode cX6_set 11 = .ok (.aload_n 0, 1) := by decide +kernel
theorem dX6_set_12 : decode cX6_set 12 = .ok (.invokevirtual 79, 3) := by decide +kernel
theorem dX6_set_15 : decode cX6_set 15 = .ok (.aload_n 0, 1) := by decide +kernel
theorem dX6_set_16 : decode cX6_set 16 = .ok (.getfield 7, 3) := by decide +kernel
theorem dX6_set_19 : decode cX6_set 19 = .ok (.iload_n 1, 1) := by decide +kernel
theorem dX6_set_20 : decode cX6_set 20 = .ok (.iaload, 1) := by decide +kernel
theorem dX6_set_21 : decode cX6_set 21 = .ok (.istore_n 3, 1) := by decide +kernel
theorem dX6_set_22 : decode cX6_set 22 = .ok (.aload_n 0, 1) := by decide +kernel
theorem dX6_set_23 : decode cX6_set 23 = .ok (.getfield 7, 3) := by decide +kernel
theorem dX6_set_26 : decode cX6_set 26 = .ok (.iload_n 1, 1) := by decide +kernel
theorem dX6_set_27 : decode cX6_set 27 = .ok (.iload_n 2, 1) := by decide +kernel
theorem dX6_set_28 : decode cX6_set 28 = .ok (.iastore, 1) := by decide +kernel
theorem dX6_set_29 : decode cX6_set 29 = .ok (.aload_n 0, 1) := by decide +kernel
theorem dX6_set_30 : decode cX6_set 30 = .ok (.invokevirtual 82, 3) := by decide +kernel
theorem dX6_set_33 : decode cX6_set 33 = .ok (.aload_n 0, 1) := by decide +kernel
theorem dX6_set_34 : decode cX6_set 34 = .ok (.iload_n 3, 1) := by decide +kernel
theorem dX6_set_35 : decode cX6_set 35 = .ok (.invokevirtual 85, 3) := by decide +kernel
theorem dX6_set_38 : decode cX6_set 38 = .ok (.ireturn, 1) := by decide +kernel
theorem dX6_puts_0 : decode cX6_puts 0 = .ok (.aload_n 0, 1) := by decide +kernel
theorem dX6_puts_1 : decode cX6_puts 1 = .ok (.getfield 7, 3) := by decide +kernel
theorem dX6_puts_4 : decode cX6_puts 4 = .ok (.iconst 5, 1) := by decide +kernel
theorem dX6_puts_5 : decode cX6_puts 5 = .ok (.iaload, 1) := by decide +kernel
theorem dX6_puts_6 : decode cX6_puts 6 = .ok (.istore 4, 2) := by decide +kernel
theorem dX6_puts_8 : decode cX6_puts 8 = .ok (.aload_n 0, 1) := by decide +kernel
theorem dX6_puts_9 : decode cX6_puts 9 = .ok (.getfield 7, 3) := by decide +kernel
theorem dX6_puts_12 : decode cX6_puts 12 = .ok (.iload 4, 2) := by decide +kernel
theorem dX6_puts_14 : decode cX6_puts 14 = .ok (.invokestatic 52, 3) := by decide +kernel
theorem dX6_puts_17 : decode cX6_puts 17 = .ok (.iconst 0, 1) := by decide +kernel
theorem dX6_puts_18 : decode cX6_puts 18 = .ok (.iadd, 1) := by decide +kernel
theorem dX6_puts_19 : decode cX6_puts 19 = .ok (.iload_n 1, 1) := by decide +kernel
theorem dX6_puts_20 : decode cX6_puts 20 = .ok (.iastore, 1) := by decide +kernel
theorem dX6_puts_21 : decode cX6_puts 21 = .ok (.aload_n 0, 1) := by decide +kernel
theorem dX6_puts_22 : decode cX6_puts 22 = .ok (.getfield 7, 3) := by decide +kernel
theorem dX6_puts_25 : decode cX6_puts 25 = .ok (.iload 4, 2) := by decide +kernel
theorem dX6_puts_27 : decode cX6_puts 27 = .ok (.invokestatic 52, 3) := by decide +kernel
theorem dX6_puts_30 : decode cX6_puts 30 = .ok (.iconst 1, 1) := by decide +kernel
theorem dX6_puts_31 : decode cX6_puts 31 = .ok (.iadd, 1) := by decide +kernel
theorem dX6_puts_32 : decode cX6_puts 32 = .ok (.iload_n 2, 1) := by decide +kernel
theorem dX6_puts_33 : decode cX6_puts 33 = .ok (.iastore, 1) := by decide +kernel
theorem dX6_puts_34 : decode cX6_puts 34 = .ok (.aload_n 0, 1) := by decide +kernel
theorem dX6_puts_35 : decode cX6_puts 35 = .ok (.getfield 7, 3) := by decide +kernel
theorem dX6_puts_38 : decode cX6_puts 38 = .ok (.iload 4, 2) := by decide +kernel
theorem dX6_puts_40 : decode cX6_puts 40 = .ok (.invokestatic 52, 3) := by decide +kernel
theorem dX6_puts_43 : decode cX6_puts 43 = .ok (.iconst 2, 1) := by decide +kernel
theorem dX6_puts_44 : decode cX6_puts 44 = .ok (.iadd, 1) := by decide +kernel
theorem dX6_puts_45 : decode cX6_puts 45 = .ok (.iload_n 3, 1) := by decide +kernel
theorem dX6_puts_46 : decode cX6_puts 46 = .ok (.iastore, 1) := by decide +kernel
theorem dX6_puts_47 : decode cX6_puts 47 = .ok (.aload_n 0, 1) := by decide +kernel
theorem dX6_puts_48 : decode cX6_puts 48 = .ok (.iload 4, 2) := by decide +kernel
theorem dX6_puts_50 : decode cX6_puts 50 = .ok (.invokevirtual 65, 3) := by decide +kernel
theorem dX6_puts_53 : decode cX6_puts 53 = .ok (.aload_n 0, 1) := by decide +kernel
theorem dX6_puts_54 : decode cX6_puts 54 = .ok (.getfield 7, 3) := by decide +kernel
theorem dX6_puts_57 : decode cX6_puts 57 = .ok (.iconst 5, 1) := by decide +kernel
theorem dX6_puts_58 : decode cX6_puts 58 = .ok (.dup2, 1) := by decide +kernel
theorem dX6_puts_59 : decode cX6_puts 59 = .ok (.iaload, 1) := by decide +kernel
theorem dX6_puts_60 : decode cX6_puts 60 = .ok (.iconst 1, 1) := by decide +kernel
theorem dX6_puts_61 : decode cX6_puts 61 = .ok (.iadd, 1) := by decide +kernel
theorem dX6_puts_62 : decode cX6_puts 62 = .ok (.iastore, 1) := by decide +kernel
theorem dX6_puts_63 : decode cX6_puts 63 = .ok (.iload 4, 2) := by decide +kernel
theorem dX6_puts_65 : decode cX6_puts 65 = .ok (.ireturn, 1) := by decide +kernel
theorem dX6_add_0 : decode cX6_add 0 = .ok (.iload_n 1, 1) := by decide +kernel
theorem dX6_add_1 : decode cX6_add 1 = .ok (.iconst 0, 1) := by decide +kernel
theorem dX6_add_2 : decode cX6_add 2 = .ok (.sipush 4095, 3) := by decide +kernel
theorem dX6_add_5 : decode cX6_add 5 = .ok (.invokestatic 36, 3) := by decide +kernel
theorem dX6_add_8 : decode cX6_add 8 = .ok (.ifCond .eq 25, 3) := by decide +kernel
theorem dX6_add_11 : decode cX6_add 11 = .ok (.iload_n 2, 1) := by decide +kernel
theorem dX6_add_12 : decode cX6_add 12 = .ok (.iconst 0, 1) := by decide +kernel
theorem dX6_add_13 : decode cX6_add 13 = .ok (.sipush 1023, 3) := by decide +kernel
theorem dX6_add_16 : decode cX6_add 16 = .ok (.invokestatic 36, 3) := by decide +kernel
theorem dX6_add_19 : decode cX6_add 19 = .ok (.ifCond .eq 14, 3) := by decide +kernel
theorem dX6_add_22 : decode cX6_add 22 = .ok (.iload_n 3, 1) := by decide +kernel
theorem dX6_add_23 : decode cX6_add 23 = .ok (.iconst 1, 1) := by decide +kernel
theorem dX6_add_24 : decode cX6_add 24 = .ok (.sipush 200, 3) := by decide +kernel
theorem dX6_add_27 : decode cX6_add 27 = .ok (.invokestatic 36, 3) := by decide +kernel
theorem dX6_add_30 : decode cX6_add 30 = .ok (.ifCond .ne 6, 3) := by decide +kernel
theorem dX6_add_33 : decode cX6_add 33 = .ok (.bipush (-2), 2) := by decide +kernel
theorem dX6_add_35 : decode cX6_add 35 = .ok (.ireturn, 1) := by decide +kernel
theorem dX6_add_36 : decode cX6_add 36 = .ok (.aload_n 0, 1) := by decide +kernel
theorem dX6_add_37 : decode cX6_add 37 = .ok (.getfield 7, 3) := by decide +kernel
theorem dX6_add_40 : decode cX6_add 40 = .ok (.iconst 5, 1) := by decide +kernel
theorem dX6_add_41 : decode cX6_add 41 = .ok (.iaload, 1) := by decide +kernel
theorem dX6_add_42 : decode cX6_add 42 = .ok (.iconst 4, 1) := by decide +kernel
theorem dX6_add_43 : decode cX6_add 43 = .ok (.if_icmp .ne 6, 3) := by decide +kernel
theorem dX6_add_46 : decode cX6_add 46 = .ok (.bipush (-4), 2) := by decide +kernel
theorem dX6_add_48 : decode cX6_add 48 = .ok (.ireturn, 1) := by decide +kernel
theorem dX6_add_49 : decode cX6_add 49 = .ok (.aload_n 0, 1) := by decide +kernel
theorem dX6_add_50 : decode cX6_add 50 = .ok (.invokevirtual 79, 3) := by decide +kernel
theorem dX6_add_53 : decode cX6_add 53 = .ok (.aload_n 0, 1) := by decide +kernel
theorem dX6_add_54 : decode cX6_add 54 = .ok (.aload_n 0, 1) := by decide +kernel
theorem dX6_add_55 : decode cX6_add 55 = .ok (.iload_n 1, 1) := by decide +kernel
theorem dX6_add_56 : decode cX6_add 56 = .ok (.iload_n 2, 1) := by decide +kernel
theorem dX6_add_57 : decode cX6_add 57 = .ok (.iload_n 3, 1) := by decide +kernel
theorem dX6_add_58 : decode cX6_add 58 = .ok (.invokevirtual 88, 3) := by decide +kernel
theorem dX6_add_61 : decode cX6_add 61 = .ok (.invokevirtual 85, 3) := by decide +kernel
theorem dX6_add_64 : decode cX6_add 64 = .ok (.ireturn, 1) := by decide +kernel
theorem dX6_drop_0 : decode cX6_drop 0 = .ok (.aload_n 0, 1) := by decide +kernel
theorem dX6_drop_1 : decode cX6_drop 1 = .ok (.iload_n 1, 1) := by decide +kernel
theorem dX6_drop_2 : decode cX6_drop 2 = .ok (.invokevirtual 92, 3) := by decide +kernel
theorem dX6_drop_5 : decode cX6_drop 5 = .ok (.ifCond .ne 5, 3) := by decide +kernel
theorem dX6_drop_8 : decode cX6_drop 8 = .ok (.iconst (-1), 1) := by decide +kernel
theorem dX6_drop_9 : decode cX6_drop 9 = .ok (.ireturn, 1) := by decide +kernel
theorem dX6_drop_10 : decode cX6_drop 10 = .ok (.aload_n 0, 1) := by decide +kernel
theorem dX6_drop_11 : decode cX6_drop 11 = .ok (.invokevirtual 79, 3) := by decide +kernel
theorem dX6_drop_14 : decode cX6_drop 14 = .ok (.aload_n 0, 1) := by decide +kernel
theorem dX6_drop_15 : decode cX6_drop 15 = .ok (.getfield 7, 3) := by decide +kernel
theorem dX6_drop_18 : decode cX6_drop 18 = .ok (.iload_n 1, 1) := by decide +kernel
theorem dX6_drop_19 : decode cX6_drop 19 = .ok (.invokestatic 52, 3) := by decide +kernel
theorem dX6_drop_22 : decode cX6_drop 22 = .ok (.iconst 3, 1) := by decide +kernel
theorem dX6_drop_23 : decode cX6_drop 23 = .ok (.iadd, 1) := by decide +kernel
theorem dX6_drop_24 : decode cX6_drop 24 = .ok (.iaload, 1) := by decide +kernel
theorem dX6_drop_25 : decode cX6_drop 25 = .ok (.istore_n 2, 1) := by decide +kernel
theorem dX6_drop_26 : decode cX6_drop 26 = .ok (.iload_n 1, 1) := by decide +kernel
theorem dX6_drop_27 : decode cX6_drop 27 = .ok (.invokestatic 52, 3) := by decide +kernel
theorem dX6_drop_30 : decode cX6_drop 30 = .ok (.istore_n 3, 1) := by decide +kernel
theorem dX6_drop_31 : decode cX6_drop 31 = .ok (.iload_n 3, 1) := by decide +kernel
theorem dX6_drop_32 : decode cX6_drop 32 = .ok (.aload_n 0, 1) := by decide +kernel
theorem dX6_drop_33 : decode cX6_drop 33 = .ok (.getfield 7, 3) := by decide +kernel
theorem dX6_drop_36 : decode cX6_drop 36 = .ok (.iconst 5, 1) := by decide +kernel
theorem dX6_drop_37 : decode cX6_drop 37 = .ok (.iaload, 1) := by decide +kernel
theorem dX6_drop_38 : decode cX6_drop 38 = .ok (.iconst 1, 1) := by decide +kernel
theorem dX6_drop_39 : decode cX6_drop 39 = .ok (.isub, 1) := by decide +kernel
theorem dX6_drop_40 : decode cX6_drop 40 = .ok (.invokestatic 52, 3) := by decide +kernel
theorem dX6_drop_43 : decode cX6_drop 43 = .ok (.if_icmp .ge 24, 3) := by decide +kernel
theorem dX6_drop_46 : decode cX6_drop 46 = .ok (.aload_n 0, 1) := by decide +kernel
theorem dX6_drop_47 : decode cX6_drop 47 = .ok (.getfield 7, 3) := by decide +kernel
theorem dX6_drop_50 : decode cX6_drop 50 = .ok (.iload_n 3, 1) := by decide +kernel
theorem dX6_drop_51 : decode cX6_drop 51 = .ok (.aload_n 0, 1) := by decide +kernel
theorem dX6_drop_52 : decode cX6_drop 52 = .ok (.getfield 7, 3) := by decide +kernel
theorem dX6_drop_55 : decode cX6_drop 55 = .ok (.iload_n 3, 1) := by decide +kernel
theorem dX6_drop_56 : decode cX6_drop 56 = .ok (.bipush 10, 2) := by decide +kernel
theorem dX6_drop_58 : decode cX6_drop 58 = .ok (.iadd, 1) := by decide +kernel
theorem dX6_drop_59 : decode cX6_drop 59 = .ok (.iaload, 1) := by decide +kernel
theorem dX6_drop_60 : decode cX6_drop 60 = .ok (.iastore, 1) := by decide +kernel
theorem dX6_drop_61 : decode cX6_drop 61 = .ok (.iinc 3 1, 3) := by decide +kernel
theorem dX6_drop_64 : decode cX6_drop 64 = .ok (.goto (-33), 3) := by decide +kernel
theorem dX6_drop_67 : decode cX6_drop 67 = .ok (.iconst 0, 1) := by decide +kernel
theorem dX6_drop_68 : decode cX6_drop 68 = .ok (.istore_n 3, 1) := by decide +kernel
theorem dX6_drop_69 : decode cX6_drop 69 = .ok (.iload_n 3, 1) := by decide +kernel
theorem dX6_drop_70 : decode cX6_drop 70 = .ok (.bipush 16, 2) := by decide +kernel
theorem dX6_drop_72 : decode cX6_drop 72 = .ok (.if_icmp .ge 58, 3) := by decide +kernel
theorem dX6_drop_75 : decode cX6_drop 75 = .ok (.aload_n 0, 1) := by decide +kernel
theorem dX6_drop_76 : decode cX6_drop 76 = .ok (.getfield 7, 3) := by decide +kernel
theorem dX6_drop_79 : decode cX6_drop 79 = .ok (.iload_n 3, 1) := by decide +kernel
theorem dX6_drop_80 : decode cX6_drop 80 = .ok (.invokestatic 59, 3) := by decide +kernel
theorem dX6_drop_83 : decode cX6_drop 83 = .ok (.iconst 1, 1) := by decide +kernel
theorem dX6_drop_84 : decode cX6_drop 84 = .ok (.iadd, 1) := by decide +kernel
theorem dX6_drop_85 : decode cX6_drop 85 = .ok (.iaload, 1) := by decide +kernel
theorem dX6_drop_86 : decode cX6_drop 86 = .ok (.istore 4, 2) := by decide +kernel
theorem dX6_drop_88 : decode cX6_drop 88 = .ok (.aload_n 0, 1) := by decide +kernel
theorem dX6_drop_89 : decode cX6_drop 89 = .ok (.getfield 7, 3) := by decide +kernel
theorem dX6_drop_92 : decode cX6_drop 92 = .ok (.iload_n 3, 1) := by decide +kernel
theorem dX6_drop_93 : decode cX6_drop 93 = .ok (.invokestatic 59, 3) := by decide +kernel
theorem dX6_drop_96 : decode cX6_drop 96 = .ok (.iconst 1, 1) := by decide +kernel
theorem dX6_drop_97 : decode cX6_drop 97 = .ok (.iadd, 1) := by decide +kernel
theorem dX6_drop_98 : decode cX6_drop 98 = .ok (.iload 4, 2) := by decide +kernel
theorem dX6_drop_100 : decode cX6_drop 100 = .ok (.iload_n 1, 1) := by decide +kernel
theorem dX6_drop_101 : decode cX6_drop 101 = .ok (.if_icmp .ne 7, 3) := by decide +kernel
theorem dX6_drop_104 : decode cX6_drop 104 = .ok (.iconst (-1), 1) := by decide +kernel
theorem dX6_drop_105 : decode cX6_drop 105 = .ok (.goto 18, 3) := by decide +kernel
theorem dX6_drop_108 : decode cX6_drop 108 = .ok (.iload 4, 2) := by decide +kernel
theorem dX6_drop_110 : decode cX6_drop 110 = .ok (.iload_n 1, 1) := by decide +kernel
theorem dX6_drop_111 : decode cX6_drop 111 = .ok (.if_icmp .le 10, 3) := by decide +kernel
theorem dX6_drop_114 : decode cX6_drop 114 = .ok (.iload 4, 2) := by decide +kernel
theorem dX6_drop_116 : decode cX6_drop 116 = .ok (.iconst 1, 1) := by decide +kernel
theorem dX6_drop_117 : decode cX6_drop 117 = .ok (.isub, 1) := by decide +kernel
theorem dX6_drop_118 : decode cX6_drop 118 = .ok (.goto 5, 3) := by decide +kernel
theorem dX6_drop_121 : decode cX6_drop 121 = .ok (.iload 4, 2) := by decide +kernel
theorem dX6_drop_123 : decode cX6_drop 123 = .ok (.iastore, 1) := by decide +kernel
theorem dX6_drop_124 : decode cX6_drop 124 = .ok (.iinc 3 1, 3) := by decide +kernel
theorem dX6_drop_127 : decode cX6_drop 127 = .ok (.goto (-58), 3) := by decide +kernel
theorem dX6_drop_130 : decode cX6_drop 130 = .ok (.aload_n 0, 1) := by decide +kernel
theorem dX6_drop_131 : decode cX6_drop 131 = .ok (.getfield 7, 3) := by decide +kernel
theorem dX6_drop_134 : decode cX6_drop 134 = .ok (.iconst 5, 1) := by decide +kernel
theorem dX6_drop_135 : decode cX6_drop 135 = .ok (.dup2, 1) := by decide +kernel
theorem dX6_drop_136 : decode cX6_drop 136 = .ok (.iaload, 1) := by decide +kernel
theorem dX6_drop_137 : decode cX6_drop 137 = .ok (.iconst 1, 1) := by decide +kernel
theorem dX6_drop_138 : decode cX6_drop 138 = .ok (.isub, 1) := by decide +kernel
theorem dX6_drop_139 : decode cX6_drop 139 = .ok (.iastore, 1) := by decide +kernel
theorem dX6_drop_140 : decode cX6_drop 140 = .ok (.aload_n 0, 1) := by decide +kernel
theorem dX6_drop_141 : decode cX6_drop 141 = .ok (.iload_n 2, 1) := by decide +kernel
theorem dX6_drop_142 : decode cX6_drop 142 = .ok (.invokevirtual 85, 3) := by decide +kernel
theorem dX6_drop_145 : decode cX6_drop 145 = .ok (.ireturn, 1) := by decide +kernel
theorem dX6_stride_0 : decode cX6_stride 0 = .ok (.aload_n 0, 1) := by decide +kernel
theorem dX6_stride_1 : decode cX6_stride 1 = .ok (.iload_n 1, 1) := by decide +kernel
theorem dX6_stride_2 : decode cX6_stride 2 = .ok (.invokevirtual 92, 3) := by decide +kernel
theorem dX6_stride_5 : decode cX6_stride 5 = .ok (.ifCond .ne 5, 3) := by decide +kernel
theorem dX6_stride_8 : decode cX6_stride 8 = .ok (.iconst (-1), 1) := by decide +kernel
theorem dX6_stride_9 : decode cX6_stride 9 = .ok (.ireturn, 1) := by decide +kernel
theorem dX6_stride_10 : decode cX6_stride 10 = .ok (.iload_n 2, 1) := by decide +kernel
theorem dX6_stride_11 : decode cX6_stride 11 = .ok (.iconst 0, 1) := by decide +kernel
theorem dX6_stride_12 : decode cX6_stride 12 = .ok (.sipush 1023, 3) := by decide +kernel
theorem dX6_stride_15 : decode cX6_stride 15 = .ok (.invokestatic 36, 3) := by decide +kernel
theorem dX6_stride_18 : decode cX6_stride 18 = .ok (.ifCond .ne 6, 3) := by decide +kernel
theorem dX6_stride_21 : decode cX6_stride 21 = .ok (.bipush (-2), 2) := by decide +kernel
theorem dX6_stride_23 : decode cX6_stride 23 = .ok (.ireturn, 1) := by decide +kernel
theorem dX6_stride_24 : decode cX6_stride 24 = .ok (.aload_n 0, 1) := by decide +kernel
theorem dX6_stride_25 : decode cX6_stride 25 = .ok (.invokevirtual 79, 3) := by decide +kernel
theorem dX6_stride_28 : decode cX6_stride 28 = .ok (.iload_n 1, 1) := by decide +kernel
theorem dX6_stride_29 : decode cX6_stride 29 = .ok (.invokestatic 52, 3) := by decide +kernel
theorem dX6_stride_32 : decode cX6_stride 32 = .ok (.istore_n 3, 1) := by decide +kernel
theorem dX6_stride_33 : decode cX6_stride 33 = .ok (.aload_n 0, 1) := by decide +kernel
theorem dX6_stride_34 : decode cX6_stride 34 = .ok (.getfield 7, 3) := by decide +kernel
theorem dX6_stride_37 : decode cX6_stride 37 = .ok (.iload_n 3, 1) := by decide +kernel
theorem dX6_stride_38 : decode cX6_stride 38 = .ok (.iconst 1, 1) := by decide +kernel
theorem dX6_stride_39 : decode cX6_stride 39 = .ok (.iadd, 1) := by decide +kernel
theorem dX6_stride_40 : decode cX6_stride 40 = .ok (.iaload, 1) := by decide +kernel
theorem dX6_stride_41 : decode cX6_stride 41 = .ok (.istore 4, 2) := by decide +kernel
theorem dX6_stride_43 : decode cX6_stride 43 = .ok (.aload_n 0, 1) := by decide +kernel
theorem dX6_stride_44 : decode cX6_stride 44 = .ok (.getfield 7, 3) := by decide +kernel
theorem dX6_stride_47 : decode cX6_stride 47 = .ok (.iload_n 3, 1) := by decide +kernel
theorem dX6_stride_48 : decode cX6_stride 48 = .ok (.iconst 1, 1) := by decide +kernel
theorem dX6_stride_49 : decode cX6_stride 49 = .ok (.iadd, 1) := by decide +kernel
theorem dX6_stride_50 : decode cX6_stride 50 = .ok (.iload_n 2, 1) := by decide +kernel
theorem dX6_stride_51 : decode cX6_stride 51 = .ok (.iastore, 1) := by decide +kernel
theorem dX6_stride_52 : decode cX6_stride 52 = .ok (.aload_n 0, 1) := by decide +kernel
theorem dX6_stride_53 : decode cX6_stride 53 = .ok (.getfield 7, 3) := by decide +kernel
theorem dX6_stride_56 : decode cX6_stride 56 = .ok (.iload_n 3, 1) := by decide +kernel
theorem dX6_stride_57 : decode cX6_stride 57 = .ok (.iconst 4, 1) := by decide +kernel
theorem dX6_stride_58 : decode cX6_stride 58 = .ok (.iadd, 1) := by decide +kernel
theorem dX6_stride_59 : decode cX6_stride 59 = .ok (.aload_n 0, 1) := by decide +kernel
theorem dX6_stride_60 : decode cX6_stride 60 = .ok (.getfield 7, 3) := by decide +kernel
theorem dX6_stride_63 : decode cX6_stride 63 = .ok (.iload_n 3, 1) := by decide +kernel
theorem dX6_stride_64 : decode cX6_stride 64 = .ok (.iconst 5, 1) := by decide +kernel
theorem dX6_stride_65 : decode cX6_stride 65 = .ok (.iadd, 1) := by decide +kernel
theorem dX6_stride_66 : decode cX6_stride 66 = .ok (.iaload, 1) := by decide +kernel
theorem dX6_stride_67 : decode cX6_stride 67 = .ok (.ifCond .ge 14, 3) := by decide +kernel
theorem dX6_stride_70 : decode cX6_stride 70 = .ok (.aload_n 0, 1) := by decide +kernel
theorem dX6_stride_71 : decode cX6_stride 71 = .ok (.getfield 7, 3) := by decide +kernel
theorem dX6_stride_74 : decode cX6_stride 74 = .ok (.iload_n 3, 1) := by decide +kernel
theorem dX6_stride_75 : decode cX6_stride 75 = .ok (.iconst 0, 1) := by decide +kernel
theorem dX6_stride_76 : decode cX6_stride 76 = .ok (.iadd, 1) := by decide +kernel
theorem dX6_stride_77 : decode cX6_stride 77 = .ok (.iaload, 1) := by decide +kernel
theorem dX6_stride_78 : decode cX6_stride 78 = .ok (.goto 17, 3) := by decide +kernel
theorem dX6_stride_81 : decode cX6_stride 81 = .ok (.aload_n 0, 1) := by decide +kernel
theorem dX6_stride_82 : decode cX6_stride 82 = .ok (.getfield 7, 3) := by decide +kernel
theorem dX6_stride_85 : decode cX6_stride 85 = .ok (.iload_n 3, 1) := by decide +kernel
theorem dX6_stride_86 : decode cX6_stride 86 = .ok (.iconst 5, 1) := by decide +kernel
theorem dX6_stride_87 : decode cX6_stride 87 = .ok (.iadd, 1) := by decide +kernel
theorem dX6_stride_88 : decode cX6_stride 88 = .ok (.iaload, 1) := by decide +kernel
theorem dX6_stride_89 : decode cX6_stride 89 = .ok (.iload_n 2, 1) := by decide +kernel
theorem dX6_stride_90 : decode cX6_stride 90 = .ok (.iadd, 1) := by decide +kernel
theorem dX6_stride_91 : decode cX6_stride 91 = .ok (.sipush 4096, 3) := by decide +kernel
theorem dX6_stride_94 : decode cX6_stride 94 = .ok (.irem, 1) := by decide +kernel
theorem dX6_stride_95 : decode cX6_stride 95 = .ok (.iastore, 1) := by decide +kernel
theorem dX6_stride_96 : decode cX6_stride 96 = .ok (.aload_n 0, 1) := by decide +kernel
theorem dX6_stride_97 : decode cX6_stride 97 = .ok (.iload 4, 2) := by decide +kernel
theorem dX6_stride_99 : decode cX6_stride 99 = .ok (.invokevirtual 85, 3) := by decide +kernel
theorem dX6_stride_102 : decode cX6_stride 102 = .ok (.ireturn, 1) := by decide +kernel
theorem dX6_run_0 : decode cX6_run 0 = .ok (.iload_n 1, 1) := by decide +kernel
theorem dX6_run_1 : decode cX6_run 1 = .ok (.iconst 1, 1) := by decide +kernel
theorem dX6_run_2 : decode cX6_run 2 = .ok (.sipush 500, 3) := by decide +kernel
theorem dX6_run_5 : decode cX6_run 5 = .ok (.invokestatic 36, 3) := by decide +kernel
theorem dX6_run_8 : decode cX6_run 8 = .ok (.ifCond .ne 6, 3) := by decide +kernel
theorem dX6_run_11 : decode cX6_run 11 = .ok (.bipush (-2), 2) := by decide +kernel
theorem dX6_run_13 : decode cX6_run 13 = .ok (.ireturn, 1) := by decide +kernel
theorem dX6_run_14 : decode cX6_run 14 = .ok (.aload_n 0, 1) := by decide +kernel
theorem dX6_run_15 : decode cX6_run 15 = .ok (.getfield 7, 3) := by decide +kernel
theorem dX6_run_18 : decode cX6_run 18 = .ok (.iconst 4, 1) := by decide +kernel
theorem dX6_run_19 : decode cX6_run 19 = .ok (.iaload, 1) := by decide +kernel
theorem dX6_run_20 : decode cX6_run 20 = .ok (.ldc 95, 2) := by decide +kernel
theorem dX6_run_22 : decode cX6_run 22 = .ok (.iload_n 1, 1) := by decide +kernel
theorem dX6_run_23 : decode cX6_run 23 = .ok (.isub, 1) := by decide +kernel
theorem dX6_run_24 : decode cX6_run 24 = .ok (.if_icmp .le 6, 3) := by decide +kernel
theorem dX6_run_27 : decode cX6_run 27 = .ok (.bipush (-4), 2) := by decide +kernel
theorem dX6_run_29 : decode cX6_run 29 = .ok (.ireturn, 1) := by decide +kernel
theorem dX6_run_30 : decode cX6_run 30 = .ok (.aload_n 0, 1) := by decide +kernel
theorem dX6_run_31 : decode cX6_run 31 = .ok (.invokevirtual 79, 3) := by decide +kernel
theorem dX6_run_34 : decode cX6_run 34 = .ok (.iconst 0, 1) := by decide +kernel
theorem dX6_run_35 : decode cX6_run 35 = .ok (.istore_n 2, 1) := by decide +kernel
theorem dX6_run_36 : decode cX6_run 36 = .ok (.iconst 0, 1) := by decide +kernel
theorem dX6_run_37 : decode cX6_run 37 = .ok (.istore_n 3, 1) := by decide +kernel
theorem dX6_run_38 : decode cX6_run 38 = .ok (.iload_n 3, 1) := by decide +kernel
theorem dX6_run_39 : decode cX6_run 39 = .ok (.iload_n 1, 1) := by decide +kernel
theorem dX6_run_40 : decode cX6_run 40 = .ok (.if_icmp .ge 16, 3) := by decide +kernel
theorem dX6_run_43 : decode cX6_run 43 = .ok (.iload_n 2, 1) := by decide +kernel
theorem dX6_run_44 : decode cX6_run 44 = .ok (.aload_n 0, 1) := by decide +kernel
theorem dX6_run_45 : decode cX6_run 45 = .ok (.invokevirtual 72, 3) := by decide +kernel
theorem dX6_run_48 : decode cX6_run 48 = .ok (.iadd, 1) := by decide +kernel
theorem dX6_run_49 : decode cX6_run 49 = .ok (.istore_n 2, 1) := by decide +kernel
theorem dX6_run_50 : decode cX6_run 50 = .ok (.iinc 3 1, 3) := by decide +kernel
theorem dX6_run_53 : decode cX6_run 53 = .ok (.goto (-15), 3) := by decide +kernel
theorem dX6_run_56 : decode cX6_run 56 = .ok (.aload_n 0, 1) := by decide +kernel
theorem dX6_run_57 : decode cX6_run 57 = .ok (.iload_n 2, 1) := by decide +kernel
theorem dX6_run_58 : decode cX6_run 58 = .ok (.invokevirtual 85, 3) := by decide +kernel
theorem dX6_run_61 : decode cX6_run 61 = .ok (.ireturn, 1) := by decide +kernel
theorem dX6_reset_0 : decode cX6_reset 0 = .ok (.aload_n 0, 1) := by decide +kernel
theorem dX6_reset_1 : decode cX6_reset 1 = .ok (.invokevirtual 79, 3) := by decide +kernel
theorem dX6_reset_4 : decode cX6_reset 4 = .ok (.aload_n 0, 1) := by decide +kernel
theorem dX6_reset_5 : decode cX6_reset 5 = .ok (.invokevirtual 82, 3) := by decide +kernel
theorem dX6_reset_8 : decode cX6_reset 8 = .ok (.aload_n 0, 1) := by decide +kernel
theorem dX6_reset_9 : decode cX6_reset 9 = .ok (.aload_n 0, 1) := by decide +kernel
theorem dX6_reset_10 : decode cX6_reset 10 = .ok (.invokevirtual 69, 3) := by decide +kernel
theorem dX6_reset_13 : decode cX6_reset 13 = .ok (.invokevirtual 85, 3) := by decide +kernel
theorem dX6_reset_16 : decode cX6_reset 16 = .ok (.ireturn, 1) := by decide +kernel
theorem dX6_isSign_0 : decode cX6_isSign 0 = .ok (.aload_n 0, 1) := by decide +kernel
theorem dX6_isSign_1 : decode cX6_isSign 1 = .ok (.getfield 96, 3) := by decide +kernel
theorem dX6_isSign_4 : decode cX6_isSign 4 = .ok (.aload_n 0, 1) := by decide +kernel
theorem dX6_isSign_5 : decode cX6_isSign 5 = .ok (.getfield 99, 3) := by decide +kernel
theorem dX6_isSign_8 : decode cX6_isSign 8 = .ok (.if_icmp .ge 33, 3) := by decide +kernel
theorem dX6_isSign_11 : decode cX6_isSign 11 = .ok (.aload_n 0, 1) := by decide +kernel
theorem dX6_isSign_12 : decode cX6_isSign 12 = .ok (.getfield 32, 3) := by decide +kernel
theorem dX6_isSign_15 : decode cX6_isSign 15 = .ok (.aload_n 0, 1) := by decide +kernel
theorem dX6_isSign_16 : decode cX6_isSign 16 = .ok (.getfield 96, 3) := by decide +kernel
theorem dX6_isSign_19 : decode cX6_isSign 19 = .ok (.caload, 1) := by decide +kernel
theorem dX6_isSign_20 : decode cX6_isSign 20 = .ok (.iload_n 1, 1) := by decide +kernel
theorem dX6_isSign_21 : decode cX6_isSign 21 = .ok (.if_icmp .lt 20, 3) := by decide +kernel
theorem dX6_isSign_24 : decode cX6_isSign 24 = .ok (.aload_n 0, 1) := by decide +kernel
theorem dX6_isSign_25 : decode cX6_isSign 25 = .ok (.getfield 32, 3) := by decide +kernel
theorem dX6_isSign_28 : decode cX6_isSign 28 = .ok (.aload_n 0, 1) := by decide +kernel
theorem dX6_isSign_29 : decode cX6_isSign 29 = .ok (.getfield 96, 3) := by decide +kernel
theorem dX6_isSign_32 : decode cX6_isSign 32 = .ok (.caload, 1) := by decide +kernel
theorem dX6_isSign_33 : decode cX6_isSign 33 = .ok (.iload_n 2, 1) := by decide +kernel
theorem dX6_isSign_34 : decode cX6_isSign 34 = .ok (.if_icmp .gt 7, 3) := by decide +kernel
theorem dX6_isSign_37 : decode cX6_isSign 37 = .ok (.iconst 1, 1) := by decide +kernel
theorem dX6_isSign_38 : decode cX6_isSign 38 = .ok (.goto 4, 3) := by decide +kernel
theorem dX6_isSign_41 : decode cX6_isSign 41 = .ok (.iconst 0, 1) := by decide +kernel
theorem dX6_isSign_42 : decode cX6_isSign 42 = .ok (.ireturn, 1) := by decide +kernel
theorem dX6_accepts_0 : decode cX6_accepts 0 = .ok (.aload_n 0, 1) := by decide +kernel
theorem dX6_accepts_1 : decode cX6_accepts 1 = .ok (.iload_n 1, 1) := by decide +kernel
theorem dX6_accepts_2 : decode cX6_accepts 2 = .ok (.iload_n 1, 1) := by decide +kernel
theorem dX6_accepts_3 : decode cX6_accepts 3 = .ok (.invokevirtual 102, 3) := by decide +kernel
theorem dX6_accepts_6 : decode cX6_accepts 6 = .ok (.istore_n 2, 1) := by decide +kernel
theorem dX6_accepts_7 : decode cX6_accepts 7 = .ok (.aload_n 0, 1) := by decide +kernel
theorem dX6_accepts_8 : decode cX6_accepts 8 = .ok (.dup, 1) := by decide +kernel
theorem dX6_accepts_9 : decode cX6_accepts 9 = .ok (.getfield 96, 3) := by decide +kernel
theorem dX6_accepts_12 : decode cX6_accepts 12 = .ok (.iload_n 2, 1) := by decide +kernel
theorem dX6_accepts_13 : decode cX6_accepts 13 = .ok (.ifCond .eq 7, 3) := by decide +kernel
theorem dX6_accepts_16 : decode cX6_accepts 16 = .ok (.iconst 1, 1) := by decide +kernel
theorem dX6_accepts_17 : decode cX6_accepts 17 = .ok (.goto 4, 3) := by decide +kernel
theorem dX6_accepts_20 : decode cX6_accepts 20 = .ok (.iconst 0, 1) := by decide +kernel
theorem dX6_accepts_21 : decode cX6_accepts 21 = .ok (.iadd, 1) := by decide +kernel
theorem dX6_accepts_22 : decode cX6_accepts 22 = .ok (.putfield 96, 3) := by decide +kernel
theorem dX6_accepts_25 : decode cX6_accepts 25 = .ok (.iload_n 2, 1) := by decide +kernel
theorem dX6_accepts_26 : decode cX6_accepts 26 = .ok (.ireturn, 1) := by decide +kernel
theorem dX6_number_0 : decode cX6_number 0 = .ok (.iconst 3, 1) := by decide +kernel
theorem dX6_number_1 : decode cX6_number 1 = .ok (.aload_n 0, 1) := by decide +kernel
theorem dX6_number_2 : decode cX6_number 2 = .ok (.getfield 106, 3) := by decide +kernel
theorem dX6_number_5 : decode cX6_number 5 = .ok (.imul, 1) := by decide +kernel
theorem dX6_number_6 : decode cX6_number 6 = .ok (.iload_n 1, 1) := by decide +kernel
theorem dX6_number_7 : decode cX6_number 7 = .ok (.iadd, 1) := by decide +kernel
theorem dX6_number_8 : decode cX6_number 8 = .ok (.istore 4, 2) := by decide +kernel
theorem dX6_number_10 : decode cX6_number 10 = .ok (.aload_n 0, 1) := by decide +kernel
theorem dX6_number_11 : decode cX6_number 11 = .ok (.getfield 29, 3) := by decide +kernel
theorem dX6_number_14 : decode cX6_number 14 = .ok (.iload 4, 2) := by decide +kernel
theorem dX6_number_16 : decode cX6_number 16 = .ok (.iconst 0, 1) := by decide +kernel
theorem dX6_number_17 : decode cX6_number 17 = .ok (.iastore, 1) := by decide +kernel
theorem dX6_number_18 : decode cX6_number 18 = .ok (.aload_n 0, 1) := by decide +kernel
theorem dX6_number_19 : decode cX6_number 19 = .ok (.iload_n 2, 1) := by decide +kernel
theorem dX6_number_20 : decode cX6_number 20 = .ok (.ifCond .ne 8, 3) := by decide +kernel
theorem dX6_number_23 : decode cX6_number 23 = .ok (.bipush 48, 2) := by decide +kernel
theorem dX6_number_25 : decode cX6_number 25 = .ok (.goto 5, 3) := by decide +kernel
theorem dX6_number_28 : decode cX6_number 28 = .ok (.bipush 49, 2) := by decide +kernel
theorem dX6_number_30 : decode cX6_number 30 = .ok (.bipush 57, 2) := by decide +kernel
theorem dX6_number_32 : decode cX6_number 32 = .ok (.invokevirtual 102, 3) := by decide +kernel
theorem dX6_number_35 : decode cX6_number 35 = .ok (.ifCond .ne 5, 3) := by decide +kernel
theorem dX6_number_38 : decode cX6_number 38 = .ok (.iconst 0, 1) := by decide +kernel
theorem dX6_number_39 : decode cX6_number 39 = .ok (.ireturn, 1) := by decide +kernel
theorem dX6_number_40 : decode cX6_number 40 = .ok (.aload_n 0, 1) := by decide +kernel
theorem dX6_number_41 : decode cX6_number 41 = .ok (.getfield 29, 3) := by decide +kernel
theorem dX6_number_44 : decode cX6_number 44 = .ok (.iload 4, 2) := by decide +kernel
theorem dX6_number_46 : decode cX6_number 46 = .ok (.aload_n 0, 1) := by decide +kernel
theorem dX6_number_47 : decode cX6_number 47 = .ok (.getfield 32, 3) := by decide +kernel
theorem dX6_number_50 : decode cX6_number 50 = .ok (.aload_n 0, 1) := by decide +kernel
theorem dX6_number_51 : decode cX6_number 51 = .ok (.getfield 96, 3) := by decide +kernel
theorem dX6_number_54 : decode cX6_number 54 = .ok (.caload, 1) := by decide +kernel
theorem dX6_number_55 : decode cX6_number 55 = .ok (.bipush 48, 2) := by decide +kernel
theorem dX6_number_57 : decode cX6_number 57 = .ok (.isub, 1) := by decide +kernel
theorem dX6_number_58 : decode cX6_number 58 = .ok (.iastore, 1) := by decide +kernel
theorem dX6_number_59 : decode cX6_number 59 = .ok (.aload_n 0, 1) := by decide +kernel
theorem dX6_number_60 : decode cX6_number 60 = .ok (.dup, 1) := by decide +kernel
theorem dX6_number_61 : decode cX6_number 61 = .ok (.getfield 96, 3) := by decide +kernel
theorem dX6_number_64 : decode cX6_number 64 = .ok (.iconst 1, 1) := by decide +kernel
theorem dX6_number_65 : decode cX6_number 65 = .ok (.iadd, 1) := by decide +kernel
theorem dX6_number_66 : decode cX6_number 66 = .ok (.putfield 96, 3) := by decide +kernel
theorem dX6_number_69 : decode cX6_number 69 = .ok (.aload_n 0, 1) := by decide +kernel
theorem dX6_number_70 : decode cX6_number 70 = .ok (.getfield 29, 3) := by decide +kernel
theorem dX6_number_73 : decode cX6_number 73 = .ok (.iload 4, 2) := by decide +kernel
theorem dX6_number_75 : decode cX6_number 75 = .ok (.iaload, 1) := by decide +kernel
theorem dX6_number_76 : decode cX6_number 76 = .ok (.ifCond .le 84, 3) := by decide +kernel
theorem dX6_number_79 : decode cX6_number 79 = .ok (.aload_n 0, 1) := by decide +kernel
theorem dX6_number_80 : decode cX6_number 80 = .ok (.bipush 48, 2) := by decide +kernel
theorem dX6_number_82 : decode cX6_number 82 = .ok (.bipush 57, 2) := by decide +kernel
theorem dX6_number_84 : decode cX6_number 84 = .ok (.invokevirtual 102, 3) := by decide +kernel
theorem dX6_number_87 : decode cX6_number 87 = .ok (.ifCond .eq 73, 3) := by decide +kernel
theorem dX6_number_90 : decode cX6_number 90 = .ok (.bipush 10, 2) := by decide +kernel
theorem dX6_number_92 : decode cX6_number 92 = .ok (.aload_n 0, 1) := by decide +kernel
theorem dX6_number_93 : decode cX6_number 93 = .ok (.getfield 29, 3) := by decide +kernel
theorem dX6_number_96 : decode cX6_number 96 = .ok (.iload 4, 2) := by decide +kernel
theorem dX6_number_98 : decode cX6_number 98 = .ok (.iaload, 1) := by decide +kernel
theorem dX6_number_99 : decode cX6_number 99 = .ok (.imul, 1) := by decide +kernel
theorem dX6_number_100 : decode cX6_number 100 = .ok (.aload_n 0, 1) := by decide +kernel
theorem dX6_number_101 : decode cX6_number 101 = .ok (.getfield 32, 3) := by decide +kernel
theorem dX6_number_104 : decode cX6_number 104 = .ok (.aload_n 0, 1) := by decide +kernel
theorem dX6_number_105 : decode cX6_number 105 = .ok (.getfield 96, 3) := by decide +kernel
theorem dX6_number_108 : decode cX6_number 108 = .ok (.caload, 1) := by decide +kernel
theorem dX6_number_109 : decode cX6_number 109 = .ok (.iadd, 1) := by decide +kernel
theorem dX6_number_110 : decode cX6_number 110 = .ok (.bipush 48, 2) := by decide +kernel
theorem dX6_number_112 : decode cX6_number 112 = .ok (.isub, 1) := by decide +kernel
theorem dX6_number_113 : decode cX6_number 113 = .ok (.iload_n 3, 1) := by decide +kernel
theorem dX6_number_114 : decode cX6_number 114 = .ok (.if_icmp .gt 46, 3) := by decide +kernel
theorem dX6_number_117 : decode cX6_number 117 = .ok (.aload_n 0, 1) := by decide +kernel
theorem dX6_number_118 : decode cX6_number 118 = .ok (.getfield 29, 3) := by decide +kernel
theorem dX6_number_121 : decode cX6_number 121 = .ok (.iload 4, 2) := by decide +kernel
theorem dX6_number_123 : decode cX6_number 123 = .ok (.bipush 10, 2) := by decide +kernel
theorem dX6_number_125 : decode cX6_number 125 = .ok (.aload_n 0, 1) := by decide +kernel
theorem dX6_number_126 : decode cX6_number 126 = .ok (.getfield 29, 3) := by decide +kernel
theorem dX6_number_129 : decode cX6_number 129 = .ok (.iload 4, 2) := by decide +kernel
theorem dX6_number_131 : decode cX6_number 131 = .ok (.iaload, 1) := by decide +kernel
theorem dX6_number_132 : decode cX6_number 132 = .ok (.imul, 1) := by decide +kernel
theorem dX6_number_133 : decode cX6_number 133 = .ok (.aload_n 0, 1) := by decide +kernel
theorem dX6_number_134 : decode cX6_number 134 = .ok (.getfield 32, 3) := by decide +kernel
theorem dX6_number_137 : decode cX6_number 137 = .ok (.aload_n 0, 1) := by decide +kernel
theorem dX6_number_138 : decode cX6_number 138 = .ok (.getfield 96, 3) := by decide +kernel
theorem dX6_number_141 : decode cX6_number 141 = .ok (.caload, 1) := by decide +kernel
theorem dX6_number_142 : decode cX6_number 142 = .ok (.iadd, 1) := by decide +kernel
theorem dX6_number_143 : decode cX6_number 143 = .ok (.bipush 48, 2) := by decide +kernel
theorem dX6_number_145 : decode cX6_number 145 = .ok (.isub, 1) := by decide +kernel
theorem dX6_number_146 : decode cX6_number 146 = .ok (.iastore, 1) := by decide +kernel
theorem dX6_number_147 : decode cX6_number 147 = .ok (.aload_n 0, 1) := by decide +kernel
theorem dX6_number_148 : decode cX6_number 148 = .ok (.dup, 1) := by decide +kernel
theorem dX6_number_149 : decode cX6_number 149 = .ok (.getfield 96, 3) := by decide +kernel
theorem dX6_number_152 : decode cX6_number 152 = .ok (.iconst 1, 1) := by decide +kernel
theorem dX6_number_153 : decode cX6_number 153 = .ok (.iadd, 1) := by decide +kernel
theorem dX6_number_154 : decode cX6_number 154 = .ok (.putfield 96, 3) := by decide +kernel
theorem dX6_number_157 : decode cX6_number 157 = .ok (.goto (-88), 3) := by decide +kernel
theorem dX6_number_160 : decode cX6_number 160 = .ok (.iconst 1, 1) := by decide +kernel
theorem dX6_number_161 : decode cX6_number 161 = .ok (.ireturn, 1) := by decide +kernel
theorem dX6_readsStream_0 : decode cX6_readsStream 0 = .ok (.aload_n 0, 1) := by decide +kernel
theorem dX6_readsStream_1 : decode cX6_readsStream 1 = .ok (.iconst 0, 1) := by decide +kernel
theorem dX6_readsStream_2 : decode cX6_readsStream 2 = .ok (.iconst 0, 1) := by decide +kernel
theorem dX6_readsStream_3 : decode cX6_readsStream 3 = .ok (.sipush 4095, 3) := by decide +kernel
theorem dX6_readsStream_6 : decode cX6_readsStream 6 = .ok (.invokevirtual 109, 3) := by decide +kernel
theorem dX6_readsStream_9 : decode cX6_readsStream 9 = .ok (.ifCond .eq 49, 3) := by decide +kernel
theorem dX6_readsStream_12 : decode cX6_readsStream 12 = .ok (.aload_n 0, 1) := by decide +kernel
theorem dX6_readsStream_13 : decode cX6_readsStream 13 = .ok (.bipush 43, 2) := by decide +kernel
theorem dX6_readsStream_15 : decode cX6_readsStream 15 = .ok (.invokevirtual 112, 3) := by decide +kernel
theorem dX6_readsStream_18 : decode cX6_readsStream 18 = .ok (.ifCond .eq 40, 3) := by decide +kernel
theorem dX6_readsStream_21 : decode cX6_readsStream 21 = .ok (.aload_n 0, 1) := by decide +kernel
theorem dX6_readsStream_22 : decode cX6_readsStream 22 = .ok (.iconst 1, 1) := by decide +kernel
theorem dX6_readsStream_23 : decode cX6_readsStream 23 = .ok (.iconst 0, 1) := by decide +kernel
theorem dX6_readsStream_24 : decode cX6_readsStream 24 = .ok (.sipush 1023, 3) := by decide +kernel
theorem dX6_readsStream_27 : decode cX6_readsStream 27 = .ok (.invokevirtual 109, 3) := by decide +kernel
theorem dX6_readsStream_30 : decode cX6_readsStream 30 = .ok (.ifCond .eq 28, 3) := by decide +kernel
theorem dX6_readsStream_33 : decode cX6_readsStream 33 = .ok (.aload_n 0, 1) := by decide +kernel
theorem dX6_readsStream_34 : decode cX6_readsStream 34 = .ok (.bipush 42, 2) := by decide +kernel
theorem dX6_readsStream_36 : decode cX6_readsStream 36 = .ok (.invokevirtual 112, 3) := by decide +kernel
theorem dX6_readsStream_39 : decode cX6_readsStream 39 = .ok (.ifCond .eq 19, 3) := by decide +kernel
theorem dX6_readsStream_42 : decode cX6_readsStream 42 = .ok (.aload_n 0, 1) := by decide +kernel
theorem dX6_readsStream_43 : decode cX6_readsStream 43 = .ok (.iconst 2, 1) := by decide +kernel
theorem dX6_readsStream_44 : decode cX6_readsStream 44 = .ok (.iconst 1, 1) := by decide +kernel
theorem dX6_readsStream_45 : decode cX6_readsStream 45 = .ok (.sipush 200, 3) := by decide +kernel
theorem dX6_readsStream_48 : decode cX6_readsStream 48 = .ok (.invokevirtual 109, 3) := by decide +kernel
theorem dX6_readsStream_51 : decode cX6_readsStream 51 = .ok (.ifCond .eq 7, 3) := by decide +kernel
theorem dX6_readsStream_54 : decode cX6_readsStream 54 = .ok (.iconst 1, 1) := by decide +kernel
theorem dX6_readsStream_55 : decode cX6_readsStream 55 = .ok (.goto 4, 3) := by decide +kernel
theorem dX6_readsStream_58 : decode cX6_readsStream 58 = .ok (.iconst 0, 1) := by decide +kernel
theorem dX6_readsStream_59 : decode cX6_readsStream 59 = .ok (.istore_n 1, 1) := by decide +kernel
theorem dX6_readsStream_60 : decode cX6_readsStream 60 = .ok (.aload_n 0, 1) := by decide +kernel
theorem dX6_readsStream_61 : decode cX6_readsStream 61 = .ok (.dup, 1) := by decide +kernel
theorem dX6_readsStream_62 : decode cX6_readsStream 62 = .ok (.getfield 106, 3) := by decide +kernel
theorem dX6_readsStream_65 : decode cX6_readsStream 65 = .ok (.iload_n 1, 1) := by decide +kernel
theorem dX6_readsStream_66 : decode cX6_readsStream 66 = .ok (.ifCond .eq 7, 3) := by decide +kernel
theorem dX6_readsStream_69 : decode cX6_readsStream 69 = .ok (.iconst 1, 1) := by decide +kernel
theorem dX6_readsStream_70 : decode cX6_readsStream 70 = .ok (.goto 4, 3) := by decide +kernel
theorem dX6_readsStream_73 : decode cX6_readsStream 73 = .ok (.iconst 0, 1) := by decide +kernel
theorem dX6_readsStream_74 : decode cX6_readsStream 74 = .ok (.iadd, 1) := by decide +kernel
theorem dX6_readsStream_75 : decode cX6_readsStream 75 = .ok (.putfield 106, 3) := by decide +kernel
theorem dX6_readsStream_78 : decode cX6_readsStream 78 = .ok (.iload_n 1, 1) := by decide +kernel
theorem dX6_readsStream_79 : decode cX6_readsStream 79 = .ok (.ireturn, 1) := by decide +kernel
theorem dX6_faultOf_0 : decode cX6_faultOf 0 = .ok (.aload_n 0, 1) := by decide +kernel
theorem dX6_faultOf_1 : decode cX6_faultOf 1 = .ok (.iconst 0, 1) := by decide +kernel
theorem dX6_faultOf_2 : decode cX6_faultOf 2 = .ok (.putfield 96, 3) := by decide +kernel
theorem dX6_faultOf_5 : decode cX6_faultOf 5 = .ok (.aload_n 0, 1) := by decide +kernel
theorem dX6_faultOf_6 : decode cX6_faultOf 6 = .ok (.iconst 0, 1) := by decide +kernel
theorem dX6_faultOf_7 : decode cX6_faultOf 7 = .ok (.putfield 106, 3) := by decide +kernel
theorem dX6_faultOf_10 : decode cX6_faultOf 10 = .ok (.aload_n 0, 1) := by decide +kernel
theorem dX6_faultOf_11 : decode cX6_faultOf 11 = .ok (.invokevirtual 116, 3) := by decide +kernel
theorem dX6_faultOf_14 : decode cX6_faultOf 14 = .ok (.istore_n 1, 1) := by decide +kernel
theorem dX6_faultOf_15 : decode cX6_faultOf 15 = .ok (.iload_n 1, 1) := by decide +kernel
theorem dX6_faultOf_16 : decode cX6_faultOf 16 = .ok (.ifCond .eq 39, 3) := by decide +kernel
theorem dX6_faultOf_19 : decode cX6_faultOf 19 = .ok (.aload_n 0, 1) := by decide +kernel
theorem dX6_faultOf_20 : decode cX6_faultOf 20 = .ok (.getfield 96, 3) := by decide +kernel
theorem dX6_faultOf_23 : decode cX6_faultOf 23 = .ok (.aload_n 0, 1) := by decide +kernel
theorem dX6_faultOf_24 : decode cX6_faultOf 24 = .ok (.getfield 99, 3) := by decide +kernel
theorem dX6_faultOf_27 : decode cX6_faultOf 27 = .ok (.if_icmp .ge 28, 3) := by decide +kernel
theorem dX6_faultOf_30 : decode cX6_faultOf 30 = .ok (.aload_n 0, 1) := by decide +kernel
theorem dX6_faultOf_31 : decode cX6_faultOf 31 = .ok (.bipush 59, 2) := by decide +kernel
theorem dX6_faultOf_33 : decode cX6_faultOf 33 = .ok (.invokevirtual 112, 3) := by decide +kernel
theorem dX6_faultOf_36 : decode cX6_faultOf 36 = .ok (.ifCond .eq 14, 3) := by decide +kernel
theorem dX6_faultOf_39 : decode cX6_faultOf 39 = .ok (.aload_n 0, 1) := by decide +kernel
theorem dX6_faultOf_40 : decode cX6_faultOf 40 = .ok (.invokevirtual 116, 3) := by decide +kernel
theorem dX6_faultOf_43 : decode cX6_faultOf 43 = .ok (.ifCond .eq 7, 3) := by decide +kernel
theorem dX6_faultOf_46 : decode cX6_faultOf 46 = .ok (.iconst 1, 1) := by decide +kernel
theorem dX6_faultOf_47 : decode cX6_faultOf 47 = .ok (.goto 4, 3) := by decide +kernel
theorem dX6_faultOf_50 : decode cX6_faultOf 50 = .ok (.iconst 0, 1) := by decide +kernel
theorem dX6_faultOf_51 : decode cX6_faultOf 51 = .ok (.istore_n 1, 1) := by decide +kernel
theorem dX6_faultOf_52 : decode cX6_faultOf 52 = .ok (.goto (-37), 3) := by decide +kernel
theorem dX6_faultOf_55 : decode cX6_faultOf 55 = .ok (.iload_n 1, 1) := by decide +kernel
theorem dX6_faultOf_56 : decode cX6_faultOf 56 = .ok (.ifCond .eq 7, 3) := by decide +kernel
theorem dX6_faultOf_59 : decode cX6_faultOf 59 = .ok (.iconst (-1), 1) := by decide +kernel
theorem dX6_faultOf_60 : decode cX6_faultOf 60 = .ok (.goto 7, 3) := by decide +kernel
theorem dX6_faultOf_63 : decode cX6_faultOf 63 = .ok (.aload_n 0, 1) := by decide +kernel
theorem dX6_faultOf_64 : decode cX6_faultOf 64 = .ok (.getfield 96, 3) := by decide +kernel
theorem dX6_faultOf_67 : decode cX6_faultOf 67 = .ok (.ireturn, 1) := by decide +kernel
theorem dX6_read_0 : decode cX6_read 0 = .ok (.aload_n 0, 1) := by decide +kernel
theorem dX6_read_1 : decode cX6_read 1 = .ok (.invokevirtual 120, 3) := by decide +kernel
theorem dX6_read_4 : decode cX6_read 4 = .ok (.ifCond .lt 6, 3) := by decide +kernel
theorem dX6_read_7 : decode cX6_read 7 = .ok (.bipush (-3), 2) := by decide +kernel
theorem dX6_read_9 : decode cX6_read 9 = .ok (.ireturn, 1) := by decide +kernel
theorem dX6_read_10 : decode cX6_read 10 = .ok (.aload_n 0, 1) := by decide +kernel
theorem dX6_read_11 : decode cX6_read 11 = .ok (.getfield 7, 3) := by decide +kernel
theorem dX6_read_14 : decode cX6_read 14 = .ok (.iconst 5, 1) := by decide +kernel
theorem dX6_read_15 : decode cX6_read 15 = .ok (.iaload, 1) := by decide +kernel
theorem dX6_read_16 : decode cX6_read 16 = .ok (.aload_n 0, 1) := by decide +kernel
theorem dX6_read_17 : decode cX6_read 17 = .ok (.getfield 106, 3) := by decide +kernel
theorem dX6_read_20 : decode cX6_read 20 = .ok (.iadd, 1) := by decide +kernel
theorem dX6_read_21 : decode cX6_read 21 = .ok (.iconst 4, 1) := by decide +kernel
theorem dX6_read_22 : decode cX6_read 22 = .ok (.if_icmp .le 6, 3) := by decide +kernel
theorem dX6_read_25 : decode cX6_read 25 = .ok (.bipush (-4), 2) := by decide +kernel
theorem dX6_read_27 : decode cX6_read 27 = .ok (.ireturn, 1) := by decide +kernel
theorem dX6_read_28 : decode cX6_read 28 = .ok (.aload_n 0, 1) := by decide +kernel
theorem dX6_read_29 : decode cX6_read 29 = .ok (.invokevirtual 79, 3) := by decide +kernel
theorem dX6_read_32 : decode cX6_read 32 = .ok (.iconst 0, 1) := by decide +kernel
theorem dX6_read_33 : decode cX6_read 33 = .ok (.istore_n 1, 1) := by decide +kernel
theorem dX6_read_34 : decode cX6_read 34 = .ok (.iload_n 1, 1) := by decide +kernel
theorem dX6_read_35 : decode cX6_read 35 = .ok (.aload_n 0, 1) := by decide +kernel
theorem dX6_read_36 : decode cX6_read 36 = .ok (.getfield 106, 3) := by decide +kernel
theorem dX6_read_39 : decode cX6_read 39 = .ok (.if_icmp .ge 42, 3) := by decide +kernel
theorem dX6_read_42 : decode cX6_read 42 = .ok (.aload_n 0, 1) := by decide +kernel
theorem dX6_read_43 : decode cX6_read 43 = .ok (.aload_n 0, 1) := by decide +kernel
theorem dX6_read_44 : decode cX6_read 44 = .ok (.getfield 29, 3) := by decide +kernel
theorem dX6_read_47 : decode cX6_read 47 = .ok (.iconst 3, 1) := by decide +kernel
theorem dX6_read_48 : decode cX6_read 48 = .ok (.iload_n 1, 1) := by decide +kernel
theorem dX6_read_49 : decode cX6_read 49 = .ok (.imul, 1) := by decide +kernel
theorem dX6_read_50 : decode cX6_read 50 = .ok (.iaload, 1) := by decide +kernel
theorem dX6_read_51 : decode cX6_read 51 = .ok (.aload_n 0, 1) := by decide +kernel
theorem dX6_read_52 : decode cX6_read 52 = .ok (.getfield 29, 3) := by decide +kernel
theorem dX6_read_55 : decode cX6_read 55 = .ok (.iconst 3, 1) := by decide +kernel
theorem dX6_read_56 : decode cX6_read 56 = .ok (.iload_n 1, 1) := by decide +kernel
theorem dX6_read_57 : decode cX6_read 57 = .ok (.imul, 1) := by decide +kernel
theorem dX6_read_58 : decode cX6_read 58 = .ok (.iconst 1, 1) := by decide +kernel
theorem dX6_read_59 : decode cX6_read 59 = .ok (.iadd, 1) := by decide +kernel
theorem dX6_read_60 : decode cX6_read 60 = .ok (.iaload, 1) := by decide +kernel
theorem dX6_read_61 : decode cX6_read 61 = .ok (.aload_n 0, 1) := by decide +kernel
theorem dX6_read_62 : decode cX6_read 62 = .ok (.getfield 29, 3) := by decide +kernel
theorem dX6_read_65 : decode cX6_read 65 = .ok (.iconst 3, 1) := by decide +kernel
theorem dX6_read_66 : decode cX6_read 66 = .ok (.iload_n 1, 1) := by decide +kernel
theorem dX6_read_67 : decode cX6_read 67 = .ok (.imul, 1) := by decide +kernel
theorem dX6_read_68 : decode cX6_read 68 = .ok (.iconst 2, 1) := by decide +kernel
theorem dX6_read_69 : decode cX6_read 69 = .ok (.iadd, 1) := by decide +kernel
theorem dX6_read_70 : decode cX6_read 70 = .ok (.iaload, 1) := by decide +kernel
theorem dX6_read_71 : decode cX6_read 71 = .ok (.invokevirtual 88, 3) := by decide +kernel
theorem dX6_read_74 : decode cX6_read 74 = .ok (.istore_n 2, 1) := by decide +kernel
theorem dX6_read_75 : decode cX6_read 75 = .ok (.iinc 1 1, 3) := by decide +kernel
theorem dX6_read_78 : decode cX6_read 78 = .ok (.goto (-44), 3) := by decide +kernel
theorem dX6_read_81 : decode cX6_read 81 = .ok (.aload_n 0, 1) := by decide +kernel
theorem dX6_read_82 : decode cX6_read 82 = .ok (.iconst 0, 1) := by decide +kernel
theorem dX6_read_83 : decode cX6_read 83 = .ok (.putfield 99, 3) := by decide +kernel
theorem dX6_read_86 : decode cX6_read 86 = .ok (.aload_n 0, 1) := by decide +kernel
theorem dX6_read_87 : decode cX6_read 87 = .ok (.aload_n 0, 1) := by decide +kernel
theorem dX6_read_88 : decode cX6_read 88 = .ok (.getfield 7, 3) := by decide +kernel
theorem dX6_read_91 : decode cX6_read 91 = .ok (.iconst 5, 1) := by decide +kernel
theorem dX6_read_92 : decode cX6_read 92 = .ok (.iaload, 1) := by decide +kernel
theorem dX6_read_93 : decode cX6_read 93 = .ok (.invokevirtual 85, 3) := by decide +kernel
theorem dX6_read_96 : decode cX6_read 96 = .ok (.ireturn, 1) := by decide +kernel
theorem dX6_bankOf_0 : decode cX6_bankOf 0 = .ok (.iload_n 1, 1) := by decide +kernel
theorem dX6_bankOf_1 : decode cX6_bankOf 1 = .ok (.iconst 0, 1) := by decide +kernel
theorem dX6_bankOf_2 : decode cX6_bankOf 2 = .ok (.sipush 4095, 3) := by decide +kernel
theorem dX6_bankOf_5 : decode cX6_bankOf 5 = .ok (.invokestatic 36, 3) := by decide +kernel
theorem dX6_bankOf_8 : decode cX6_bankOf 8 = .ok (.ifCond .eq 11, 3) := by decide +kernel
theorem dX6_bankOf_11 : decode cX6_bankOf 11 = .ok (.aload_n 0, 1) := by decide +kernel
theorem dX6_bankOf_12 : decode cX6_bankOf 12 = .ok (.iload_n 1, 1) := by decide +kernel
theorem dX6_bankOf_13 : decode cX6_bankOf 13 = .ok (.invokevirtual 56, 3) := by decide +kernel
theorem dX6_bankOf_16 : decode cX6_bankOf 16 = .ok (.goto 5, 3) := by decide +kernel
theorem dX6_bankOf_19 : decode cX6_bankOf 19 = .ok (.bipush (-2), 2) := by decide +kernel
theorem dX6_bankOf_21 : decode cX6_bankOf 21 = .ok (.ireturn, 1) := by decide +kernel
theorem dX6_meets_0 : decode cX6_meets 0 = .ok (.iload_n 1, 1) := by decide +kernel
theorem dX6_meets_1 : decode cX6_meets 1 = .ok (.invokestatic 52, 3) := by decide +kernel
theorem dX6_meets_4 : decode cX6_meets 4 = .ok (.istore_n 2, 1) := by decide +kernel
theorem dX6_meets_5 : decode cX6_meets 5 = .ok (.iconst 0, 1) := by decide +kernel
theorem dX6_meets_6 : decode cX6_meets 6 = .ok (.istore_n 3, 1) := by decide +kernel
theorem dX6_meets_7 : decode cX6_meets 7 = .ok (.iconst 0, 1) := by decide +kernel
theorem dX6_meets_8 : decode cX6_meets 8 = .ok (.istore 4, 2) := by decide +kernel
theorem dX6_meets_10 : decode cX6_meets 10 = .ok (.iload 4, 2) := by decide +kernel
theorem dX6_meets_12 : decode cX6_meets 12 = .ok (.aload_n 0, 1) := by decide +kernel
theorem dX6_meets_13 : decode cX6_meets 13 = .ok (.getfield 7, 3) := by decide +kernel
theorem dX6_meets_16 : decode cX6_meets 16 = .ok (.iload_n 2, 1) := by decide +kernel
theorem dX6_meets_17 : decode cX6_meets 17 = .ok (.iconst 2, 1) := by decide +kernel
theorem dX6_meets_18 : decode cX6_meets 18 = .ok (.iadd, 1) := by decide +kernel
theorem dX6_meets_19 : decode cX6_meets 19 = .ok (.iaload, 1) := by decide +kernel
theorem dX6_meets_20 : decode cX6_meets 20 = .ok (.if_icmp .ge 42, 3) := by decide +kernel
theorem dX6_meets_23 : decode cX6_meets 23 = .ok (.iload_n 3, 1) := by decide +kernel
theorem dX6_meets_24 : decode cX6_meets 24 = .ok (.iconst 1, 1) := by decide +kernel
theorem dX6_meets_25 : decode cX6_meets 25 = .ok (.aload_n 0, 1) := by decide +kernel
theorem dX6_meets_26 : decode cX6_meets 26 = .ok (.aload_n 0, 1) := by decide +kernel
theorem dX6_meets_27 : decode cX6_meets 27 = .ok (.getfield 7, 3) := by decide +kernel
theorem dX6_meets_30 : decode cX6_meets 30 = .ok (.iload_n 2, 1) := by decide +kernel
theorem dX6_meets_31 : decode cX6_meets 31 = .ok (.iconst 0, 1) := by decide +kernel
theorem dX6_meets_32 : decode cX6_meets 32 = .ok (.iadd, 1) := by decide +kernel
theorem dX6_meets_33 : decode cX6_meets 33 = .ok (.iaload, 1) := by decide +kernel
theorem dX6_meets_34 : decode cX6_meets 34 = .ok (.iload 4, 2) := by decide +kernel
theorem dX6_meets_36 : decode cX6_meets 36 = .ok (.aload_n 0, 1) := by decide +kernel
theorem dX6_meets_37 : decode cX6_meets 37 = .ok (.getfield 7, 3) := by decide +kernel
theorem dX6_meets_40 : decode cX6_meets 40 = .ok (.iload_n 2, 1) := by decide +kernel
theorem dX6_meets_41 : decode cX6_meets 41 = .ok (.iconst 1, 1) := by decide +kernel
theorem dX6_meets_42 : decode cX6_meets 42 = .ok (.iadd, 1) := by decide +kernel
theorem dX6_meets_43 : decode cX6_meets 43 = .ok (.iaload, 1) := by decide +kernel
theorem dX6_meets_44 : decode cX6_meets 44 = .ok (.imul, 1) := by decide +kernel
theorem dX6_meets_45 : decode cX6_meets 45 = .ok (.iadd, 1) := by decide +kernel
theorem dX6_meets_46 : decode cX6_meets 46 = .ok (.sipush 4096, 3) := by decide +kernel
theorem dX6_meets_49 : decode cX6_meets 49 = .ok (.irem, 1) := by decide +kernel
theorem dX6_meets_50 : decode cX6_meets 50 = .ok (.invokevirtual 56, 3) := by decide +kernel
theorem dX6_meets_53 : decode cX6_meets 53 = .ok (.ishl, 1) := by decide +kernel
theorem dX6_meets_54 : decode cX6_meets 54 = .ok (.ior, 1) := by decide +kernel
theorem dX6_meets_55 : decode cX6_meets 55 = .ok (.istore_n 3, 1) := by decide +kernel
theorem dX6_meets_56 : decode cX6_meets 56 = .ok (.iinc 4 1, 3) := by decide +kernel
theorem dX6_meets_59 : decode cX6_meets 59 = .ok (.goto (-49), 3) := by decide +kernel
theorem dX6_meets_62 : decode cX6_meets 62 = .ok (.iconst 0, 1) := by decide +kernel
theorem dX6_meets_63 : decode cX6_meets 63 = .ok (.istore 4, 2) := by decide +kernel
theorem dX6_meets_65 : decode cX6_meets 65 = .ok (.iconst 0, 1) := by decide +kernel
theorem dX6_meets_66 : decode cX6_meets 66 = .ok (.istore 5, 2) := by decide +kernel
theorem dX6_meets_68 : decode cX6_meets 68 = .ok (.iload 5, 2) := by decide +kernel
theorem dX6_meets_70 : decode cX6_meets 70 = .ok (.bipush 16, 2) := by decide +kernel
theorem dX6_meets_72 : decode cX6_meets 72 = .ok (.if_icmp .ge 20, 3) := by decide +kernel
theorem dX6_meets_75 : decode cX6_meets 75 = .ok (.iload 4, 2) := by decide +kernel
theorem dX6_meets_77 : decode cX6_meets 77 = .ok (.iload_n 3, 1) := by decide +kernel
theorem dX6_meets_78 : decode cX6_meets 78 = .ok (.iload 5, 2) := by decide +kernel
theorem dX6_meets_80 : decode cX6_meets 80 = .ok (.ishr, 1) := by decide +kernel
theorem dX6_meets_81 : decode cX6_meets 81 = .ok (.iconst 1, 1) := by decide +kernel
theorem dX6_meets_82 : decode cX6_meets 82 = .ok (.iand, 1) := by decide +kernel
theorem dX6_meets_83 : decode cX6_meets 83 = .ok (.iadd, 1) := by decide +kernel
theorem dX6_meets_84 : decode cX6_meets 84 = .ok (.istore 4, 2) := by decide +kernel
theorem dX6_meets_86 : decode cX6_meets 86 = .ok (.iinc 5 1, 3) := by decide +kernel
theorem dX6_meets_89 : decode cX6_meets 89 = .ok (.goto (-21), 3) := by decide +kernel
theorem dX6_meets_92 : decode cX6_meets 92 = .ok (.iload 4, 2) := by decide +kernel
theorem dX6_meets_94 : decode cX6_meets 94 = .ok (.ireturn, 1) := by decide +kernel
theorem dX6_stream_0 : decode cX6_stream 0 = .ok (.aload_n 0, 1) := by decide +kernel
theorem dX6_stream_1 : decode cX6_stream 1 = .ok (.iload_n 1, 1) := by decide +kernel
theorem dX6_stream_2 : decode cX6_stream 2 = .ok (.invokevirtual 92, 3) := by decide +kernel
theorem dX6_stream_5 : decode cX6_stream 5 = .ok (.ifCond .ne 5, 3) := by decide +kernel
theorem dX6_stream_8 : decode cX6_stream 8 = .ok (.iconst (-1), 1) := by decide +kernel
theorem dX6_stream_9 : decode cX6_stream 9 = .ok (.ireturn, 1) := by decide +kernel
theorem dX6_stream_10 : decode cX6_stream 10 = .ok (.iload_n 1, 1) := by decide +kernel
theorem dX6_stream_11 : decode cX6_stream 11 = .ok (.invokestatic 52, 3) := by decide +kernel
theorem dX6_stream_14 : decode cX6_stream 14 = .ok (.istore_n 3, 1) := by decide +kernel
theorem dX6_stream_15 : decode cX6_stream 15 = .ok (.iload_n 2, 1) := by decide +kernel
theorem dX6_stream_16 : decode cX6_stream 16 = .ok (.tableswitch 129 0 8 #[52, 52, 52, 52, 61, 86, 86, 97, 123], 52) := by decide +kernel
theorem dX6_stream_68 : decode cX6_stream 68 = .ok (.aload_n 0, 1) := by decide +kernel
theorem dX6_stream_69 : decode cX6_stream 69 = .ok (.getfield 7, 3) := by decide +kernel
theorem dX6_stream_72 : decode cX6_stream 72 = .ok (.iload_n 3, 1) := by decide +kernel
theorem dX6_stream_73 : decode cX6_stream 73 = .ok (.iload_n 2, 1) := by decide +kernel
theorem dX6_stream_74 : decode cX6_stream 74 = .ok (.iadd, 1) := by decide +kernel
theorem dX6_stream_75 : decode cX6_stream 75 = .ok (.iaload, 1) := by decide +kernel
theorem dX6_stream_76 : decode cX6_stream 76 = .ok (.ireturn, 1) := by decide +kernel
theorem dX6_stream_77 : decode cX6_stream 77 = .ok (.aload_n 0, 1) := by decide +kernel
theorem dX6_stream_78 : decode cX6_stream 78 = .ok (.getfield 7, 3) := by decide +kernel
theorem dX6_stream_81 : decode cX6_stream 81 = .ok (.iload_n 3, 1) := by decide +kernel
theorem dX6_stream_82 : decode cX6_stream 82 = .ok (.iconst 3, 1) := by decide +kernel
theorem dX6_stream_83 : decode cX6_stream 83 = .ok (.iadd, 1) := by decide +kernel
theorem dX6_stream_84 : decode cX6_stream 84 = .ok (.iaload, 1) := by decide +kernel
theorem dX6_stream_85 : decode cX6_stream 85 = .ok (.ifCond .ne 8, 3) := by decide +kernel
theorem dX6_stream_88 : decode cX6_stream 88 = .ok (.bipush (-6), 2) := by decide +kernel
theorem dX6_stream_90 : decode cX6_stream 90 = .ok (.goto 11, 3) := by decide +kernel
theorem dX6_stream_93 : decode cX6_stream 93 = .ok (.aload_n 0, 1) := by decide +kernel
theorem dX6_stream_94 : decode cX6_stream 94 = .ok (.getfield 7, 3) := by decide +kernel
theorem dX6_stream_97 : decode cX6_stream 97 = .ok (.iload_n 3, 1) := by decide +kernel
theorem dX6_stream_98 : decode cX6_stream 98 = .ok (.iconst 4, 1) := by decide +kernel
theorem dX6_stream_99 : decode cX6_stream 99 = .ok (.iadd, 1) := by decide +kernel
theorem dX6_stream_100 : decode cX6_stream 100 = .ok (.iaload, 1) := by decide +kernel
theorem dX6_stream_101 : decode cX6_stream 101 = .ok (.ireturn, 1) := by decide +kernel
theorem dX6_stream_102 : decode cX6_stream 102 = .ok (.aload_n 0, 1) := by decide +kernel
theorem dX6_stream_103 : decode cX6_stream 103 = .ok (.getfield 7, 3) := by decide +kernel
theorem dX6_stream_106 : decode cX6_stream 106 = .ok (.iload_n 3, 1) := by decide +kernel
theorem dX6_stream_107 : decode cX6_stream 107 = .ok (.iload_n 2, 1) := by decide +kernel
theorem dX6_stream_108 : decode cX6_stream 108 = .ok (.iadd, 1) := by decide +kernel
theorem dX6_stream_109 : decode cX6_stream 109 = .ok (.iconst 1, 1) := by decide +kernel
theorem dX6_stream_110 : decode cX6_stream 110 = .ok (.iadd, 1) := by decide +kernel
theorem dX6_stream_111 : decode cX6_stream 111 = .ok (.iaload, 1) := by decide +kernel
theorem dX6_stream_112 : decode cX6_stream 112 = .ok (.ireturn, 1) := by decide +kernel
theorem dX6_stream_113 : decode cX6_stream 113 = .ok (.aload_n 0, 1) := by decide +kernel
theorem dX6_stream_114 : decode cX6_stream 114 = .ok (.getfield 7, 3) := by decide +kernel
theorem dX6_stream_117 : decode cX6_stream 117 = .ok (.iload_n 3, 1) := by decide +kernel
theorem dX6_stream_118 : decode cX6_stream 118 = .ok (.iconst 3, 1) := by decide +kernel
theorem dX6_stream_119 : decode cX6_stream 119 = .ok (.iadd, 1) := by decide +kernel
theorem dX6_stream_120 : decode cX6_stream 120 = .ok (.iaload, 1) := by decide +kernel
theorem dX6_stream_121 : decode cX6_stream 121 = .ok (.ifCond .ne 15, 3) := by decide +kernel
theorem dX6_stream_124 : decode cX6_stream 124 = .ok (.aload_n 0, 1) := by decide +kernel
theorem dX6_stream_125 : decode cX6_stream 125 = .ok (.getfield 7, 3) := by decide +kernel
theorem dX6_stream_128 : decode cX6_stream 128 = .ok (.iload_n 3, 1) := by decide +kernel
theorem dX6_stream_129 : decode cX6_stream 129 = .ok (.bipush 8, 2) := by decide +kernel
theorem dX6_stream_131 : decode cX6_stream 131 = .ok (.iadd, 1) := by decide +kernel
theorem dX6_stream_132 : decode cX6_stream 132 = .ok (.iaload, 1) := by decide +kernel
theorem dX6_stream_133 : decode cX6_stream 133 = .ok (.goto 5, 3) := by decide +kernel
theorem dX6_stream_136 : decode cX6_stream 136 = .ok (.bipush (-6), 2) := by decide +kernel
theorem dX6_stream_138 : decode cX6_stream 138 = .ok (.ireturn, 1) := by decide +kernel
theorem dX6_stream_139 : decode cX6_stream 139 = .ok (.aload_n 0, 1) := by decide +kernel
theorem dX6_stream_140 : decode cX6_stream 140 = .ok (.iload_n 1, 1) := by decide +kernel
theorem dX6_stream_141 : decode cX6_stream 141 = .ok (.invokevirtual 123, 3) := by decide +kernel
theorem dX6_stream_144 : decode cX6_stream 144 = .ok (.ireturn, 1) := by decide +kernel
theorem dX6_stream_145 : decode cX6_stream 145 = .ok (.bipush (-2), 2) := by decide +kernel
theorem dX6_stream_147 : decode cX6_stream 147 = .ok (.ireturn, 1) := by decide +kernel
theorem dX6_wordsIn_0 : decode cX6_wordsIn 0 = .ok (.iconst 0, 1) := by decide +kernel
theorem dX6_wordsIn_1 : decode cX6_wordsIn 1 = .ok (.istore_n 2, 1) := by decide +kernel
theorem dX6_wordsIn_2 : decode cX6_wordsIn 2 = .ok (.iconst 0, 1) := by decide +kernel
theorem dX6_wordsIn_3 : decode cX6_wordsIn 3 = .ok (.istore_n 3, 1) := by decide +kernel
theorem dX6_wordsIn_4 : decode cX6_wordsIn 4 = .ok (.iload_n 3, 1) := by decide +kernel
theorem dX6_wordsIn_5 : decode cX6_wordsIn 5 = .ok (.aload_n 0, 1) := by decide +kernel
theorem dX6_wordsIn_6 : decode cX6_wordsIn 6 = .ok (.getfield 7, 3) := by decide +kernel
theorem dX6_wordsIn_9 : decode cX6_wordsIn 9 = .ok (.iconst 5, 1) := by decide +kernel
theorem dX6_wordsIn_10 : decode cX6_wordsIn 10 = .ok (.iaload, 1) := by decide +kernel
theorem dX6_wordsIn_11 : decode cX6_wordsIn 11 = .ok (.if_icmp .ge 80, 3) := by decide +kernel
theorem dX6_wordsIn_14 : decode cX6_wordsIn 14 = .ok (.iload_n 3, 1) := by decide +kernel
theorem dX6_wordsIn_15 : decode cX6_wordsIn 15 = .ok (.invokestatic 52, 3) := by decide +kernel
theorem dX6_wordsIn_18 : decode cX6_wordsIn 18 = .ok (.istore 4, 2) := by decide +kernel
theorem dX6_wordsIn_20 : decode cX6_wordsIn 20 = .ok (.iconst 0, 1) := by decide +kernel
theorem dX6_wordsIn_21 : decode cX6_wordsIn 21 = .ok (.istore 5, 2) := by decide +kernel
theorem dX6_wordsIn_23 : decode cX6_wordsIn 23 = .ok (.iload 5, 2) := by decide +kernel
theorem dX6_wordsIn_25 : decode cX6_wordsIn 25 = .ok (.aload_n 0, 1) := by decide +kernel
theorem dX6_wordsIn_26 : decode cX6_wordsIn 26 = .ok (.getfield 7, 3) := by decide +kernel
theorem dX6_wordsIn_29 : decode cX6_wordsIn 29 = .ok (.iload 4, 2) := by decide +kernel
theorem dX6_wordsIn_31 : decode cX6_wordsIn 31 = .ok (.iconst 3, 1) := by decide +kernel
theorem dX6_wordsIn_32 : decode cX6_wordsIn 32 = .ok (.iadd, 1) := by decide +kernel
theorem dX6_wordsIn_33 : decode cX6_wordsIn 33 = .ok (.iaload, 1) := by decide +kernel
theorem dX6_wordsIn_34 : decode cX6_wordsIn 34 = .ok (.if_icmp .ge 51, 3) := by decide +kernel
theorem dX6_wordsIn_37 : decode cX6_wordsIn 37 = .ok (.iload_n 2, 1) := by decide +kernel
theorem dX6_wordsIn_38 : decode cX6_wordsIn 38 = .ok (.aload_n 0, 1) := by decide +kernel
theorem dX6_wordsIn_39 : decode cX6_wordsIn 39 = .ok (.aload_n 0, 1) := by decide +kernel
theorem dX6_wordsIn_40 : decode cX6_wordsIn 40 = .ok (.getfield 7, 3) := by decide +kernel
theorem dX6_wordsIn_43 : decode cX6_wordsIn 43 = .ok (.iload 4, 2) := by decide +kernel
theorem dX6_wordsIn_45 : decode cX6_wordsIn 45 = .ok (.iconst 4, 1) := by decide +kernel
theorem dX6_wordsIn_46 : decode cX6_wordsIn 46 = .ok (.iadd, 1) := by decide +kernel
theorem dX6_wordsIn_47 : decode cX6_wordsIn 47 = .ok (.iaload, 1) := by decide +kernel
theorem dX6_wordsIn_48 : decode cX6_wordsIn 48 = .ok (.iload 5, 2) := by decide +kernel
theorem dX6_wordsIn_50 : decode cX6_wordsIn 50 = .ok (.aload_n 0, 1) := by decide +kernel
theorem dX6_wordsIn_51 : decode cX6_wordsIn 51 = .ok (.getfield 7, 3) := by decide +kernel
theorem dX6_wordsIn_54 : decode cX6_wordsIn 54 = .ok (.iload 4, 2) := by decide +kernel
theorem dX6_wordsIn_56 : decode cX6_wordsIn 56 = .ok (.iconst 1, 1) := by decide +kernel
theorem dX6_wordsIn_57 : decode cX6_wordsIn 57 = .ok (.iadd, 1) := by decide +kernel
theorem dX6_wordsIn_58 : decode cX6_wordsIn 58 = .ok (.iaload, 1) := by decide +kernel
theorem dX6_wordsIn_59 : decode cX6_wordsIn 59 = .ok (.imul, 1) := by decide +kernel
theorem dX6_wordsIn_60 : decode cX6_wordsIn 60 = .ok (.iadd, 1) := by decide +kernel
theorem dX6_wordsIn_61 : decode cX6_wordsIn 61 = .ok (.sipush 4096, 3) := by decide +kernel
theorem dX6_wordsIn_64 : decode cX6_wordsIn 64 = .ok (.irem, 1) := by decide +kernel
theorem dX6_wordsIn_65 : decode cX6_wordsIn 65 = .ok (.invokevirtual 56, 3) := by decide +kernel
theorem dX6_wordsIn_68 : decode cX6_wordsIn 68 = .ok (.iload_n 1, 1) := by decide +kernel
theorem dX6_wordsIn_69 : decode cX6_wordsIn 69 = .ok (.if_icmp .ne 7, 3) := by decide +kernel
theorem dX6_wordsIn_72 : decode cX6_wordsIn 72 = .ok (.iconst 1, 1) := by decide +kernel
theorem dX6_wordsIn_73 : decode cX6_wordsIn 73 = .ok (.goto 4, 3) := by decide +kernel
theorem dX6_wordsIn_76 : decode cX6_wordsIn 76 = .ok (.iconst 0, 1) := by decide +kernel
theorem dX6_wordsIn_77 : decode cX6_wordsIn 77 = .ok (.iadd, 1) := by decide +kernel
theorem dX6_wordsIn_78 : decode cX6_wordsIn 78 = .ok (.istore_n 2, 1) := by decide +kernel
theorem dX6_wordsIn_79 : decode cX6_wordsIn 79 = .ok (.iinc 5 1, 3) := by decide +kernel
theorem dX6_wordsIn_82 : decode cX6_wordsIn 82 = .ok (.goto (-59), 3) := by decide +kernel
theorem dX6_wordsIn_85 : decode cX6_wordsIn 85 = .ok (.iinc 3 1, 3) := by decide +kernel
theorem dX6_wordsIn_88 : decode cX6_wordsIn 88 = .ok (.goto (-84), 3) := by decide +kernel
theorem dX6_wordsIn_91 : decode cX6_wordsIn 91 = .ok (.iload_n 2, 1) := by decide +kernel
theorem dX6_wordsIn_92 : decode cX6_wordsIn 92 = .ok (.ireturn, 1) := by decide +kernel
theorem dX6_busy_0 : decode cX6_busy 0 = .ok (.aload_n 0, 1) := by decide +kernel
theorem dX6_busy_1 : decode cX6_busy 1 = .ok (.getfield 7, 3) := by decide +kernel
theorem dX6_busy_4 : decode cX6_busy 4 = .ok (.iload_n 1, 1) := by decide +kernel
theorem dX6_busy_5 : decode cX6_busy 5 = .ok (.invokestatic 59, 3) := by decide +kernel
theorem dX6_busy_8 : decode cX6_busy 8 = .ok (.iconst 0, 1) := by decide +kernel
theorem dX6_busy_9 : decode cX6_busy 9 = .ok (.iadd, 1) := by decide +kernel
theorem dX6_busy_10 : decode cX6_busy 10 = .ok (.iaload, 1) := by decide +kernel
theorem dX6_busy_11 : decode cX6_busy 11 = .ok (.aload_n 0, 1) := by decide +kernel
theorem dX6_busy_12 : decode cX6_busy 12 = .ok (.getfield 7, 3) := by decide +kernel
theorem dX6_busy_15 : decode cX6_busy 15 = .ok (.iconst 4, 1) := by decide +kernel
theorem dX6_busy_16 : decode cX6_busy 16 = .ok (.iaload, 1) := by decide +kernel
theorem dX6_busy_17 : decode cX6_busy 17 = .ok (.isub, 1) := by decide +kernel
theorem dX6_busy_18 : decode cX6_busy 18 = .ok (.istore_n 2, 1) := by decide +kernel
theorem dX6_busy_19 : decode cX6_busy 19 = .ok (.iload_n 2, 1) := by decide +kernel
theorem dX6_busy_20 : decode cX6_busy 20 = .ok (.ifCond .le 7, 3) := by decide +kernel
theorem dX6_busy_23 : decode cX6_busy 23 = .ok (.iload_n 2, 1) := by decide +kernel
theorem dX6_busy_24 : decode cX6_busy 24 = .ok (.goto 4, 3) := by decide +kernel
theorem dX6_busy_27 : decode cX6_busy 27 = .ok (.iconst 0, 1) := by decide +kernel
theorem dX6_busy_28 : decode cX6_busy 28 = .ok (.ireturn, 1) := by decide +kernel
theorem dX6_bank_0 : decode cX6_bank 0 = .ok (.iload_n 1, 1) := by decide +kernel
theorem dX6_bank_1 : decode cX6_bank 1 = .ok (.iconst 0, 1) := by decide +kernel
theorem dX6_bank_2 : decode cX6_bank 2 = .ok (.aload_n 0, 1) := by decide +kernel
theorem dX6_bank_3 : decode cX6_bank 3 = .ok (.getfield 7, 3) := by decide +kernel
theorem dX6_bank_6 : decode cX6_bank 6 = .ok (.iconst 0, 1) := by decide +kernel
theorem dX6_bank_7 : decode cX6_bank 7 = .ok (.iaload, 1) := by decide +kernel
theorem dX6_bank_8 : decode cX6_bank 8 = .ok (.iconst 1, 1) := by decide +kernel
theorem dX6_bank_9 : decode cX6_bank 9 = .ok (.isub, 1) := by decide +kernel
theorem dX6_bank_10 : decode cX6_bank 10 = .ok (.invokestatic 36, 3) := by decide +kernel
theorem dX6_bank_13 : decode cX6_bank 13 = .ok (.ifCond .ne 5, 3) := by decide +kernel
theorem dX6_bank_16 : decode cX6_bank 16 = .ok (.iconst (-1), 1) := by decide +kernel
theorem dX6_bank_17 : decode cX6_bank 17 = .ok (.ireturn, 1) := by decide +kernel
theorem dX6_bank_18 : decode cX6_bank 18 = .ok (.iload_n 2, 1) := by decide +kernel
theorem dX6_bank_19 : decode cX6_bank 19 = .ok (.tableswitch 55 0 3 #[29, 35, 35, 49], 29) := by decide +kernel
theorem dX6_bank_48 : decode cX6_bank 48 = .ok (.aload_n 0, 1) := by decide +kernel
theorem dX6_bank_49 : decode cX6_bank 49 = .ok (.iload_n 1, 1) := by decide +kernel
theorem dX6_bank_50 : decode cX6_bank 50 = .ok (.invokevirtual 126, 3) := by decide +kernel
theorem dX6_bank_53 : decode cX6_bank 53 = .ok (.ireturn, 1) := by decide +kernel
theorem dX6_bank_54 : decode cX6_bank 54 = .ok (.aload_n 0, 1) := by decide +kernel
theorem dX6_bank_55 : decode cX6_bank 55 = .ok (.getfield 7, 3) := by decide +kernel
theorem dX6_bank_58 : decode cX6_bank 58 = .ok (.iload_n 1, 1) := by decide +kernel
theorem dX6_bank_59 : decode cX6_bank 59 = .ok (.invokestatic 59, 3) := by decide +kernel
theorem dX6_bank_62 : decode cX6_bank 62 = .ok (.iload_n 2, 1) := by decide +kernel
theorem dX6_bank_63 : decode cX6_bank 63 = .ok (.iadd, 1) := by decide +kernel
theorem dX6_bank_64 : decode cX6_bank 64 = .ok (.iconst 1, 1) := by decide +kernel
theorem dX6_bank_65 : decode cX6_bank 65 = .ok (.iadd, 1) := by decide +kernel
theorem dX6_bank_66 : decode cX6_bank 66 = .ok (.iaload, 1) := by decide +kernel
theorem dX6_bank_67 : decode cX6_bank 67 = .ok (.ireturn, 1) := by decide +kernel
theorem dX6_bank_68 : decode cX6_bank 68 = .ok (.aload_n 0, 1) := by decide +kernel
theorem dX6_bank_69 : decode cX6_bank 69 = .ok (.iload_n 1, 1) := by decide +kernel
theorem dX6_bank_70 : decode cX6_bank 70 = .ok (.invokevirtual 129, 3) := by decide +kernel
theorem dX6_bank_73 : decode cX6_bank 73 = .ok (.ireturn, 1) := by decide +kernel
theorem dX6_bank_74 : decode cX6_bank 74 = .ok (.bipush (-2), 2) := by decide +kernel
theorem dX6_bank_76 : decode cX6_bank 76 = .ok (.ireturn, 1) := by decide +kernel
theorem dX6_ofStreams_0 : decode cX6_ofStreams 0 = .ok (.iconst 0, 1) := by decide +kernel
theorem dX6_ofStreams_1 : decode cX6_ofStreams 1 = .ok (.istore_n 2, 1) := by decide +kernel
theorem dX6_ofStreams_2 : decode cX6_ofStreams 2 = .ok (.iconst 0, 1) := by decide +kernel
theorem dX6_ofStreams_3 : decode cX6_ofStreams 3 = .ok (.istore_n 3, 1) := by decide +kernel
theorem dX6_ofStreams_4 : decode cX6_ofStreams 4 = .ok (.iload_n 3, 1) := by decide +kernel
theorem dX6_ofStreams_5 : decode cX6_ofStreams 5 = .ok (.aload_n 0, 1) := by decide +kernel
theorem dX6_ofStreams_6 : decode cX6_ofStreams 6 = .ok (.getfield 7, 3) := by decide +kernel
theorem dX6_ofStreams_9 : decode cX6_ofStreams 9 = .ok (.iconst 5, 1) := by decide +kernel
theorem dX6_ofStreams_10 : decode cX6_ofStreams 10 = .ok (.iaload, 1) := by decide +kernel
theorem dX6_ofStreams_11 : decode cX6_ofStreams 11 = .ok (.if_icmp .ge 75, 3) := by decide +kernel
theorem dX6_ofStreams_14 : decode cX6_ofStreams 14 = .ok (.iload_n 3, 1) := by decide +kernel
theorem dX6_ofStreams_15 : decode cX6_ofStreams 15 = .ok (.invokestatic 52, 3) := by decide +kernel
theorem dX6_ofStreams_18 : decode cX6_ofStreams 18 = .ok (.istore 4, 2) := by decide +kernel
theorem dX6_ofStreams_20 : decode cX6_ofStreams 20 = .ok (.iload_n 2, 1) := by decide +kernel
theorem dX6_ofStreams_21 : decode cX6_ofStreams 21 = .ok (.iload_n 1, 1) := by decide +kernel
theorem dX6_ofStreams_22 : decode cX6_ofStreams 22 = .ok (.bipush 7, 2) := by decide +kernel
theorem dX6_ofStreams_24 : decode cX6_ofStreams 24 = .ok (.if_icmp .ne 25, 3) := by decide +kernel
theorem dX6_ofStreams_27 : decode cX6_ofStreams 27 = .ok (.aload_n 0, 1) := by decide +kernel
theorem dX6_ofStreams_28 : decode cX6_ofStreams 28 = .ok (.getfield 7, 3) := by decide +kernel
theorem dX6_ofStreams_31 : decode cX6_ofStreams 31 = .ok (.iload 4, 2) := by decide +kernel
theorem dX6_ofStreams_33 : decode cX6_ofStreams 33 = .ok (.iconst 2, 1) := by decide +kernel
theorem dX6_ofStreams_34 : decode cX6_ofStreams 34 = .ok (.iadd, 1) := by decide +kernel
theorem dX6_ofStreams_35 : decode cX6_ofStreams 35 = .ok (.iaload, 1) := by decide +kernel
theorem dX6_ofStreams_36 : decode cX6_ofStreams 36 = .ok (.aload_n 0, 1) := by decide +kernel
theorem dX6_ofStreams_37 : decode cX6_ofStreams 37 = .ok (.getfield 7, 3) := by decide +kernel
theorem dX6_ofStreams_40 : decode cX6_ofStreams 40 = .ok (.iload 4, 2) := by decide +kernel
theorem dX6_ofStreams_42 : decode cX6_ofStreams 42 = .ok (.iconst 3, 1) := by decide +kernel
theorem dX6_ofStreams_43 : decode cX6_ofStreams 43 = .ok (.iadd, 1) := by decide +kernel
theorem dX6_ofStreams_44 : decode cX6_ofStreams 44 = .ok (.iaload, 1) := by decide +kernel
theorem dX6_ofStreams_45 : decode cX6_ofStreams 45 = .ok (.isub, 1) := by decide +kernel
theorem dX6_ofStreams_46 : decode cX6_ofStreams 46 = .ok (.goto 32, 3) := by decide +kernel
theorem dX6_ofStreams_49 : decode cX6_ofStreams 49 = .ok (.iload_n 1, 1) := by decide +kernel
theorem dX6_ofStreams_50 : decode cX6_ofStreams 50 = .ok (.bipush 8, 2) := by decide +kernel
theorem dX6_ofStreams_52 : decode cX6_ofStreams 52 = .ok (.if_icmp .ne 16, 3) := by decide +kernel
theorem dX6_ofStreams_55 : decode cX6_ofStreams 55 = .ok (.aload_n 0, 1) := by decide +kernel
theorem dX6_ofStreams_56 : decode cX6_ofStreams 56 = .ok (.getfield 7, 3) := by decide +kernel
theorem dX6_ofStreams_59 : decode cX6_ofStreams 59 = .ok (.iload 4, 2) := by decide +kernel
theorem dX6_ofStreams_61 : decode cX6_ofStreams 61 = .ok (.bipush 6, 2) := by decide +kernel
theorem dX6_ofStreams_63 : decode cX6_ofStreams 63 = .ok (.iadd, 1) := by decide +kernel
theorem dX6_ofStreams_64 : decode cX6_ofStreams 64 = .ok (.iaload, 1) := by decide +kernel
theorem dX6_ofStreams_65 : decode cX6_ofStreams 65 = .ok (.goto 13, 3) := by decide +kernel
theorem dX6_ofStreams_68 : decode cX6_ofStreams 68 = .ok (.aload_n 0, 1) := by decide +kernel
theorem dX6_ofStreams_69 : decode cX6_ofStreams 69 = .ok (.getfield 7, 3) := by decide +kernel
theorem dX6_ofStreams_72 : decode cX6_ofStreams 72 = .ok (.iload 4, 2) := by decide +kernel
theorem dX6_ofStreams_74 : decode cX6_ofStreams 74 = .ok (.bipush 7, 2) := by decide +kernel
theorem dX6_ofStreams_76 : decode cX6_ofStreams 76 = .ok (.iadd, 1) := by decide +kernel
theorem dX6_ofStreams_77 : decode cX6_ofStreams 77 = .ok (.iaload, 1) := by decide +kernel
theorem dX6_ofStreams_78 : decode cX6_ofStreams 78 = .ok (.iadd, 1) := by decide +kernel
theorem dX6_ofStreams_79 : decode cX6_ofStreams 79 = .ok (.istore_n 2, 1) := by decide +kernel
theorem dX6_ofStreams_80 : decode cX6_ofStreams 80 = .ok (.iinc 3 1, 3) := by decide +kernel
theorem dX6_ofStreams_83 : decode cX6_ofStreams 83 = .ok (.goto (-79), 3) := by decide +kernel
theorem dX6_ofStreams_86 : decode cX6_ofStreams 86 = .ok (.iload_n 2, 1) := by decide +kernel
theorem dX6_ofStreams_87 : decode cX6_ofStreams 87 = .ok (.ireturn, 1) := by decide +kernel
theorem dX6_busyBanks_0 : decode cX6_busyBanks 0 = .ok (.iconst 0, 1) := by decide +kernel
theorem dX6_busyBanks_1 : decode cX6_busyBanks 1 = .ok (.istore_n 1, 1) := by decide +kernel
theorem dX6_busyBanks_2 : decode cX6_busyBanks 2 = .ok (.iconst 0, 1) := by decide +kernel
theorem dX6_busyBanks_3 : decode cX6_busyBanks 3 = .ok (.istore_n 2, 1) := by decide +kernel
theorem dX6_busyBanks_4 : decode cX6_busyBanks 4 = .ok (.iload_n 2, 1) := by decide +kernel
theorem dX6_busyBanks_5 : decode cX6_busyBanks 5 = .ok (.aload_n 0, 1) := by decide +kernel
theorem dX6_busyBanks_6 : decode cX6_busyBanks 6 = .ok (.getfield 7, 3) := by decide +kernel
theorem dX6_busyBanks_9 : decode cX6_busyBanks 9 = .ok (.iconst 0, 1) := by decide +kernel
theorem dX6_busyBanks_10 : decode cX6_busyBanks 10 = .ok (.iaload, 1) := by decide +kernel
theorem dX6_busyBanks_11 : decode cX6_busyBanks 11 = .ok (.if_icmp .ge 25, 3) := by decide +kernel
theorem dX6_busyBanks_14 : decode cX6_busyBanks 14 = .ok (.iload_n 1, 1) := by decide +kernel
theorem dX6_busyBanks_15 : decode cX6_busyBanks 15 = .ok (.aload_n 0, 1) := by decide +kernel
theorem dX6_busyBanks_16 : decode cX6_busyBanks 16 = .ok (.iload_n 2, 1) := by decide +kernel
theorem dX6_busyBanks_17 : decode cX6_busyBanks 17 = .ok (.invokevirtual 126, 3) := by decide +kernel
theorem dX6_busyBanks_20 : decode cX6_busyBanks 20 = .ok (.ifCond .le 7, 3) := by decide +kernel
theorem dX6_busyBanks_23 : decode cX6_busyBanks 23 = .ok (.iconst 1, 1) := by decide +kernel
theorem dX6_busyBanks_24 : decode cX6_busyBanks 24 = .ok (.goto 4, 3) := by decide +kernel
theorem dX6_busyBanks_27 : decode cX6_busyBanks 27 = .ok (.iconst 0, 1) := by decide +kernel
theorem dX6_busyBanks_28 : decode cX6_busyBanks 28 = .ok (.iadd, 1) := by decide +kernel
theorem dX6_busyBanks_29 : decode cX6_busyBanks 29 = .ok (.istore_n 1, 1) := by decide +kernel
theorem dX6_busyBanks_30 : decode cX6_busyBanks 30 = .ok (.iinc 2 1, 3) := by decide +kernel
theorem dX6_busyBanks_33 : decode cX6_busyBanks 33 = .ok (.goto (-29), 3) := by decide +kernel
theorem dX6_busyBanks_36 : decode cX6_busyBanks 36 = .ok (.iload_n 1, 1) := by decide +kernel
theorem dX6_busyBanks_37 : decode cX6_busyBanks 37 = .ok (.ireturn, 1) := by decide +kernel
theorem dX6_count_0 : decode cX6_count 0 = .ok (.iload_n 1, 1) := by decide +kernel
theorem dX6_count_1 : decode cX6_count 1 = .ok (.iconst 0, 1) := by decide +kernel
theorem dX6_count_2 : decode cX6_count 2 = .ok (.iconst 5, 1) := by decide +kernel
theorem dX6_count_3 : decode cX6_count 3 = .ok (.invokestatic 36, 3) := by decide +kernel
theorem dX6_count_6 : decode cX6_count 6 = .ok (.ifCond .eq 10, 3) := by decide +kernel
theorem dX6_count_9 : decode cX6_count 9 = .ok (.aload_n 0, 1) := by decide +kernel
theorem dX6_count_10 : decode cX6_count 10 = .ok (.getfield 7, 3) := by decide +kernel
theorem dX6_count_13 : decode cX6_count 13 = .ok (.iload_n 1, 1) := by decide +kernel
theorem dX6_count_14 : decode cX6_count 14 = .ok (.iaload, 1) := by decide +kernel
theorem dX6_count_15 : decode cX6_count 15 = .ok (.ireturn, 1) := by decide +kernel
theorem dX6_count_16 : decode cX6_count 16 = .ok (.iload_n 1, 1) := by decide +kernel
theorem dX6_count_17 : decode cX6_count 17 = .ok (.tableswitch 78 6 13 #[47, 52, 52, 52, 58, 63, 68, 73], 47) := by decide +kernel
theorem dX6_count_64 : decode cX6_count 64 = .ok (.aload_n 0, 1) := by decide +kernel
theorem dX6_count_65 : decode cX6_count 65 = .ok (.invokevirtual 69, 3) := by decide +kernel
theorem dX6_count_68 : decode cX6_count 68 = .ok (.ireturn, 1) := by decide +kernel
theorem dX6_count_69 : decode cX6_count 69 = .ok (.aload_n 0, 1) := by decide +kernel
theorem dX6_count_70 : decode cX6_count 70 = .ok (.iload_n 1, 1) := by decide +kernel
theorem dX6_count_71 : decode cX6_count 71 = .ok (.invokevirtual 132, 3) := by decide +kernel
theorem dX6_count_74 : decode cX6_count 74 = .ok (.ireturn, 1) := by decide +kernel
theorem dX6_count_75 : decode cX6_count 75 = .ok (.aload_n 0, 1) := by decide +kernel
theorem dX6_count_76 : decode cX6_count 76 = .ok (.invokevirtual 135, 3) := by decide +kernel
theorem dX6_count_79 : decode cX6_count 79 = .ok (.ireturn, 1) := by decide +kernel
theorem dX6_count_80 : decode cX6_count 80 = .ok (.aload_n 0, 1) := by decide +kernel
theorem dX6_count_81 : decode cX6_count 81 = .ok (.invokevirtual 48, 3) := by decide +kernel
theorem dX6_count_84 : decode cX6_count 84 = .ok (.ireturn, 1) := by decide +kernel
theorem dX6_count_85 : decode cX6_count 85 = .ok (.aload_n 0, 1) := by decide +kernel
theorem dX6_count_86 : decode cX6_count 86 = .ok (.getfield 99, 3) := by decide +kernel
theorem dX6_count_89 : decode cX6_count 89 = .ok (.ireturn, 1) := by decide +kernel
theorem dX6_count_90 : decode cX6_count 90 = .ok (.aload_n 0, 1) := by decide +kernel
theorem dX6_count_91 : decode cX6_count 91 = .ok (.getfield 40, 3) := by decide +kernel
theorem dX6_count_94 : decode cX6_count 94 = .ok (.ireturn, 1) := by decide +kernel
theorem dX6_count_95 : decode cX6_count 95 = .ok (.bipush (-2), 2) := by decide +kernel
theorem dX6_count_97 : decode cX6_count 97 = .ok (.ireturn, 1) := by decide +kernel
theorem dX6_untilDone_0 : decode cX6_untilDone 0 = .ok (.aload_n 0, 1) := by decide +kernel
theorem dX6_untilDone_1 : decode cX6_untilDone 1 = .ok (.invokevirtual 138, 3) := by decide +kernel
theorem dX6_untilDone_4 : decode cX6_untilDone 4 = .ok (.aload_n 0, 1) := by decide +kernel
theorem dX6_untilDone_5 : decode cX6_untilDone 5 = .ok (.invokevirtual 141, 3) := by decide +kernel
theorem dX6_untilDone_8 : decode cX6_untilDone 8 = .ok (.istore_n 1, 1) := by decide +kernel
theorem dX6_untilDone_9 : decode cX6_untilDone 9 = .ok (.aload_n 0, 1) := by decide +kernel
theorem dX6_untilDone_10 : decode cX6_untilDone 10 = .ok (.invokevirtual 144, 3) := by decide +kernel
theorem dX6_untilDone_13 : decode cX6_untilDone 13 = .ok (.iload_n 1, 1) := by decide +kernel
theorem dX6_untilDone_14 : decode cX6_untilDone 14 = .ok (.ireturn, 1) := by decide +kernel
theorem dX6_comes_0 : decode cX6_comes 0 = .ok (.iconst 0, 1) := by decide +kernel
theorem dX6_comes_1 : decode cX6_comes 1 = .ok (.istore_n 3, 1) := by decide +kernel
theorem dX6_comes_2 : decode cX6_comes 2 = .ok (.iload_n 3, 1) := by decide +kernel
theorem dX6_comes_3 : decode cX6_comes 3 = .ok (.bipush 10, 2) := by decide +kernel
theorem dX6_comes_5 : decode cX6_comes 5 = .ok (.if_icmp .ge 31, 3) := by decide +kernel
theorem dX6_comes_8 : decode cX6_comes 8 = .ok (.aload_n 0, 1) := by decide +kernel
theorem dX6_comes_9 : decode cX6_comes 9 = .ok (.getfield 7, 3) := by decide +kernel
theorem dX6_comes_12 : decode cX6_comes 12 = .ok (.iload_n 1, 1) := by decide +kernel
theorem dX6_comes_13 : decode cX6_comes 13 = .ok (.invokestatic 52, 3) := by decide +kernel
theorem dX6_comes_16 : decode cX6_comes 16 = .ok (.iload_n 3, 1) := by decide +kernel
theorem dX6_comes_17 : decode cX6_comes 17 = .ok (.iadd, 1) := by decide +kernel
theorem dX6_comes_18 : decode cX6_comes 18 = .ok (.aload_n 0, 1) := by decide +kernel
theorem dX6_comes_19 : decode cX6_comes 19 = .ok (.getfield 16, 3) := by decide +kernel
theorem dX6_comes_22 : decode cX6_comes 22 = .ok (.iload_n 2, 1) := by decide +kernel
theorem dX6_comes_23 : decode cX6_comes 23 = .ok (.invokestatic 52, 3) := by decide +kernel
theorem dX6_comes_26 : decode cX6_comes 26 = .ok (.iload_n 3, 1) := by decide +kernel
theorem dX6_comes_27 : decode cX6_comes 27 = .ok (.iadd, 1) := by decide +kernel
theorem dX6_comes_28 : decode cX6_comes 28 = .ok (.iaload, 1) := by decide +kernel
theorem dX6_comes_29 : decode cX6_comes 29 = .ok (.iastore, 1) := by decide +kernel
theorem dX6_comes_30 : decode cX6_comes 30 = .ok (.iinc 3 1, 3) := by decide +kernel
theorem dX6_comes_33 : decode cX6_comes 33 = .ok (.goto (-31), 3) := by decide +kernel
theorem dX6_comes_36 : decode cX6_comes 36 = .ok (.return_, 1) := by decide +kernel
theorem dX6_cyclesWith_0 : decode cX6_cyclesWith 0 = .ok (.aload_n 0, 1) := by decide +kernel
theorem dX6_cyclesWith_1 : decode cX6_cyclesWith 1 = .ok (.invokevirtual 138, 3) := by decide +kernel
theorem dX6_cyclesWith_4 : decode cX6_cyclesWith 4 = .ok (.aload_n 0, 1) := by decide +kernel
theorem dX6_cyclesWith_5 : decode cX6_cyclesWith 5 = .ok (.iconst 0, 1) := by decide +kernel
theorem dX6_cyclesWith_6 : decode cX6_cyclesWith 6 = .ok (.iload_n 1, 1) := by decide +kernel
theorem dX6_cyclesWith_7 : decode cX6_cyclesWith 7 = .ok (.invokevirtual 147, 3) := by decide +kernel
theorem dX6_cyclesWith_10 : decode cX6_cyclesWith 10 = .ok (.aload_n 0, 1) := by decide +kernel
theorem dX6_cyclesWith_11 : decode cX6_cyclesWith 11 = .ok (.getfield 7, 3) := by decide +kernel
theorem dX6_cyclesWith_14 : decode cX6_cyclesWith 14 = .ok (.iconst 0, 1) := by decide +kernel
theorem dX6_cyclesWith_15 : decode cX6_cyclesWith 15 = .ok (.invokestatic 52, 3) := by decide +kernel
theorem dX6_cyclesWith_18 : decode cX6_cyclesWith 18 = .ok (.iconst 1, 1) := by decide +kernel
theorem dX6_cyclesWith_19 : decode cX6_cyclesWith 19 = .ok (.iadd, 1) := by decide +kernel
theorem dX6_cyclesWith_20 : decode cX6_cyclesWith 20 = .ok (.iload_n 2, 1) := by decide +kernel
theorem dX6_cyclesWith_21 : decode cX6_cyclesWith 21 = .ok (.iastore, 1) := by decide +kernel
theorem dX6_cyclesWith_22 : decode cX6_cyclesWith 22 = .ok (.aload_n 0, 1) := by decide +kernel
theorem dX6_cyclesWith_23 : decode cX6_cyclesWith 23 = .ok (.getfield 7, 3) := by decide +kernel
theorem dX6_cyclesWith_26 : decode cX6_cyclesWith 26 = .ok (.iconst 5, 1) := by decide +kernel
theorem dX6_cyclesWith_27 : decode cX6_cyclesWith 27 = .ok (.iconst 1, 1) := by decide +kernel
theorem dX6_cyclesWith_28 : decode cX6_cyclesWith 28 = .ok (.iastore, 1) := by decide +kernel
theorem dX6_cyclesWith_29 : decode cX6_cyclesWith 29 = .ok (.aload_n 0, 1) := by decide +kernel
theorem dX6_cyclesWith_30 : decode cX6_cyclesWith 30 = .ok (.invokevirtual 82, 3) := by decide +kernel
theorem dX6_cyclesWith_33 : decode cX6_cyclesWith 33 = .ok (.aload_n 0, 1) := by decide +kernel
theorem dX6_cyclesWith_34 : decode cX6_cyclesWith 34 = .ok (.invokevirtual 141, 3) := by decide +kernel
theorem dX6_cyclesWith_37 : decode cX6_cyclesWith 37 = .ok (.istore_n 3, 1) := by decide +kernel
theorem dX6_cyclesWith_38 : decode cX6_cyclesWith 38 = .ok (.aload_n 0, 1) := by decide +kernel
theorem dX6_cyclesWith_39 : decode cX6_cyclesWith 39 = .ok (.invokevirtual 144, 3) := by decide +kernel
theorem dX6_cyclesWith_42 : decode cX6_cyclesWith 42 = .ok (.iload_n 3, 1) := by decide +kernel
theorem dX6_cyclesWith_43 : decode cX6_cyclesWith 43 = .ok (.ireturn, 1) := by decide +kernel
theorem dX6_alone_0 : decode cX6_alone 0 = .ok (.aload_n 0, 1) := by decide +kernel
theorem dX6_alone_1 : decode cX6_alone 1 = .ok (.iload_n 1, 1) := by decide +kernel
theorem dX6_alone_2 : decode cX6_alone 2 = .ok (.invokevirtual 92, 3) := by decide +kernel
theorem dX6_alone_5 : decode cX6_alone 5 = .ok (.ifCond .ne 5, 3) := by decide +kernel
theorem dX6_alone_8 : decode cX6_alone 8 = .ok (.iconst (-1), 1) := by decide +kernel
theorem dX6_alone_9 : decode cX6_alone 9 = .ok (.ireturn, 1) := by decide +kernel
theorem dX6_alone_10 : decode cX6_alone 10 = .ok (.iload_n 2, 1) := by decide +kernel
theorem dX6_alone_11 : decode cX6_alone 11 = .ok (.iconst 0, 1) := by decide +kernel
theorem dX6_alone_12 : decode cX6_alone 12 = .ok (.sipush 1023, 3) := by decide +kernel
theorem dX6_alone_15 : decode cX6_alone 15 = .ok (.invokestatic 36, 3) := by decide +kernel
theorem dX6_alone_18 : decode cX6_alone 18 = .ok (.ifCond .eq 12, 3) := by decide +kernel
theorem dX6_alone_21 : decode cX6_alone 21 = .ok (.aload_n 0, 1) := by decide +kernel
theorem dX6_alone_22 : decode cX6_alone 22 = .ok (.iload_n 1, 1) := by decide +kernel
theorem dX6_alone_23 : decode cX6_alone 23 = .ok (.iload_n 2, 1) := by decide +kernel
theorem dX6_alone_24 : decode cX6_alone 24 = .ok (.invokevirtual 151, 3) := by decide +kernel
theorem dX6_alone_27 : decode cX6_alone 27 = .ok (.goto 5, 3) := by decide +kernel
theorem dX6_alone_30 : decode cX6_alone 30 = .ok (.bipush (-2), 2) := by decide +kernel
theorem dX6_alone_32 : decode cX6_alone 32 = .ok (.ireturn, 1) := by decide +kernel
theorem dX6_bestStride_0 : decode cX6_bestStride 0 = .ok (.aload_n 0, 1) := by decide +kernel
theorem dX6_bestStride_1 : decode cX6_bestStride 1 = .ok (.iload_n 1, 1) := by decide +kernel
theorem dX6_bestStride_2 : decode cX6_bestStride 2 = .ok (.invokevirtual 92, 3) := by decide +kernel
theorem dX6_bestStride_5 : decode cX6_bestStride 5 = .ok (.ifCond .ne 5, 3) := by decide +kernel
theorem dX6_bestStride_8 : decode cX6_bestStride 8 = .ok (.iconst (-1), 1) := by decide +kernel
theorem dX6_bestStride_9 : decode cX6_bestStride 9 = .ok (.ireturn, 1) := by decide +kernel
theorem dX6_bestStride_10 : decode cX6_bestStride 10 = .ok (.iload_n 2, 1) := by decide +kernel
theorem dX6_bestStride_11 : decode cX6_bestStride 11 = .ok (.iconst 0, 1) := by decide +kernel
theorem dX6_bestStride_12 : decode cX6_bestStride 12 = .ok (.sipush 1023, 3) := by decide +kernel
theorem dX6_bestStride_15 : decode cX6_bestStride 15 = .ok (.invokestatic 36, 3) := by decide +kernel
theorem dX6_bestStride_18 : decode cX6_bestStride 18 = .ok (.ifCond .eq 22, 3) := by decide +kernel
theorem dX6_bestStride_21 : decode cX6_bestStride 21 = .ok (.iload_n 3, 1) := by decide +kernel
theorem dX6_bestStride_22 : decode cX6_bestStride 22 = .ok (.iload_n 2, 1) := by decide +kernel
theorem dX6_bestStride_23 : decode cX6_bestStride 23 = .ok (.sipush 1023, 3) := by decide +kernel
theorem dX6_bestStride_26 : decode cX6_bestStride 26 = .ok (.invokestatic 36, 3) := by decide +kernel
theorem dX6_bestStride_29 : decode cX6_bestStride 29 = .ok (.ifCond .eq 11, 3) := by decide +kernel
theorem dX6_bestStride_32 : decode cX6_bestStride 32 = .ok (.iload_n 3, 1) := by decide +kernel
theorem dX6_bestStride_33 : decode cX6_bestStride 33 = .ok (.iload_n 2, 1) := by decide +kernel
theorem dX6_bestStride_34 : decode cX6_bestStride 34 = .ok (.bipush 63, 2) := by decide +kernel
theorem dX6_bestStride_36 : decode cX6_bestStride 36 = .ok (.iadd, 1) := by decide +kernel
theorem dX6_bestStride_37 : decode cX6_bestStride 37 = .ok (.if_icmp .le 6, 3) := by decide +kernel
theorem dX6_bestStride_40 : decode cX6_bestStride 40 = .ok (.bipush (-2), 2) := by decide +kernel
theorem dX6_bestStride_42 : decode cX6_bestStride 42 = .ok (.ireturn, 1) := by decide +kernel
theorem dX6_bestStride_43 : decode cX6_bestStride 43 = .ok (.iload_n 2, 1) := by decide +kernel
theorem dX6_bestStride_44 : decode cX6_bestStride 44 = .ok (.istore 4, 2) := by decide +kernel
theorem dX6_bestStride_46 : decode cX6_bestStride 46 = .ok (.ldc 155, 2) := by decide +kernel
theorem dX6_bestStride_48 : decode cX6_bestStride 48 = .ok (.istore 5, 2) := by decide +kernel
theorem dX6_bestStride_50 : decode cX6_bestStride 50 = .ok (.iload_n 2, 1) := by decide +kernel
theorem dX6_bestStride_51 : decode cX6_bestStride 51 = .ok (.istore 6, 2) := by decide +kernel
theorem dX6_bestStride_53 : decode cX6_bestStride 53 = .ok (.iload 6, 2) := by decide +kernel
theorem dX6_bestStride_55 : decode cX6_bestStride 55 = .ok (.iload_n 3, 1) := by decide +kernel
theorem dX6_bestStride_56 : decode cX6_bestStride 56 = .ok (.if_icmp .gt 50, 3) := by decide +kernel
theorem dX6_bestStride_59 : decode cX6_bestStride 59 = .ok (.aload_n 0, 1) := by decide +kernel
theorem dX6_bestStride_60 : decode cX6_bestStride 60 = .ok (.iload_n 1, 1) := by decide +kernel
theorem dX6_bestStride_61 : decode cX6_bestStride 61 = .ok (.iload 6, 2) := by decide +kernel
theorem dX6_bestStride_63 : decode cX6_bestStride 63 = .ok (.invokevirtual 151, 3) := by decide +kernel
theorem dX6_bestStride_66 : decode cX6_bestStride 66 = .ok (.istore 7, 2) := by decide +kernel
theorem dX6_bestStride_68 : decode cX6_bestStride 68 = .ok (.iload 7, 2) := by decide +kernel
theorem dX6_bestStride_70 : decode cX6_bestStride 70 = .ok (.iload 5, 2) := by decide +kernel
theorem dX6_bestStride_72 : decode cX6_bestStride 72 = .ok (.if_icmp .ge 8, 3) := by decide +kernel
theorem dX6_bestStride_75 : decode cX6_bestStride 75 = .ok (.iload 6, 2) := by decide +kernel
theorem dX6_bestStride_77 : decode cX6_bestStride 77 = .ok (.goto 5, 3) := by decide +kernel
theorem dX6_bestStride_80 : decode cX6_bestStride 80 = .ok (.iload 4, 2) := by decide +kernel
theorem dX6_bestStride_82 : decode cX6_bestStride 82 = .ok (.istore 4, 2) := by decide +kernel
theorem dX6_bestStride_84 : decode cX6_bestStride 84 = .ok (.iload 7, 2) := by decide +kernel
theorem dX6_bestStride_86 : decode cX6_bestStride 86 = .ok (.iload 5, 2) := by decide +kernel
theorem dX6_bestStride_88 : decode cX6_bestStride 88 = .ok (.if_icmp .ge 8, 3) := by decide +kernel
theorem dX6_bestStride_91 : decode cX6_bestStride 91 = .ok (.iload 7, 2) := by decide +kernel
theorem dX6_bestStride_93 : decode cX6_bestStride 93 = .ok (.goto 5, 3) := by decide +kernel
theorem dX6_bestStride_96 : decode cX6_bestStride 96 = .ok (.iload 5, 2) := by decide +kernel
theorem dX6_bestStride_98 : decode cX6_bestStride 98 = .ok (.istore 5, 2) := by decide +kernel
theorem dX6_bestStride_100 : decode cX6_bestStride 100 = .ok (.iinc 6 1, 3) := by decide +kernel
theorem dX6_bestStride_103 : decode cX6_bestStride 103 = .ok (.goto (-50), 3) := by decide +kernel
theorem dX6_bestStride_106 : decode cX6_bestStride 106 = .ok (.iload 4, 2) := by decide +kernel
theorem dX6_bestStride_108 : decode cX6_bestStride 108 = .ok (.ireturn, 1) := by decide +kernel
theorem dX6_bestMap_0 : decode cX6_bestMap 0 = .ok (.iload_n 1, 1) := by decide +kernel
theorem dX6_bestMap_1 : decode cX6_bestMap 1 = .ok (.iconst 0, 1) := by decide +kernel
theorem dX6_bestMap_2 : decode cX6_bestMap 2 = .ok (.iconst 1, 1) := by decide +kernel
theorem dX6_bestMap_3 : decode cX6_bestMap 3 = .ok (.invokestatic 36, 3) := by decide +kernel
theorem dX6_bestMap_6 : decode cX6_bestMap 6 = .ok (.ifCond .ne 6, 3) := by decide +kernel
theorem dX6_bestMap_9 : decode cX6_bestMap 9 = .ok (.bipush (-2), 2) := by decide +kernel
theorem dX6_bestMap_11 : decode cX6_bestMap 11 = .ok (.ireturn, 1) := by decide +kernel
theorem dX6_bestMap_12 : decode cX6_bestMap 12 = .ok (.iconst 0, 1) := by decide +kernel
theorem dX6_bestMap_13 : decode cX6_bestMap 13 = .ok (.istore_n 2, 1) := by decide +kernel
theorem dX6_bestMap_14 : decode cX6_bestMap 14 = .ok (.ldc 155, 2) := by decide +kernel
theorem dX6_bestMap_16 : decode cX6_bestMap 16 = .ok (.istore_n 3, 1) := by decide +kernel
theorem dX6_bestMap_17 : decode cX6_bestMap 17 = .ok (.iconst 0, 1) := by decide +kernel
theorem dX6_bestMap_18 : decode cX6_bestMap 18 = .ok (.istore 4, 2) := by decide +kernel
theorem dX6_bestMap_20 : decode cX6_bestMap 20 = .ok (.iload 4, 2) := by decide +kernel
theorem dX6_bestMap_22 : decode cX6_bestMap 22 = .ok (.iconst 3, 1) := by decide +kernel
theorem dX6_bestMap_23 : decode cX6_bestMap 23 = .ok (.if_icmp .ge 61, 3) := by decide +kernel
theorem dX6_bestMap_26 : decode cX6_bestMap 26 = .ok (.aload_n 0, 1) := by decide +kernel
theorem dX6_bestMap_27 : decode cX6_bestMap 27 = .ok (.invokevirtual 138, 3) := by decide +kernel
theorem dX6_bestMap_30 : decode cX6_bestMap 30 = .ok (.aload_n 0, 1) := by decide +kernel
theorem dX6_bestMap_31 : decode cX6_bestMap 31 = .ok (.getfield 7, 3) := by decide +kernel
theorem dX6_bestMap_34 : decode cX6_bestMap 34 = .ok (.iconst 2, 1) := by decide +kernel
theorem dX6_bestMap_35 : decode cX6_bestMap 35 = .ok (.iload 4, 2) := by decide +kernel
theorem dX6_bestMap_37 : decode cX6_bestMap 37 = .ok (.iastore, 1) := by decide +kernel
theorem dX6_bestMap_38 : decode cX6_bestMap 38 = .ok (.aload_n 0, 1) := by decide +kernel
theorem dX6_bestMap_39 : decode cX6_bestMap 39 = .ok (.invokevirtual 82, 3) := by decide +kernel
theorem dX6_bestMap_42 : decode cX6_bestMap 42 = .ok (.aload_n 0, 1) := by decide +kernel
theorem dX6_bestMap_43 : decode cX6_bestMap 43 = .ok (.invokevirtual 141, 3) := by decide +kernel
theorem dX6_bestMap_46 : decode cX6_bestMap 46 = .ok (.istore 5, 2) := by decide +kernel
theorem dX6_bestMap_48 : decode cX6_bestMap 48 = .ok (.aload_n 0, 1) := by decide +kernel
theorem dX6_bestMap_49 : decode cX6_bestMap 49 = .ok (.invokevirtual 144, 3) := by decide +kernel
theorem dX6_bestMap_52 : decode cX6_bestMap 52 = .ok (.iload 5, 2) := by decide +kernel
theorem dX6_bestMap_54 : decode cX6_bestMap 54 = .ok (.iload_n 3, 1) := by decide +kernel
theorem dX6_bestMap_55 : decode cX6_bestMap 55 = .ok (.if_icmp .ge 8, 3) := by decide +kernel
theorem dX6_bestMap_58 : decode cX6_bestMap 58 = .ok (.iload 4, 2) := by decide +kernel
theorem dX6_bestMap_60 : decode cX6_bestMap 60 = .ok (.goto 4, 3) := by decide +kernel
theorem dX6_bestMap_63 : decode cX6_bestMap 63 = .ok (.iload_n 2, 1) := by decide +kernel
theorem dX6_bestMap_64 : decode cX6_bestMap 64 = .ok (.istore_n 2, 1) := by decide +kernel
theorem dX6_bestMap_65 : decode cX6_bestMap 65 = .ok (.iload 5, 2) := by decide +kernel
theorem dX6_bestMap_67 : decode cX6_bestMap 67 = .ok (.iload_n 3, 1) := by decide +kernel
theorem dX6_bestMap_68 : decode cX6_bestMap 68 = .ok (.if_icmp .ge 8, 3) := by decide +kernel
theorem dX6_bestMap_71 : decode cX6_bestMap 71 = .ok (.iload 5, 2) := by decide +kernel
theorem dX6_bestMap_73 : decode cX6_bestMap 73 = .ok (.goto 4, 3) := by decide +kernel
theorem dX6_bestMap_76 : decode cX6_bestMap 76 = .ok (.iload_n 3, 1) := by decide +kernel
theorem dX6_bestMap_77 : decode cX6_bestMap 77 = .ok (.istore_n 3, 1) := by decide +kernel
theorem dX6_bestMap_78 : decode cX6_bestMap 78 = .ok (.iinc 4 1, 3) := by decide +kernel
theorem dX6_bestMap_81 : decode cX6_bestMap 81 = .ok (.goto (-61), 3) := by decide +kernel
theorem dX6_bestMap_84 : decode cX6_bestMap 84 = .ok (.iload_n 1, 1) := by decide +kernel
theorem dX6_bestMap_85 : decode cX6_bestMap 85 = .ok (.ifCond .ne 7, 3) := by decide +kernel
theorem dX6_bestMap_88 : decode cX6_bestMap 88 = .ok (.iload_n 2, 1) := by decide +kernel
theorem dX6_bestMap_89 : decode cX6_bestMap 89 = .ok (.goto 4, 3) := by decide +kernel
theorem dX6_bestMap_92 : decode cX6_bestMap 92 = .ok (.iload_n 3, 1) := by decide +kernel
theorem dX6_bestMap_93 : decode cX6_bestMap 93 = .ok (.ireturn, 1) := by decide +kernel
theorem dX6_clashes_0 : decode cX6_clashes 0 = .ok (.aload_n 0, 1) := by decide +kernel
theorem dX6_clashes_1 : decode cX6_clashes 1 = .ok (.iload_n 1, 1) := by decide +kernel
theorem dX6_clashes_2 : decode cX6_clashes 2 = .ok (.invokevirtual 92, 3) := by decide +kernel
theorem dX6_clashes_5 : decode cX6_clashes 5 = .ok (.ifCond .eq 11, 3) := by decide +kernel
theorem dX6_clashes_8 : decode cX6_clashes 8 = .ok (.aload_n 0, 1) := by decide +kernel
theorem dX6_clashes_9 : decode cX6_clashes 9 = .ok (.iload_n 2, 1) := by decide +kernel
theorem dX6_clashes_10 : decode cX6_clashes 10 = .ok (.invokevirtual 92, 3) := by decide +kernel
theorem dX6_clashes_13 : decode cX6_clashes 13 = .ok (.ifCond .ne 5, 3) := by decide +kernel
theorem dX6_clashes_16 : decode cX6_clashes 16 = .ok (.iconst (-1), 1) := by decide +kernel
theorem dX6_clashes_17 : decode cX6_clashes 17 = .ok (.ireturn, 1) := by decide +kernel
theorem dX6_clashes_18 : decode cX6_clashes 18 = .ok (.iload_n 1, 1) := by decide +kernel
theorem dX6_clashes_19 : decode cX6_clashes 19 = .ok (.iload_n 2, 1) := by decide +kernel
theorem dX6_clashes_20 : decode cX6_clashes 20 = .ok (.if_icmp .ne 6, 3) := by decide +kernel
theorem dX6_clashes_23 : decode cX6_clashes 23 = .ok (.bipush (-2), 2) := by decide +kernel
theorem dX6_clashes_25 : decode cX6_clashes 25 = .ok (.ireturn, 1) := by decide +kernel
theorem dX6_clashes_26 : decode cX6_clashes 26 = .ok (.aload_n 0, 1) := by decide +kernel
theorem dX6_clashes_27 : decode cX6_clashes 27 = .ok (.invokevirtual 138, 3) := by decide +kernel
theorem dX6_clashes_30 : decode cX6_clashes 30 = .ok (.aload_n 0, 1) := by decide +kernel
theorem dX6_clashes_31 : decode cX6_clashes 31 = .ok (.iconst 0, 1) := by decide +kernel
theorem dX6_clashes_32 : decode cX6_clashes 32 = .ok (.iload_n 1, 1) := by decide +kernel
theorem dX6_clashes_33 : decode cX6_clashes 33 = .ok (.iload_n 2, 1) := by decide +kernel
theorem dX6_clashes_34 : decode cX6_clashes 34 = .ok (.if_icmp .ge 7, 3) := by decide +kernel
theorem dX6_clashes_37 : decode cX6_clashes 37 = .ok (.iload_n 1, 1) := by decide +kernel
theorem dX6_clashes_38 : decode cX6_clashes 38 = .ok (.goto 4, 3) := by decide +kernel
theorem dX6_clashes_41 : decode cX6_clashes 41 = .ok (.iload_n 2, 1) := by decide +kernel
theorem dX6_clashes_42 : decode cX6_clashes 42 = .ok (.invokevirtual 147, 3) := by decide +kernel
theorem dX6_clashes_45 : decode cX6_clashes 45 = .ok (.aload_n 0, 1) := by decide +kernel
theorem dX6_clashes_46 : decode cX6_clashes 46 = .ok (.iconst 1, 1) := by decide +kernel
theorem dX6_clashes_47 : decode cX6_clashes 47 = .ok (.iload_n 1, 1) := by decide +kernel
theorem dX6_clashes_48 : decode cX6_clashes 48 = .ok (.iload_n 2, 1) := by decide +kernel
theorem dX6_clashes_49 : decode cX6_clashes 49 = .ok (.if_icmp .ge 7, 3) := by decide +kernel
theorem dX6_clashes_52 : decode cX6_clashes 52 = .ok (.iload_n 2, 1) := by decide +kernel
theorem dX6_clashes_53 : decode cX6_clashes 53 = .ok (.goto 4, 3) := by decide +kernel
theorem dX6_clashes_56 : decode cX6_clashes 56 = .ok (.iload_n 1, 1) := by decide +kernel
theorem dX6_clashes_57 : decode cX6_clashes 57 = .ok (.invokevirtual 147, 3) := by decide +kernel
theorem dX6_clashes_60 : decode cX6_clashes 60 = .ok (.aload_n 0, 1) := by decide +kernel
theorem dX6_clashes_61 : decode cX6_clashes 61 = .ok (.getfield 7, 3) := by decide +kernel
theorem dX6_clashes_64 : decode cX6_clashes 64 = .ok (.iconst 5, 1) := by decide +kernel
theorem dX6_clashes_65 : decode cX6_clashes 65 = .ok (.iconst 2, 1) := by decide +kernel
theorem dX6_clashes_66 : decode cX6_clashes 66 = .ok (.iastore, 1) := by decide +kernel
theorem dX6_clashes_67 : decode cX6_clashes 67 = .ok (.aload_n 0, 1) := by decide +kernel
theorem dX6_clashes_68 : decode cX6_clashes 68 = .ok (.invokevirtual 82, 3) := by decide +kernel
theorem dX6_clashes_71 : decode cX6_clashes 71 = .ok (.aload_n 0, 1) := by decide +kernel
theorem dX6_clashes_72 : decode cX6_clashes 72 = .ok (.invokevirtual 141, 3) := by decide +kernel
theorem dX6_clashes_75 : decode cX6_clashes 75 = .ok (.istore_n 3, 1) := by decide +kernel
theorem dX6_clashes_76 : decode cX6_clashes 76 = .ok (.aload_n 0, 1) := by decide +kernel
theorem dX6_clashes_77 : decode cX6_clashes 77 = .ok (.bipush 9, 2) := by decide +kernel
theorem dX6_clashes_79 : decode cX6_clashes 79 = .ok (.invokevirtual 132, 3) := by decide +kernel
theorem dX6_clashes_82 : decode cX6_clashes 82 = .ok (.istore 4, 2) := by decide +kernel
theorem dX6_clashes_84 : decode cX6_clashes 84 = .ok (.aload_n 0, 1) := by decide +kernel
theorem dX6_clashes_85 : decode cX6_clashes 85 = .ok (.invokevirtual 144, 3) := by decide +kernel
theorem dX6_clashes_88 : decode cX6_clashes 88 = .ok (.iload 4, 2) := by decide +kernel
theorem dX6_clashes_90 : decode cX6_clashes 90 = .ok (.ireturn, 1) := by decide +kernel
theorem dX6_put_0 : decode cX6_put 0 = .ok (.iconst 0, 1) := by decide +kernel
theorem dX6_put_1 : decode cX6_put 1 = .ok (.istore_n 3, 1) := by decide +kernel
theorem dX6_put_2 : decode cX6_put 2 = .ok (.lload_n 1, 1) := by decide +kernel
theorem dX6_put_3 : decode cX6_put 3 = .ok (.lstore 4, 2) := by decide +kernel
theorem dX6_put_5 : decode cX6_put 5 = .ok (.iload_n 3, 1) := by decide +kernel
theorem dX6_put_6 : decode cX6_put 6 = .ok (.bipush 8, 2) := by decide +kernel
theorem dX6_put_8 : decode cX6_put 8 = .ok (.if_icmp .ge 52, 3) := by decide +kernel
theorem dX6_put_11 : decode cX6_put 11 = .ok (.lload 4, 2) := by decide +kernel
theorem dX6_put_13 : decode cX6_put 13 = .ok (.lconst 0, 1) := by decide +kernel
theorem dX6_put_14 : decode cX6_put 14 = .ok (.lcmp, 1) := by decide +kernel
theorem dX6_put_15 : decode cX6_put 15 = .ok (.ifCond .eq 45, 3) := by decide +kernel
theorem dX6_put_18 : decode cX6_put 18 = .ok (.lload 4, 2) := by decide +kernel
theorem dX6_put_20 : decode cX6_put 20 = .ok (.ldc2_w 156, 3) := by decide +kernel
theorem dX6_put_23 : decode cX6_put 23 = .ok (.land, 1) := by decide +kernel
theorem dX6_put_24 : decode cX6_put 24 = .ok (.lstore 6, 2) := by decide +kernel
theorem dX6_put_26 : decode cX6_put 26 = .ok (.lload 6, 2) := by decide +kernel
theorem dX6_put_28 : decode cX6_put 28 = .ok (.ldc2_w 158, 3) := by decide +kernel
theorem dX6_put_31 : decode cX6_put 31 = .ok (.lcmp, 1) := by decide +kernel
theorem dX6_put_32 : decode cX6_put 32 = .ok (.ifCond .lt 12, 3) := by decide +kernel
theorem dX6_put_35 : decode cX6_put 35 = .ok (.lload 6, 2) := by decide +kernel
theorem dX6_put_37 : decode cX6_put 37 = .ok (.ldc2_w 160, 3) := by decide +kernel
theorem dX6_put_40 : decode cX6_put 40 = .ok (.lcmp, 1) := by decide +kernel
theorem dX6_put_41 : decode cX6_put 41 = .ok (.ifCond .le 6, 3) := by decide +kernel
theorem dX6_put_44 : decode cX6_put 44 = .ok (.bipush (-2), 2) := by decide +kernel
theorem dX6_put_46 : decode cX6_put 46 = .ok (.ireturn, 1) := by decide +kernel
theorem dX6_put_47 : decode cX6_put 47 = .ok (.lload 4, 2) := by decide +kernel
theorem dX6_put_49 : decode cX6_put 49 = .ok (.bipush 8, 2) := by decide +kernel
theorem dX6_put_51 : decode cX6_put 51 = .ok (.lushr, 1) := by decide +kernel
theorem dX6_put_52 : decode cX6_put 52 = .ok (.lstore 4, 2) := by decide +kernel
theorem dX6_put_54 : decode cX6_put 54 = .ok (.iinc 3 1, 3) := by decide +kernel
theorem dX6_put_57 : decode cX6_put 57 = .ok (.goto (-52), 3) := by decide +kernel
theorem dX6_put_60 : decode cX6_put 60 = .ok (.iload_n 3, 1) := by decide +kernel
theorem dX6_put_61 : decode cX6_put 61 = .ok (.ifCond .ne 6, 3) := by decide +kernel
theorem dX6_put_64 : decode cX6_put 64 = .ok (.bipush (-2), 2) := by decide +kernel
theorem dX6_put_66 : decode cX6_put 66 = .ok (.ireturn, 1) := by decide +kernel
theorem dX6_put_67 : decode cX6_put 67 = .ok (.aload_n 0, 1) := by decide +kernel
theorem dX6_put_68 : decode cX6_put 68 = .ok (.getfield 99, 3) := by decide +kernel
theorem dX6_put_71 : decode cX6_put 71 = .ok (.iload_n 3, 1) := by decide +kernel
theorem dX6_put_72 : decode cX6_put 72 = .ok (.iadd, 1) := by decide +kernel
theorem dX6_put_73 : decode cX6_put 73 = .ok (.bipush 60, 2) := by decide +kernel
theorem dX6_put_75 : decode cX6_put 75 = .ok (.if_icmp .le 6, 3) := by decide +kernel
theorem dX6_put_78 : decode cX6_put 78 = .ok (.bipush (-4), 2) := by decide +kernel
theorem dX6_put_80 : decode cX6_put 80 = .ok (.ireturn, 1) := by decide +kernel
theorem dX6_put_81 : decode cX6_put 81 = .ok (.iload_n 3, 1) := by decide +kernel
theorem dX6_put_82 : decode cX6_put 82 = .ok (.iconst 1, 1) := by decide +kernel
theorem dX6_put_83 : decode cX6_put 83 = .ok (.isub, 1) := by decide +kernel
theorem dX6_put_84 : decode cX6_put 84 = .ok (.istore 6, 2) := by decide +kernel
theorem dX6_put_86 : decode cX6_put 86 = .ok (.iload 6, 2) := by decide +kernel
theorem dX6_put_88 : decode cX6_put 88 = .ok (.ifCond .lt 41, 3) := by decide +kernel
theorem dX6_put_91 : decode cX6_put 91 = .ok (.aload_n 0, 1) := by decide +kernel
theorem dX6_put_92 : decode cX6_put 92 = .ok (.getfield 32, 3) := by decide +kernel
theorem dX6_put_95 : decode cX6_put 95 = .ok (.aload_n 0, 1) := by decide +kernel
theorem dX6_put_96 : decode cX6_put 96 = .ok (.getfield 99, 3) := by decide +kernel
theorem dX6_put_99 : decode cX6_put 99 = .ok (.lload_n 1, 1) := by decide +kernel
theorem dX6_put_100 : decode cX6_put 100 = .ok (.bipush 8, 2) := by decide +kernel
theorem dX6_put_102 : decode cX6_put 102 = .ok (.iload 6, 2) := by decide +kernel
theorem dX6_put_104 : decode cX6_put 104 = .ok (.imul, 1) := by decide +kernel
theorem dX6_put_105 : decode cX6_put 105 = .ok (.lushr, 1) := by decide +kernel
theorem dX6_put_106 : decode cX6_put 106 = .ok (.ldc2_w 156, 3) := by decide +kernel
theorem dX6_put_109 : decode cX6_put 109 = .ok (.land, 1) := by decide +kernel
theorem dX6_put_110 : decode cX6_put 110 = .ok (.l2i, 1) := by decide +kernel
theorem dX6_put_111 : decode cX6_put 111 = .ok (.i2c, 1) := by decide +kernel
theorem dX6_put_112 : decode cX6_put 112 = .ok (.castore, 1) := by decide +kernel
theorem dX6_put_113 : decode cX6_put 113 = .ok (.aload_n 0, 1) := by decide +kernel
theorem dX6_put_114 : decode cX6_put 114 = .ok (.dup, 1) := by decide +kernel
theorem dX6_put_115 : decode cX6_put 115 = .ok (.getfield 99, 3) := by decide +kernel
theorem dX6_put_118 : decode cX6_put 118 = .ok (.iconst 1, 1) := by decide +kernel
theorem dX6_put_119 : decode cX6_put 119 = .ok (.iadd, 1) := by decide +kernel
theorem dX6_put_120 : decode cX6_put 120 = .ok (.putfield 99, 3) := by decide +kernel
theorem dX6_put_123 : decode cX6_put 123 = .ok (.iinc 6 (-1), 3) := by decide +kernel
theorem dX6_put_126 : decode cX6_put 126 = .ok (.goto (-40), 3) := by decide +kernel
theorem dX6_put_129 : decode cX6_put 129 = .ok (.aload_n 0, 1) := by decide +kernel
theorem dX6_put_130 : decode cX6_put 130 = .ok (.getfield 99, 3) := by decide +kernel
theorem dX6_put_133 : decode cX6_put 133 = .ok (.ireturn, 1) := by decide +kernel
theorem dX6_wipe_0 : decode cX6_wipe 0 = .ok (.aload_n 0, 1) := by decide +kernel
theorem dX6_wipe_1 : decode cX6_wipe 1 = .ok (.getfield 99, 3) := by decide +kernel
theorem dX6_wipe_4 : decode cX6_wipe 4 = .ok (.istore_n 1, 1) := by decide +kernel
theorem dX6_wipe_5 : decode cX6_wipe 5 = .ok (.aload_n 0, 1) := by decide +kernel
theorem dX6_wipe_6 : decode cX6_wipe 6 = .ok (.iconst 0, 1) := by decide +kernel
theorem dX6_wipe_7 : decode cX6_wipe 7 = .ok (.putfield 99, 3) := by decide +kernel
theorem dX6_wipe_10 : decode cX6_wipe 10 = .ok (.iload_n 1, 1) := by decide +kernel
theorem dX6_wipe_11 : decode cX6_wipe 11 = .ok (.ireturn, 1) := by decide +kernel
theorem dX6_fault_0 : decode cX6_fault 0 = .ok (.aload_n 0, 1) := by decide +kernel
theorem dX6_fault_1 : decode cX6_fault 1 = .ok (.invokevirtual 120, 3) := by decide +kernel
theorem dX6_fault_4 : decode cX6_fault 4 = .ok (.istore_n 1, 1) := by decide +kernel
theorem dX6_fault_5 : decode cX6_fault 5 = .ok (.iload_n 1, 1) := by decide +kernel
theorem dX6_fault_6 : decode cX6_fault 6 = .ok (.ifCond .ge 8, 3) := by decide +kernel
theorem dX6_fault_9 : decode cX6_fault 9 = .ok (.bipush (-6), 2) := by decide +kernel
theorem dX6_fault_11 : decode cX6_fault 11 = .ok (.goto 4, 3) := by decide +kernel
theorem dX6_fault_14 : decode cX6_fault 14 = .ok (.iload_n 1, 1) := by decide +kernel
theorem dX6_fault_15 : decode cX6_fault 15 = .ok (.ireturn, 1) := by decide +kernel
theorem dX6_undo_0 : decode cX6_undo 0 = .ok (.aload_n 0, 1) := by decide +kernel
theorem dX6_undo_1 : decode cX6_undo 1 = .ok (.getfield 40, 3) := by decide +kernel
theorem dX6_undo_4 : decode cX6_undo 4 = .ok (.ifCond .ne 6, 3) := by decide +kernel
theorem dX6_undo_7 : decode cX6_undo 7 = .ok (.bipush (-5), 2) := by decide +kernel
theorem dX6_undo_9 : decode cX6_undo 9 = .ok (.ireturn, 1) := by decide +kernel
theorem dX6_undo_10 : decode cX6_undo 10 = .ok (.aload_n 0, 1) := by decide +kernel
theorem dX6_undo_11 : decode cX6_undo 11 = .ok (.dup, 1) := by decide +kernel
theorem dX6_undo_12 : decode cX6_undo 12 = .ok (.getfield 40, 3) := by decide +kernel
theorem dX6_undo_15 : decode cX6_undo 15 = .ok (.iconst 1, 1) := by decide +kernel
theorem dX6_undo_16 : decode cX6_undo 16 = .ok (.isub, 1) := by decide +kernel
theorem dX6_undo_17 : decode cX6_undo 17 = .ok (.putfield 40, 3) := by decide +kernel
theorem dX6_undo_20 : decode cX6_undo 20 = .ok (.iconst 0, 1) := by decide +kernel
theorem dX6_undo_21 : decode cX6_undo 21 = .ok (.istore_n 1, 1) := by decide +kernel
theorem dX6_undo_22 : decode cX6_undo 22 = .ok (.iload_n 1, 1) := by decide +kernel
theorem dX6_undo_23 : decode cX6_undo 23 = .ok (.bipush 110, 2) := by decide +kernel
theorem dX6_undo_25 : decode cX6_undo 25 = .ok (.if_icmp .ge 29, 3) := by decide +kernel
theorem dX6_undo_28 : decode cX6_undo 28 = .ok (.aload_n 0, 1) := by decide +kernel
theorem dX6_undo_29 : decode cX6_undo 29 = .ok (.getfield 7, 3) := by decide +kernel
theorem dX6_undo_32 : decode cX6_undo 32 = .ok (.iload_n 1, 1) := by decide +kernel
theorem dX6_undo_33 : decode cX6_undo 33 = .ok (.aload_n 0, 1) := by decide +kernel
theorem dX6_undo_34 : decode cX6_undo 34 = .ok (.getfield 19, 3) := by decide +kernel
theorem dX6_undo_37 : decode cX6_undo 37 = .ok (.bipush 110, 2) := by decide +kernel
theorem dX6_undo_39 : decode cX6_undo 39 = .ok (.aload_n 0, 1) := by decide +kernel
theorem dX6_undo_40 : decode cX6_undo 40 = .ok (.getfield 40, 3) := by decide +kernel
theorem dX6_undo_43 : decode cX6_undo 43 = .ok (.imul, 1) := by decide +kernel
theorem dX6_undo_44 : decode cX6_undo 44 = .ok (.iload_n 1, 1) := by decide +kernel
theorem dX6_undo_45 : decode cX6_undo 45 = .ok (.iadd, 1) := by decide +kernel
theorem dX6_undo_46 : decode cX6_undo 46 = .ok (.iaload, 1) := by decide +kernel
theorem dX6_undo_47 : decode cX6_undo 47 = .ok (.iastore, 1) := by decide +kernel
theorem dX6_undo_48 : decode cX6_undo 48 = .ok (.iinc 1 1, 3) := by decide +kernel
theorem dX6_undo_51 : decode cX6_undo 51 = .ok (.goto (-29), 3) := by decide +kernel
theorem dX6_undo_54 : decode cX6_undo 54 = .ok (.aload_n 0, 1) := by decide +kernel
theorem dX6_undo_55 : decode cX6_undo 55 = .ok (.getfield 40, 3) := by decide +kernel
theorem dX6_undo_58 : decode cX6_undo 58 = .ok (.ireturn, 1) := by decide +kernel
theorem dX6_save_0 : decode cX6_save 0 = .ok (.iload_n 1, 1) := by decide +kernel
theorem dX6_save_1 : decode cX6_save 1 = .ok (.iconst 0, 1) := by decide +kernel
theorem dX6_save_2 : decode cX6_save 2 = .ok (.iconst 1, 1) := by decide +kernel
theorem dX6_save_3 : decode cX6_save 3 = .ok (.invokestatic 36, 3) := by decide +kernel
theorem dX6_save_6 : decode cX6_save 6 = .ok (.ifCond .ne 6, 3) := by decide +kernel
theorem dX6_save_9 : decode cX6_save 9 = .ok (.bipush (-2), 2) := by decide +kernel
theorem dX6_save_11 : decode cX6_save 11 = .ok (.ireturn, 1) := by decide +kernel
theorem dX6_save_12 : decode cX6_save 12 = .ok (.iconst 0, 1) := by decide +kernel
theorem dX6_save_13 : decode cX6_save 13 = .ok (.istore_n 2, 1) := by decide +kernel
theorem dX6_save_14 : decode cX6_save 14 = .ok (.iload_n 2, 1) := by decide +kernel
theorem dX6_save_15 : decode cX6_save 15 = .ok (.bipush 110, 2) := by decide +kernel
theorem dX6_save_17 : decode cX6_save 17 = .ok (.if_icmp .ge 26, 3) := by decide +kernel
theorem dX6_save_20 : decode cX6_save 20 = .ok (.aload_n 0, 1) := by decide +kernel
theorem dX6_save_21 : decode cX6_save 21 = .ok (.getfield 22, 3) := by decide +kernel
theorem dX6_save_24 : decode cX6_save 24 = .ok (.bipush 110, 2) := by decide +kernel
theorem dX6_save_26 : decode cX6_save 26 = .ok (.iload_n 1, 1) := by decide +kernel
theorem dX6_save_27 : decode cX6_save 27 = .ok (.imul, 1) := by decide +kernel
theorem dX6_save_28 : decode cX6_save 28 = .ok (.iload_n 2, 1) := by decide +kernel
theorem dX6_save_29 : decode cX6_save 29 = .ok (.iadd, 1) := by decide +kernel
theorem dX6_save_30 : decode cX6_save 30 = .ok (.aload_n 0, 1) := by decide +kernel
theorem dX6_save_31 : decode cX6_save 31 = .ok (.getfield 7, 3) := by decide +kernel
theorem dX6_save_34 : decode cX6_save 34 = .ok (.iload_n 2, 1) := by decide +kernel
theorem dX6_save_35 : decode cX6_save 35 = .ok (.iaload, 1) := by decide +kernel
theorem dX6_save_36 : decode cX6_save 36 = .ok (.iastore, 1) := by decide +kernel
theorem dX6_save_37 : decode cX6_save 37 = .ok (.iinc 2 1, 3) := by decide +kernel
theorem dX6_save_40 : decode cX6_save 40 = .ok (.goto (-26), 3) := by decide +kernel
theorem dX6_save_43 : decode cX6_save 43 = .ok (.aload_n 0, 1) := by decide +kernel
theorem dX6_save_44 : decode cX6_save 44 = .ok (.getfield 25, 3) := by decide +kernel
theorem dX6_save_47 : decode cX6_save 47 = .ok (.iload_n 1, 1) := by decide +kernel
theorem dX6_save_48 : decode cX6_save 48 = .ok (.iconst 1, 1) := by decide +kernel
theorem dX6_save_49 : decode cX6_save 49 = .ok (.bastore, 1) := by decide +kernel
theorem dX6_save_50 : decode cX6_save 50 = .ok (.aload_n 0, 1) := by decide +kernel
theorem dX6_save_51 : decode cX6_save 51 = .ok (.getfield 7, 3) := by decide +kernel
theorem dX6_save_54 : decode cX6_save 54 = .ok (.iconst 4, 1) := by decide +kernel
theorem dX6_save_55 : decode cX6_save 55 = .ok (.iaload, 1) := by decide +kernel
theorem dX6_save_56 : decode cX6_save 56 = .ok (.ireturn, 1) := by decide +kernel
theorem dX6_restore_0 : decode cX6_restore 0 = .ok (.iload_n 1, 1) := by decide +kernel
theorem dX6_restore_1 : decode cX6_restore 1 = .ok (.iconst 0, 1) := by decide +kernel
theorem dX6_restore_2 : decode cX6_restore 2 = .ok (.iconst 1, 1) := by decide +kernel
theorem dX6_restore_3 : decode cX6_restore 3 = .ok (.invokestatic 36, 3) := by decide +kernel
theorem dX6_restore_6 : decode cX6_restore 6 = .ok (.ifCond .ne 6, 3) := by decide +kernel
theorem dX6_restore_9 : decode cX6_restore 9 = .ok (.bipush (-2), 2) := by decide +kernel
theorem dX6_restore_11 : decode cX6_restore 11 = .ok (.ireturn, 1) := by decide +kernel
theorem dX6_restore_12 : decode cX6_restore 12 = .ok (.aload_n 0, 1) := by decide +kernel
theorem dX6_restore_13 : decode cX6_restore 13 = .ok (.getfield 25, 3) := by decide +kernel
theorem dX6_restore_16 : decode cX6_restore 16 = .ok (.iload_n 1, 1) := by decide +kernel
theorem dX6_restore_17 : decode cX6_restore 17 = .ok (.baload, 1) := by decide +kernel
theorem dX6_restore_18 : decode cX6_restore 18 = .ok (.ifCond .ne 6, 3) := by decide +kernel
theorem dX6_restore_21 : decode cX6_restore 21 = .ok (.bipush (-5), 2) := by decide +kernel
theorem dX6_restore_23 : decode cX6_restore 23 = .ok (.ireturn, 1) := by decide +kernel
theorem dX6_restore_24 : decode cX6_restore 24 = .ok (.aload_n 0, 1) := by decide +kernel
theorem dX6_restore_25 : decode cX6_restore 25 = .ok (.invokevirtual 79, 3) := by decide +kernel
theorem dX6_restore_28 : decode cX6_restore 28 = .ok (.iconst 0, 1) := by decide +kernel
theorem dX6_restore_29 : decode cX6_restore 29 = .ok (.istore_n 2, 1) := by decide +kernel
theorem dX6_restore_30 : decode cX6_restore 30 = .ok (.iload_n 2, 1) := by decide +kernel
theorem dX6_restore_31 : decode cX6_restore 31 = .ok (.bipush 110, 2) := by decide +kernel
theorem dX6_restore_33 : decode cX6_restore 33 = .ok (.if_icmp .ge 26, 3) := by decide +kernel
theorem dX6_restore_36 : decode cX6_restore 36 = .ok (.aload_n 0, 1) := by decide +kernel
theorem dX6_restore_37 : decode cX6_restore 37 = .ok (.getfield 7, 3) := by decide +kernel
theorem dX6_restore_40 : decode cX6_restore 40 = .ok (.iload_n 2, 1) := by decide +kernel
theorem dX6_restore_41 : decode cX6_restore 41 = .ok (.aload_n 0, 1) := by decide +kernel
theorem dX6_restore_42 : decode cX6_restore 42 = .ok (.getfield 22, 3) := by decide +kernel
theorem dX6_restore_45 : decode cX6_restore 45 = .ok (.bipush 110, 2) := by decide +kernel
theorem dX6_restore_47 : decode cX6_restore 47 = .ok (.iload_n 1, 1) := by decide +kernel
theorem dX6_restore_48 : decode cX6_restore 48 = .ok (.imul, 1) := by decide +kernel
theorem dX6_restore_49 : decode cX6_restore 49 = .ok (.iload_n 2, 1) := by decide +kernel
theorem dX6_restore_50 : decode cX6_restore 50 = .ok (.iadd, 1) := by decide +kernel
theorem dX6_restore_51 : decode cX6_restore 51 = .ok (.iaload, 1) := by decide +kernel
theorem dX6_restore_52 : decode cX6_restore 52 = .ok (.iastore, 1) := by decide +kernel
theorem dX6_restore_53 : decode cX6_restore 53 = .ok (.iinc 2 1, 3) := by decide +kernel
theorem dX6_restore_56 : decode cX6_restore 56 = .ok (.goto (-26), 3) := by decide +kernel
theorem dX6_restore_59 : decode cX6_restore 59 = .ok (.aload_n 0, 1) := by decide +kernel
theorem dX6_restore_60 : decode cX6_restore 60 = .ok (.aload_n 0, 1) := by decide +kernel
theorem dX6_restore_61 : decode cX6_restore 61 = .ok (.getfield 7, 3) := by decide +kernel
theorem dX6_restore_64 : decode cX6_restore 64 = .ok (.iconst 4, 1) := by decide +kernel
theorem dX6_restore_65 : decode cX6_restore 65 = .ok (.iaload, 1) := by decide +kernel
theorem dX6_restore_66 : decode cX6_restore 66 = .ok (.invokevirtual 85, 3) := by decide +kernel
theorem dX6_restore_69 : decode cX6_restore 69 = .ok (.ireturn, 1) := by decide +kernel
