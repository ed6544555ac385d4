theorem dX0_init_0 : decode cX0_init 0 = .ok (.aload_n 0, 1) := by decide +kernel
theorem dX0_init_1 : decode cX0_init 1 = .ok (.invokespecial 3, 3) := by decide +kernel
theorem dX0_init_4 : decode cX0_init 4 = .ok (.return_, 1) := by decide +kernel
theorem dX0_beginAnew_0 : decode cX0_beginAnew 0 = .ok (.aload_n 0, 1) := by decide +kernel
theorem dX0_beginAnew_1 : decode cX0_beginAnew 1 = .ok (.iconst 0, 1) := by decide +kernel
theorem dX0_beginAnew_2 : decode cX0_beginAnew 2 = .ok (.putfield 9, 3) := by decide +kernel
theorem dX0_beginAnew_5 : decode cX0_beginAnew 5 = .ok (.aload_n 0, 1) := by decide +kernel
theorem dX0_beginAnew_6 : decode cX0_beginAnew 6 = .ok (.iconst (-1), 1) := by decide +kernel
theorem dX0_beginAnew_7 : decode cX0_beginAnew 7 = .ok (.putfield 15, 3) := by decide +kernel
theorem dX0_beginAnew_10 : decode cX0_beginAnew 10 = .ok (.aload_n 0, 1) := by decide +kernel
theorem dX0_beginAnew_11 : decode cX0_beginAnew 11 = .ok (.iconst 0, 1) := by decide +kernel
theorem dX0_beginAnew_12 : decode cX0_beginAnew 12 = .ok (.putfield 18, 3) := by decide +kernel
theorem dX0_beginAnew_15 : decode cX0_beginAnew 15 = .ok (.aload_n 0, 1) := by decide +kernel
theorem dX0_beginAnew_16 : decode cX0_beginAnew 16 = .ok (.iconst 0, 1) := by decide +kernel
theorem dX0_beginAnew_17 : decode cX0_beginAnew 17 = .ok (.putfield 21, 3) := by decide +kernel
theorem dX0_beginAnew_20 : decode cX0_beginAnew 20 = .ok (.return_, 1) := by decide +kernel
theorem dX0_copy_0 : decode cX0_copy 0 = .ok (.aload_n 0, 1) := by decide +kernel
theorem dX0_copy_1 : decode cX0_copy 1 = .ok (.aload_n 1, 1) := by decide +kernel
theorem dX0_copy_2 : decode cX0_copy 2 = .ok (.getfield 9, 3) := by decide +kernel
theorem dX0_copy_5 : decode cX0_copy 5 = .ok (.putfield 9, 3) := by decide +kernel
theorem dX0_copy_8 : decode cX0_copy 8 = .ok (.aload_n 0, 1) := by decide +kernel
theorem dX0_copy_9 : decode cX0_copy 9 = .ok (.aload_n 1, 1) := by decide +kernel
theorem dX0_copy_10 : decode cX0_copy 10 = .ok (.getfield 15, 3) := by decide +kernel
theorem dX0_copy_13 : decode cX0_copy 13 = .ok (.putfield 15, 3) := by decide +kernel
theorem dX0_copy_16 : decode cX0_copy 16 = .ok (.aload_n 0, 1) := by decide +kernel
theorem dX0_copy_17 : decode cX0_copy 17 = .ok (.aload_n 1, 1) := by decide +kernel
theorem dX0_copy_18 : decode cX0_copy 18 = .ok (.getfield 18, 3) := by decide +kernel
theorem dX0_copy_21 : decode cX0_copy 21 = .ok (.putfield 18, 3) := by decide +kernel
theorem dX0_copy_24 : decode cX0_copy 24 = .ok (.aload_n 0, 1) := by decide +kernel
theorem dX0_copy_25 : decode cX0_copy 25 = .ok (.aload_n 1, 1) := by decide +kernel
theorem dX0_copy_26 : decode cX0_copy 26 = .ok (.getfield 21, 3) := by decide +kernel
theorem dX0_copy_29 : decode cX0_copy 29 = .ok (.putfield 21, 3) := by decide +kernel
theorem dX0_copy_32 : decode cX0_copy 32 = .ok (.return_, 1) := by decide +kernel
theorem dX1_init_0 : decode cX1_init 0 = .ok (.aload_n 0, 1) := by decide +kernel
theorem dX1_init_1 : decode cX1_init 1 = .ok (.invokespecial 3, 3) := by decide +kernel
theorem dX1_init_4 : decode cX1_init 4 = .ok (.aload_n 0, 1) := by decide +kernel
theorem dX1_init_5 : decode cX1_init 5 = .ok (.bipush 6, 2) := by decide +kernel
theorem dX1_init_7 : decode cX1_init 7 = .ok (.anewarray 9, 3) := by decide +kernel
theorem dX1_init_10 : decode cX1_init 10 = .ok (.putfield 11, 3) := by decide +kernel
theorem dX1_init_13 : decode cX1_init 13 = .ok (.iconst 0, 1) := by decide +kernel
theorem dX1_init_14 : decode cX1_init 14 = .ok (.istore_n 1, 1) := by decide +kernel
theorem dX1_init_15 : decode cX1_init 15 = .ok (.iload_n 1, 1) := by decide +kernel
theorem dX1_init_16 : decode cX1_init 16 = .ok (.bipush 6, 2) := by decide +kernel
theorem dX1_init_18 : decode cX1_init 18 = .ok (.if_icmp .ge 22, 3) := by decide +kernel
theorem dX1_init_21 : decode cX1_init 21 = .ok (.aload_n 0, 1) := by decide +kernel
theorem dX1_init_22 : decode cX1_init 22 = .ok (.getfield 11, 3) := by decide +kernel
theorem dX1_init_25 : decode cX1_init 25 = .ok (.iload_n 1, 1) := by decide +kernel
theorem dX1_init_26 : decode cX1_init 26 = .ok (.new 9, 3) := by decide +kernel
theorem dX1_init_29 : decode cX1_init 29 = .ok (.dup, 1) := by decide +kernel
theorem dX1_init_30 : decode cX1_init 30 = .ok (.invokespecial 17, 3) := by decide +kernel
theorem dX1_init_33 : decode cX1_init 33 = .ok (.aastore, 1) := by decide +kernel
theorem dX1_init_34 : decode cX1_init 34 = .ok (.iinc 1 1, 3) := by decide +kernel
theorem dX1_init_37 : decode cX1_init 37 = .ok (.goto (-22), 3) := by decide +kernel
theorem dX1_init_40 : decode cX1_init 40 = .ok (.return_, 1) := by decide +kernel
theorem dX1_record_0 : decode cX1_record 0 = .ok (.aload_n 0, 1) := by decide +kernel
theorem dX1_record_1 : decode cX1_record 1 = .ok (.getfield 18, 3) := by decide +kernel
theorem dX1_record_4 : decode cX1_record 4 = .ok (.bipush 6, 2) := by decide +kernel
theorem dX1_record_6 : decode cX1_record 6 = .ok (.if_icmp .ne 7, 3) := by decide +kernel
theorem dX1_record_9 : decode cX1_record 9 = .ok (.aload_n 0, 1) := by decide +kernel
theorem dX1_record_10 : decode cX1_record 10 = .ok (.invokevirtual 22, 3) := by decide +kernel
theorem dX1_record_13 : decode cX1_record 13 = .ok (.aload_n 0, 1) := by decide +kernel
theorem dX1_record_14 : decode cX1_record 14 = .ok (.getfield 11, 3) := by decide +kernel
theorem dX1_record_17 : decode cX1_record 17 = .ok (.aload_n 0, 1) := by decide +kernel
theorem dX1_record_18 : decode cX1_record 18 = .ok (.getfield 18, 3) := by decide +kernel
theorem dX1_record_21 : decode cX1_record 21 = .ok (.aaload, 1) := by decide +kernel
theorem dX1_record_22 : decode cX1_record 22 = .ok (.aload_n 1, 1) := by decide +kernel
theorem dX1_record_23 : decode cX1_record 23 = .ok (.invokevirtual 25, 3) := by decide +kernel
theorem dX1_record_26 : decode cX1_record 26 = .ok (.aload_n 0, 1) := by decide +kernel
theorem dX1_record_27 : decode cX1_record 27 = .ok (.dup, 1) := by decide +kernel
theorem dX1_record_28 : decode cX1_record 28 = .ok (.getfield 18, 3) := by decide +kernel
theorem dX1_record_31 : decode cX1_record 31 = .ok (.iconst 1, 1) := by decide +kernel
theorem dX1_record_32 : decode cX1_record 32 = .ok (.iadd, 1) := by decide +kernel
theorem dX1_record_33 : decode cX1_record 33 = .ok (.putfield 18, 3) := by decide +kernel
theorem dX1_record_36 : decode cX1_record 36 = .ok (.return_, 1) := by decide +kernel
theorem dX1_forgetOldest_0 : decode cX1_forgetOldest 0 = .ok (.aload_n 0, 1) := by decide +kernel
theorem dX1_forgetOldest_1 : decode cX1_forgetOldest 1 = .ok (.getfield 11, 3) := by decide +kernel
theorem dX1_forgetOldest_4 : decode cX1_forgetOldest 4 = .ok (.iconst 0, 1) := by decide +kernel
theorem dX1_forgetOldest_5 : decode cX1_forgetOldest 5 = .ok (.aaload, 1) := by decide +kernel
theorem dX1_forgetOldest_6 : decode cX1_forgetOldest 6 = .ok (.astore_n 1, 1) := by decide +kernel
theorem dX1_forgetOldest_7 : decode cX1_forgetOldest 7 = .ok (.iconst 1, 1) := by decide +kernel
theorem dX1_forgetOldest_8 : decode cX1_forgetOldest 8 = .ok (.istore_n 2, 1) := by decide +kernel
theorem dX1_forgetOldest_9 : decode cX1_forgetOldest 9 = .ok (.iload_n 2, 1) := by decide +kernel
theorem dX1_forgetOldest_10 : decode cX1_forgetOldest 10 = .ok (.bipush 6, 2) := by decide +kernel
theorem dX1_forgetOldest_12 : decode cX1_forgetOldest 12 = .ok (.if_icmp .ge 23, 3) := by decide +kernel
theorem dX1_forgetOldest_15 : decode cX1_forgetOldest 15 = .ok (.aload_n 0, 1) := by decide +kernel
theorem dX1_forgetOldest_16 : decode cX1_forgetOldest 16 = .ok (.getfield 11, 3) := by decide +kernel
theorem dX1_forgetOldest_19 : decode cX1_forgetOldest 19 = .ok (.iload_n 2, 1) := by decide +kernel
theorem dX1_forgetOldest_20 : decode cX1_forgetOldest 20 = .ok (.iconst 1, 1) := by decide +kernel
theorem dX1_forgetOldest_21 : decode cX1_forgetOldest 21 = .ok (.isub, 1) := by decide +kernel
theorem dX1_forgetOldest_22 : decode cX1_forgetOldest 22 = .ok (.aload_n 0, 1) := by decide +kernel
theorem dX1_forgetOldest_23 : decode cX1_forgetOldest 23 = .ok (.getfield 11, 3) := by decide +kernel
theorem dX1_forgetOldest_26 : decode cX1_forgetOldest 26 = .ok (.iload_n 2, 1) := by decide +kernel
theorem dX1_forgetOldest_27 : decode cX1_forgetOldest 27 = .ok (.aaload, 1) := by decide +kernel
theorem dX1_forgetOldest_28 : decode cX1_forgetOldest 28 = .ok (.aastore, 1) := by decide +kernel
theorem dX1_forgetOldest_29 : decode cX1_forgetOldest 29 = .ok (.iinc 2 1, 3) := by decide +kernel
theorem dX1_forgetOldest_32 : decode cX1_forgetOldest 32 = .ok (.goto (-23), 3) := by decide +kernel
theorem dX1_forgetOldest_35 : decode cX1_forgetOldest 35 = .ok (.aload_n 0, 1) := by decide +kernel
theorem dX1_forgetOldest_36 : decode cX1_forgetOldest 36 = .ok (.getfield 11, 3) := by decide +kernel
theorem dX1_forgetOldest_39 : decode cX1_forgetOldest 39 = .ok (.iconst 5, 1) := by decide +kernel
theorem dX1_forgetOldest_40 : decode cX1_forgetOldest 40 = .ok (.aload_n 1, 1) := by decide +kernel
theorem dX1_forgetOldest_41 : decode cX1_forgetOldest 41 = .ok (.aastore, 1) := by decide +kernel
theorem dX1_forgetOldest_42 : decode cX1_forgetOldest 42 = .ok (.aload_n 0, 1) := by decide +kernel
theorem dX1_forgetOldest_43 : decode cX1_forgetOldest 43 = .ok (.dup, 1) := by decide +kernel
theorem dX1_forgetOldest_44 : decode cX1_forgetOldest 44 = .ok (.getfield 18, 3) := by decide +kernel
theorem dX1_forgetOldest_47 : decode cX1_forgetOldest 47 = .ok (.iconst 1, 1) := by decide +kernel
theorem dX1_forgetOldest_48 : decode cX1_forgetOldest 48 = .ok (.isub, 1) := by decide +kernel
theorem dX1_forgetOldest_49 : decode cX1_forgetOldest 49 = .ok (.putfield 18, 3) := by decide +kernel
theorem dX1_forgetOldest_52 : decode cX1_forgetOldest 52 = .ok (.return_, 1) := by decide +kernel
theorem dX1_takeBack_0 : decode cX1_takeBack 0 = .ok (.aload_n 0, 1) := by decide +kernel
theorem dX1_takeBack_1 : decode cX1_takeBack 1 = .ok (.getfield 18, 3) := by decide +kernel
theorem dX1_takeBack_4 : decode cX1_takeBack 4 = .ok (.ifCond .ne 4, 3) := by decide +kernel
theorem dX1_takeBack_7 : decode cX1_takeBack 7 = .ok (.return_, 1) := by decide +kernel
theorem dX1_takeBack_8 : decode cX1_takeBack 8 = .ok (.aload_n 0, 1) := by decide +kernel
theorem dX1_takeBack_9 : decode cX1_takeBack 9 = .ok (.dup, 1) := by decide +kernel
theorem dX1_takeBack_10 : decode cX1_takeBack 10 = .ok (.getfield 18, 3) := by decide +kernel
theorem dX1_takeBack_13 : decode cX1_takeBack 13 = .ok (.iconst 1, 1) := by decide +kernel
theorem dX1_takeBack_14 : decode cX1_takeBack 14 = .ok (.isub, 1) := by decide +kernel
theorem dX1_takeBack_15 : decode cX1_takeBack 15 = .ok (.putfield 18, 3) := by decide +kernel
theorem dX1_takeBack_18 : decode cX1_takeBack 18 = .ok (.aload_n 1, 1) := by decide +kernel
theorem dX1_takeBack_19 : decode cX1_takeBack 19 = .ok (.aload_n 0, 1) := by decide +kernel
theorem dX1_takeBack_20 : decode cX1_takeBack 20 = .ok (.getfield 11, 3) := by decide +kernel
theorem dX1_takeBack_23 : decode cX1_takeBack 23 = .ok (.aload_n 0, 1) := by decide +kernel
theorem dX1_takeBack_24 : decode cX1_takeBack 24 = .ok (.getfield 18, 3) := by decide +kernel
theorem dX1_takeBack_27 : decode cX1_takeBack 27 = .ok (.aaload, 1) := by decide +kernel
theorem dX1_takeBack_28 : decode cX1_takeBack 28 = .ok (.invokevirtual 25, 3) := by decide +kernel
theorem dX1_takeBack_31 : decode cX1_takeBack 31 = .ok (.return_, 1) := by decide +kernel
theorem dX2_init_0 : decode cX2_init 0 = .ok (.aload_n 0, 1) := by decide +kernel
theorem dX2_init_1 : decode cX2_init 1 = .ok (.invokespecial 3, 3) := by decide +kernel
theorem dX2_init_4 : decode cX2_init 4 = .ok (.aload_n 0, 1) := by decide +kernel
theorem dX2_init_5 : decode cX2_init 5 = .ok (.bipush 60, 2) := by decide +kernel
theorem dX2_init_7 : decode cX2_init 7 = .ok (.newarray .char, 2) := by decide +kernel
theorem dX2_init_9 : decode cX2_init 9 = .ok (.putfield 9, 3) := by decide +kernel
theorem dX2_init_12 : decode cX2_init 12 = .ok (.aload_n 0, 1) := by decide +kernel
theorem dX2_init_13 : decode cX2_init 13 = .ok (.bipush 60, 2) := by decide +kernel
theorem dX2_init_15 : decode cX2_init 15 = .ok (.newarray .int, 2) := by decide +kernel
theorem dX2_init_17 : decode cX2_init 17 = .ok (.putfield 15, 3) := by decide +kernel
theorem dX2_init_20 : decode cX2_init 20 = .ok (.return_, 1) := by decide +kernel
theorem dX3_init_0 : decode cX3_init 0 = .ok (.aload_n 0, 1) := by decide +kernel
theorem dX3_init_1 : decode cX3_init 1 = .ok (.invokespecial 3, 3) := by decide +kernel
theorem dX3_init_4 : decode cX3_init 4 = .ok (.aload_n 0, 1) := by decide +kernel
theorem dX3_init_5 : decode cX3_init 5 = .ok (.iconst 4, 1) := by decide +kernel
theorem dX3_init_6 : decode cX3_init 6 = .ok (.newarray .int, 2) := by decide +kernel
theorem dX3_init_8 : decode cX3_init 8 = .ok (.putfield 9, 3) := by decide +kernel
theorem dX3_init_11 : decode cX3_init 11 = .ok (.aload_n 0, 1) := by decide +kernel
theorem dX3_init_12 : decode cX3_init 12 = .ok (.iconst 4, 1) := by decide +kernel
theorem dX3_init_13 : decode cX3_init 13 = .ok (.anewarray 15, 3) := by decide +kernel
theorem dX3_init_16 : decode cX3_init 16 = .ok (.putfield 17, 3) := by decide +kernel
theorem dX3_init_19 : decode cX3_init 19 = .ok (.aload_n 0, 1) := by decide +kernel
theorem dX3_init_20 : decode cX3_init 20 = .ok (.bipush 16, 2) := by decide +kernel
theorem dX3_init_22 : decode cX3_init 22 = .ok (.anewarray 21, 3) := by decide +kernel
theorem dX3_init_25 : decode cX3_init 25 = .ok (.putfield 23, 3) := by decide +kernel
theorem dX3_init_28 : decode cX3_init 28 = .ok (.getstatic 27, 3) := by decide +kernel
theorem dX3_init_31 : decode cX3_init 31 = .ok (.iconst 0, 1) := by decide +kernel
theorem dX3_init_32 : decode cX3_init 32 = .ok (.aload_n 0, 1) := by decide +kernel
theorem dX3_init_33 : decode cX3_init 33 = .ok (.getfield 9, 3) := by decide +kernel
theorem dX3_init_36 : decode cX3_init 36 = .ok (.iconst 0, 1) := by decide +kernel
theorem dX3_init_37 : decode cX3_init 37 = .ok (.iconst 4, 1) := by decide +kernel
theorem dX3_init_38 : decode cX3_init 38 = .ok (.invokestatic 30, 3) := by decide +kernel
theorem dX3_init_41 : decode cX3_init 41 = .ok (.iconst 0, 1) := by decide +kernel
theorem dX3_init_42 : decode cX3_init 42 = .ok (.istore_n 1, 1) := by decide +kernel
theorem dX3_init_43 : decode cX3_init 43 = .ok (.iload_n 1, 1) := by decide +kernel
theorem dX3_init_44 : decode cX3_init 44 = .ok (.iconst 4, 1) := by decide +kernel
theorem dX3_init_45 : decode cX3_init 45 = .ok (.if_icmp .ge 22, 3) := by decide +kernel
theorem dX3_init_48 : decode cX3_init 48 = .ok (.aload_n 0, 1) := by decide +kernel
theorem dX3_init_49 : decode cX3_init 49 = .ok (.getfield 17, 3) := by decide +kernel
theorem dX3_init_52 : decode cX3_init 52 = .ok (.iload_n 1, 1) := by decide +kernel
theorem dX3_init_53 : decode cX3_init 53 = .ok (.new 15, 3) := by decide +kernel
theorem dX3_init_56 : decode cX3_init 56 = .ok (.dup, 1) := by decide +kernel
theorem dX3_init_57 : decode cX3_init 57 = .ok (.invokespecial 36, 3) := by decide +kernel
theorem dX3_init_60 : decode cX3_init 60 = .ok (.aastore, 1) := by decide +kernel
theorem dX3_init_61 : decode cX3_init 61 = .ok (.iinc 1 1, 3) := by decide +kernel
theorem dX3_init_64 : decode cX3_init 64 = .ok (.goto (-21), 3) := by decide +kernel
theorem dX3_init_67 : decode cX3_init 67 = .ok (.iconst 0, 1) := by decide +kernel
theorem dX3_init_68 : decode cX3_init 68 = .ok (.istore_n 1, 1) := by decide +kernel
theorem dX3_init_69 : decode cX3_init 69 = .ok (.iload_n 1, 1) := by decide +kernel
theorem dX3_init_70 : decode cX3_init 70 = .ok (.bipush 16, 2) := by decide +kernel
theorem dX3_init_72 : decode cX3_init 72 = .ok (.if_icmp .ge 31, 3) := by decide +kernel
theorem dX3_init_75 : decode cX3_init 75 = .ok (.aload_n 0, 1) := by decide +kernel
theorem dX3_init_76 : decode cX3_init 76 = .ok (.getfield 23, 3) := by decide +kernel
theorem dX3_init_79 : decode cX3_init 79 = .ok (.iload_n 1, 1) := by decide +kernel
theorem dX3_init_80 : decode cX3_init 80 = .ok (.new 21, 3) := by decide +kernel
theorem dX3_init_83 : decode cX3_init 83 = .ok (.dup, 1) := by decide +kernel
theorem dX3_init_84 : decode cX3_init 84 = .ok (.invokespecial 37, 3) := by decide +kernel
theorem dX3_init_87 : decode cX3_init 87 = .ok (.aastore, 1) := by decide +kernel
theorem dX3_init_88 : decode cX3_init 88 = .ok (.aload_n 0, 1) := by decide +kernel
theorem dX3_init_89 : decode cX3_init 89 = .ok (.getfield 23, 3) := by decide +kernel
theorem dX3_init_92 : decode cX3_init 92 = .ok (.iload_n 1, 1) := by decide +kernel
theorem dX3_init_93 : decode cX3_init 93 = .ok (.aaload, 1) := by decide +kernel
theorem dX3_init_94 : decode cX3_init 94 = .ok (.invokevirtual 38, 3) := by decide +kernel
theorem dX3_init_97 : decode cX3_init 97 = .ok (.iinc 1 1, 3) := by decide +kernel
theorem dX3_init_100 : decode cX3_init 100 = .ok (.goto (-31), 3) := by decide +kernel
theorem dX3_init_103 : decode cX3_init 103 = .ok (.return_, 1) := by decide +kernel
theorem dX3_copySettings_0 : decode cX3_copySettings 0 = .ok (.aload_n 1, 1) := by decide +kernel
theorem dX3_copySettings_1 : decode cX3_copySettings 1 = .ok (.getfield 9, 3) := by decide +kernel
theorem dX3_copySettings_4 : decode cX3_copySettings 4 = .ok (.iconst 0, 1) := by decide +kernel
theorem dX3_copySettings_5 : decode cX3_copySettings 5 = .ok (.aload_n 0, 1) := by decide +kernel
theorem dX3_copySettings_6 : decode cX3_copySettings 6 = .ok (.getfield 9, 3) := by decide +kernel
theorem dX3_copySettings_9 : decode cX3_copySettings 9 = .ok (.iconst 0, 1) := by decide +kernel
theorem dX3_copySettings_10 : decode cX3_copySettings 10 = .ok (.iconst 4, 1) := by decide +kernel
theorem dX3_copySettings_11 : decode cX3_copySettings 11 = .ok (.invokestatic 30, 3) := by decide +kernel
theorem dX3_copySettings_14 : decode cX3_copySettings 14 = .ok (.return_, 1) := by decide +kernel
theorem dX3_copy_0 : decode cX3_copy 0 = .ok (.aload_n 0, 1) := by decide +kernel
theorem dX3_copy_1 : decode cX3_copy 1 = .ok (.aload_n 1, 1) := by decide +kernel
theorem dX3_copy_2 : decode cX3_copy 2 = .ok (.invokevirtual 41, 3) := by decide +kernel
theorem dX3_copy_5 : decode cX3_copy 5 = .ok (.iconst 0, 1) := by decide +kernel
theorem dX3_copy_6 : decode cX3_copy 6 = .ok (.istore_n 2, 1) := by decide +kernel
theorem dX3_copy_7 : decode cX3_copy 7 = .ok (.iload_n 2, 1) := by decide +kernel
theorem dX3_copy_8 : decode cX3_copy 8 = .ok (.iconst 4, 1) := by decide +kernel
theorem dX3_copy_9 : decode cX3_copy 9 = .ok (.if_icmp .ge 24, 3) := by decide +kernel
theorem dX3_copy_12 : decode cX3_copy 12 = .ok (.aload_n 0, 1) := by decide +kernel
theorem dX3_copy_13 : decode cX3_copy 13 = .ok (.getfield 17, 3) := by decide +kernel
theorem dX3_copy_16 : decode cX3_copy 16 = .ok (.iload_n 2, 1) := by decide +kernel
theorem dX3_copy_17 : decode cX3_copy 17 = .ok (.aaload, 1) := by decide +kernel
theorem dX3_copy_18 : decode cX3_copy 18 = .ok (.aload_n 1, 1) := by decide +kernel
theorem dX3_copy_19 : decode cX3_copy 19 = .ok (.getfield 17, 3) := by decide +kernel
theorem dX3_copy_22 : decode cX3_copy 22 = .ok (.iload_n 2, 1) := by decide +kernel
theorem dX3_copy_23 : decode cX3_copy 23 = .ok (.aaload, 1) := by decide +kernel
theorem dX3_copy_24 : decode cX3_copy 24 = .ok (.invokevirtual 45, 3) := by decide +kernel
theorem dX3_copy_27 : decode cX3_copy 27 = .ok (.iinc 2 1, 3) := by decide +kernel
theorem dX3_copy_30 : decode cX3_copy 30 = .ok (.goto (-23), 3) := by decide +kernel
theorem dX3_copy_33 : decode cX3_copy 33 = .ok (.iconst 0, 1) := by decide +kernel
theorem dX3_copy_34 : decode cX3_copy 34 = .ok (.istore_n 2, 1) := by decide +kernel
theorem dX3_copy_35 : decode cX3_copy 35 = .ok (.iload_n 2, 1) := by decide +kernel
theorem dX3_copy_36 : decode cX3_copy 36 = .ok (.bipush 16, 2) := by decide +kernel
theorem dX3_copy_38 : decode cX3_copy 38 = .ok (.if_icmp .ge 24, 3) := by decide +kernel
theorem dX3_copy_41 : decode cX3_copy 41 = .ok (.aload_n 0, 1) := by decide +kernel
theorem dX3_copy_42 : decode cX3_copy 42 = .ok (.getfield 23, 3) := by decide +kernel
theorem dX3_copy_45 : decode cX3_copy 45 = .ok (.iload_n 2, 1) := by decide +kernel
theorem dX3_copy_46 : decode cX3_copy 46 = .ok (.aaload, 1) := by decide +kernel
theorem dX3_copy_47 : decode cX3_copy 47 = .ok (.aload_n 1, 1) := by decide +kernel
theorem dX3_copy_48 : decode cX3_copy 48 = .ok (.getfield 23, 3) := by decide +kernel
theorem dX3_copy_51 : decode cX3_copy 51 = .ok (.iload_n 2, 1) := by decide +kernel
theorem dX3_copy_52 : decode cX3_copy 52 = .ok (.aaload, 1) := by decide +kernel
theorem dX3_copy_53 : decode cX3_copy 53 = .ok (.invokevirtual 49, 3) := by decide +kernel
theorem dX3_copy_56 : decode cX3_copy 56 = .ok (.iinc 2 1, 3) := by decide +kernel
theorem dX3_copy_59 : decode cX3_copy 59 = .ok (.goto (-24), 3) := by decide +kernel
theorem dX3_copy_62 : decode cX3_copy 62 = .ok (.aload_n 0, 1) := by decide +kernel
theorem dX3_copy_63 : decode cX3_copy 63 = .ok (.aload_n 1, 1) := by decide +kernel
theorem dX3_copy_64 : decode cX3_copy 64 = .ok (.getfield 52, 3) := by decide +kernel
theorem dX3_copy_67 : decode cX3_copy 67 = .ok (.putfield 52, 3) := by decide +kernel
theorem dX3_copy_70 : decode cX3_copy 70 = .ok (.aload_n 0, 1) := by decide +kernel
theorem dX3_copy_71 : decode cX3_copy 71 = .ok (.aload_n 1, 1) := by decide +kernel
theorem dX3_copy_72 : decode cX3_copy 72 = .ok (.getfield 56, 3) := by decide +kernel
theorem dX3_copy_75 : decode cX3_copy 75 = .ok (.putfield 56, 3) := by decide +kernel
theorem dX3_copy_78 : decode cX3_copy 78 = .ok (.return_, 1) := by decide +kernel
theorem dX3_freeBanks_0 : decode cX3_freeBanks 0 = .ok (.iconst 0, 1) := by decide +kernel
theorem dX3_freeBanks_1 : decode cX3_freeBanks 1 = .ok (.istore_n 1, 1) := by decide +kernel
theorem dX3_freeBanks_2 : decode cX3_freeBanks 2 = .ok (.iload_n 1, 1) := by decide +kernel
theorem dX3_freeBanks_3 : decode cX3_freeBanks 3 = .ok (.bipush 16, 2) := by decide +kernel
theorem dX3_freeBanks_5 : decode cX3_freeBanks 5 = .ok (.if_icmp .ge 18, 3) := by decide +kernel
theorem dX3_freeBanks_8 : decode cX3_freeBanks 8 = .ok (.aload_n 0, 1) := by decide +kernel
theorem dX3_freeBanks_9 : decode cX3_freeBanks 9 = .ok (.getfield 23, 3) := by decide +kernel
theorem dX3_freeBanks_12 : decode cX3_freeBanks 12 = .ok (.iload_n 1, 1) := by decide +kernel
theorem dX3_freeBanks_13 : decode cX3_freeBanks 13 = .ok (.aaload, 1) := by decide +kernel
theorem dX3_freeBanks_14 : decode cX3_freeBanks 14 = .ok (.invokevirtual 38, 3) := by decide +kernel
theorem dX3_freeBanks_17 : decode cX3_freeBanks 17 = .ok (.iinc 1 1, 3) := by decide +kernel
theorem dX3_freeBanks_20 : decode cX3_freeBanks 20 = .ok (.goto (-18), 3) := by decide +kernel
theorem dX3_freeBanks_23 : decode cX3_freeBanks 23 = .ok (.return_, 1) := by decide +kernel
theorem dX3_beginAnew_0 : decode cX3_beginAnew 0 = .ok (.aload_n 0, 1) := by decide +kernel
theorem dX3_beginAnew_1 : decode cX3_beginAnew 1 = .ok (.iconst 0, 1) := by decide +kernel
theorem dX3_beginAnew_2 : decode cX3_beginAnew 2 = .ok (.putfield 56, 3) := by decide +kernel
theorem dX3_beginAnew_5 : decode cX3_beginAnew 5 = .ok (.aload_n 0, 1) := by decide +kernel
theorem dX3_beginAnew_6 : decode cX3_beginAnew 6 = .ok (.invokevirtual 59, 3) := by decide +kernel
theorem dX3_beginAnew_9 : decode cX3_beginAnew 9 = .ok (.iconst 0, 1) := by decide +kernel
theorem dX3_beginAnew_10 : decode cX3_beginAnew 10 = .ok (.istore_n 1, 1) := by decide +kernel
theorem dX3_beginAnew_11 : decode cX3_beginAnew 11 = .ok (.iload_n 1, 1) := by decide +kernel
theorem dX3_beginAnew_12 : decode cX3_beginAnew 12 = .ok (.aload_n 0, 1) := by decide +kernel
theorem dX3_beginAnew_13 : decode cX3_beginAnew 13 = .ok (.getfield 52, 3) := by decide +kernel
theorem dX3_beginAnew_16 : decode cX3_beginAnew 16 = .ok (.if_icmp .ge 18, 3) := by decide +kernel
theorem dX3_beginAnew_19 : decode cX3_beginAnew 19 = .ok (.aload_n 0, 1) := by decide +kernel
theorem dX3_beginAnew_20 : decode cX3_beginAnew 20 = .ok (.getfield 17, 3) := by decide +kernel
theorem dX3_beginAnew_23 : decode cX3_beginAnew 23 = .ok (.iload_n 1, 1) := by decide +kernel
theorem dX3_beginAnew_24 : decode cX3_beginAnew 24 = .ok (.aaload, 1) := by decide +kernel
theorem dX3_beginAnew_25 : decode cX3_beginAnew 25 = .ok (.invokevirtual 62, 3) := by decide +kernel
theorem dX3_beginAnew_28 : decode cX3_beginAnew 28 = .ok (.iinc 1 1, 3) := by decide +kernel
theorem dX3_beginAnew_31 : decode cX3_beginAnew 31 = .ok (.goto (-20), 3) := by decide +kernel
theorem dX3_beginAnew_34 : decode cX3_beginAnew 34 = .ok (.return_, 1) := by decide +kernel
theorem dX3_has_0 : decode cX3_has 0 = .ok (.iload_n 1, 1) := by decide +kernel
theorem dX3_has_1 : decode cX3_has 1 = .ok (.ifCond .lt 15, 3) := by decide +kernel
theorem dX3_has_4 : decode cX3_has 4 = .ok (.iload_n 1, 1) := by decide +kernel
theorem dX3_has_5 : decode cX3_has 5 = .ok (.aload_n 0, 1) := by decide +kernel
theorem dX3_has_6 : decode cX3_has 6 = .ok (.getfield 52, 3) := by decide +kernel
theorem dX3_has_9 : decode cX3_has 9 = .ok (.if_icmp .ge 7, 3) := by decide +kernel
theorem dX3_has_12 : decode cX3_has 12 = .ok (.iconst 1, 1) := by decide +kernel
theorem dX3_has_13 : decode cX3_has 13 = .ok (.goto 4, 3) := by decide +kernel
theorem dX3_has_16 : decode cX3_has 16 = .ok (.iconst 0, 1) := by decide +kernel
theorem dX3_has_17 : decode cX3_has 17 = .ok (.ireturn, 1) := by decide +kernel
theorem dX3_append_0 : decode cX3_append 0 = .ok (.aload_n 0, 1) := by decide +kernel
theorem dX3_append_1 : decode cX3_append 1 = .ok (.getfield 52, 3) := by decide +kernel
theorem dX3_append_4 : decode cX3_append 4 = .ok (.iconst 4, 1) := by decide +kernel
theorem dX3_append_5 : decode cX3_append 5 = .ok (.if_icmp .lt 4, 3) := by decide +kernel
theorem dX3_append_8 : decode cX3_append 8 = .ok (.return_, 1) := by decide +kernel
theorem dX3_append_9 : decode cX3_append 9 = .ok (.aload_n 0, 1) := by decide +kernel
theorem dX3_append_10 : decode cX3_append 10 = .ok (.getfield 17, 3) := by decide +kernel
theorem dX3_append_13 : decode cX3_append 13 = .ok (.aload_n 0, 1) := by decide +kernel
theorem dX3_append_14 : decode cX3_append 14 = .ok (.getfield 52, 3) := by decide +kernel
theorem dX3_append_17 : decode cX3_append 17 = .ok (.aaload, 1) := by decide +kernel
theorem dX3_append_18 : decode cX3_append 18 = .ok (.astore 4, 2) := by decide +kernel
theorem dX3_append_20 : decode cX3_append 20 = .ok (.aload 4, 2) := by decide +kernel
theorem dX3_append_22 : decode cX3_append 22 = .ok (.iload_n 1, 1) := by decide +kernel
theorem dX3_append_23 : decode cX3_append 23 = .ok (.putfield 63, 3) := by decide +kernel
theorem dX3_append_26 : decode cX3_append 26 = .ok (.aload 4, 2) := by decide +kernel
theorem dX3_append_28 : decode cX3_append 28 = .ok (.iload_n 2, 1) := by decide +kernel
theorem dX3_append_29 : decode cX3_append 29 = .ok (.putfield 66, 3) := by decide +kernel
theorem dX3_append_32 : decode cX3_append 32 = .ok (.aload 4, 2) := by decide +kernel
theorem dX3_append_34 : decode cX3_append 34 = .ok (.iload_n 3, 1) := by decide +kernel
theorem dX3_append_35 : decode cX3_append 35 = .ok (.putfield 69, 3) := by decide +kernel
theorem dX3_append_38 : decode cX3_append 38 = .ok (.aload 4, 2) := by decide +kernel
theorem dX3_append_40 : decode cX3_append 40 = .ok (.invokevirtual 62, 3) := by decide +kernel
theorem dX3_append_43 : decode cX3_append 43 = .ok (.aload_n 0, 1) := by decide +kernel
theorem dX3_append_44 : decode cX3_append 44 = .ok (.dup, 1) := by decide +kernel
theorem dX3_append_45 : decode cX3_append 45 = .ok (.getfield 52, 3) := by decide +kernel
theorem dX3_append_48 : decode cX3_append 48 = .ok (.iconst 1, 1) := by decide +kernel
theorem dX3_append_49 : decode cX3_append 49 = .ok (.iadd, 1) := by decide +kernel
theorem dX3_append_50 : decode cX3_append 50 = .ok (.putfield 52, 3) := by decide +kernel
theorem dX3_append_53 : decode cX3_append 53 = .ok (.return_, 1) := by decide +kernel
theorem dX3_remove_0 : decode cX3_remove 0 = .ok (.aload_n 0, 1) := by decide +kernel
theorem dX3_remove_1 : decode cX3_remove 1 = .ok (.getfield 17, 3) := by decide +kernel
theorem dX3_remove_4 : decode cX3_remove 4 = .ok (.iload_n 1, 1) := by decide +kernel
theorem dX3_remove_5 : decode cX3_remove 5 = .ok (.aaload, 1) := by decide +kernel
theorem dX3_remove_6 : decode cX3_remove 6 = .ok (.astore_n 2, 1) := by decide +kernel
theorem dX3_remove_7 : decode cX3_remove 7 = .ok (.iload_n 1, 1) := by decide +kernel
theorem dX3_remove_8 : decode cX3_remove 8 = .ok (.istore_n 3, 1) := by decide +kernel
theorem dX3_remove_9 : decode cX3_remove 9 = .ok (.iload_n 3, 1) := by decide +kernel
theorem dX3_remove_10 : decode cX3_remove 10 = .ok (.aload_n 0, 1) := by decide +kernel
theorem dX3_remove_11 : decode cX3_remove 11 = .ok (.getfield 52, 3) := by decide +kernel
theorem dX3_remove_14 : decode cX3_remove 14 = .ok (.iconst 1, 1) := by decide +kernel
theorem dX3_remove_15 : decode cX3_remove 15 = .ok (.isub, 1) := by decide +kernel
theorem dX3_remove_16 : decode cX3_remove 16 = .ok (.if_icmp .ge 23, 3) := by decide +kernel
theorem dX3_remove_19 : decode cX3_remove 19 = .ok (.aload_n 0, 1) := by decide +kernel
theorem dX3_remove_20 : decode cX3_remove 20 = .ok (.getfield 17, 3) := by decide +kernel
theorem dX3_remove_23 : decode cX3_remove 23 = .ok (.iload_n 3, 1) := by decide +kernel
theorem dX3_remove_24 : decode cX3_remove 24 = .ok (.aload_n 0, 1) := by decide +kernel
theorem dX3_remove_25 : decode cX3_remove 25 = .ok (.getfield 17, 3) := by decide +kernel
theorem dX3_remove_28 : decode cX3_remove 28 = .ok (.iload_n 3, 1) := by decide +kernel
theorem dX3_remove_29 : decode cX3_remove 29 = .ok (.iconst 1, 1) := by decide +kernel
theorem dX3_remove_30 : decode cX3_remove 30 = .ok (.iadd, 1) := by decide +kernel
theorem dX3_remove_31 : decode cX3_remove 31 = .ok (.aaload, 1) := by decide +kernel
theorem dX3_remove_32 : decode cX3_remove 32 = .ok (.aastore, 1) := by decide +kernel
theorem dX3_remove_33 : decode cX3_remove 33 = .ok (.iinc 3 1, 3) := by decide +kernel
theorem dX3_remove_36 : decode cX3_remove 36 = .ok (.goto (-27), 3) := by decide +kernel
theorem dX3_remove_39 : decode cX3_remove 39 = .ok (.aload_n 0, 1) := by decide +kernel
theorem dX3_remove_40 : decode cX3_remove 40 = .ok (.dup, 1) := by decide +kernel
theorem dX3_remove_41 : decode cX3_remove 41 = .ok (.getfield 52, 3) := by decide +kernel
theorem dX3_remove_44 : decode cX3_remove 44 = .ok (.iconst 1, 1) := by decide +kernel
theorem dX3_remove_45 : decode cX3_remove 45 = .ok (.isub, 1) := by decide +kernel
theorem dX3_remove_46 : decode cX3_remove 46 = .ok (.putfield 52, 3) := by decide +kernel
theorem dX3_remove_49 : decode cX3_remove 49 = .ok (.aload_n 0, 1) := by decide +kernel
theorem dX3_remove_50 : decode cX3_remove 50 = .ok (.getfield 17, 3) := by decide +kernel
theorem dX3_remove_53 : decode cX3_remove 53 = .ok (.aload_n 0, 1) := by decide +kernel
theorem dX3_remove_54 : decode cX3_remove 54 = .ok (.getfield 52, 3) := by decide +kernel
theorem dX3_remove_57 : decode cX3_remove 57 = .ok (.aload_n 2, 1) := by decide +kernel
theorem dX3_remove_58 : decode cX3_remove 58 = .ok (.aastore, 1) := by decide +kernel
theorem dX3_remove_59 : decode cX3_remove 59 = .ok (.iconst 0, 1) := by decide +kernel
theorem dX3_remove_60 : decode cX3_remove 60 = .ok (.istore_n 3, 1) := by decide +kernel
theorem dX3_remove_61 : decode cX3_remove 61 = .ok (.iload_n 3, 1) := by decide +kernel
theorem dX3_remove_62 : decode cX3_remove 62 = .ok (.bipush 16, 2) := by decide +kernel
theorem dX3_remove_64 : decode cX3_remove 64 = .ok (.if_icmp .ge 63, 3) := by decide +kernel
theorem dX3_remove_67 : decode cX3_remove 67 = .ok (.aload_n 0, 1) := by decide +kernel
theorem dX3_remove_68 : decode cX3_remove 68 = .ok (.getfield 23, 3) := by decide +kernel
theorem dX3_remove_71 : decode cX3_remove 71 = .ok (.iload_n 3, 1) := by decide +kernel
theorem dX3_remove_72 : decode cX3_remove 72 = .ok (.aaload, 1) := by decide +kernel
theorem dX3_remove_73 : decode cX3_remove 73 = .ok (.getfield 76, 3) := by decide +kernel
theorem dX3_remove_76 : decode cX3_remove 76 = .ok (.iload_n 1, 1) := by decide +kernel
theorem dX3_remove_77 : decode cX3_remove 77 = .ok (.if_icmp .ne 16, 3) := by decide +kernel
theorem dX3_remove_80 : decode cX3_remove 80 = .ok (.aload_n 0, 1) := by decide +kernel
theorem dX3_remove_81 : decode cX3_remove 81 = .ok (.getfield 23, 3) := by decide +kernel
theorem dX3_remove_84 : decode cX3_remove 84 = .ok (.iload_n 3, 1) := by decide +kernel
theorem dX3_remove_85 : decode cX3_remove 85 = .ok (.aaload, 1) := by decide +kernel
theorem dX3_remove_86 : decode cX3_remove 86 = .ok (.iconst (-1), 1) := by decide +kernel
theorem dX3_remove_87 : decode cX3_remove 87 = .ok (.putfield 76, 3) := by decide +kernel
theorem dX3_remove_90 : decode cX3_remove 90 = .ok (.goto 31, 3) := by decide +kernel
theorem dX3_remove_93 : decode cX3_remove 93 = .ok (.aload_n 0, 1) := by decide +kernel
theorem dX3_remove_94 : decode cX3_remove 94 = .ok (.getfield 23, 3) := by decide +kernel
theorem dX3_remove_97 : decode cX3_remove 97 = .ok (.iload_n 3, 1) := by decide +kernel
theorem dX3_remove_98 : decode cX3_remove 98 = .ok (.aaload, 1) := by decide +kernel
theorem dX3_remove_99 : decode cX3_remove 99 = .ok (.getfield 76, 3) := by decide +kernel
theorem dX3_remove_102 : decode cX3_remove 102 = .ok (.iload_n 1, 1) := by decide +kernel
theorem dX3_remove_103 : decode cX3_remove 103 = .ok (.if_icmp .le 18, 3) := by decide +kernel
theorem dX3_remove_106 : decode cX3_remove 106 = .ok (.aload_n 0, 1) := by decide +kernel
theorem dX3_remove_107 : decode cX3_remove 107 = .ok (.getfield 23, 3) := by decide +kernel
theorem dX3_remove_110 : decode cX3_remove 110 = .ok (.iload_n 3, 1) := by decide +kernel
theorem dX3_remove_111 : decode cX3_remove 111 = .ok (.aaload, 1) := by decide +kernel
theorem dX3_remove_112 : decode cX3_remove 112 = .ok (.dup, 1) := by decide +kernel
theorem dX3_remove_113 : decode cX3_remove 113 = .ok (.getfield 76, 3) := by decide +kernel
theorem dX3_remove_116 : decode cX3_remove 116 = .ok (.iconst 1, 1) := by decide +kernel
theorem dX3_remove_117 : decode cX3_remove 117 = .ok (.isub, 1) := by decide +kernel
theorem dX3_remove_118 : decode cX3_remove 118 = .ok (.putfield 76, 3) := by decide +kernel
theorem dX3_remove_121 : decode cX3_remove 121 = .ok (.iinc 3 1, 3) := by decide +kernel
theorem dX3_remove_124 : decode cX3_remove 124 = .ok (.goto (-63), 3) := by decide +kernel
theorem dX3_remove_127 : decode cX3_remove 127 = .ok (.return_, 1) := by decide +kernel
theorem dX3_greatestPrime_0 : decode cX3_greatestPrime 0 = .ok (.getstatic 79, 3) := by decide +kernel
theorem dX3_greatestPrime_3 : decode cX3_greatestPrime 3 = .ok (.aload_n 0, 1) := by decide +kernel
theorem dX3_greatestPrime_4 : decode cX3_greatestPrime 4 = .ok (.getfield 9, 3) := by decide +kernel
theorem dX3_greatestPrime_7 : decode cX3_greatestPrime 7 = .ok (.iconst 0, 1) := by decide +kernel
theorem dX3_greatestPrime_8 : decode cX3_greatestPrime 8 = .ok (.iaload, 1) := by decide +kernel
theorem dX3_greatestPrime_9 : decode cX3_greatestPrime 9 = .ok (.iaload, 1) := by decide +kernel
theorem dX3_greatestPrime_10 : decode cX3_greatestPrime 10 = .ok (.ireturn, 1) := by decide +kernel
theorem dX3_bankAt_0 : decode cX3_bankAt 0 = .ok (.aload_n 0, 1) := by decide +kernel
theorem dX3_bankAt_1 : decode cX3_bankAt 1 = .ok (.getfield 9, 3) := by decide +kernel
theorem dX3_bankAt_4 : decode cX3_bankAt 4 = .ok (.iconst 2, 1) := by decide +kernel
theorem dX3_bankAt_5 : decode cX3_bankAt 5 = .ok (.iaload, 1) := by decide +kernel
theorem dX3_bankAt_6 : decode cX3_bankAt 6 = .ok (.iconst 2, 1) := by decide +kernel
theorem dX3_bankAt_7 : decode cX3_bankAt 7 = .ok (.if_icmp .ne 10, 3) := by decide +kernel
theorem dX3_bankAt_10 : decode cX3_bankAt 10 = .ok (.aload_n 0, 1) := by decide +kernel
theorem dX3_bankAt_11 : decode cX3_bankAt 11 = .ok (.invokevirtual 82, 3) := by decide +kernel
theorem dX3_bankAt_14 : decode cX3_bankAt 14 = .ok (.goto 9, 3) := by decide +kernel
theorem dX3_bankAt_17 : decode cX3_bankAt 17 = .ok (.aload_n 0, 1) := by decide +kernel
theorem dX3_bankAt_18 : decode cX3_bankAt 18 = .ok (.getfield 9, 3) := by decide +kernel
theorem dX3_bankAt_21 : decode cX3_bankAt 21 = .ok (.iconst 0, 1) := by decide +kernel
theorem dX3_bankAt_22 : decode cX3_bankAt 22 = .ok (.iaload, 1) := by decide +kernel
theorem dX3_bankAt_23 : decode cX3_bankAt 23 = .ok (.istore_n 2, 1) := by decide +kernel
theorem dX3_bankAt_24 : decode cX3_bankAt 24 = .ok (.iload_n 2, 1) := by decide +kernel
theorem dX3_bankAt_25 : decode cX3_bankAt 25 = .ok (.iconst 1, 1) := by decide +kernel
theorem dX3_bankAt_26 : decode cX3_bankAt 26 = .ok (.if_icmp .ge 5, 3) := by decide +kernel
theorem dX3_bankAt_29 : decode cX3_bankAt 29 = .ok (.iconst 0, 1) := by decide +kernel
theorem dX3_bankAt_30 : decode cX3_bankAt 30 = .ok (.ireturn, 1) := by decide +kernel
theorem dX3_bankAt_31 : decode cX3_bankAt 31 = .ok (.aload_n 0, 1) := by decide +kernel
theorem dX3_bankAt_32 : decode cX3_bankAt 32 = .ok (.getfield 9, 3) := by decide +kernel
theorem dX3_bankAt_35 : decode cX3_bankAt 35 = .ok (.iconst 2, 1) := by decide +kernel
theorem dX3_bankAt_36 : decode cX3_bankAt 36 = .ok (.iaload, 1) := by decide +kernel
theorem dX3_bankAt_37 : decode cX3_bankAt 37 = .ok (.iconst 1, 1) := by decide +kernel
theorem dX3_bankAt_38 : decode cX3_bankAt 38 = .ok (.if_icmp .ne 11, 3) := by decide +kernel
theorem dX3_bankAt_41 : decode cX3_bankAt 41 = .ok (.iload_n 1, 1) := by decide +kernel
theorem dX3_bankAt_42 : decode cX3_bankAt 42 = .ok (.iload_n 1, 1) := by decide +kernel
theorem dX3_bankAt_43 : decode cX3_bankAt 43 = .ok (.iload_n 2, 1) := by decide +kernel
theorem dX3_bankAt_44 : decode cX3_bankAt 44 = .ok (.idiv, 1) := by decide +kernel
theorem dX3_bankAt_45 : decode cX3_bankAt 45 = .ok (.iadd, 1) := by decide +kernel
theorem dX3_bankAt_46 : decode cX3_bankAt 46 = .ok (.goto 4, 3) := by decide +kernel
theorem dX3_bankAt_49 : decode cX3_bankAt 49 = .ok (.iload_n 1, 1) := by decide +kernel
theorem dX3_bankAt_50 : decode cX3_bankAt 50 = .ok (.istore_n 3, 1) := by decide +kernel
theorem dX3_bankAt_51 : decode cX3_bankAt 51 = .ok (.iload_n 3, 1) := by decide +kernel
theorem dX3_bankAt_52 : decode cX3_bankAt 52 = .ok (.iload_n 2, 1) := by decide +kernel
theorem dX3_bankAt_53 : decode cX3_bankAt 53 = .ok (.irem, 1) := by decide +kernel
theorem dX3_bankAt_54 : decode cX3_bankAt 54 = .ok (.ireturn, 1) := by decide +kernel
theorem dX3_passCycle_0 : decode cX3_passCycle 0 = .ok (.iconst 0, 1) := by decide +kernel
theorem dX3_passCycle_1 : decode cX3_passCycle 1 = .ok (.istore_n 1, 1) := by decide +kernel
theorem dX3_passCycle_2 : decode cX3_passCycle 2 = .ok (.aload_n 0, 1) := by decide +kernel
theorem dX3_passCycle_3 : decode cX3_passCycle 3 = .ok (.getfield 9, 3) := by decide +kernel
theorem dX3_passCycle_6 : decode cX3_passCycle 6 = .ok (.iconst 3, 1) := by decide +kernel
theorem dX3_passCycle_7 : decode cX3_passCycle 7 = .ok (.iaload, 1) := by decide +kernel
theorem dX3_passCycle_8 : decode cX3_passCycle 8 = .ok (.iconst 1, 1) := by decide +kernel
theorem dX3_passCycle_9 : decode cX3_passCycle 9 = .ok (.if_icmp .ne 22, 3) := by decide +kernel
theorem dX3_passCycle_12 : decode cX3_passCycle 12 = .ok (.aload_n 0, 1) := by decide +kernel
theorem dX3_passCycle_13 : decode cX3_passCycle 13 = .ok (.getfield 52, 3) := by decide +kernel
theorem dX3_passCycle_16 : decode cX3_passCycle 16 = .ok (.ifCond .le 15, 3) := by decide +kernel
theorem dX3_passCycle_19 : decode cX3_passCycle 19 = .ok (.aload_n 0, 1) := by decide +kernel
theorem dX3_passCycle_20 : decode cX3_passCycle 20 = .ok (.getfield 56, 3) := by decide +kernel
theorem dX3_passCycle_23 : decode cX3_passCycle 23 = .ok (.aload_n 0, 1) := by decide +kernel
theorem dX3_passCycle_24 : decode cX3_passCycle 24 = .ok (.getfield 52, 3) := by decide +kernel
theorem dX3_passCycle_27 : decode cX3_passCycle 27 = .ok (.irem, 1) := by decide +kernel
theorem dX3_passCycle_28 : decode cX3_passCycle 28 = .ok (.goto 4, 3) := by decide +kernel
theorem dX3_passCycle_31 : decode cX3_passCycle 31 = .ok (.iconst 0, 1) := by decide +kernel
theorem dX3_passCycle_32 : decode cX3_passCycle 32 = .ok (.istore_n 2, 1) := by decide +kernel
theorem dX3_passCycle_33 : decode cX3_passCycle 33 = .ok (.iload_n 2, 1) := by decide +kernel
theorem dX3_passCycle_34 : decode cX3_passCycle 34 = .ok (.istore_n 3, 1) := by decide +kernel
theorem dX3_passCycle_35 : decode cX3_passCycle 35 = .ok (.iload_n 3, 1) := by decide +kernel
theorem dX3_passCycle_36 : decode cX3_passCycle 36 = .ok (.aload_n 0, 1) := by decide +kernel
theorem dX3_passCycle_37 : decode cX3_passCycle 37 = .ok (.getfield 52, 3) := by decide +kernel
theorem dX3_passCycle_40 : decode cX3_passCycle 40 = .ok (.if_icmp .ge 17, 3) := by decide +kernel
theorem dX3_passCycle_43 : decode cX3_passCycle 43 = .ok (.iload_n 1, 1) := by decide +kernel
theorem dX3_passCycle_44 : decode cX3_passCycle 44 = .ok (.aload_n 0, 1) := by decide +kernel
theorem dX3_passCycle_45 : decode cX3_passCycle 45 = .ok (.iload_n 3, 1) := by decide +kernel
theorem dX3_passCycle_46 : decode cX3_passCycle 46 = .ok (.invokevirtual 86, 3) := by decide +kernel
theorem dX3_passCycle_49 : decode cX3_passCycle 49 = .ok (.iadd, 1) := by decide +kernel
theorem dX3_passCycle_50 : decode cX3_passCycle 50 = .ok (.istore_n 1, 1) := by decide +kernel
theorem dX3_passCycle_51 : decode cX3_passCycle 51 = .ok (.iinc 3 1, 3) := by decide +kernel
theorem dX3_passCycle_54 : decode cX3_passCycle 54 = .ok (.goto (-19), 3) := by decide +kernel
theorem dX3_passCycle_57 : decode cX3_passCycle 57 = .ok (.iconst 0, 1) := by decide +kernel
theorem dX3_passCycle_58 : decode cX3_passCycle 58 = .ok (.istore_n 3, 1) := by decide +kernel
theorem dX3_passCycle_59 : decode cX3_passCycle 59 = .ok (.iload_n 3, 1) := by decide +kernel
theorem dX3_passCycle_60 : decode cX3_passCycle 60 = .ok (.iload_n 2, 1) := by decide +kernel
theorem dX3_passCycle_61 : decode cX3_passCycle 61 = .ok (.if_icmp .ge 17, 3) := by decide +kernel
theorem dX3_passCycle_64 : decode cX3_passCycle 64 = .ok (.iload_n 1, 1) := by decide +kernel
theorem dX3_passCycle_65 : decode cX3_passCycle 65 = .ok (.aload_n 0, 1) := by decide +kernel
theorem dX3_passCycle_66 : decode cX3_passCycle 66 = .ok (.iload_n 3, 1) := by decide +kernel
theorem dX3_passCycle_67 : decode cX3_passCycle 67 = .ok (.invokevirtual 86, 3) := by decide +kernel
theorem dX3_passCycle_70 : decode cX3_passCycle 70 = .ok (.iadd, 1) := by decide +kernel
theorem dX3_passCycle_71 : decode cX3_passCycle 71 = .ok (.istore_n 1, 1) := by decide +kernel
theorem dX3_passCycle_72 : decode cX3_passCycle 72 = .ok (.iinc 3 1, 3) := by decide +kernel
theorem dX3_passCycle_75 : decode cX3_passCycle 75 = .ok (.goto (-16), 3) := by decide +kernel
theorem dX3_passCycle_78 : decode cX3_passCycle 78 = .ok (.aload_n 0, 1) := by decide +kernel
theorem dX3_passCycle_79 : decode cX3_passCycle 79 = .ok (.dup, 1) := by decide +kernel
theorem dX3_passCycle_80 : decode cX3_passCycle 80 = .ok (.getfield 56, 3) := by decide +kernel
theorem dX3_passCycle_83 : decode cX3_passCycle 83 = .ok (.iconst 1, 1) := by decide +kernel
theorem dX3_passCycle_84 : decode cX3_passCycle 84 = .ok (.iadd, 1) := by decide +kernel
theorem dX3_passCycle_85 : decode cX3_passCycle 85 = .ok (.putfield 56, 3) := by decide +kernel
theorem dX3_passCycle_88 : decode cX3_passCycle 88 = .ok (.iload_n 1, 1) := by decide +kernel
theorem dX3_passCycle_89 : decode cX3_passCycle 89 = .ok (.ireturn, 1) := by decide +kernel
theorem dX3_ask_0 : decode cX3_ask 0 = .ok (.aload_n 0, 1) := by decide +kernel
theorem dX3_ask_1 : decode cX3_ask 1 = .ok (.getfield 17, 3) := by decide +kernel
theorem dX3_ask_4 : decode cX3_ask 4 = .ok (.iload_n 1, 1) := by decide +kernel
theorem dX3_ask_5 : decode cX3_ask 5 = .ok (.aaload, 1) := by decide +kernel
theorem dX3_ask_6 : decode cX3_ask 6 = .ok (.astore_n 2, 1) := by decide +kernel
theorem dX3_ask_7 : decode cX3_ask 7 = .ok (.aload_n 2, 1) := by decide +kernel
theorem dX3_ask_8 : decode cX3_ask 8 = .ok (.getfield 90, 3) := by decide +kernel
theorem dX3_ask_11 : decode cX3_ask 11 = .ok (.ifCond .ne 5, 3) := by decide +kernel
theorem dX3_ask_14 : decode cX3_ask 14 = .ok (.iconst 0, 1) := by decide +kernel
theorem dX3_ask_15 : decode cX3_ask 15 = .ok (.ireturn, 1) := by decide +kernel
theorem dX3_ask_16 : decode cX3_ask 16 = .ok (.aload_n 2, 1) := by decide +kernel
theorem dX3_ask_17 : decode cX3_ask 17 = .ok (.invokevirtual 93, 3) := by decide +kernel
theorem dX3_ask_20 : decode cX3_ask 20 = .ok (.istore_n 3, 1) := by decide +kernel
theorem dX3_ask_21 : decode cX3_ask 21 = .ok (.aload_n 0, 1) := by decide +kernel
theorem dX3_ask_22 : decode cX3_ask 22 = .ok (.getfield 23, 3) := by decide +kernel
theorem dX3_ask_25 : decode cX3_ask 25 = .ok (.aload_n 0, 1) := by decide +kernel
theorem dX3_ask_26 : decode cX3_ask 26 = .ok (.iload_n 3, 1) := by decide +kernel
theorem dX3_ask_27 : decode cX3_ask 27 = .ok (.invokevirtual 96, 3) := by decide +kernel
theorem dX3_ask_30 : decode cX3_ask 30 = .ok (.aaload, 1) := by decide +kernel
theorem dX3_ask_31 : decode cX3_ask 31 = .ok (.astore 4, 2) := by decide +kernel
theorem dX3_ask_33 : decode cX3_ask 33 = .ok (.aload 4, 2) := by decide +kernel
theorem dX3_ask_35 : decode cX3_ask 35 = .ok (.getfield 99, 3) := by decide +kernel
theorem dX3_ask_38 : decode cX3_ask 38 = .ok (.aload_n 0, 1) := by decide +kernel
theorem dX3_ask_39 : decode cX3_ask 39 = .ok (.getfield 56, 3) := by decide +kernel
theorem dX3_ask_42 : decode cX3_ask 42 = .ok (.if_icmp .le 49, 3) := by decide +kernel
theorem dX3_ask_45 : decode cX3_ask 45 = .ok (.aload 4, 2) := by decide +kernel
theorem dX3_ask_47 : decode cX3_ask 47 = .ok (.dup, 1) := by decide +kernel
theorem dX3_ask_48 : decode cX3_ask 48 = .ok (.getfield 102, 3) := by decide +kernel
theorem dX3_ask_51 : decode cX3_ask 51 = .ok (.iconst 1, 1) := by decide +kernel
theorem dX3_ask_52 : decode cX3_ask 52 = .ok (.iadd, 1) := by decide +kernel
theorem dX3_ask_53 : decode cX3_ask 53 = .ok (.putfield 102, 3) := by decide +kernel
theorem dX3_ask_56 : decode cX3_ask 56 = .ok (.aload_n 2, 1) := by decide +kernel
theorem dX3_ask_57 : decode cX3_ask 57 = .ok (.dup, 1) := by decide +kernel
theorem dX3_ask_58 : decode cX3_ask 58 = .ok (.getfield 105, 3) := by decide +kernel
theorem dX3_ask_61 : decode cX3_ask 61 = .ok (.iconst 1, 1) := by decide +kernel
theorem dX3_ask_62 : decode cX3_ask 62 = .ok (.iadd, 1) := by decide +kernel
theorem dX3_ask_63 : decode cX3_ask 63 = .ok (.putfield 105, 3) := by decide +kernel
theorem dX3_ask_66 : decode cX3_ask 66 = .ok (.aload_n 2, 1) := by decide +kernel
theorem dX3_ask_67 : decode cX3_ask 67 = .ok (.dup, 1) := by decide +kernel
theorem dX3_ask_68 : decode cX3_ask 68 = .ok (.getfield 106, 3) := by decide +kernel
theorem dX3_ask_71 : decode cX3_ask 71 = .ok (.aload 4, 2) := by decide +kernel
theorem dX3_ask_73 : decode cX3_ask 73 = .ok (.getfield 76, 3) := by decide +kernel
theorem dX3_ask_76 : decode cX3_ask 76 = .ok (.iload_n 1, 1) := by decide +kernel
theorem dX3_ask_77 : decode cX3_ask 77 = .ok (.if_icmp .ne 7, 3) := by decide +kernel
theorem dX3_ask_80 : decode cX3_ask 80 = .ok (.iconst 0, 1) := by decide +kernel
theorem dX3_ask_81 : decode cX3_ask 81 = .ok (.goto 4, 3) := by decide +kernel
theorem dX3_ask_84 : decode cX3_ask 84 = .ok (.iconst 1, 1) := by decide +kernel
theorem dX3_ask_85 : decode cX3_ask 85 = .ok (.iadd, 1) := by decide +kernel
theorem dX3_ask_86 : decode cX3_ask 86 = .ok (.putfield 106, 3) := by decide +kernel
theorem dX3_ask_89 : decode cX3_ask 89 = .ok (.iconst 0, 1) := by decide +kernel
theorem dX3_ask_90 : decode cX3_ask 90 = .ok (.ireturn, 1) := by decide +kernel
theorem dX3_ask_91 : decode cX3_ask 91 = .ok (.aload 4, 2) := by decide +kernel
theorem dX3_ask_93 : decode cX3_ask 93 = .ok (.aload_n 0, 1) := by decide +kernel
theorem dX3_ask_94 : decode cX3_ask 94 = .ok (.getfield 56, 3) := by decide +kernel
theorem dX3_ask_97 : decode cX3_ask 97 = .ok (.aload_n 0, 1) := by decide +kernel
theorem dX3_ask_98 : decode cX3_ask 98 = .ok (.getfield 9, 3) := by decide +kernel
theorem dX3_ask_101 : decode cX3_ask 101 = .ok (.iconst 1, 1) := by decide +kernel
theorem dX3_ask_102 : decode cX3_ask 102 = .ok (.iaload, 1) := by decide +kernel
theorem dX3_ask_103 : decode cX3_ask 103 = .ok (.iadd, 1) := by decide +kernel
theorem dX3_ask_104 : decode cX3_ask 104 = .ok (.putfield 99, 3) := by decide +kernel
theorem dX3_ask_107 : decode cX3_ask 107 = .ok (.aload 4, 2) := by decide +kernel
theorem dX3_ask_109 : decode cX3_ask 109 = .ok (.iload_n 1, 1) := by decide +kernel
theorem dX3_ask_110 : decode cX3_ask 110 = .ok (.putfield 76, 3) := by decide +kernel
theorem dX3_ask_113 : decode cX3_ask 113 = .ok (.aload 4, 2) := by decide +kernel
theorem dX3_ask_115 : decode cX3_ask 115 = .ok (.dup, 1) := by decide +kernel
theorem dX3_ask_116 : decode cX3_ask 116 = .ok (.getfield 109, 3) := by decide +kernel
theorem dX3_ask_119 : decode cX3_ask 119 = .ok (.iconst 1, 1) := by decide +kernel
theorem dX3_ask_120 : decode cX3_ask 120 = .ok (.iadd, 1) := by decide +kernel
theorem dX3_ask_121 : decode cX3_ask 121 = .ok (.putfield 109, 3) := by decide +kernel
theorem dX3_ask_124 : decode cX3_ask 124 = .ok (.aload_n 2, 1) := by decide +kernel
theorem dX3_ask_125 : decode cX3_ask 125 = .ok (.iload_n 3, 1) := by decide +kernel
theorem dX3_ask_126 : decode cX3_ask 126 = .ok (.aload_n 0, 1) := by decide +kernel
theorem dX3_ask_127 : decode cX3_ask 127 = .ok (.getfield 56, 3) := by decide +kernel
theorem dX3_ask_130 : decode cX3_ask 130 = .ok (.invokevirtual 112, 3) := by decide +kernel
theorem dX3_ask_133 : decode cX3_ask 133 = .ok (.iconst 1, 1) := by decide +kernel
theorem dX3_ask_134 : decode cX3_ask 134 = .ok (.ireturn, 1) := by decide +kernel
theorem dX3_passAll_0 : decode cX3_passAll 0 = .ok (.aload_n 0, 1) := by decide +kernel
theorem dX3_passAll_1 : decode cX3_passAll 1 = .ok (.iconst 3, 1) := by decide +kernel
theorem dX3_passAll_2 : decode cX3_passAll 2 = .ok (.invokevirtual 116, 3) := by decide +kernel
theorem dX3_passAll_5 : decode cX3_passAll 5 = .ok (.istore_n 1, 1) := by decide +kernel
theorem dX3_passAll_6 : decode cX3_passAll 6 = .ok (.iconst 0, 1) := by decide +kernel
theorem dX3_passAll_7 : decode cX3_passAll 7 = .ok (.istore_n 2, 1) := by decide +kernel
theorem dX3_passAll_8 : decode cX3_passAll 8 = .ok (.iload_n 1, 1) := by decide +kernel
theorem dX3_passAll_9 : decode cX3_passAll 9 = .ok (.ifCond .le 22, 3) := by decide +kernel
theorem dX3_passAll_12 : decode cX3_passAll 12 = .ok (.iload_n 2, 1) := by decide +kernel
theorem dX3_passAll_13 : decode cX3_passAll 13 = .ok (.ldc 119, 2) := by decide +kernel
theorem dX3_passAll_15 : decode cX3_passAll 15 = .ok (.if_icmp .ge 16, 3) := by decide +kernel
theorem dX3_passAll_18 : decode cX3_passAll 18 = .ok (.iload_n 1, 1) := by decide +kernel
theorem dX3_passAll_19 : decode cX3_passAll 19 = .ok (.aload_n 0, 1) := by decide +kernel
theorem dX3_passAll_20 : decode cX3_passAll 20 = .ok (.invokevirtual 120, 3) := by decide +kernel
theorem dX3_passAll_23 : decode cX3_passAll 23 = .ok (.isub, 1) := by decide +kernel
theorem dX3_passAll_24 : decode cX3_passAll 24 = .ok (.istore_n 1, 1) := by decide +kernel
theorem dX3_passAll_25 : decode cX3_passAll 25 = .ok (.iinc 2 1, 3) := by decide +kernel
theorem dX3_passAll_28 : decode cX3_passAll 28 = .ok (.goto (-20), 3) := by decide +kernel
theorem dX3_passAll_31 : decode cX3_passAll 31 = .ok (.iload_n 2, 1) := by decide +kernel
theorem dX3_passAll_32 : decode cX3_passAll 32 = .ok (.ireturn, 1) := by decide +kernel
theorem dX3_banksMet_0 : decode cX3_banksMet 0 = .ok (.iconst 0, 1) := by decide +kernel
theorem dX3_banksMet_1 : decode cX3_banksMet 1 = .ok (.istore_n 2, 1) := by decide +kernel
theorem dX3_banksMet_2 : decode cX3_banksMet 2 = .ok (.aload_n 1, 1) := by decide +kernel
theorem dX3_banksMet_3 : decode cX3_banksMet 3 = .ok (.getfield 63, 3) := by decide +kernel
theorem dX3_banksMet_6 : decode cX3_banksMet 6 = .ok (.istore_n 3, 1) := by decide +kernel
theorem dX3_banksMet_7 : decode cX3_banksMet 7 = .ok (.iconst 0, 1) := by decide +kernel
theorem dX3_banksMet_8 : decode cX3_banksMet 8 = .ok (.istore 4, 2) := by decide +kernel
theorem dX3_banksMet_10 : decode cX3_banksMet 10 = .ok (.iload 4, 2) := by decide +kernel
theorem dX3_banksMet_12 : decode cX3_banksMet 12 = .ok (.aload_n 1, 1) := by decide +kernel
theorem dX3_banksMet_13 : decode cX3_banksMet 13 = .ok (.getfield 69, 3) := by decide +kernel
theorem dX3_banksMet_16 : decode cX3_banksMet 16 = .ok (.if_icmp .ge 30, 3) := by decide +kernel
theorem dX3_banksMet_19 : decode cX3_banksMet 19 = .ok (.iload_n 2, 1) := by decide +kernel
theorem dX3_banksMet_20 : decode cX3_banksMet 20 = .ok (.iconst 1, 1) := by decide +kernel
theorem dX3_banksMet_21 : decode cX3_banksMet 21 = .ok (.aload_n 0, 1) := by decide +kernel
theorem dX3_banksMet_22 : decode cX3_banksMet 22 = .ok (.iload_n 3, 1) := by decide +kernel
theorem dX3_banksMet_23 : decode cX3_banksMet 23 = .ok (.invokevirtual 96, 3) := by decide +kernel
theorem dX3_banksMet_26 : decode cX3_banksMet 26 = .ok (.ishl, 1) := by decide +kernel
theorem dX3_banksMet_27 : decode cX3_banksMet 27 = .ok (.ior, 1) := by decide +kernel
theorem dX3_banksMet_28 : decode cX3_banksMet 28 = .ok (.istore_n 2, 1) := by decide +kernel
theorem dX3_banksMet_29 : decode cX3_banksMet 29 = .ok (.iload_n 3, 1) := by decide +kernel
theorem dX3_banksMet_30 : decode cX3_banksMet 30 = .ok (.aload_n 1, 1) := by decide +kernel
theorem dX3_banksMet_31 : decode cX3_banksMet 31 = .ok (.getfield 66, 3) := by decide +kernel
theorem dX3_banksMet_34 : decode cX3_banksMet 34 = .ok (.iadd, 1) := by decide +kernel
theorem dX3_banksMet_35 : decode cX3_banksMet 35 = .ok (.sipush 4096, 3) := by decide +kernel
theorem dX3_banksMet_38 : decode cX3_banksMet 38 = .ok (.irem, 1) := by decide +kernel
theorem dX3_banksMet_39 : decode cX3_banksMet 39 = .ok (.istore_n 3, 1) := by decide +kernel
theorem dX3_banksMet_40 : decode cX3_banksMet 40 = .ok (.iinc 4 1, 3) := by decide +kernel
theorem dX3_banksMet_43 : decode cX3_banksMet 43 = .ok (.goto (-33), 3) := by decide +kernel
theorem dX3_banksMet_46 : decode cX3_banksMet 46 = .ok (.iload_n 2, 1) := by decide +kernel
theorem dX3_banksMet_47 : decode cX3_banksMet 47 = .ok (.invokestatic 129, 3) := by decide +kernel
theorem dX3_banksMet_50 : decode cX3_banksMet 50 = .ok (.ireturn, 1) := by decide +kernel
theorem dX3_wordsLeftIn_0 : decode cX3_wordsLeftIn 0 = .ok (.iconst 0, 1) := by decide +kernel
theorem dX3_wordsLeftIn_1 : decode cX3_wordsLeftIn 1 = .ok (.istore_n 2, 1) := by decide +kernel
theorem dX3_wordsLeftIn_2 : decode cX3_wordsLeftIn 2 = .ok (.iconst 0, 1) := by decide +kernel
theorem dX3_wordsLeftIn_3 : decode cX3_wordsLeftIn 3 = .ok (.istore_n 3, 1) := by decide +kernel
theorem dX3_wordsLeftIn_4 : decode cX3_wordsLeftIn 4 = .ok (.iload_n 3, 1) := by decide +kernel
theorem dX3_wordsLeftIn_5 : decode cX3_wordsLeftIn 5 = .ok (.aload_n 0, 1) := by decide +kernel
theorem dX3_wordsLeftIn_6 : decode cX3_wordsLeftIn 6 = .ok (.getfield 52, 3) := by decide +kernel
theorem dX3_wordsLeftIn_9 : decode cX3_wordsLeftIn 9 = .ok (.if_icmp .ge 75, 3) := by decide +kernel
theorem dX3_wordsLeftIn_12 : decode cX3_wordsLeftIn 12 = .ok (.aload_n 0, 1) := by decide +kernel
theorem dX3_wordsLeftIn_13 : decode cX3_wordsLeftIn 13 = .ok (.getfield 17, 3) := by decide +kernel
theorem dX3_wordsLeftIn_16 : decode cX3_wordsLeftIn 16 = .ok (.iload_n 3, 1) := by decide +kernel
theorem dX3_wordsLeftIn_17 : decode cX3_wordsLeftIn 17 = .ok (.aaload, 1) := by decide +kernel
theorem dX3_wordsLeftIn_18 : decode cX3_wordsLeftIn 18 = .ok (.astore 4, 2) := by decide +kernel
theorem dX3_wordsLeftIn_20 : decode cX3_wordsLeftIn 20 = .ok (.aload 4, 2) := by decide +kernel
theorem dX3_wordsLeftIn_22 : decode cX3_wordsLeftIn 22 = .ok (.invokevirtual 93, 3) := by decide +kernel
theorem dX3_wordsLeftIn_25 : decode cX3_wordsLeftIn 25 = .ok (.istore 5, 2) := by decide +kernel
theorem dX3_wordsLeftIn_27 : decode cX3_wordsLeftIn 27 = .ok (.iconst 0, 1) := by decide +kernel
theorem dX3_wordsLeftIn_28 : decode cX3_wordsLeftIn 28 = .ok (.istore 6, 2) := by decide +kernel
theorem dX3_wordsLeftIn_30 : decode cX3_wordsLeftIn 30 = .ok (.iload 6, 2) := by decide +kernel
theorem dX3_wordsLeftIn_32 : decode cX3_wordsLeftIn 32 = .ok (.aload 4, 2) := by decide +kernel
theorem dX3_wordsLeftIn_34 : decode cX3_wordsLeftIn 34 = .ok (.getfield 90, 3) := by decide +kernel
theorem dX3_wordsLeftIn_37 : decode cX3_wordsLeftIn 37 = .ok (.if_icmp .ge 41, 3) := by decide +kernel
theorem dX3_wordsLeftIn_40 : decode cX3_wordsLeftIn 40 = .ok (.iload_n 2, 1) := by decide +kernel
theorem dX3_wordsLeftIn_41 : decode cX3_wordsLeftIn 41 = .ok (.aload_n 0, 1) := by decide +kernel
theorem dX3_wordsLeftIn_42 : decode cX3_wordsLeftIn 42 = .ok (.iload 5, 2) := by decide +kernel
theorem dX3_wordsLeftIn_44 : decode cX3_wordsLeftIn 44 = .ok (.invokevirtual 96, 3) := by decide +kernel
theorem dX3_wordsLeftIn_47 : decode cX3_wordsLeftIn 47 = .ok (.iload_n 1, 1) := by decide +kernel
theorem dX3_wordsLeftIn_48 : decode cX3_wordsLeftIn 48 = .ok (.if_icmp .ne 7, 3) := by decide +kernel
theorem dX3_wordsLeftIn_51 : decode cX3_wordsLeftIn 51 = .ok (.iconst 1, 1) := by decide +kernel
theorem dX3_wordsLeftIn_52 : decode cX3_wordsLeftIn 52 = .ok (.goto 4, 3) := by decide +kernel
theorem dX3_wordsLeftIn_55 : decode cX3_wordsLeftIn 55 = .ok (.iconst 0, 1) := by decide +kernel
theorem dX3_wordsLeftIn_56 : decode cX3_wordsLeftIn 56 = .ok (.iadd, 1) := by decide +kernel
theorem dX3_wordsLeftIn_57 : decode cX3_wordsLeftIn 57 = .ok (.istore_n 2, 1) := by decide +kernel
theorem dX3_wordsLeftIn_58 : decode cX3_wordsLeftIn 58 = .ok (.iload 5, 2) := by decide +kernel
theorem dX3_wordsLeftIn_60 : decode cX3_wordsLeftIn 60 = .ok (.aload 4, 2) := by decide +kernel
theorem dX3_wordsLeftIn_62 : decode cX3_wordsLeftIn 62 = .ok (.getfield 66, 3) := by decide +kernel
theorem dX3_wordsLeftIn_65 : decode cX3_wordsLeftIn 65 = .ok (.iadd, 1) := by decide +kernel
theorem dX3_wordsLeftIn_66 : decode cX3_wordsLeftIn 66 = .ok (.sipush 4096, 3) := by decide +kernel
theorem dX3_wordsLeftIn_69 : decode cX3_wordsLeftIn 69 = .ok (.irem, 1) := by decide +kernel
theorem dX3_wordsLeftIn_70 : decode cX3_wordsLeftIn 70 = .ok (.istore 5, 2) := by decide +kernel
theorem dX3_wordsLeftIn_72 : decode cX3_wordsLeftIn 72 = .ok (.iinc 6 1, 3) := by decide +kernel
theorem dX3_wordsLeftIn_75 : decode cX3_wordsLeftIn 75 = .ok (.goto (-45), 3) := by decide +kernel
theorem dX3_wordsLeftIn_78 : decode cX3_wordsLeftIn 78 = .ok (.iinc 3 1, 3) := by decide +kernel
theorem dX3_wordsLeftIn_81 : decode cX3_wordsLeftIn 81 = .ok (.goto (-77), 3) := by decide +kernel
theorem dX3_wordsLeftIn_84 : decode cX3_wordsLeftIn 84 = .ok (.iload_n 2, 1) := by decide +kernel
theorem dX3_wordsLeftIn_85 : decode cX3_wordsLeftIn 85 = .ok (.ireturn, 1) := by decide +kernel
theorem dX3_total_0 : decode cX3_total 0 = .ok (.iconst 0, 1) := by decide +kernel
theorem dX3_total_1 : decode cX3_total 1 = .ok (.istore_n 2, 1) := by decide +kernel
theorem dX3_total_2 : decode cX3_total 2 = .ok (.iconst 0, 1) := by decide +kernel
theorem dX3_total_3 : decode cX3_total 3 = .ok (.istore_n 3, 1) := by decide +kernel
theorem dX3_total_4 : decode cX3_total 4 = .ok (.iload_n 3, 1) := by decide +kernel
theorem dX3_total_5 : decode cX3_total 5 = .ok (.aload_n 0, 1) := by decide +kernel
theorem dX3_total_6 : decode cX3_total 6 = .ok (.getfield 52, 3) := by decide +kernel
theorem dX3_total_9 : decode cX3_total 9 = .ok (.if_icmp .ge 22, 3) := by decide +kernel
theorem dX3_total_12 : decode cX3_total 12 = .ok (.iload_n 2, 1) := by decide +kernel
theorem dX3_total_13 : decode cX3_total 13 = .ok (.aload_n 0, 1) := by decide +kernel
theorem dX3_total_14 : decode cX3_total 14 = .ok (.getfield 17, 3) := by decide +kernel
theorem dX3_total_17 : decode cX3_total 17 = .ok (.iload_n 3, 1) := by decide +kernel
theorem dX3_total_18 : decode cX3_total 18 = .ok (.aaload, 1) := by decide +kernel
theorem dX3_total_19 : decode cX3_total 19 = .ok (.iload_n 1, 1) := by decide +kernel
theorem dX3_total_20 : decode cX3_total 20 = .ok (.invokevirtual 134, 3) := by decide +kernel
theorem dX3_total_23 : decode cX3_total 23 = .ok (.iadd, 1) := by decide +kernel
theorem dX3_total_24 : decode cX3_total 24 = .ok (.istore_n 2, 1) := by decide +kernel
theorem dX3_total_25 : decode cX3_total 25 = .ok (.iinc 3 1, 3) := by decide +kernel
theorem dX3_total_28 : decode cX3_total 28 = .ok (.goto (-24), 3) := by decide +kernel
theorem dX3_total_31 : decode cX3_total 31 = .ok (.iload_n 2, 1) := by decide +kernel
theorem dX3_total_32 : decode cX3_total 32 = .ok (.ireturn, 1) := by decide +kernel
theorem dX3_busyBanks_0 : decode cX3_busyBanks 0 = .ok (.iconst 0, 1) := by decide +kernel
theorem dX3_busyBanks_1 : decode cX3_busyBanks 1 = .ok (.istore_n 1, 1) := by decide +kernel
theorem dX3_busyBanks_2 : decode cX3_busyBanks 2 = .ok (.iconst 0, 1) := by decide +kernel
theorem dX3_busyBanks_3 : decode cX3_busyBanks 3 = .ok (.istore_n 2, 1) := by decide +kernel
theorem dX3_busyBanks_4 : decode cX3_busyBanks 4 = .ok (.iload_n 2, 1) := by decide +kernel
theorem dX3_busyBanks_5 : decode cX3_busyBanks 5 = .ok (.bipush 16, 2) := by decide +kernel
theorem dX3_busyBanks_7 : decode cX3_busyBanks 7 = .ok (.if_icmp .ge 33, 3) := by decide +kernel
theorem dX3_busyBanks_10 : decode cX3_busyBanks 10 = .ok (.iload_n 1, 1) := by decide +kernel
theorem dX3_busyBanks_11 : decode cX3_busyBanks 11 = .ok (.aload_n 0, 1) := by decide +kernel
theorem dX3_busyBanks_12 : decode cX3_busyBanks 12 = .ok (.getfield 23, 3) := by decide +kernel
theorem dX3_busyBanks_15 : decode cX3_busyBanks 15 = .ok (.iload_n 2, 1) := by decide +kernel
theorem dX3_busyBanks_16 : decode cX3_busyBanks 16 = .ok (.aaload, 1) := by decide +kernel
theorem dX3_busyBanks_17 : decode cX3_busyBanks 17 = .ok (.getfield 99, 3) := by decide +kernel
theorem dX3_busyBanks_20 : decode cX3_busyBanks 20 = .ok (.aload_n 0, 1) := by decide +kernel
theorem dX3_busyBanks_21 : decode cX3_busyBanks 21 = .ok (.getfield 56, 3) := by decide +kernel
theorem dX3_busyBanks_24 : decode cX3_busyBanks 24 = .ok (.if_icmp .le 7, 3) := by decide +kernel
theorem dX3_busyBanks_27 : decode cX3_busyBanks 27 = .ok (.iconst 1, 1) := by decide +kernel
theorem dX3_busyBanks_28 : decode cX3_busyBanks 28 = .ok (.goto 4, 3) := by decide +kernel
theorem dX3_busyBanks_31 : decode cX3_busyBanks 31 = .ok (.iconst 0, 1) := by decide +kernel
theorem dX3_busyBanks_32 : decode cX3_busyBanks 32 = .ok (.iadd, 1) := by decide +kernel
theorem dX3_busyBanks_33 : decode cX3_busyBanks 33 = .ok (.istore_n 1, 1) := by decide +kernel
theorem dX3_busyBanks_34 : decode cX3_busyBanks 34 = .ok (.iinc 2 1, 3) := by decide +kernel
theorem dX3_busyBanks_37 : decode cX3_busyBanks 37 = .ok (.goto (-33), 3) := by decide +kernel
theorem dX3_busyBanks_40 : decode cX3_busyBanks 40 = .ok (.iload_n 1, 1) := by decide +kernel
theorem dX3_busyBanks_41 : decode cX3_busyBanks 41 = .ok (.ireturn, 1) := by decide +kernel
theorem dX4_init_0 : decode cX4_init 0 = .ok (.aload_n 0, 1) := by decide +kernel
theorem dX4_init_1 : decode cX4_init 1 = .ok (.invokespecial 3, 3) := by decide +kernel
theorem dX4_init_4 : decode cX4_init 4 = .ok (.return_, 1) := by decide +kernel
theorem dX4_beginAnew_0 : decode cX4_beginAnew 0 = .ok (.aload_n 0, 1) := by decide +kernel
theorem dX4_beginAnew_1 : decode cX4_beginAnew 1 = .ok (.aload_n 0, 1) := by decide +kernel
theorem dX4_beginAnew_2 : decode cX4_beginAnew 2 = .ok (.getfield 9, 3) := by decide +kernel
theorem dX4_beginAnew_5 : decode cX4_beginAnew 5 = .ok (.putfield 15, 3) := by decide +kernel
theorem dX4_beginAnew_8 : decode cX4_beginAnew 8 = .ok (.aload_n 0, 1) := by decide +kernel
theorem dX4_beginAnew_9 : decode cX4_beginAnew 9 = .ok (.aload_n 0, 1) := by decide +kernel
theorem dX4_beginAnew_10 : decode cX4_beginAnew 10 = .ok (.getfield 18, 3) := by decide +kernel
theorem dX4_beginAnew_13 : decode cX4_beginAnew 13 = .ok (.putfield 21, 3) := by decide +kernel
theorem dX4_beginAnew_16 : decode cX4_beginAnew 16 = .ok (.aload_n 0, 1) := by decide +kernel
theorem dX4_beginAnew_17 : decode cX4_beginAnew 17 = .ok (.iconst 0, 1) := by decide +kernel
theorem dX4_beginAnew_18 : decode cX4_beginAnew 18 = .ok (.putfield 24, 3) := by decide +kernel
theorem dX4_beginAnew_21 : decode cX4_beginAnew 21 = .ok (.aload_n 0, 1) := by decide +kernel
theorem dX4_beginAnew_22 : decode cX4_beginAnew 22 = .ok (.iconst 0, 1) := by decide +kernel
theorem dX4_beginAnew_23 : decode cX4_beginAnew 23 = .ok (.putfield 27, 3) := by decide +kernel
theorem dX4_beginAnew_26 : decode cX4_beginAnew 26 = .ok (.aload_n 0, 1) := by decide +kernel
theorem dX4_beginAnew_27 : decode cX4_beginAnew 27 = .ok (.bipush (-6), 2) := by decide +kernel
theorem dX4_beginAnew_29 : decode cX4_beginAnew 29 = .ok (.putfield 30, 3) := by decide +kernel
theorem dX4_beginAnew_32 : decode cX4_beginAnew 32 = .ok (.return_, 1) := by decide +kernel
theorem dX4_copy_0 : decode cX4_copy 0 = .ok (.aload_n 0, 1) := by decide +kernel
theorem dX4_copy_1 : decode cX4_copy 1 = .ok (.aload_n 1, 1) := by decide +kernel
theorem dX4_copy_2 : decode cX4_copy 2 = .ok (.getfield 18, 3) := by decide +kernel
theorem dX4_copy_5 : decode cX4_copy 5 = .ok (.putfield 18, 3) := by decide +kernel
theorem dX4_copy_8 : decode cX4_copy 8 = .ok (.aload_n 0, 1) := by decide +kernel
theorem dX4_copy_9 : decode cX4_copy 9 = .ok (.aload_n 1, 1) := by decide +kernel
theorem dX4_copy_10 : decode cX4_copy 10 = .ok (.getfield 33, 3) := by decide +kernel
theorem dX4_copy_13 : decode cX4_copy 13 = .ok (.putfield 33, 3) := by decide +kernel
theorem dX4_copy_16 : decode cX4_copy 16 = .ok (.aload_n 0, 1) := by decide +kernel
theorem dX4_copy_17 : decode cX4_copy 17 = .ok (.aload_n 1, 1) := by decide +kernel
theorem dX4_copy_18 : decode cX4_copy 18 = .ok (.getfield 9, 3) := by decide +kernel
theorem dX4_copy_21 : decode cX4_copy 21 = .ok (.putfield 9, 3) := by decide +kernel
theorem dX4_copy_24 : decode cX4_copy 24 = .ok (.aload_n 0, 1) := by decide +kernel
theorem dX4_copy_25 : decode cX4_copy 25 = .ok (.aload_n 1, 1) := by decide +kernel
theorem dX4_copy_26 : decode cX4_copy 26 = .ok (.getfield 15, 3) := by decide +kernel
theorem dX4_copy_29 : decode cX4_copy 29 = .ok (.putfield 15, 3) := by decide +kernel
theorem dX4_copy_32 : decode cX4_copy 32 = .ok (.aload_n 0, 1) := by decide +kernel
theorem dX4_copy_33 : decode cX4_copy 33 = .ok (.aload_n 1, 1) := by decide +kernel
theorem dX4_copy_34 : decode cX4_copy 34 = .ok (.getfield 21, 3) := by decide +kernel
theorem dX4_copy_37 : decode cX4_copy 37 = .ok (.putfield 21, 3) := by decide +kernel
theorem dX4_copy_40 : decode cX4_copy 40 = .ok (.aload_n 0, 1) := by decide +kernel
theorem dX4_copy_41 : decode cX4_copy 41 = .ok (.aload_n 1, 1) := by decide +kernel
theorem dX4_copy_42 : decode cX4_copy 42 = .ok (.getfield 24, 3) := by decide +kernel
theorem dX4_copy_45 : decode cX4_copy 45 = .ok (.putfield 24, 3) := by decide +kernel
theorem dX4_copy_48 : decode cX4_copy 48 = .ok (.aload_n 0, 1) := by decide +kernel
theorem dX4_copy_49 : decode cX4_copy 49 = .ok (.aload_n 1, 1) := by decide +kernel
theorem dX4_copy_50 : decode cX4_copy 50 = .ok (.getfield 27, 3) := by decide +kernel
theorem dX4_copy_53 : decode cX4_copy 53 = .ok (.putfield 27, 3) := by decide +kernel
theorem dX4_copy_56 : decode cX4_copy 56 = .ok (.aload_n 0, 1) := by decide +kernel
theorem dX4_copy_57 : decode cX4_copy 57 = .ok (.aload_n 1, 1) := by decide +kernel
theorem dX4_copy_58 : decode cX4_copy 58 = .ok (.getfield 30, 3) := by decide +kernel
theorem dX4_copy_61 : decode cX4_copy 61 = .ok (.putfield 30, 3) := by decide +kernel
theorem dX4_copy_64 : decode cX4_copy 64 = .ok (.return_, 1) := by decide +kernel
theorem dX4_tell_0 : decode cX4_tell 0 = .ok (.iload_n 1, 1) := by decide +kernel
theorem dX4_tell_1 : decode cX4_tell 1 = .ok (.tableswitch 99 0 7 #[47, 52, 57, 62, 67, 84, 89, 94], 47) := by decide +kernel
theorem dX4_tell_48 : decode cX4_tell 48 = .ok (.aload_n 0, 1) := by decide +kernel
theorem dX4_tell_49 : decode cX4_tell 49 = .ok (.getfield 18, 3) := by decide +kernel
theorem dX4_tell_52 : decode cX4_tell 52 = .ok (.ireturn, 1) := by decide +kernel
theorem dX4_tell_53 : decode cX4_tell 53 = .ok (.aload_n 0, 1) := by decide +kernel
theorem dX4_tell_54 : decode cX4_tell 54 = .ok (.getfield 33, 3) := by decide +kernel
theorem dX4_tell_57 : decode cX4_tell 57 = .ok (.ireturn, 1) := by decide +kernel
theorem dX4_tell_58 : decode cX4_tell 58 = .ok (.aload_n 0, 1) := by decide +kernel
theorem dX4_tell_59 : decode cX4_tell 59 = .ok (.getfield 9, 3) := by decide +kernel
theorem dX4_tell_62 : decode cX4_tell 62 = .ok (.ireturn, 1) := by decide +kernel
theorem dX4_tell_63 : decode cX4_tell 63 = .ok (.aload_n 0, 1) := by decide +kernel
theorem dX4_tell_64 : decode cX4_tell 64 = .ok (.getfield 15, 3) := by decide +kernel
theorem dX4_tell_67 : decode cX4_tell 67 = .ok (.ireturn, 1) := by decide +kernel
theorem dX4_tell_68 : decode cX4_tell 68 = .ok (.aload_n 0, 1) := by decide +kernel
theorem dX4_tell_69 : decode cX4_tell 69 = .ok (.getfield 15, 3) := by decide +kernel
theorem dX4_tell_72 : decode cX4_tell 72 = .ok (.ifCond .le 10, 3) := by decide +kernel
theorem dX4_tell_75 : decode cX4_tell 75 = .ok (.aload_n 0, 1) := by decide +kernel
theorem dX4_tell_76 : decode cX4_tell 76 = .ok (.invokevirtual 36, 3) := by decide +kernel
theorem dX4_tell_79 : decode cX4_tell 79 = .ok (.goto 5, 3) := by decide +kernel
theorem dX4_tell_82 : decode cX4_tell 82 = .ok (.bipush (-6), 2) := by decide +kernel
theorem dX4_tell_84 : decode cX4_tell 84 = .ok (.ireturn, 1) := by decide +kernel
theorem dX4_tell_85 : decode cX4_tell 85 = .ok (.aload_n 0, 1) := by decide +kernel
theorem dX4_tell_86 : decode cX4_tell 86 = .ok (.getfield 24, 3) := by decide +kernel
theorem dX4_tell_89 : decode cX4_tell 89 = .ok (.ireturn, 1) := by decide +kernel
theorem dX4_tell_90 : decode cX4_tell 90 = .ok (.aload_n 0, 1) := by decide +kernel
theorem dX4_tell_91 : decode cX4_tell 91 = .ok (.getfield 27, 3) := by decide +kernel
theorem dX4_tell_94 : decode cX4_tell 94 = .ok (.ireturn, 1) := by decide +kernel
theorem dX4_tell_95 : decode cX4_tell 95 = .ok (.aload_n 0, 1) := by decide +kernel
theorem dX4_tell_96 : decode cX4_tell 96 = .ok (.getfield 30, 3) := by decide +kernel
theorem dX4_tell_99 : decode cX4_tell 99 = .ok (.ireturn, 1) := by decide +kernel
theorem dX4_tell_100 : decode cX4_tell 100 = .ok (.bipush (-2), 2) := by decide +kernel
theorem dX4_tell_102 : decode cX4_tell 102 = .ok (.ireturn, 1) := by decide +kernel
theorem dX4_nextAddress_0 : decode cX4_nextAddress 0 = .ok (.aload_n 0, 1) := by decide +kernel
theorem dX4_nextAddress_1 : decode cX4_nextAddress 1 = .ok (.getfield 15, 3) := by decide +kernel
theorem dX4_nextAddress_4 : decode cX4_nextAddress 4 = .ok (.aload_n 0, 1) := by decide +kernel
theorem dX4_nextAddress_5 : decode cX4_nextAddress 5 = .ok (.getfield 9, 3) := by decide +kernel
theorem dX4_nextAddress_8 : decode cX4_nextAddress 8 = .ok (.if_icmp .ne 10, 3) := by decide +kernel
theorem dX4_nextAddress_11 : decode cX4_nextAddress 11 = .ok (.aload_n 0, 1) := by decide +kernel
theorem dX4_nextAddress_12 : decode cX4_nextAddress 12 = .ok (.getfield 18, 3) := by decide +kernel
theorem dX4_nextAddress_15 : decode cX4_nextAddress 15 = .ok (.goto 16, 3) := by decide +kernel
theorem dX4_nextAddress_18 : decode cX4_nextAddress 18 = .ok (.aload_n 0, 1) := by decide +kernel
theorem dX4_nextAddress_19 : decode cX4_nextAddress 19 = .ok (.getfield 21, 3) := by decide +kernel
theorem dX4_nextAddress_22 : decode cX4_nextAddress 22 = .ok (.aload_n 0, 1) := by decide +kernel
theorem dX4_nextAddress_23 : decode cX4_nextAddress 23 = .ok (.getfield 33, 3) := by decide +kernel
theorem dX4_nextAddress_26 : decode cX4_nextAddress 26 = .ok (.iadd, 1) := by decide +kernel
theorem dX4_nextAddress_27 : decode cX4_nextAddress 27 = .ok (.sipush 4096, 3) := by decide +kernel
theorem dX4_nextAddress_30 : decode cX4_nextAddress 30 = .ok (.irem, 1) := by decide +kernel
theorem dX4_nextAddress_31 : decode cX4_nextAddress 31 = .ok (.ireturn, 1) := by decide +kernel
theorem dX4_finishRequest_0 : decode cX4_finishRequest 0 = .ok (.aload_n 0, 1) := by decide +kernel
theorem dX4_finishRequest_1 : decode cX4_finishRequest 1 = .ok (.iload_n 1, 1) := by decide +kernel
theorem dX4_finishRequest_2 : decode cX4_finishRequest 2 = .ok (.putfield 21, 3) := by decide +kernel
theorem dX4_finishRequest_5 : decode cX4_finishRequest 5 = .ok (.aload_n 0, 1) := by decide +kernel
theorem dX4_finishRequest_6 : decode cX4_finishRequest 6 = .ok (.dup, 1) := by decide +kernel
theorem dX4_finishRequest_7 : decode cX4_finishRequest 7 = .ok (.getfield 15, 3) := by decide +kernel
theorem dX4_finishRequest_10 : decode cX4_finishRequest 10 = .ok (.iconst 1, 1) := by decide +kernel
theorem dX4_finishRequest_11 : decode cX4_finishRequest 11 = .ok (.isub, 1) := by decide +kernel
theorem dX4_finishRequest_12 : decode cX4_finishRequest 12 = .ok (.putfield 15, 3) := by decide +kernel
theorem dX4_finishRequest_15 : decode cX4_finishRequest 15 = .ok (.aload_n 0, 1) := by decide +kernel
theorem dX4_finishRequest_16 : decode cX4_finishRequest 16 = .ok (.getfield 15, 3) := by decide +kernel
theorem dX4_finishRequest_19 : decode cX4_finishRequest 19 = .ok (.ifCond .ne 8, 3) := by decide +kernel
theorem dX4_finishRequest_22 : decode cX4_finishRequest 22 = .ok (.aload_n 0, 1) := by decide +kernel
theorem dX4_finishRequest_23 : decode cX4_finishRequest 23 = .ok (.iload_n 2, 1) := by decide +kernel
theorem dX4_finishRequest_24 : decode cX4_finishRequest 24 = .ok (.putfield 30, 3) := by decide +kernel
theorem dX4_finishRequest_27 : decode cX4_finishRequest 27 = .ok (.return_, 1) := by decide +kernel
theorem dX5_init_0 : decode cX5_init 0 = .ok (.aload_n 0, 1) := by decide +kernel
theorem dX5_init_1 : decode cX5_init 1 = .ok (.invokespecial 1, 3) := by decide +kernel
theorem dX5_init_4 : decode cX5_init 4 = .ok (.aload_n 0, 1) := by decide +kernel
theorem dX5_init_5 : decode cX5_init 5 = .ok (.new 7, 3) := by decide +kernel
theorem dX5_init_8 : decode cX5_init 8 = .ok (.dup, 1) := by decide +kernel
theorem dX5_init_9 : decode cX5_init 9 = .ok (.invokespecial 9, 3) := by decide +kernel
theorem dX5_init_12 : decode cX5_init 12 = .ok (.putfield 10, 3) := by decide +kernel
theorem dX5_init_15 : decode cX5_init 15 = .ok (.aload_n 0, 1) := by decide +kernel
theorem dX5_init_16 : decode cX5_init 16 = .ok (.new 7, 3) := by decide +kernel
theorem dX5_init_19 : decode cX5_init 19 = .ok (.dup, 1) := by decide +kernel
theorem dX5_init_20 : decode cX5_init 20 = .ok (.invokespecial 9, 3) := by decide +kernel
theorem dX5_init_23 : decode cX5_init 23 = .ok (.putfield 16, 3) := by decide +kernel
theorem dX5_init_26 : decode cX5_init 26 = .ok (.aload_n 0, 1) := by decide +kernel
theorem dX5_init_27 : decode cX5_init 27 = .ok (.new 19, 3) := by decide +kernel
theorem dX5_init_30 : decode cX5_init 30 = .ok (.dup, 1) := by decide +kernel
theorem dX5_init_31 : decode cX5_init 31 = .ok (.invokespecial 21, 3) := by decide +kernel
theorem dX5_init_34 : decode cX5_init 34 = .ok (.putfield 22, 3) := by decide +kernel
theorem dX5_init_37 : decode cX5_init 37 = .ok (.aload_n 0, 1) := by decide +kernel
theorem dX5_init_38 : decode cX5_init 38 = .ok (.iconst 2, 1) := by decide +kernel
theorem dX5_init_39 : decode cX5_init 39 = .ok (.anewarray 7, 3) := by decide +kernel
theorem dX5_init_42 : decode cX5_init 42 = .ok (.putfield 26, 3) := by decide +kernel
theorem dX5_init_45 : decode cX5_init 45 = .ok (.aload_n 0, 1) := by decide +kernel
theorem dX5_init_46 : decode cX5_init 46 = .ok (.iconst 2, 1) := by decide +kernel
theorem dX5_init_47 : decode cX5_init 47 = .ok (.newarray .boolean, 2) := by decide +kernel
theorem dX5_init_49 : decode cX5_init 49 = .ok (.putfield 30, 3) := by decide +kernel
theorem dX5_init_52 : decode cX5_init 52 = .ok (.aload_n 0, 1) := by decide +kernel
theorem dX5_init_53 : decode cX5_init 53 = .ok (.new 34, 3) := by decide +kernel
theorem dX5_init_56 : decode cX5_init 56 = .ok (.dup, 1) := by decide +kernel
theorem dX5_init_57 : decode cX5_init 57 = .ok (.invokespecial 36, 3) := by decide +kernel
theorem dX5_init_60 : decode cX5_init 60 = .ok (.putfield 37, 3) := by decide +kernel
theorem dX5_init_63 : decode cX5_init 63 = .ok (.iconst 0, 1) := by decide +kernel
theorem dX5_init_64 : decode cX5_init 64 = .ok (.istore_n 1, 1) := by decide +kernel
theorem dX5_init_65 : decode cX5_init 65 = .ok (.iload_n 1, 1) := by decide +kernel
theorem dX5_init_66 : decode cX5_init 66 = .ok (.iconst 2, 1) := by decide +kernel
theorem dX5_init_67 : decode cX5_init 67 = .ok (.if_icmp .ge 22, 3) := by decide +kernel
theorem dX5_init_70 : decode cX5_init 70 = .ok (.aload_n 0, 1) := by decide +kernel
theorem dX5_init_71 : decode cX5_init 71 = .ok (.getfield 26, 3) := by decide +kernel
theorem dX5_init_74 : decode cX5_init 74 = .ok (.iload_n 1, 1) := by decide +kernel
theorem dX5_init_75 : decode cX5_init 75 = .ok (.new 7, 3) := by decide +kernel
theorem dX5_init_78 : decode cX5_init 78 = .ok (.dup, 1) := by decide +kernel
theorem dX5_init_79 : decode cX5_init 79 = .ok (.invokespecial 9, 3) := by decide +kernel
theorem dX5_init_82 : decode cX5_init 82 = .ok (.aastore, 1) := by decide +kernel
theorem dX5_init_83 : decode cX5_init 83 = .ok (.iinc 1 1, 3) := by decide +kernel
theorem dX5_init_86 : decode cX5_init 86 = .ok (.goto (-21), 3) := by decide +kernel
theorem dX5_init_89 : decode cX5_init 89 = .ok (.return_, 1) := by decide +kernel
theorem dX5_set_0 : decode cX5_set 0 = .ok (.iload_n 1, 1) := by decide +kernel
theorem dX5_set_1 : decode cX5_set 1 = .ok (.iconst 0, 1) := by decide +kernel
theorem dX5_set_2 : decode cX5_set 2 = .ok (.iconst 3, 1) := by decide +kernel
theorem dX5_set_3 : decode cX5_set 3 = .ok (.invokestatic 41, 3) := by decide +kernel
theorem dX5_set_6 : decode cX5_set 6 = .ok (.ifCond .ne 6, 3) := by decide +kernel
theorem dX5_set_9 : decode cX5_set 9 = .ok (.bipush (-2), 2) := by decide +kernel
theorem dX5_set_11 : decode cX5_set 11 = .ok (.ireturn, 1) := by decide +kernel
theorem dX5_set_12 : decode cX5_set 12 = .ok (.iload_n 2, 1) := by decide +kernel
theorem dX5_set_13 : decode cX5_set 13 = .ok (.getstatic 45, 3) := by decide +kernel
theorem dX5_set_16 : decode cX5_set 16 = .ok (.iload_n 1, 1) := by decide +kernel
theorem dX5_set_17 : decode cX5_set 17 = .ok (.iaload, 1) := by decide +kernel
theorem dX5_set_18 : decode cX5_set 18 = .ok (.getstatic 49, 3) := by decide +kernel
theorem dX5_set_21 : decode cX5_set 21 = .ok (.iload_n 1, 1) := by decide +kernel
theorem dX5_set_22 : decode cX5_set 22 = .ok (.iaload, 1) := by decide +kernel
theorem dX5_set_23 : decode cX5_set 23 = .ok (.invokestatic 41, 3) := by decide +kernel
theorem dX5_set_26 : decode cX5_set 26 = .ok (.ifCond .ne 6, 3) := by decide +kernel
theorem dX5_set_29 : decode cX5_set 29 = .ok (.bipush (-2), 2) := by decide +kernel
theorem dX5_set_31 : decode cX5_set 31 = .ok (.ireturn, 1) := by decide +kernel
theorem dX5_set_32 : decode cX5_set 32 = .ok (.aload_n 0, 1) := by decide +kernel
theorem dX5_set_33 : decode cX5_set 33 = .ok (.getfield 22, 3) := by decide +kernel
theorem dX5_set_36 : decode cX5_set 36 = .ok (.aload_n 0, 1) := by decide +kernel
theorem dX5_set_37 : decode cX5_set 37 = .ok (.getfield 10, 3) := by decide +kernel
theorem dX5_set_40 : decode cX5_set 40 = .ok (.invokevirtual 52, 3) := by decide +kernel
theorem dX5_set_43 : decode cX5_set 43 = .ok (.aload_n 0, 1) := by decide +kernel
theorem dX5_set_44 : decode cX5_set 44 = .ok (.getfield 10, 3) := by decide +kernel
theorem dX5_set_47 : decode cX5_set 47 = .ok (.getfield 56, 3) := by decide +kernel
theorem dX5_set_50 : decode cX5_set 50 = .ok (.iload_n 1, 1) := by decide +kernel
theorem dX5_set_51 : decode cX5_set 51 = .ok (.iaload, 1) := by decide +kernel
theorem dX5_set_52 : decode cX5_set 52 = .ok (.istore_n 3, 1) := by decide +kernel
theorem dX5_set_53 : decode cX5_set 53 = .ok (.aload_n 0, 1) := by decide +kernel
theorem dX5_set_54 : decode cX5_set 54 = .ok (.getfield 10, 3) := by decide +kernel
theorem dX5_set_57 : decode cX5_set 57 = .ok (.getfield 56, 3) := by decide +kernel
theorem dX5_set_60 : decode cX5_set 60 = .ok (.iload_n 1, 1) := by decide +kernel
theorem dX5_set_61 : decode cX5_set 61 = .ok (.iload_n 2, 1) := by decide +kernel
theorem dX5_set_62 : decode cX5_set 62 = .ok (.iastore, 1) := by decide +kernel
theorem dX5_set_63 : decode cX5_set 63 = .ok (.aload_n 0, 1) := by decide +kernel
theorem dX5_set_64 : decode cX5_set 64 = .ok (.getfield 10, 3) := by decide +kernel
theorem dX5_set_67 : decode cX5_set 67 = .ok (.invokevirtual 59, 3) := by decide +kernel
theorem dX5_set_70 : decode cX5_set 70 = .ok (.iload_n 3, 1) := by decide +kernel
theorem dX5_set_71 : decode cX5_set 71 = .ok (.ireturn, 1) := by decide +kernel
theorem dX5_add_0 : decode cX5_add 0 = .ok (.iload_n 1, 1) := by decide +kernel
theorem dX5_add_1 : decode cX5_add 1 = .ok (.iconst 0, 1) := by decide +kernel
theorem dX5_add_2 : decode cX5_add 2 = .ok (.sipush 4095, 3) := by decide +kernel
theorem dX5_add_5 : decode cX5_add 5 = .ok (.invokestatic 41, 3) := by decide +kernel
theorem dX5_add_8 : decode cX5_add 8 = .ok (.ifCond .eq 25, 3) := by decide +kernel
theorem dX5_add_11 : decode cX5_add 11 = .ok (.iload_n 2, 1) := by decide +kernel
theorem dX5_add_12 : decode cX5_add 12 = .ok (.iconst 0, 1) := by decide +kernel
theorem dX5_add_13 : decode cX5_add 13 = .ok (.sipush 1023, 3) := by decide +kernel
theorem dX5_add_16 : decode cX5_add 16 = .ok (.invokestatic 41, 3) := by decide +kernel
theorem dX5_add_19 : decode cX5_add 19 = .ok (.ifCond .eq 14, 3) := by decide +kernel
theorem dX5_add_22 : decode cX5_add 22 = .ok (.iload_n 3, 1) := by decide +kernel
theorem dX5_add_23 : decode cX5_add 23 = .ok (.iconst 1, 1) := by decide +kernel
theorem dX5_add_24 : decode cX5_add 24 = .ok (.sipush 200, 3) := by decide +kernel
theorem dX5_add_27 : decode cX5_add 27 = .ok (.invokestatic 41, 3) := by decide +kernel
theorem dX5_add_30 : decode cX5_add 30 = .ok (.ifCond .ne 6, 3) := by decide +kernel
theorem dX5_add_33 : decode cX5_add 33 = .ok (.bipush (-2), 2) := by decide +kernel
theorem dX5_add_35 : decode cX5_add 35 = .ok (.ireturn, 1) := by decide +kernel
theorem dX5_add_36 : decode cX5_add 36 = .ok (.aload_n 0, 1) := by decide +kernel
theorem dX5_add_37 : decode cX5_add 37 = .ok (.getfield 10, 3) := by decide +kernel
theorem dX5_add_40 : decode cX5_add 40 = .ok (.getfield 62, 3) := by decide +kernel
theorem dX5_add_43 : decode cX5_add 43 = .ok (.iconst 4, 1) := by decide +kernel
theorem dX5_add_44 : decode cX5_add 44 = .ok (.if_icmp .lt 6, 3) := by decide +kernel
theorem dX5_add_47 : decode cX5_add 47 = .ok (.bipush (-4), 2) := by decide +kernel
theorem dX5_add_49 : decode cX5_add 49 = .ok (.ireturn, 1) := by decide +kernel
theorem dX5_add_50 : decode cX5_add 50 = .ok (.aload_n 0, 1) := by decide +kernel
theorem dX5_add_51 : decode cX5_add 51 = .ok (.getfield 22, 3) := by decide +kernel
theorem dX5_add_54 : decode cX5_add 54 = .ok (.aload_n 0, 1) := by decide +kernel
theorem dX5_add_55 : decode cX5_add 55 = .ok (.getfield 10, 3) := by decide +kernel
theorem dX5_add_58 : decode cX5_add 58 = .ok (.invokevirtual 52, 3) := by decide +kernel
theorem dX5_add_61 : decode cX5_add 61 = .ok (.aload_n 0, 1) := by decide +kernel
theorem dX5_add_62 : decode cX5_add 62 = .ok (.getfield 10, 3) := by decide +kernel
theorem dX5_add_65 : decode cX5_add 65 = .ok (.iload_n 1, 1) := by decide +kernel
theorem dX5_add_66 : decode cX5_add 66 = .ok (.iload_n 2, 1) := by decide +kernel
theorem dX5_add_67 : decode cX5_add 67 = .ok (.iload_n 3, 1) := by decide +kernel
theorem dX5_add_68 : decode cX5_add 68 = .ok (.invokevirtual 66, 3) := by decide +kernel
theorem dX5_add_71 : decode cX5_add 71 = .ok (.aload_n 0, 1) := by decide +kernel
theorem dX5_add_72 : decode cX5_add 72 = .ok (.getfield 10, 3) := by decide +kernel
theorem dX5_add_75 : decode cX5_add 75 = .ok (.getfield 62, 3) := by decide +kernel
theorem dX5_add_78 : decode cX5_add 78 = .ok (.iconst 1, 1) := by decide +kernel
theorem dX5_add_79 : decode cX5_add 79 = .ok (.isub, 1) := by decide +kernel
theorem dX5_add_80 : decode cX5_add 80 = .ok (.ireturn, 1) := by decide +kernel
theorem dX5_drop_0 : decode cX5_drop 0 = .ok (.aload_n 0, 1) := by decide +kernel
theorem dX5_drop_1 : decode cX5_drop 1 = .ok (.getfield 10, 3) := by decide +kernel
theorem dX5_drop_4 : decode cX5_drop 4 = .ok (.iload_n 1, 1) := by decide +kernel
theorem dX5_drop_5 : decode cX5_drop 5 = .ok (.invokevirtual 84, 3) := by decide +kernel
theorem dX5_drop_8 : decode cX5_drop 8 = .ok (.ifCond .ne 5, 3) := by decide +kernel
theorem dX5_drop_11 : decode cX5_drop 11 = .ok (.iconst (-1), 1) := by decide +kernel
theorem dX5_drop_12 : decode cX5_drop 12 = .ok (.ireturn, 1) := by decide +kernel
theorem dX5_drop_13 : decode cX5_drop 13 = .ok (.aload_n 0, 1) := by decide +kernel
theorem dX5_drop_14 : decode cX5_drop 14 = .ok (.getfield 22, 3) := by decide +kernel
theorem dX5_drop_17 : decode cX5_drop 17 = .ok (.aload_n 0, 1) := by decide +kernel
theorem dX5_drop_18 : decode cX5_drop 18 = .ok (.getfield 10, 3) := by decide +kernel
theorem dX5_drop_21 : decode cX5_drop 21 = .ok (.invokevirtual 52, 3) := by decide +kernel
theorem dX5_drop_24 : decode cX5_drop 24 = .ok (.aload_n 0, 1) := by decide +kernel
theorem dX5_drop_25 : decode cX5_drop 25 = .ok (.getfield 10, 3) := by decide +kernel
theorem dX5_drop_28 : decode cX5_drop 28 = .ok (.getfield 88, 3) := by decide +kernel
theorem dX5_drop_31 : decode cX5_drop 31 = .ok (.iload_n 1, 1) := by decide +kernel
theorem dX5_drop_32 : decode cX5_drop 32 = .ok (.aaload, 1) := by decide +kernel
theorem dX5_drop_33 : decode cX5_drop 33 = .ok (.getfield 92, 3) := by decide +kernel
theorem dX5_drop_36 : decode cX5_drop 36 = .ok (.istore_n 2, 1) := by decide +kernel
theorem dX5_drop_37 : decode cX5_drop 37 = .ok (.aload_n 0, 1) := by decide +kernel
theorem dX5_drop_38 : decode cX5_drop 38 = .ok (.getfield 10, 3) := by decide +kernel
theorem dX5_drop_41 : decode cX5_drop 41 = .ok (.iload_n 1, 1) := by decide +kernel
theorem dX5_drop_42 : decode cX5_drop 42 = .ok (.invokevirtual 97, 3) := by decide +kernel
theorem dX5_drop_45 : decode cX5_drop 45 = .ok (.iload_n 2, 1) := by decide +kernel
theorem dX5_drop_46 : decode cX5_drop 46 = .ok (.ireturn, 1) := by decide +kernel
theorem dX5_stride_0 : decode cX5_stride 0 = .ok (.aload_n 0, 1) := by decide +kernel
theorem dX5_stride_1 : decode cX5_stride 1 = .ok (.getfield 10, 3) := by decide +kernel
theorem dX5_stride_4 : decode cX5_stride 4 = .ok (.iload_n 1, 1) := by decide +kernel
theorem dX5_stride_5 : decode cX5_stride 5 = .ok (.invokevirtual 84, 3) := by decide +kernel
theorem dX5_stride_8 : decode cX5_stride 8 = .ok (.ifCond .ne 5, 3) := by decide +kernel
theorem dX5_stride_11 : decode cX5_stride 11 = .ok (.iconst (-1), 1) := by decide +kernel
theorem dX5_stride_12 : decode cX5_stride 12 = .ok (.ireturn, 1) := by decide +kernel
theorem dX5_stride_13 : decode cX5_stride 13 = .ok (.iload_n 2, 1) := by decide +kernel
theorem dX5_stride_14 : decode cX5_stride 14 = .ok (.iconst 0, 1) := by decide +kernel
theorem dX5_stride_15 : decode cX5_stride 15 = .ok (.sipush 1023, 3) := by decide +kernel
theorem dX5_stride_18 : decode cX5_stride 18 = .ok (.invokestatic 41, 3) := by decide +kernel
theorem dX5_stride_21 : decode cX5_stride 21 = .ok (.ifCond .ne 6, 3) := by decide +kernel
theorem dX5_stride_24 : decode cX5_stride 24 = .ok (.bipush (-2), 2) := by decide +kernel
theorem dX5_stride_26 : decode cX5_stride 26 = .ok (.ireturn, 1) := by decide +kernel
theorem dX5_stride_27 : decode cX5_stride 27 = .ok (.aload_n 0, 1) := by decide +kernel
theorem dX5_stride_28 : decode cX5_stride 28 = .ok (.getfield 22, 3) := by decide +kernel
theorem dX5_stride_31 : decode cX5_stride 31 = .ok (.aload_n 0, 1) := by decide +kernel
theorem dX5_stride_32 : decode cX5_stride 32 = .ok (.getfield 10, 3) := by decide +kernel
theorem dX5_stride_35 : decode cX5_stride 35 = .ok (.invokevirtual 52, 3) := by decide +kernel
theorem dX5_stride_38 : decode cX5_stride 38 = .ok (.aload_n 0, 1) := by decide +kernel
theorem dX5_stride_39 : decode cX5_stride 39 = .ok (.getfield 10, 3) := by decide +kernel
theorem dX5_stride_42 : decode cX5_stride 42 = .ok (.getfield 88, 3) := by decide +kernel
theorem dX5_stride_45 : decode cX5_stride 45 = .ok (.iload_n 1, 1) := by decide +kernel
theorem dX5_stride_46 : decode cX5_stride 46 = .ok (.aaload, 1) := by decide +kernel
theorem dX5_stride_47 : decode cX5_stride 47 = .ok (.getfield 101, 3) := by decide +kernel
theorem dX5_stride_50 : decode cX5_stride 50 = .ok (.istore_n 3, 1) := by decide +kernel
theorem dX5_stride_51 : decode cX5_stride 51 = .ok (.aload_n 0, 1) := by decide +kernel
theorem dX5_stride_52 : decode cX5_stride 52 = .ok (.getfield 10, 3) := by decide +kernel
theorem dX5_stride_55 : decode cX5_stride 55 = .ok (.getfield 88, 3) := by decide +kernel
theorem dX5_stride_58 : decode cX5_stride 58 = .ok (.iload_n 1, 1) := by decide +kernel
theorem dX5_stride_59 : decode cX5_stride 59 = .ok (.aaload, 1) := by decide +kernel
theorem dX5_stride_60 : decode cX5_stride 60 = .ok (.iload_n 2, 1) := by decide +kernel
theorem dX5_stride_61 : decode cX5_stride 61 = .ok (.putfield 101, 3) := by decide +kernel
theorem dX5_stride_64 : decode cX5_stride 64 = .ok (.iload_n 3, 1) := by decide +kernel
theorem dX5_stride_65 : decode cX5_stride 65 = .ok (.ireturn, 1) := by decide +kernel
theorem dX5_run_0 : decode cX5_run 0 = .ok (.iload_n 1, 1) := by decide +kernel
theorem dX5_run_1 : decode cX5_run 1 = .ok (.iconst 1, 1) := by decide +kernel
theorem dX5_run_2 : decode cX5_run 2 = .ok (.sipush 500, 3) := by decide +kernel
theorem dX5_run_5 : decode cX5_run 5 = .ok (.invokestatic 41, 3) := by decide +kernel
theorem dX5_run_8 : decode cX5_run 8 = .ok (.ifCond .ne 6, 3) := by decide +kernel
theorem dX5_run_11 : decode cX5_run 11 = .ok (.bipush (-2), 2) := by decide +kernel
theorem dX5_run_13 : decode cX5_run 13 = .ok (.ireturn, 1) := by decide +kernel
theorem dX5_run_14 : decode cX5_run 14 = .ok (.aload_n 0, 1) := by decide +kernel
theorem dX5_run_15 : decode cX5_run 15 = .ok (.getfield 10, 3) := by decide +kernel
theorem dX5_run_18 : decode cX5_run 18 = .ok (.getfield 104, 3) := by decide +kernel
theorem dX5_run_21 : decode cX5_run 21 = .ok (.iload_n 1, 1) := by decide +kernel
theorem dX5_run_22 : decode cX5_run 22 = .ok (.iadd, 1) := by decide +kernel
theorem dX5_run_23 : decode cX5_run 23 = .ok (.ldc 107, 2) := by decide +kernel
theorem dX5_run_25 : decode cX5_run 25 = .ok (.if_icmp .le 6, 3) := by decide +kernel
theorem dX5_run_28 : decode cX5_run 28 = .ok (.bipush (-4), 2) := by decide +kernel
theorem dX5_run_30 : decode cX5_run 30 = .ok (.ireturn, 1) := by decide +kernel
theorem dX5_run_31 : decode cX5_run 31 = .ok (.aload_n 0, 1) := by decide +kernel
theorem dX5_run_32 : decode cX5_run 32 = .ok (.getfield 22, 3) := by decide +kernel
theorem dX5_run_35 : decode cX5_run 35 = .ok (.aload_n 0, 1) := by decide +kernel
theorem dX5_run_36 : decode cX5_run 36 = .ok (.getfield 10, 3) := by decide +kernel
theorem dX5_run_39 : decode cX5_run 39 = .ok (.invokevirtual 52, 3) := by decide +kernel
theorem dX5_run_42 : decode cX5_run 42 = .ok (.iconst 0, 1) := by decide +kernel
theorem dX5_run_43 : decode cX5_run 43 = .ok (.istore_n 2, 1) := by decide +kernel
theorem dX5_run_44 : decode cX5_run 44 = .ok (.iconst 0, 1) := by decide +kernel
theorem dX5_run_45 : decode cX5_run 45 = .ok (.istore_n 3, 1) := by decide +kernel
theorem dX5_run_46 : decode cX5_run 46 = .ok (.iload_n 3, 1) := by decide +kernel
theorem dX5_run_47 : decode cX5_run 47 = .ok (.iload_n 1, 1) := by decide +kernel
theorem dX5_run_48 : decode cX5_run 48 = .ok (.if_icmp .ge 19, 3) := by decide +kernel
theorem dX5_run_51 : decode cX5_run 51 = .ok (.iload_n 2, 1) := by decide +kernel
theorem dX5_run_52 : decode cX5_run 52 = .ok (.aload_n 0, 1) := by decide +kernel
theorem dX5_run_53 : decode cX5_run 53 = .ok (.getfield 10, 3) := by decide +kernel
theorem dX5_run_56 : decode cX5_run 56 = .ok (.invokevirtual 108, 3) := by decide +kernel
theorem dX5_run_59 : decode cX5_run 59 = .ok (.iadd, 1) := by decide +kernel
theorem dX5_run_60 : decode cX5_run 60 = .ok (.istore_n 2, 1) := by decide +kernel
theorem dX5_run_61 : decode cX5_run 61 = .ok (.iinc 3 1, 3) := by decide +kernel
theorem dX5_run_64 : decode cX5_run 64 = .ok (.goto (-18), 3) := by decide +kernel
theorem dX5_run_67 : decode cX5_run 67 = .ok (.iload_n 2, 1) := by decide +kernel
theorem dX5_run_68 : decode cX5_run 68 = .ok (.ireturn, 1) := by decide +kernel
theorem dX5_reset_0 : decode cX5_reset 0 = .ok (.aload_n 0, 1) := by decide +kernel
theorem dX5_reset_1 : decode cX5_reset 1 = .ok (.getfield 22, 3) := by decide +kernel
theorem dX5_reset_4 : decode cX5_reset 4 = .ok (.aload_n 0, 1) := by decide +kernel
theorem dX5_reset_5 : decode cX5_reset 5 = .ok (.getfield 10, 3) := by decide +kernel
theorem dX5_reset_8 : decode cX5_reset 8 = .ok (.invokevirtual 52, 3) := by decide +kernel
theorem dX5_reset_11 : decode cX5_reset 11 = .ok (.aload_n 0, 1) := by decide +kernel
theorem dX5_reset_12 : decode cX5_reset 12 = .ok (.getfield 10, 3) := by decide +kernel
theorem dX5_reset_15 : decode cX5_reset 15 = .ok (.invokevirtual 59, 3) := by decide +kernel
theorem dX5_reset_18 : decode cX5_reset 18 = .ok (.aload_n 0, 1) := by decide +kernel
theorem dX5_reset_19 : decode cX5_reset 19 = .ok (.getfield 10, 3) := by decide +kernel
theorem dX5_reset_22 : decode cX5_reset 22 = .ok (.iconst 3, 1) := by decide +kernel
theorem dX5_reset_23 : decode cX5_reset 23 = .ok (.invokevirtual 111, 3) := by decide +kernel
theorem dX5_reset_26 : decode cX5_reset 26 = .ok (.ireturn, 1) := by decide +kernel
theorem dX5_bankOf_0 : decode cX5_bankOf 0 = .ok (.iload_n 1, 1) := by decide +kernel
theorem dX5_bankOf_1 : decode cX5_bankOf 1 = .ok (.iconst 0, 1) := by decide +kernel
theorem dX5_bankOf_2 : decode cX5_bankOf 2 = .ok (.sipush 4095, 3) := by decide +kernel
theorem dX5_bankOf_5 : decode cX5_bankOf 5 = .ok (.invokestatic 41, 3) := by decide +kernel
theorem dX5_bankOf_8 : decode cX5_bankOf 8 = .ok (.ifCond .ne 6, 3) := by decide +kernel
theorem dX5_bankOf_11 : decode cX5_bankOf 11 = .ok (.bipush (-2), 2) := by decide +kernel
theorem dX5_bankOf_13 : decode cX5_bankOf 13 = .ok (.ireturn, 1) := by decide +kernel
theorem dX5_bankOf_14 : decode cX5_bankOf 14 = .ok (.aload_n 0, 1) := by decide +kernel
theorem dX5_bankOf_15 : decode cX5_bankOf 15 = .ok (.getfield 10, 3) := by decide +kernel
theorem dX5_bankOf_18 : decode cX5_bankOf 18 = .ok (.iload_n 1, 1) := by decide +kernel
theorem dX5_bankOf_19 : decode cX5_bankOf 19 = .ok (.invokevirtual 115, 3) := by decide +kernel
theorem dX5_bankOf_22 : decode cX5_bankOf 22 = .ok (.ireturn, 1) := by decide +kernel
theorem dX5_stream_0 : decode cX5_stream 0 = .ok (.aload_n 0, 1) := by decide +kernel
theorem dX5_stream_1 : decode cX5_stream 1 = .ok (.getfield 10, 3) := by decide +kernel
theorem dX5_stream_4 : decode cX5_stream 4 = .ok (.iload_n 1, 1) := by decide +kernel
theorem dX5_stream_5 : decode cX5_stream 5 = .ok (.invokevirtual 84, 3) := by decide +kernel
theorem dX5_stream_8 : decode cX5_stream 8 = .ok (.ifCond .ne 5, 3) := by decide +kernel
theorem dX5_stream_11 : decode cX5_stream 11 = .ok (.iconst (-1), 1) := by decide +kernel
theorem dX5_stream_12 : decode cX5_stream 12 = .ok (.ireturn, 1) := by decide +kernel
theorem dX5_stream_13 : decode cX5_stream 13 = .ok (.aload_n 0, 1) := by decide +kernel
theorem dX5_stream_14 : decode cX5_stream 14 = .ok (.getfield 10, 3) := by decide +kernel
theorem dX5_stream_17 : decode cX5_stream 17 = .ok (.getfield 88, 3) := by decide +kernel
theorem dX5_stream_20 : decode cX5_stream 20 = .ok (.iload_n 1, 1) := by decide +kernel
theorem dX5_stream_21 : decode cX5_stream 21 = .ok (.aaload, 1) := by decide +kernel
theorem dX5_stream_22 : decode cX5_stream 22 = .ok (.astore_n 3, 1) := by decide +kernel
theorem dX5_stream_23 : decode cX5_stream 23 = .ok (.iload_n 2, 1) := by decide +kernel
theorem dX5_stream_24 : decode cX5_stream 24 = .ok (.bipush 8, 2) := by decide +kernel
theorem dX5_stream_26 : decode cX5_stream 26 = .ok (.if_icmp .ne 14, 3) := by decide +kernel
theorem dX5_stream_29 : decode cX5_stream 29 = .ok (.aload_n 0, 1) := by decide +kernel
theorem dX5_stream_30 : decode cX5_stream 30 = .ok (.getfield 10, 3) := by decide +kernel
theorem dX5_stream_33 : decode cX5_stream 33 = .ok (.aload_n 3, 1) := by decide +kernel
theorem dX5_stream_34 : decode cX5_stream 34 = .ok (.invokevirtual 118, 3) := by decide +kernel
theorem dX5_stream_37 : decode cX5_stream 37 = .ok (.goto 8, 3) := by decide +kernel
theorem dX5_stream_40 : decode cX5_stream 40 = .ok (.aload_n 3, 1) := by decide +kernel
theorem dX5_stream_41 : decode cX5_stream 41 = .ok (.iload_n 2, 1) := by decide +kernel
theorem dX5_stream_42 : decode cX5_stream 42 = .ok (.invokevirtual 122, 3) := by decide +kernel
theorem dX5_stream_45 : decode cX5_stream 45 = .ok (.ireturn, 1) := by decide +kernel
theorem dX5_bank_0 : decode cX5_bank 0 = .ok (.iload_n 1, 1) := by decide +kernel
theorem dX5_bank_1 : decode cX5_bank 1 = .ok (.iconst 0, 1) := by decide +kernel
theorem dX5_bank_2 : decode cX5_bank 2 = .ok (.aload_n 0, 1) := by decide +kernel
theorem dX5_bank_3 : decode cX5_bank 3 = .ok (.getfield 10, 3) := by decide +kernel
theorem dX5_bank_6 : decode cX5_bank 6 = .ok (.getfield 56, 3) := by decide +kernel
theorem dX5_bank_9 : decode cX5_bank 9 = .ok (.iconst 0, 1) := by decide +kernel
theorem dX5_bank_10 : decode cX5_bank 10 = .ok (.iaload, 1) := by decide +kernel
theorem dX5_bank_11 : decode cX5_bank 11 = .ok (.iconst 1, 1) := by decide +kernel
theorem dX5_bank_12 : decode cX5_bank 12 = .ok (.isub, 1) := by decide +kernel
theorem dX5_bank_13 : decode cX5_bank 13 = .ok (.invokestatic 41, 3) := by decide +kernel
theorem dX5_bank_16 : decode cX5_bank 16 = .ok (.ifCond .ne 5, 3) := by decide +kernel
theorem dX5_bank_19 : decode cX5_bank 19 = .ok (.iconst (-1), 1) := by decide +kernel
theorem dX5_bank_20 : decode cX5_bank 20 = .ok (.ireturn, 1) := by decide +kernel
theorem dX5_bank_21 : decode cX5_bank 21 = .ok (.aload_n 0, 1) := by decide +kernel
theorem dX5_bank_22 : decode cX5_bank 22 = .ok (.getfield 10, 3) := by decide +kernel
theorem dX5_bank_25 : decode cX5_bank 25 = .ok (.getfield 125, 3) := by decide +kernel
theorem dX5_bank_28 : decode cX5_bank 28 = .ok (.iload_n 1, 1) := by decide +kernel
theorem dX5_bank_29 : decode cX5_bank 29 = .ok (.aaload, 1) := by decide +kernel
theorem dX5_bank_30 : decode cX5_bank 30 = .ok (.astore_n 3, 1) := by decide +kernel
theorem dX5_bank_31 : decode cX5_bank 31 = .ok (.iload_n 2, 1) := by decide +kernel
theorem dX5_bank_32 : decode cX5_bank 32 = .ok (.tableswitch 68 0 3 #[32, 49, 54, 59], 32) := by decide +kernel
theorem dX5_bank_64 : decode cX5_bank 64 = .ok (.iconst 0, 1) := by decide +kernel
theorem dX5_bank_65 : decode cX5_bank 65 = .ok (.aload_n 3, 1) := by decide +kernel
theorem dX5_bank_66 : decode cX5_bank 66 = .ok (.getfield 129, 3) := by decide +kernel
theorem dX5_bank_69 : decode cX5_bank 69 = .ok (.aload_n 0, 1) := by decide +kernel
theorem dX5_bank_70 : decode cX5_bank 70 = .ok (.getfield 10, 3) := by decide +kernel
theorem dX5_bank_73 : decode cX5_bank 73 = .ok (.getfield 104, 3) := by decide +kernel
theorem dX5_bank_76 : decode cX5_bank 76 = .ok (.isub, 1) := by decide +kernel
theorem dX5_bank_77 : decode cX5_bank 77 = .ok (.invokestatic 134, 3) := by decide +kernel
theorem dX5_bank_80 : decode cX5_bank 80 = .ok (.ireturn, 1) := by decide +kernel
theorem dX5_bank_81 : decode cX5_bank 81 = .ok (.aload_n 3, 1) := by decide +kernel
theorem dX5_bank_82 : decode cX5_bank 82 = .ok (.getfield 139, 3) := by decide +kernel
theorem dX5_bank_85 : decode cX5_bank 85 = .ok (.ireturn, 1) := by decide +kernel
theorem dX5_bank_86 : decode cX5_bank 86 = .ok (.aload_n 3, 1) := by decide +kernel
theorem dX5_bank_87 : decode cX5_bank 87 = .ok (.getfield 142, 3) := by decide +kernel
theorem dX5_bank_90 : decode cX5_bank 90 = .ok (.ireturn, 1) := by decide +kernel
theorem dX5_bank_91 : decode cX5_bank 91 = .ok (.aload_n 0, 1) := by decide +kernel
theorem dX5_bank_92 : decode cX5_bank 92 = .ok (.getfield 10, 3) := by decide +kernel
theorem dX5_bank_95 : decode cX5_bank 95 = .ok (.iload_n 1, 1) := by decide +kernel
theorem dX5_bank_96 : decode cX5_bank 96 = .ok (.invokevirtual 145, 3) := by decide +kernel
theorem dX5_bank_99 : decode cX5_bank 99 = .ok (.ireturn, 1) := by decide +kernel
theorem dX5_bank_100 : decode cX5_bank 100 = .ok (.bipush (-2), 2) := by decide +kernel
theorem dX5_bank_102 : decode cX5_bank 102 = .ok (.ireturn, 1) := by decide +kernel
theorem dX5_count_0 : decode cX5_count 0 = .ok (.iload_n 1, 1) := by decide +kernel
theorem dX5_count_1 : decode cX5_count 1 = .ok (.tableswitch 175 0 13 #[71, 71, 71, 71, 81, 89, 97, 106, 124, 133, 143, 151, 159, 167], 71) := by decide +kernel
theorem dX5_count_72 : decode cX5_count 72 = .ok (.aload_n 0, 1) := by decide +kernel
theorem dX5_count_73 : decode cX5_count 73 = .ok (.getfield 10, 3) := by decide +kernel
theorem dX5_count_76 : decode cX5_count 76 = .ok (.getfield 56, 3) := by decide +kernel
theorem dX5_count_79 : decode cX5_count 79 = .ok (.iload_n 1, 1) := by decide +kernel
theorem dX5_count_80 : decode cX5_count 80 = .ok (.iaload, 1) := by decide +kernel
theorem dX5_count_81 : decode cX5_count 81 = .ok (.ireturn, 1) := by decide +kernel
theorem dX5_count_82 : decode cX5_count 82 = .ok (.aload_n 0, 1) := by decide +kernel
theorem dX5_count_83 : decode cX5_count 83 = .ok (.getfield 10, 3) := by decide +kernel
theorem dX5_count_86 : decode cX5_count 86 = .ok (.getfield 104, 3) := by decide +kernel
theorem dX5_count_89 : decode cX5_count 89 = .ok (.ireturn, 1) := by decide +kernel
theorem dX5_count_90 : decode cX5_count 90 = .ok (.aload_n 0, 1) := by decide +kernel
theorem dX5_count_91 : decode cX5_count 91 = .ok (.getfield 10, 3) := by decide +kernel
theorem dX5_count_94 : decode cX5_count 94 = .ok (.getfield 62, 3) := by decide +kernel
theorem dX5_count_97 : decode cX5_count 97 = .ok (.ireturn, 1) := by decide +kernel
theorem dX5_count_98 : decode cX5_count 98 = .ok (.aload_n 0, 1) := by decide +kernel
theorem dX5_count_99 : decode cX5_count 99 = .ok (.getfield 10, 3) := by decide +kernel
theorem dX5_count_102 : decode cX5_count 102 = .ok (.iconst 3, 1) := by decide +kernel
theorem dX5_count_103 : decode cX5_count 103 = .ok (.invokevirtual 111, 3) := by decide +kernel
theorem dX5_count_106 : decode cX5_count 106 = .ok (.ireturn, 1) := by decide +kernel
theorem dX5_count_107 : decode cX5_count 107 = .ok (.aload_n 0, 1) := by decide +kernel
theorem dX5_count_108 : decode cX5_count 108 = .ok (.getfield 10, 3) := by decide +kernel
theorem dX5_count_111 : decode cX5_count 111 = .ok (.iconst 2, 1) := by decide +kernel
theorem dX5_count_112 : decode cX5_count 112 = .ok (.invokevirtual 111, 3) := by decide +kernel
theorem dX5_count_115 : decode cX5_count 115 = .ok (.aload_n 0, 1) := by decide +kernel
theorem dX5_count_116 : decode cX5_count 116 = .ok (.getfield 10, 3) := by decide +kernel
theorem dX5_count_119 : decode cX5_count 119 = .ok (.iconst 3, 1) := by decide +kernel
theorem dX5_count_120 : decode cX5_count 120 = .ok (.invokevirtual 111, 3) := by decide +kernel
theorem dX5_count_123 : decode cX5_count 123 = .ok (.isub, 1) := by decide +kernel
theorem dX5_count_124 : decode cX5_count 124 = .ok (.ireturn, 1) := by decide +kernel
theorem dX5_count_125 : decode cX5_count 125 = .ok (.aload_n 0, 1) := by decide +kernel
theorem dX5_count_126 : decode cX5_count 126 = .ok (.getfield 10, 3) := by decide +kernel
theorem dX5_count_129 : decode cX5_count 129 = .ok (.iconst 5, 1) := by decide +kernel
theorem dX5_count_130 : decode cX5_count 130 = .ok (.invokevirtual 111, 3) := by decide +kernel
theorem dX5_count_133 : decode cX5_count 133 = .ok (.ireturn, 1) := by decide +kernel
theorem dX5_count_134 : decode cX5_count 134 = .ok (.aload_n 0, 1) := by decide +kernel
theorem dX5_count_135 : decode cX5_count 135 = .ok (.getfield 10, 3) := by decide +kernel
theorem dX5_count_138 : decode cX5_count 138 = .ok (.bipush 6, 2) := by decide +kernel
theorem dX5_count_140 : decode cX5_count 140 = .ok (.invokevirtual 111, 3) := by decide +kernel
theorem dX5_count_143 : decode cX5_count 143 = .ok (.ireturn, 1) := by decide +kernel
theorem dX5_count_144 : decode cX5_count 144 = .ok (.aload_n 0, 1) := by decide +kernel
theorem dX5_count_145 : decode cX5_count 145 = .ok (.getfield 10, 3) := by decide +kernel
theorem dX5_count_148 : decode cX5_count 148 = .ok (.invokevirtual 148, 3) := by decide +kernel
theorem dX5_count_151 : decode cX5_count 151 = .ok (.ireturn, 1) := by decide +kernel
theorem dX5_count_152 : decode cX5_count 152 = .ok (.aload_n 0, 1) := by decide +kernel
theorem dX5_count_153 : decode cX5_count 153 = .ok (.getfield 10, 3) := by decide +kernel
theorem dX5_count_156 : decode cX5_count 156 = .ok (.invokevirtual 151, 3) := by decide +kernel
theorem dX5_count_159 : decode cX5_count 159 = .ok (.ireturn, 1) := by decide +kernel
theorem dX5_count_160 : decode cX5_count 160 = .ok (.aload_n 0, 1) := by decide +kernel
theorem dX5_count_161 : decode cX5_count 161 = .ok (.getfield 37, 3) := by decide +kernel
theorem dX5_count_164 : decode cX5_count 164 = .ok (.getfield 81, 3) := by decide +kernel
theorem dX5_count_167 : decode cX5_count 167 = .ok (.ireturn, 1) := by decide +kernel
theorem dX5_count_168 : decode cX5_count 168 = .ok (.aload_n 0, 1) := by decide +kernel
theorem dX5_count_169 : decode cX5_count 169 = .ok (.getfield 22, 3) := by decide +kernel
theorem dX5_count_172 : decode cX5_count 172 = .ok (.getfield 154, 3) := by decide +kernel
theorem dX5_count_175 : decode cX5_count 175 = .ok (.ireturn, 1) := by decide +kernel
theorem dX5_count_176 : decode cX5_count 176 = .ok (.bipush (-2), 2) := by decide +kernel
theorem dX5_count_178 : decode cX5_count 178 = .ok (.ireturn, 1) := by decide +kernel
theorem dX5_untilDone_0 : decode cX5_untilDone 0 = .ok (.aload_n 0, 1) := by decide +kernel
theorem dX5_untilDone_1 : decode cX5_untilDone 1 = .ok (.getfield 16, 3) := by decide +kernel
theorem dX5_untilDone_4 : decode cX5_untilDone 4 = .ok (.aload_n 0, 1) := by decide +kernel
theorem dX5_untilDone_5 : decode cX5_untilDone 5 = .ok (.getfield 10, 3) := by decide +kernel
theorem dX5_untilDone_8 : decode cX5_untilDone 8 = .ok (.invokevirtual 157, 3) := by decide +kernel
theorem dX5_untilDone_11 : decode cX5_untilDone 11 = .ok (.aload_n 0, 1) := by decide +kernel
theorem dX5_untilDone_12 : decode cX5_untilDone 12 = .ok (.getfield 16, 3) := by decide +kernel
theorem dX5_untilDone_15 : decode cX5_untilDone 15 = .ok (.invokevirtual 160, 3) := by decide +kernel
theorem dX5_untilDone_18 : decode cX5_untilDone 18 = .ok (.ireturn, 1) := by decide +kernel
theorem dX5_bestMap_0 : decode cX5_bestMap 0 = .ok (.iload_n 1, 1) := by decide +kernel
theorem dX5_bestMap_1 : decode cX5_bestMap 1 = .ok (.iconst 0, 1) := by decide +kernel
theorem dX5_bestMap_2 : decode cX5_bestMap 2 = .ok (.iconst 1, 1) := by decide +kernel
theorem dX5_bestMap_3 : decode cX5_bestMap 3 = .ok (.invokestatic 41, 3) := by decide +kernel
theorem dX5_bestMap_6 : decode cX5_bestMap 6 = .ok (.ifCond .ne 6, 3) := by decide +kernel
theorem dX5_bestMap_9 : decode cX5_bestMap 9 = .ok (.bipush (-2), 2) := by decide +kernel
theorem dX5_bestMap_11 : decode cX5_bestMap 11 = .ok (.ireturn, 1) := by decide +kernel
theorem dX5_bestMap_12 : decode cX5_bestMap 12 = .ok (.iconst 0, 1) := by decide +kernel
theorem dX5_bestMap_13 : decode cX5_bestMap 13 = .ok (.istore_n 2, 1) := by decide +kernel
theorem dX5_bestMap_14 : decode cX5_bestMap 14 = .ok (.aload_n 0, 1) := by decide +kernel
theorem dX5_bestMap_15 : decode cX5_bestMap 15 = .ok (.iconst 0, 1) := by decide +kernel
theorem dX5_bestMap_16 : decode cX5_bestMap 16 = .ok (.invokevirtual 169, 3) := by decide +kernel
theorem dX5_bestMap_19 : decode cX5_bestMap 19 = .ok (.istore_n 3, 1) := by decide +kernel
theorem dX5_bestMap_20 : decode cX5_bestMap 20 = .ok (.iconst 1, 1) := by decide +kernel
theorem dX5_bestMap_21 : decode cX5_bestMap 21 = .ok (.istore 4, 2) := by decide +kernel
theorem dX5_bestMap_23 : decode cX5_bestMap 23 = .ok (.iload 4, 2) := by decide +kernel
theorem dX5_bestMap_25 : decode cX5_bestMap 25 = .ok (.iconst 3, 1) := by decide +kernel
theorem dX5_bestMap_26 : decode cX5_bestMap 26 = .ok (.if_icmp .ge 29, 3) := by decide +kernel
theorem dX5_bestMap_29 : decode cX5_bestMap 29 = .ok (.aload_n 0, 1) := by decide +kernel
theorem dX5_bestMap_30 : decode cX5_bestMap 30 = .ok (.iload 4, 2) := by decide +kernel
theorem dX5_bestMap_32 : decode cX5_bestMap 32 = .ok (.invokevirtual 169, 3) := by decide +kernel
theorem dX5_bestMap_35 : decode cX5_bestMap 35 = .ok (.istore 5, 2) := by decide +kernel
theorem dX5_bestMap_37 : decode cX5_bestMap 37 = .ok (.iload 5, 2) := by decide +kernel
theorem dX5_bestMap_39 : decode cX5_bestMap 39 = .ok (.iload_n 3, 1) := by decide +kernel
theorem dX5_bestMap_40 : decode cX5_bestMap 40 = .ok (.if_icmp .ge 9, 3) := by decide +kernel
theorem dX5_bestMap_43 : decode cX5_bestMap 43 = .ok (.iload 5, 2) := by decide +kernel
theorem dX5_bestMap_45 : decode cX5_bestMap 45 = .ok (.istore_n 3, 1) := by decide +kernel
theorem dX5_bestMap_46 : decode cX5_bestMap 46 = .ok (.iload 4, 2) := by decide +kernel
theorem dX5_bestMap_48 : decode cX5_bestMap 48 = .ok (.istore_n 2, 1) := by decide +kernel
theorem dX5_bestMap_49 : decode cX5_bestMap 49 = .ok (.iinc 4 1, 3) := by decide +kernel
theorem dX5_bestMap_52 : decode cX5_bestMap 52 = .ok (.goto (-29), 3) := by decide +kernel
theorem dX5_bestMap_55 : decode cX5_bestMap 55 = .ok (.iload_n 1, 1) := by decide +kernel
theorem dX5_bestMap_56 : decode cX5_bestMap 56 = .ok (.ifCond .ne 7, 3) := by decide +kernel
theorem dX5_bestMap_59 : decode cX5_bestMap 59 = .ok (.iload_n 2, 1) := by decide +kernel
theorem dX5_bestMap_60 : decode cX5_bestMap 60 = .ok (.goto 4, 3) := by decide +kernel
theorem dX5_bestMap_63 : decode cX5_bestMap 63 = .ok (.iload_n 3, 1) := by decide +kernel
theorem dX5_bestMap_64 : decode cX5_bestMap 64 = .ok (.ireturn, 1) := by decide +kernel
theorem dX5_undo_0 : decode cX5_undo 0 = .ok (.aload_n 0, 1) := by decide +kernel
theorem dX5_undo_1 : decode cX5_undo 1 = .ok (.getfield 22, 3) := by decide +kernel
theorem dX5_undo_4 : decode cX5_undo 4 = .ok (.getfield 154, 3) := by decide +kernel
theorem dX5_undo_7 : decode cX5_undo 7 = .ok (.ifCond .ne 6, 3) := by decide +kernel
theorem dX5_undo_10 : decode cX5_undo 10 = .ok (.bipush (-5), 2) := by decide +kernel
theorem dX5_undo_12 : decode cX5_undo 12 = .ok (.ireturn, 1) := by decide +kernel
theorem dX5_undo_13 : decode cX5_undo 13 = .ok (.aload_n 0, 1) := by decide +kernel
theorem dX5_undo_14 : decode cX5_undo 14 = .ok (.getfield 22, 3) := by decide +kernel
theorem dX5_undo_17 : decode cX5_undo 17 = .ok (.aload_n 0, 1) := by decide +kernel
theorem dX5_undo_18 : decode cX5_undo 18 = .ok (.getfield 10, 3) := by decide +kernel
theorem dX5_undo_21 : decode cX5_undo 21 = .ok (.invokevirtual 186, 3) := by decide +kernel
theorem dX5_undo_24 : decode cX5_undo 24 = .ok (.aload_n 0, 1) := by decide +kernel
theorem dX5_undo_25 : decode cX5_undo 25 = .ok (.getfield 22, 3) := by decide +kernel
theorem dX5_undo_28 : decode cX5_undo 28 = .ok (.getfield 154, 3) := by decide +kernel
theorem dX5_undo_31 : decode cX5_undo 31 = .ok (.ireturn, 1) := by decide +kernel
theorem dX5_save_0 : decode cX5_save 0 = .ok (.iload_n 1, 1) := by decide +kernel
theorem dX5_save_1 : decode cX5_save 1 = .ok (.iconst 0, 1) := by decide +kernel
theorem dX5_save_2 : decode cX5_save 2 = .ok (.iconst 1, 1) := by decide +kernel
theorem dX5_save_3 : decode cX5_save 3 = .ok (.invokestatic 41, 3) := by decide +kernel
theorem dX5_save_6 : decode cX5_save 6 = .ok (.ifCond .ne 6, 3) := by decide +kernel
theorem dX5_save_9 : decode cX5_save 9 = .ok (.bipush (-2), 2) := by decide +kernel
theorem dX5_save_11 : decode cX5_save 11 = .ok (.ireturn, 1) := by decide +kernel
theorem dX5_save_12 : decode cX5_save 12 = .ok (.aload_n 0, 1) := by decide +kernel
theorem dX5_save_13 : decode cX5_save 13 = .ok (.getfield 26, 3) := by decide +kernel
theorem dX5_save_16 : decode cX5_save 16 = .ok (.iload_n 1, 1) := by decide +kernel
theorem dX5_save_17 : decode cX5_save 17 = .ok (.aaload, 1) := by decide +kernel
theorem dX5_save_18 : decode cX5_save 18 = .ok (.aload_n 0, 1) := by decide +kernel
theorem dX5_save_19 : decode cX5_save 19 = .ok (.getfield 10, 3) := by decide +kernel
theorem dX5_save_22 : decode cX5_save 22 = .ok (.invokevirtual 157, 3) := by decide +kernel
theorem dX5_save_25 : decode cX5_save 25 = .ok (.aload_n 0, 1) := by decide +kernel
theorem dX5_save_26 : decode cX5_save 26 = .ok (.getfield 30, 3) := by decide +kernel
theorem dX5_save_29 : decode cX5_save 29 = .ok (.iload_n 1, 1) := by decide +kernel
theorem dX5_save_30 : decode cX5_save 30 = .ok (.iconst 1, 1) := by decide +kernel
theorem dX5_save_31 : decode cX5_save 31 = .ok (.bastore, 1) := by decide +kernel
theorem dX5_save_32 : decode cX5_save 32 = .ok (.aload_n 0, 1) := by decide +kernel
theorem dX5_save_33 : decode cX5_save 33 = .ok (.getfield 10, 3) := by decide +kernel
theorem dX5_save_36 : decode cX5_save 36 = .ok (.getfield 104, 3) := by decide +kernel
theorem dX5_save_39 : decode cX5_save 39 = .ok (.ireturn, 1) := by decide +kernel
theorem dX5_restore_0 : decode cX5_restore 0 = .ok (.iload_n 1, 1) := by decide +kernel
theorem dX5_restore_1 : decode cX5_restore 1 = .ok (.iconst 0, 1) := by decide +kernel
theorem dX5_restore_2 : decode cX5_restore 2 = .ok (.iconst 1, 1) := by decide +kernel
theorem dX5_restore_3 : decode cX5_restore 3 = .ok (.invokestatic 41, 3) := by decide +kernel
theorem dX5_restore_6 : decode cX5_restore 6 = .ok (.ifCond .ne 6, 3) := by decide +kernel
theorem dX5_restore_9 : decode cX5_restore 9 = .ok (.bipush (-2), 2) := by decide +kernel
theorem dX5_restore_11 : decode cX5_restore 11 = .ok (.ireturn, 1) := by decide +kernel
theorem dX5_restore_12 : decode cX5_restore 12 = .ok (.aload_n 0, 1) := by decide +kernel
theorem dX5_restore_13 : decode cX5_restore 13 = .ok (.getfield 30, 3) := by decide +kernel
theorem dX5_restore_16 : decode cX5_restore 16 = .ok (.iload_n 1, 1) := by decide +kernel
theorem dX5_restore_17 : decode cX5_restore 17 = .ok (.baload, 1) := by decide +kernel
theorem dX5_restore_18 : decode cX5_restore 18 = .ok (.ifCond .ne 6, 3) := by decide +kernel
theorem dX5_restore_21 : decode cX5_restore 21 = .ok (.bipush (-5), 2) := by decide +kernel
theorem dX5_restore_23 : decode cX5_restore 23 = .ok (.ireturn, 1) := by decide +kernel
theorem dX5_restore_24 : decode cX5_restore 24 = .ok (.aload_n 0, 1) := by decide +kernel
theorem dX5_restore_25 : decode cX5_restore 25 = .ok (.getfield 22, 3) := by decide +kernel
theorem dX5_restore_28 : decode cX5_restore 28 = .ok (.aload_n 0, 1) := by decide +kernel
theorem dX5_restore_29 : decode cX5_restore 29 = .ok (.getfield 10, 3) := by decide +kernel
theorem dX5_restore_32 : decode cX5_restore 32 = .ok (.invokevirtual 52, 3) := by decide +kernel
theorem dX5_restore_35 : decode cX5_restore 35 = .ok (.aload_n 0, 1) := by decide +kernel
theorem dX5_restore_36 : decode cX5_restore 36 = .ok (.getfield 10, 3) := by decide +kernel
theorem dX5_restore_39 : decode cX5_restore 39 = .ok (.aload_n 0, 1) := by decide +kernel
theorem dX5_restore_40 : decode cX5_restore 40 = .ok (.getfield 26, 3) := by decide +kernel
theorem dX5_restore_43 : decode cX5_restore 43 = .ok (.iload_n 1, 1) := by decide +kernel
theorem dX5_restore_44 : decode cX5_restore 44 = .ok (.aaload, 1) := by decide +kernel
theorem dX5_restore_45 : decode cX5_restore 45 = .ok (.invokevirtual 157, 3) := by decide +kernel
theorem dX5_restore_48 : decode cX5_restore 48 = .ok (.aload_n 0, 1) := by decide +kernel
theorem dX5_restore_49 : decode cX5_restore 49 = .ok (.getfield 10, 3) := by decide +kernel
theorem dX5_restore_52 : decode cX5_restore 52 = .ok (.getfield 104, 3) := by decide +kernel
theorem dX5_restore_55 : decode cX5_restore 55 = .ok (.ireturn, 1) := by decide +kernel
theorem dX5_isIn_0 : decode cX5_isIn 0 = .ok (.iload_n 0, 1) := by decide +kernel
theorem dX5_isIn_1 : decode cX5_isIn 1 = .ok (.iload_n 1, 1) := by decide +kernel
theorem dX5_isIn_2 : decode cX5_isIn 2 = .ok (.if_icmp .lt 12, 3) := by decide +kernel
theorem dX5_isIn_5 : decode cX5_isIn 5 = .ok (.iload_n 0, 1) := by decide +kernel
theorem dX5_isIn_6 : decode cX5_isIn 6 = .ok (.iload_n 2, 1) := by decide +kernel
theorem dX5_isIn_7 : decode cX5_isIn 7 = .ok (.if_icmp .gt 7, 3) := by decide +kernel
theorem dX5_isIn_10 : decode cX5_isIn 10 = .ok (.iconst 1, 1) := by decide +kernel
theorem dX5_isIn_11 : decode cX5_isIn 11 = .ok (.goto 4, 3) := by decide +kernel
theorem dX5_isIn_14 : decode cX5_isIn 14 = .ok (.iconst 0, 1) := by decide +kernel
theorem dX5_isIn_15 : decode cX5_isIn 15 = .ok (.ireturn, 1) := by decide +kernel
theorem dX5_cyclesByMap_0 : decode cX5_cyclesByMap 0 = .ok (.aload_n 0, 1) := by decide +kernel
theorem dX5_cyclesByMap_1 : decode cX5_cyclesByMap 1 = .ok (.getfield 16, 3) := by decide +kernel
theorem dX5_cyclesByMap_4 : decode cX5_cyclesByMap 4 = .ok (.aload_n 0, 1) := by decide +kernel
theorem dX5_cyclesByMap_5 : decode cX5_cyclesByMap 5 = .ok (.getfield 10, 3) := by decide +kernel
theorem dX5_cyclesByMap_8 : decode cX5_cyclesByMap 8 = .ok (.invokevirtual 157, 3) := by decide +kernel
theorem dX5_cyclesByMap_11 : decode cX5_cyclesByMap 11 = .ok (.aload_n 0, 1) := by decide +kernel
theorem dX5_cyclesByMap_12 : decode cX5_cyclesByMap 12 = .ok (.getfield 16, 3) := by decide +kernel
theorem dX5_cyclesByMap_15 : decode cX5_cyclesByMap 15 = .ok (.getfield 56, 3) := by decide +kernel
theorem dX5_cyclesByMap_18 : decode cX5_cyclesByMap 18 = .ok (.iconst 2, 1) := by decide +kernel
theorem dX5_cyclesByMap_19 : decode cX5_cyclesByMap 19 = .ok (.iload_n 1, 1) := by decide +kernel
theorem dX5_cyclesByMap_20 : decode cX5_cyclesByMap 20 = .ok (.iastore, 1) := by decide +kernel
theorem dX5_cyclesByMap_21 : decode cX5_cyclesByMap 21 = .ok (.aload_n 0, 1) := by decide +kernel
theorem dX5_cyclesByMap_22 : decode cX5_cyclesByMap 22 = .ok (.getfield 16, 3) := by decide +kernel
theorem dX5_cyclesByMap_25 : decode cX5_cyclesByMap 25 = .ok (.invokevirtual 59, 3) := by decide +kernel
theorem dX5_cyclesByMap_28 : decode cX5_cyclesByMap 28 = .ok (.aload_n 0, 1) := by decide +kernel
theorem dX5_cyclesByMap_29 : decode cX5_cyclesByMap 29 = .ok (.getfield 16, 3) := by decide +kernel
theorem dX5_cyclesByMap_32 : decode cX5_cyclesByMap 32 = .ok (.invokevirtual 160, 3) := by decide +kernel
theorem dX5_cyclesByMap_35 : decode cX5_cyclesByMap 35 = .ok (.ireturn, 1) := by decide +kernel
