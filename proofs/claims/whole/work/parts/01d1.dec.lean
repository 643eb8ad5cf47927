theorem dX0_init_0 : decode cX0_init 0 = .ok (.aload_n 0, 1) := by decide +kernel
theorem dX0_init_1 : decode cX0_init 1 = .ok (.invokespecial 3, 3) := by decide +kernel
theorem dX0_init_4 : decode cX0_init 4 = .ok (.aload_n 0, 1) := by decide +kernel
theorem dX0_init_5 : decode cX0_init 5 = .ok (.bipush 24, 2) := by decide +kernel
theorem dX0_init_7 : decode cX0_init 7 = .ok (.anewarray 9, 3) := by decide +kernel
theorem dX0_init_10 : decode cX0_init 10 = .ok (.putfield 11, 3) := by decide +kernel
theorem dX0_init_13 : decode cX0_init 13 = .ok (.iconst 0, 1) := by decide +kernel
theorem dX0_init_14 : decode cX0_init 14 = .ok (.istore_n 1, 1) := by decide +kernel
theorem dX0_init_15 : decode cX0_init 15 = .ok (.iload_n 1, 1) := by decide +kernel
theorem dX0_init_16 : decode cX0_init 16 = .ok (.bipush 24, 2) := by decide +kernel
theorem dX0_init_18 : decode cX0_init 18 = .ok (.if_icmp .ge 22, 3) := by decide +kernel
theorem dX0_init_21 : decode cX0_init 21 = .ok (.aload_n 0, 1) := by decide +kernel
theorem dX0_init_22 : decode cX0_init 22 = .ok (.getfield 11, 3) := by decide +kernel
theorem dX0_init_25 : decode cX0_init 25 = .ok (.iload_n 1, 1) := by decide +kernel
theorem dX0_init_26 : decode cX0_init 26 = .ok (.new 9, 3) := by decide +kernel
theorem dX0_init_29 : decode cX0_init 29 = .ok (.dup, 1) := by decide +kernel
theorem dX0_init_30 : decode cX0_init 30 = .ok (.invokespecial 17, 3) := by decide +kernel
theorem dX0_init_33 : decode cX0_init 33 = .ok (.aastore, 1) := by decide +kernel
theorem dX0_init_34 : decode cX0_init 34 = .ok (.iinc 1 1, 3) := by decide +kernel
theorem dX0_init_37 : decode cX0_init 37 = .ok (.goto (-22), 3) := by decide +kernel
theorem dX0_init_40 : decode cX0_init 40 = .ok (.return_, 1) := by decide +kernel
theorem dX0_keep_0 : decode cX0_keep 0 = .ok (.aload_n 0, 1) := by decide +kernel
theorem dX0_keep_1 : decode cX0_keep 1 = .ok (.getfield 11, 3) := by decide +kernel
theorem dX0_keep_4 : decode cX0_keep 4 = .ok (.aload_n 0, 1) := by decide +kernel
theorem dX0_keep_5 : decode cX0_keep 5 = .ok (.getfield 18, 3) := by decide +kernel
theorem dX0_keep_8 : decode cX0_keep 8 = .ok (.aaload, 1) := by decide +kernel
theorem dX0_keep_9 : decode cX0_keep 9 = .ok (.aload_n 1, 1) := by decide +kernel
theorem dX0_keep_10 : decode cX0_keep 10 = .ok (.invokevirtual 22, 3) := by decide +kernel
theorem dX0_keep_13 : decode cX0_keep 13 = .ok (.aload_n 0, 1) := by decide +kernel
theorem dX0_keep_14 : decode cX0_keep 14 = .ok (.aload_n 0, 1) := by decide +kernel
theorem dX0_keep_15 : decode cX0_keep 15 = .ok (.getfield 18, 3) := by decide +kernel
theorem dX0_keep_18 : decode cX0_keep 18 = .ok (.iconst 1, 1) := by decide +kernel
theorem dX0_keep_19 : decode cX0_keep 19 = .ok (.iadd, 1) := by decide +kernel
theorem dX0_keep_20 : decode cX0_keep 20 = .ok (.bipush 24, 2) := by decide +kernel
theorem dX0_keep_22 : decode cX0_keep 22 = .ok (.irem, 1) := by decide +kernel
theorem dX0_keep_23 : decode cX0_keep 23 = .ok (.putfield 18, 3) := by decide +kernel
theorem dX0_keep_26 : decode cX0_keep 26 = .ok (.aload_n 0, 1) := by decide +kernel
theorem dX0_keep_27 : decode cX0_keep 27 = .ok (.aload_n 0, 1) := by decide +kernel
theorem dX0_keep_28 : decode cX0_keep 28 = .ok (.getfield 26, 3) := by decide +kernel
theorem dX0_keep_31 : decode cX0_keep 31 = .ok (.iconst 1, 1) := by decide +kernel
theorem dX0_keep_32 : decode cX0_keep 32 = .ok (.iadd, 1) := by decide +kernel
theorem dX0_keep_33 : decode cX0_keep 33 = .ok (.bipush 24, 2) := by decide +kernel
theorem dX0_keep_35 : decode cX0_keep 35 = .ok (.invokestatic 29, 3) := by decide +kernel
theorem dX0_keep_38 : decode cX0_keep 38 = .ok (.putfield 26, 3) := by decide +kernel
theorem dX0_keep_41 : decode cX0_keep 41 = .ok (.return_, 1) := by decide +kernel
theorem dX0_takeBack_0 : decode cX0_takeBack 0 = .ok (.aload_n 0, 1) := by decide +kernel
theorem dX0_takeBack_1 : decode cX0_takeBack 1 = .ok (.aload_n 0, 1) := by decide +kernel
theorem dX0_takeBack_2 : decode cX0_takeBack 2 = .ok (.getfield 18, 3) := by decide +kernel
theorem dX0_takeBack_5 : decode cX0_takeBack 5 = .ok (.bipush 24, 2) := by decide +kernel
theorem dX0_takeBack_7 : decode cX0_takeBack 7 = .ok (.iadd, 1) := by decide +kernel
theorem dX0_takeBack_8 : decode cX0_takeBack 8 = .ok (.iconst 1, 1) := by decide +kernel
theorem dX0_takeBack_9 : decode cX0_takeBack 9 = .ok (.isub, 1) := by decide +kernel
theorem dX0_takeBack_10 : decode cX0_takeBack 10 = .ok (.bipush 24, 2) := by decide +kernel
theorem dX0_takeBack_12 : decode cX0_takeBack 12 = .ok (.irem, 1) := by decide +kernel
theorem dX0_takeBack_13 : decode cX0_takeBack 13 = .ok (.putfield 18, 3) := by decide +kernel
theorem dX0_takeBack_16 : decode cX0_takeBack 16 = .ok (.aload_n 1, 1) := by decide +kernel
theorem dX0_takeBack_17 : decode cX0_takeBack 17 = .ok (.aload_n 0, 1) := by decide +kernel
theorem dX0_takeBack_18 : decode cX0_takeBack 18 = .ok (.getfield 11, 3) := by decide +kernel
theorem dX0_takeBack_21 : decode cX0_takeBack 21 = .ok (.aload_n 0, 1) := by decide +kernel
theorem dX0_takeBack_22 : decode cX0_takeBack 22 = .ok (.getfield 18, 3) := by decide +kernel
theorem dX0_takeBack_25 : decode cX0_takeBack 25 = .ok (.aaload, 1) := by decide +kernel
theorem dX0_takeBack_26 : decode cX0_takeBack 26 = .ok (.invokevirtual 22, 3) := by decide +kernel
theorem dX0_takeBack_29 : decode cX0_takeBack 29 = .ok (.aload_n 0, 1) := by decide +kernel
theorem dX0_takeBack_30 : decode cX0_takeBack 30 = .ok (.dup, 1) := by decide +kernel
theorem dX0_takeBack_31 : decode cX0_takeBack 31 = .ok (.getfield 26, 3) := by decide +kernel
theorem dX0_takeBack_34 : decode cX0_takeBack 34 = .ok (.iconst 1, 1) := by decide +kernel
theorem dX0_takeBack_35 : decode cX0_takeBack 35 = .ok (.isub, 1) := by decide +kernel
theorem dX0_takeBack_36 : decode cX0_takeBack 36 = .ok (.putfield 26, 3) := by decide +kernel
theorem dX0_takeBack_39 : decode cX0_takeBack 39 = .ok (.return_, 1) := by decide +kernel
theorem dX0_forget_0 : decode cX0_forget 0 = .ok (.aload_n 0, 1) := by decide +kernel
theorem dX0_forget_1 : decode cX0_forget 1 = .ok (.iconst 0, 1) := by decide +kernel
theorem dX0_forget_2 : decode cX0_forget 2 = .ok (.putfield 26, 3) := by decide +kernel
theorem dX0_forget_5 : decode cX0_forget 5 = .ok (.return_, 1) := by decide +kernel
theorem dX1_init_0 : decode cX1_init 0 = .ok (.aload_n 0, 1) := by decide +kernel
theorem dX1_init_1 : decode cX1_init 1 = .ok (.invokespecial 3, 3) := by decide +kernel
theorem dX1_init_4 : decode cX1_init 4 = .ok (.aload_n 0, 1) := by decide +kernel
theorem dX1_init_5 : decode cX1_init 5 = .ok (.bipush 16, 2) := by decide +kernel
theorem dX1_init_7 : decode cX1_init 7 = .ok (.newarray .int, 2) := by decide +kernel
theorem dX1_init_9 : decode cX1_init 9 = .ok (.putfield 9, 3) := by decide +kernel
theorem dX1_init_12 : decode cX1_init 12 = .ok (.aload_n 0, 1) := by decide +kernel
theorem dX1_init_13 : decode cX1_init 13 = .ok (.aload_n 1, 1) := by decide +kernel
theorem dX1_init_14 : decode cX1_init 14 = .ok (.putfield 15, 3) := by decide +kernel
theorem dX1_init_17 : decode cX1_init 17 = .ok (.return_, 1) := by decide +kernel
theorem dX1_askSize_0 : decode cX1_askSize 0 = .ok (.aload_n 0, 1) := by decide +kernel
theorem dX1_askSize_1 : decode cX1_askSize 1 = .ok (.getfield 15, 3) := by decide +kernel
theorem dX1_askSize_4 : decode cX1_askSize 4 = .ok (.getfield 19, 3) := by decide +kernel
theorem dX1_askSize_7 : decode cX1_askSize 7 = .ok (.iload_n 1, 1) := by decide +kernel
theorem dX1_askSize_8 : decode cX1_askSize 8 = .ok (.iaload, 1) := by decide +kernel
theorem dX1_askSize_9 : decode cX1_askSize 9 = .ok (.tableswitch 59 1 5 #[35, 41, 53, 47, 53], 35) := by decide +kernel
theorem dX1_askSize_44 : decode cX1_askSize 44 = .ok (.aload_n 0, 1) := by decide +kernel
theorem dX1_askSize_45 : decode cX1_askSize 45 = .ok (.iload_n 1, 1) := by decide +kernel
theorem dX1_askSize_46 : decode cX1_askSize 46 = .ok (.invokevirtual 24, 3) := by decide +kernel
theorem dX1_askSize_49 : decode cX1_askSize 49 = .ok (.ireturn, 1) := by decide +kernel
theorem dX1_askSize_50 : decode cX1_askSize 50 = .ok (.aload_n 0, 1) := by decide +kernel
theorem dX1_askSize_51 : decode cX1_askSize 51 = .ok (.iload_n 1, 1) := by decide +kernel
theorem dX1_askSize_52 : decode cX1_askSize 52 = .ok (.invokevirtual 28, 3) := by decide +kernel
theorem dX1_askSize_55 : decode cX1_askSize 55 = .ok (.ireturn, 1) := by decide +kernel
theorem dX1_askSize_56 : decode cX1_askSize 56 = .ok (.aload_n 0, 1) := by decide +kernel
theorem dX1_askSize_57 : decode cX1_askSize 57 = .ok (.iload_n 1, 1) := by decide +kernel
theorem dX1_askSize_58 : decode cX1_askSize 58 = .ok (.invokevirtual 31, 3) := by decide +kernel
theorem dX1_askSize_61 : decode cX1_askSize 61 = .ok (.ireturn, 1) := by decide +kernel
theorem dX1_askSize_62 : decode cX1_askSize 62 = .ok (.aload_n 0, 1) := by decide +kernel
theorem dX1_askSize_63 : decode cX1_askSize 63 = .ok (.iload_n 1, 1) := by decide +kernel
theorem dX1_askSize_64 : decode cX1_askSize 64 = .ok (.invokevirtual 34, 3) := by decide +kernel
theorem dX1_askSize_67 : decode cX1_askSize 67 = .ok (.ireturn, 1) := by decide +kernel
theorem dX1_askSize_68 : decode cX1_askSize 68 = .ok (.aload_n 0, 1) := by decide +kernel
theorem dX1_askSize_69 : decode cX1_askSize 69 = .ok (.iload_n 1, 1) := by decide +kernel
theorem dX1_askSize_70 : decode cX1_askSize 70 = .ok (.invokevirtual 37, 3) := by decide +kernel
theorem dX1_askSize_73 : decode cX1_askSize 73 = .ok (.ireturn, 1) := by decide +kernel
theorem dX1_askMark_0 : decode cX1_askMark 0 = .ok (.aload_n 0, 1) := by decide +kernel
theorem dX1_askMark_1 : decode cX1_askMark 1 = .ok (.getfield 15, 3) := by decide +kernel
theorem dX1_askMark_4 : decode cX1_askMark 4 = .ok (.getfield 19, 3) := by decide +kernel
theorem dX1_askMark_7 : decode cX1_askMark 7 = .ok (.iload_n 1, 1) := by decide +kernel
theorem dX1_askMark_8 : decode cX1_askMark 8 = .ok (.iaload, 1) := by decide +kernel
theorem dX1_askMark_9 : decode cX1_askMark 9 = .ok (.tableswitch 59 1 5 #[35, 41, 53, 53, 47], 35) := by decide +kernel
theorem dX1_askMark_44 : decode cX1_askMark 44 = .ok (.aload_n 0, 1) := by decide +kernel
theorem dX1_askMark_45 : decode cX1_askMark 45 = .ok (.iload_n 1, 1) := by decide +kernel
theorem dX1_askMark_46 : decode cX1_askMark 46 = .ok (.invokevirtual 40, 3) := by decide +kernel
theorem dX1_askMark_49 : decode cX1_askMark 49 = .ok (.ireturn, 1) := by decide +kernel
theorem dX1_askMark_50 : decode cX1_askMark 50 = .ok (.aload_n 0, 1) := by decide +kernel
theorem dX1_askMark_51 : decode cX1_askMark 51 = .ok (.iload_n 1, 1) := by decide +kernel
theorem dX1_askMark_52 : decode cX1_askMark 52 = .ok (.invokevirtual 43, 3) := by decide +kernel
theorem dX1_askMark_55 : decode cX1_askMark 55 = .ok (.ireturn, 1) := by decide +kernel
theorem dX1_askMark_56 : decode cX1_askMark 56 = .ok (.aload_n 0, 1) := by decide +kernel
theorem dX1_askMark_57 : decode cX1_askMark 57 = .ok (.iload_n 1, 1) := by decide +kernel
theorem dX1_askMark_58 : decode cX1_askMark 58 = .ok (.invokevirtual 46, 3) := by decide +kernel
theorem dX1_askMark_61 : decode cX1_askMark 61 = .ok (.ireturn, 1) := by decide +kernel
theorem dX1_askMark_62 : decode cX1_askMark 62 = .ok (.aload_n 0, 1) := by decide +kernel
theorem dX1_askMark_63 : decode cX1_askMark 63 = .ok (.iload_n 1, 1) := by decide +kernel
theorem dX1_askMark_64 : decode cX1_askMark 64 = .ok (.invokevirtual 49, 3) := by decide +kernel
theorem dX1_askMark_67 : decode cX1_askMark 67 = .ok (.ireturn, 1) := by decide +kernel
theorem dX1_askMark_68 : decode cX1_askMark 68 = .ok (.aload_n 0, 1) := by decide +kernel
theorem dX1_askMark_69 : decode cX1_askMark 69 = .ok (.iload_n 1, 1) := by decide +kernel
theorem dX1_askMark_70 : decode cX1_askMark 70 = .ok (.invokevirtual 52, 3) := by decide +kernel
theorem dX1_askMark_73 : decode cX1_askMark 73 = .ok (.ireturn, 1) := by decide +kernel
theorem dX1_body10_0 : decode cX1_body10 0 = .ok (.aload_n 0, 1) := by decide +kernel
theorem dX1_body10_1 : decode cX1_body10 1 = .ok (.bipush 10, 2) := by decide +kernel
theorem dX1_body10_3 : decode cX1_body10 3 = .ok (.invokevirtual 55, 3) := by decide +kernel
theorem dX1_body10_6 : decode cX1_body10 6 = .ok (.aload_n 0, 1) := by decide +kernel
theorem dX1_body10_7 : decode cX1_body10 7 = .ok (.getfield 15, 3) := by decide +kernel
theorem dX1_body10_10 : decode cX1_body10 10 = .ok (.getfield 59, 3) := by decide +kernel
theorem dX1_body10_13 : decode cX1_body10 13 = .ok (.iload_n 1, 1) := by decide +kernel
theorem dX1_body10_14 : decode cX1_body10 14 = .ok (.iaload, 1) := by decide +kernel
theorem dX1_body10_15 : decode cX1_body10 15 = .ok (.ireturn, 1) := by decide +kernel
theorem dX1_body11_0 : decode cX1_body11 0 = .ok (.aload_n 0, 1) := by decide +kernel
theorem dX1_body11_1 : decode cX1_body11 1 = .ok (.bipush 11, 2) := by decide +kernel
theorem dX1_body11_3 : decode cX1_body11 3 = .ok (.invokevirtual 55, 3) := by decide +kernel
theorem dX1_body11_6 : decode cX1_body11 6 = .ok (.aload_n 0, 1) := by decide +kernel
theorem dX1_body11_7 : decode cX1_body11 7 = .ok (.iload_n 1, 1) := by decide +kernel
theorem dX1_body11_8 : decode cX1_body11 8 = .ok (.invokevirtual 37, 3) := by decide +kernel
theorem dX1_body11_11 : decode cX1_body11 11 = .ok (.istore_n 2, 1) := by decide +kernel
theorem dX1_body11_12 : decode cX1_body11 12 = .ok (.iload_n 2, 1) := by decide +kernel
theorem dX1_body11_13 : decode cX1_body11 13 = .ok (.aload_n 0, 1) := by decide +kernel
theorem dX1_body11_14 : decode cX1_body11 14 = .ok (.getfield 15, 3) := by decide +kernel
theorem dX1_body11_17 : decode cX1_body11 17 = .ok (.getfield 19, 3) := by decide +kernel
theorem dX1_body11_20 : decode cX1_body11 20 = .ok (.iload_n 1, 1) := by decide +kernel
theorem dX1_body11_21 : decode cX1_body11 21 = .ok (.iaload, 1) := by decide +kernel
theorem dX1_body11_22 : decode cX1_body11 22 = .ok (.iconst 2, 1) := by decide +kernel
theorem dX1_body11_23 : decode cX1_body11 23 = .ok (.if_icmp .ne 11, 3) := by decide +kernel
theorem dX1_body11_26 : decode cX1_body11 26 = .ok (.aload_n 0, 1) := by decide +kernel
theorem dX1_body11_27 : decode cX1_body11 27 = .ok (.iload_n 1, 1) := by decide +kernel
theorem dX1_body11_28 : decode cX1_body11 28 = .ok (.invokevirtual 43, 3) := by decide +kernel
theorem dX1_body11_31 : decode cX1_body11 31 = .ok (.goto 8, 3) := by decide +kernel
theorem dX1_body11_34 : decode cX1_body11 34 = .ok (.aload_n 0, 1) := by decide +kernel
theorem dX1_body11_35 : decode cX1_body11 35 = .ok (.iload_n 1, 1) := by decide +kernel
theorem dX1_body11_36 : decode cX1_body11 36 = .ok (.invokevirtual 40, 3) := by decide +kernel
theorem dX1_body11_39 : decode cX1_body11 39 = .ok (.iadd, 1) := by decide +kernel
theorem dX1_body11_40 : decode cX1_body11 40 = .ok (.ireturn, 1) := by decide +kernel
theorem dX1_body12_0 : decode cX1_body12 0 = .ok (.aload_n 0, 1) := by decide +kernel
theorem dX1_body12_1 : decode cX1_body12 1 = .ok (.bipush 12, 2) := by decide +kernel
theorem dX1_body12_3 : decode cX1_body12 3 = .ok (.invokevirtual 55, 3) := by decide +kernel
theorem dX1_body12_6 : decode cX1_body12 6 = .ok (.aload_n 0, 1) := by decide +kernel
theorem dX1_body12_7 : decode cX1_body12 7 = .ok (.iload_n 1, 1) := by decide +kernel
theorem dX1_body12_8 : decode cX1_body12 8 = .ok (.invokevirtual 24, 3) := by decide +kernel
theorem dX1_body12_11 : decode cX1_body12 11 = .ok (.ineg, 1) := by decide +kernel
theorem dX1_body12_12 : decode cX1_body12 12 = .ok (.ireturn, 1) := by decide +kernel
theorem dX1_body13_0 : decode cX1_body13 0 = .ok (.aload_n 0, 1) := by decide +kernel
theorem dX1_body13_1 : decode cX1_body13 1 = .ok (.bipush 13, 2) := by decide +kernel
theorem dX1_body13_3 : decode cX1_body13 3 = .ok (.invokevirtual 55, 3) := by decide +kernel
theorem dX1_body13_6 : decode cX1_body13 6 = .ok (.aload_n 0, 1) := by decide +kernel
theorem dX1_body13_7 : decode cX1_body13 7 = .ok (.iload_n 1, 1) := by decide +kernel
theorem dX1_body13_8 : decode cX1_body13 8 = .ok (.invokevirtual 37, 3) := by decide +kernel
theorem dX1_body13_11 : decode cX1_body13 11 = .ok (.bipush 100, 2) := by decide +kernel
theorem dX1_body13_13 : decode cX1_body13 13 = .ok (.isub, 1) := by decide +kernel
theorem dX1_body13_14 : decode cX1_body13 14 = .ok (.ireturn, 1) := by decide +kernel
theorem dX1_body14_0 : decode cX1_body14 0 = .ok (.aload_n 0, 1) := by decide +kernel
theorem dX1_body14_1 : decode cX1_body14 1 = .ok (.bipush 14, 2) := by decide +kernel
theorem dX1_body14_3 : decode cX1_body14 3 = .ok (.invokevirtual 55, 3) := by decide +kernel
theorem dX1_body14_6 : decode cX1_body14 6 = .ok (.iconst 2, 1) := by decide +kernel
theorem dX1_body14_7 : decode cX1_body14 7 = .ok (.aload_n 0, 1) := by decide +kernel
theorem dX1_body14_8 : decode cX1_body14 8 = .ok (.iload_n 1, 1) := by decide +kernel
theorem dX1_body14_9 : decode cX1_body14 9 = .ok (.invokevirtual 34, 3) := by decide +kernel
theorem dX1_body14_12 : decode cX1_body14 12 = .ok (.imul, 1) := by decide +kernel
theorem dX1_body14_13 : decode cX1_body14 13 = .ok (.ireturn, 1) := by decide +kernel
theorem dX1_body20_0 : decode cX1_body20 0 = .ok (.aload_n 0, 1) := by decide +kernel
theorem dX1_body20_1 : decode cX1_body20 1 = .ok (.bipush 20, 2) := by decide +kernel
theorem dX1_body20_3 : decode cX1_body20 3 = .ok (.invokevirtual 55, 3) := by decide +kernel
theorem dX1_body20_6 : decode cX1_body20 6 = .ok (.iload_n 1, 1) := by decide +kernel
theorem dX1_body20_7 : decode cX1_body20 7 = .ok (.ireturn, 1) := by decide +kernel
theorem dX1_body21_0 : decode cX1_body21 0 = .ok (.aload_n 0, 1) := by decide +kernel
theorem dX1_body21_1 : decode cX1_body21 1 = .ok (.bipush 21, 2) := by decide +kernel
theorem dX1_body21_3 : decode cX1_body21 3 = .ok (.invokevirtual 55, 3) := by decide +kernel
theorem dX1_body21_6 : decode cX1_body21 6 = .ok (.aload_n 0, 1) := by decide +kernel
theorem dX1_body21_7 : decode cX1_body21 7 = .ok (.iload_n 1, 1) := by decide +kernel
theorem dX1_body21_8 : decode cX1_body21 8 = .ok (.invokevirtual 52, 3) := by decide +kernel
theorem dX1_body21_11 : decode cX1_body21 11 = .ok (.aload_n 0, 1) := by decide +kernel
theorem dX1_body21_12 : decode cX1_body21 12 = .ok (.getfield 15, 3) := by decide +kernel
theorem dX1_body21_15 : decode cX1_body21 15 = .ok (.getfield 62, 3) := by decide +kernel
theorem dX1_body21_18 : decode cX1_body21 18 = .ok (.iload_n 1, 1) := by decide +kernel
theorem dX1_body21_19 : decode cX1_body21 19 = .ok (.iaload, 1) := by decide +kernel
theorem dX1_body21_20 : decode cX1_body21 20 = .ok (.iadd, 1) := by decide +kernel
theorem dX1_body21_21 : decode cX1_body21 21 = .ok (.ireturn, 1) := by decide +kernel
theorem dX1_body22_0 : decode cX1_body22 0 = .ok (.aload_n 0, 1) := by decide +kernel
theorem dX1_body22_1 : decode cX1_body22 1 = .ok (.bipush 22, 2) := by decide +kernel
theorem dX1_body22_3 : decode cX1_body22 3 = .ok (.invokevirtual 55, 3) := by decide +kernel
theorem dX1_body22_6 : decode cX1_body22 6 = .ok (.aload_n 0, 1) := by decide +kernel
theorem dX1_body22_7 : decode cX1_body22 7 = .ok (.iload_n 1, 1) := by decide +kernel
theorem dX1_body22_8 : decode cX1_body22 8 = .ok (.invokevirtual 40, 3) := by decide +kernel
theorem dX1_body22_11 : decode cX1_body22 11 = .ok (.sipush 1000, 3) := by decide +kernel
theorem dX1_body22_14 : decode cX1_body22 14 = .ok (.isub, 1) := by decide +kernel
theorem dX1_body22_15 : decode cX1_body22 15 = .ok (.ireturn, 1) := by decide +kernel
theorem dX1_body23_0 : decode cX1_body23 0 = .ok (.aload_n 0, 1) := by decide +kernel
theorem dX1_body23_1 : decode cX1_body23 1 = .ok (.bipush 23, 2) := by decide +kernel
theorem dX1_body23_3 : decode cX1_body23 3 = .ok (.invokevirtual 55, 3) := by decide +kernel
theorem dX1_body23_6 : decode cX1_body23 6 = .ok (.aload_n 0, 1) := by decide +kernel
theorem dX1_body23_7 : decode cX1_body23 7 = .ok (.iload_n 1, 1) := by decide +kernel
theorem dX1_body23_8 : decode cX1_body23 8 = .ok (.invokevirtual 52, 3) := by decide +kernel
theorem dX1_body23_11 : decode cX1_body23 11 = .ok (.istore_n 2, 1) := by decide +kernel
theorem dX1_body23_12 : decode cX1_body23 12 = .ok (.iload_n 2, 1) := by decide +kernel
theorem dX1_body23_13 : decode cX1_body23 13 = .ok (.aload_n 0, 1) := by decide +kernel
theorem dX1_body23_14 : decode cX1_body23 14 = .ok (.getfield 15, 3) := by decide +kernel
theorem dX1_body23_17 : decode cX1_body23 17 = .ok (.getfield 19, 3) := by decide +kernel
theorem dX1_body23_20 : decode cX1_body23 20 = .ok (.iload_n 1, 1) := by decide +kernel
theorem dX1_body23_21 : decode cX1_body23 21 = .ok (.iaload, 1) := by decide +kernel
theorem dX1_body23_22 : decode cX1_body23 22 = .ok (.iconst 4, 1) := by decide +kernel
theorem dX1_body23_23 : decode cX1_body23 23 = .ok (.if_icmp .ne 11, 3) := by decide +kernel
theorem dX1_body23_26 : decode cX1_body23 26 = .ok (.aload_n 0, 1) := by decide +kernel
theorem dX1_body23_27 : decode cX1_body23 27 = .ok (.iload_n 1, 1) := by decide +kernel
theorem dX1_body23_28 : decode cX1_body23 28 = .ok (.invokevirtual 31, 3) := by decide +kernel
theorem dX1_body23_31 : decode cX1_body23 31 = .ok (.goto 8, 3) := by decide +kernel
theorem dX1_body23_34 : decode cX1_body23 34 = .ok (.aload_n 0, 1) := by decide +kernel
theorem dX1_body23_35 : decode cX1_body23 35 = .ok (.iload_n 1, 1) := by decide +kernel
theorem dX1_body23_36 : decode cX1_body23 36 = .ok (.invokevirtual 34, 3) := by decide +kernel
theorem dX1_body23_39 : decode cX1_body23 39 = .ok (.isub, 1) := by decide +kernel
theorem dX1_body23_40 : decode cX1_body23 40 = .ok (.ireturn, 1) := by decide +kernel
theorem dX1_body24_0 : decode cX1_body24 0 = .ok (.aload_n 0, 1) := by decide +kernel
theorem dX1_body24_1 : decode cX1_body24 1 = .ok (.bipush 24, 2) := by decide +kernel
theorem dX1_body24_3 : decode cX1_body24 3 = .ok (.invokevirtual 55, 3) := by decide +kernel
theorem dX1_body24_6 : decode cX1_body24 6 = .ok (.iconst 2, 1) := by decide +kernel
theorem dX1_body24_7 : decode cX1_body24 7 = .ok (.aload_n 0, 1) := by decide +kernel
theorem dX1_body24_8 : decode cX1_body24 8 = .ok (.iload_n 1, 1) := by decide +kernel
theorem dX1_body24_9 : decode cX1_body24 9 = .ok (.invokevirtual 49, 3) := by decide +kernel
theorem dX1_body24_12 : decode cX1_body24 12 = .ok (.imul, 1) := by decide +kernel
theorem dX1_body24_13 : decode cX1_body24 13 = .ok (.ireturn, 1) := by decide +kernel
theorem dX1_leave_0 : decode cX1_leave 0 = .ok (.aload_n 0, 1) := by decide +kernel
theorem dX1_leave_1 : decode cX1_leave 1 = .ok (.getfield 65, 3) := by decide +kernel
theorem dX1_leave_4 : decode cX1_leave 4 = .ok (.bipush 16, 2) := by decide +kernel
theorem dX1_leave_6 : decode cX1_leave 6 = .ok (.if_icmp .ge 23, 3) := by decide +kernel
theorem dX1_leave_9 : decode cX1_leave 9 = .ok (.aload_n 0, 1) := by decide +kernel
theorem dX1_leave_10 : decode cX1_leave 10 = .ok (.getfield 9, 3) := by decide +kernel
theorem dX1_leave_13 : decode cX1_leave 13 = .ok (.aload_n 0, 1) := by decide +kernel
theorem dX1_leave_14 : decode cX1_leave 14 = .ok (.getfield 65, 3) := by decide +kernel
theorem dX1_leave_17 : decode cX1_leave 17 = .ok (.iload_n 1, 1) := by decide +kernel
theorem dX1_leave_18 : decode cX1_leave 18 = .ok (.iastore, 1) := by decide +kernel
theorem dX1_leave_19 : decode cX1_leave 19 = .ok (.aload_n 0, 1) := by decide +kernel
theorem dX1_leave_20 : decode cX1_leave 20 = .ok (.dup, 1) := by decide +kernel
theorem dX1_leave_21 : decode cX1_leave 21 = .ok (.getfield 65, 3) := by decide +kernel
theorem dX1_leave_24 : decode cX1_leave 24 = .ok (.iconst 1, 1) := by decide +kernel
theorem dX1_leave_25 : decode cX1_leave 25 = .ok (.iadd, 1) := by decide +kernel
theorem dX1_leave_26 : decode cX1_leave 26 = .ok (.putfield 65, 3) := by decide +kernel
theorem dX1_leave_29 : decode cX1_leave 29 = .ok (.return_, 1) := by decide +kernel
theorem dX2_init_0 : decode cX2_init 0 = .ok (.aload_n 0, 1) := by decide +kernel
theorem dX2_init_1 : decode cX2_init 1 = .ok (.invokespecial 3, 3) := by decide +kernel
theorem dX2_init_4 : decode cX2_init 4 = .ok (.aload_n 0, 1) := by decide +kernel
theorem dX2_init_5 : decode cX2_init 5 = .ok (.bipush 6, 2) := by decide +kernel
theorem dX2_init_7 : decode cX2_init 7 = .ok (.newarray .int, 2) := by decide +kernel
theorem dX2_init_9 : decode cX2_init 9 = .ok (.putfield 9, 3) := by decide +kernel
theorem dX2_init_12 : decode cX2_init 12 = .ok (.aload_n 0, 1) := by decide +kernel
theorem dX2_init_13 : decode cX2_init 13 = .ok (.bipush 6, 2) := by decide +kernel
theorem dX2_init_15 : decode cX2_init 15 = .ok (.newarray .int, 2) := by decide +kernel
theorem dX2_init_17 : decode cX2_init 17 = .ok (.putfield 15, 3) := by decide +kernel
theorem dX2_init_20 : decode cX2_init 20 = .ok (.aload_n 0, 1) := by decide +kernel
theorem dX2_init_21 : decode cX2_init 21 = .ok (.bipush 6, 2) := by decide +kernel
theorem dX2_init_23 : decode cX2_init 23 = .ok (.newarray .int, 2) := by decide +kernel
theorem dX2_init_25 : decode cX2_init 25 = .ok (.putfield 18, 3) := by decide +kernel
theorem dX2_init_28 : decode cX2_init 28 = .ok (.aload_n 0, 1) := by decide +kernel
theorem dX2_init_29 : decode cX2_init 29 = .ok (.bipush 6, 2) := by decide +kernel
theorem dX2_init_31 : decode cX2_init 31 = .ok (.newarray .int, 2) := by decide +kernel
theorem dX2_init_33 : decode cX2_init 33 = .ok (.putfield 21, 3) := by decide +kernel
theorem dX2_init_36 : decode cX2_init 36 = .ok (.aload_n 0, 1) := by decide +kernel
theorem dX2_init_37 : decode cX2_init 37 = .ok (.iconst 4, 1) := by decide +kernel
theorem dX2_init_38 : decode cX2_init 38 = .ok (.newarray .int, 2) := by decide +kernel
theorem dX2_init_40 : decode cX2_init 40 = .ok (.putfield 24, 3) := by decide +kernel
theorem dX2_init_43 : decode cX2_init 43 = .ok (.aload_n 0, 1) := by decide +kernel
theorem dX2_init_44 : decode cX2_init 44 = .ok (.new 27, 3) := by decide +kernel
theorem dX2_init_47 : decode cX2_init 47 = .ok (.dup, 1) := by decide +kernel
theorem dX2_init_48 : decode cX2_init 48 = .ok (.invokespecial 29, 3) := by decide +kernel
theorem dX2_init_51 : decode cX2_init 51 = .ok (.putfield 30, 3) := by decide +kernel
theorem dX2_init_54 : decode cX2_init 54 = .ok (.return_, 1) := by decide +kernel
theorem dX2_become_0 : decode cX2_become 0 = .ok (.aload_n 0, 1) := by decide +kernel
theorem dX2_become_1 : decode cX2_become 1 = .ok (.aload_n 1, 1) := by decide +kernel
theorem dX2_become_2 : decode cX2_become 2 = .ok (.getfield 34, 3) := by decide +kernel
theorem dX2_become_5 : decode cX2_become 5 = .ok (.putfield 34, 3) := by decide +kernel
theorem dX2_become_8 : decode cX2_become 8 = .ok (.aload_n 0, 1) := by decide +kernel
theorem dX2_become_9 : decode cX2_become 9 = .ok (.aload_n 1, 1) := by decide +kernel
theorem dX2_become_10 : decode cX2_become 10 = .ok (.getfield 38, 3) := by decide +kernel
theorem dX2_become_13 : decode cX2_become 13 = .ok (.putfield 38, 3) := by decide +kernel
theorem dX2_become_16 : decode cX2_become 16 = .ok (.aload_n 1, 1) := by decide +kernel
theorem dX2_become_17 : decode cX2_become 17 = .ok (.getfield 9, 3) := by decide +kernel
theorem dX2_become_20 : decode cX2_become 20 = .ok (.iconst 0, 1) := by decide +kernel
theorem dX2_become_21 : decode cX2_become 21 = .ok (.aload_n 0, 1) := by decide +kernel
theorem dX2_become_22 : decode cX2_become 22 = .ok (.getfield 9, 3) := by decide +kernel
theorem dX2_become_25 : decode cX2_become 25 = .ok (.iconst 0, 1) := by decide +kernel
theorem dX2_become_26 : decode cX2_become 26 = .ok (.bipush 6, 2) := by decide +kernel
theorem dX2_become_28 : decode cX2_become 28 = .ok (.invokestatic 42, 3) := by decide +kernel
theorem dX2_become_31 : decode cX2_become 31 = .ok (.aload_n 1, 1) := by decide +kernel
theorem dX2_become_32 : decode cX2_become 32 = .ok (.getfield 15, 3) := by decide +kernel
theorem dX2_become_35 : decode cX2_become 35 = .ok (.iconst 0, 1) := by decide +kernel
theorem dX2_become_36 : decode cX2_become 36 = .ok (.aload_n 0, 1) := by decide +kernel
theorem dX2_become_37 : decode cX2_become 37 = .ok (.getfield 15, 3) := by decide +kernel
theorem dX2_become_40 : decode cX2_become 40 = .ok (.iconst 0, 1) := by decide +kernel
theorem dX2_become_41 : decode cX2_become 41 = .ok (.bipush 6, 2) := by decide +kernel
theorem dX2_become_43 : decode cX2_become 43 = .ok (.invokestatic 42, 3) := by decide +kernel
theorem dX2_become_46 : decode cX2_become 46 = .ok (.aload_n 1, 1) := by decide +kernel
theorem dX2_become_47 : decode cX2_become 47 = .ok (.getfield 18, 3) := by decide +kernel
theorem dX2_become_50 : decode cX2_become 50 = .ok (.iconst 0, 1) := by decide +kernel
theorem dX2_become_51 : decode cX2_become 51 = .ok (.aload_n 0, 1) := by decide +kernel
theorem dX2_become_52 : decode cX2_become 52 = .ok (.getfield 18, 3) := by decide +kernel
theorem dX2_become_55 : decode cX2_become 55 = .ok (.iconst 0, 1) := by decide +kernel
theorem dX2_become_56 : decode cX2_become 56 = .ok (.bipush 6, 2) := by decide +kernel
theorem dX2_become_58 : decode cX2_become 58 = .ok (.invokestatic 42, 3) := by decide +kernel
theorem dX2_become_61 : decode cX2_become 61 = .ok (.aload_n 1, 1) := by decide +kernel
theorem dX2_become_62 : decode cX2_become 62 = .ok (.getfield 21, 3) := by decide +kernel
theorem dX2_become_65 : decode cX2_become 65 = .ok (.iconst 0, 1) := by decide +kernel
theorem dX2_become_66 : decode cX2_become 66 = .ok (.aload_n 0, 1) := by decide +kernel
theorem dX2_become_67 : decode cX2_become 67 = .ok (.getfield 21, 3) := by decide +kernel
theorem dX2_become_70 : decode cX2_become 70 = .ok (.iconst 0, 1) := by decide +kernel
theorem dX2_become_71 : decode cX2_become 71 = .ok (.bipush 6, 2) := by decide +kernel
theorem dX2_become_73 : decode cX2_become 73 = .ok (.invokestatic 42, 3) := by decide +kernel
theorem dX2_become_76 : decode cX2_become 76 = .ok (.aload_n 0, 1) := by decide +kernel
theorem dX2_become_77 : decode cX2_become 77 = .ok (.aload_n 1, 1) := by decide +kernel
theorem dX2_become_78 : decode cX2_become 78 = .ok (.getfield 48, 3) := by decide +kernel
theorem dX2_become_81 : decode cX2_become 81 = .ok (.putfield 48, 3) := by decide +kernel
theorem dX2_become_84 : decode cX2_become 84 = .ok (.aload_n 0, 1) := by decide +kernel
theorem dX2_become_85 : decode cX2_become 85 = .ok (.aload_n 1, 1) := by decide +kernel
theorem dX2_become_86 : decode cX2_become 86 = .ok (.getfield 51, 3) := by decide +kernel
theorem dX2_become_89 : decode cX2_become 89 = .ok (.putfield 51, 3) := by decide +kernel
theorem dX2_become_92 : decode cX2_become 92 = .ok (.aload_n 1, 1) := by decide +kernel
theorem dX2_become_93 : decode cX2_become 93 = .ok (.getfield 24, 3) := by decide +kernel
theorem dX2_become_96 : decode cX2_become 96 = .ok (.iconst 0, 1) := by decide +kernel
theorem dX2_become_97 : decode cX2_become 97 = .ok (.aload_n 0, 1) := by decide +kernel
theorem dX2_become_98 : decode cX2_become 98 = .ok (.getfield 24, 3) := by decide +kernel
theorem dX2_become_101 : decode cX2_become 101 = .ok (.iconst 0, 1) := by decide +kernel
theorem dX2_become_102 : decode cX2_become 102 = .ok (.iconst 4, 1) := by decide +kernel
theorem dX2_become_103 : decode cX2_become 103 = .ok (.invokestatic 42, 3) := by decide +kernel
theorem dX2_become_106 : decode cX2_become 106 = .ok (.aload_n 0, 1) := by decide +kernel
theorem dX2_become_107 : decode cX2_become 107 = .ok (.getfield 30, 3) := by decide +kernel
theorem dX2_become_110 : decode cX2_become 110 = .ok (.aload_n 1, 1) := by decide +kernel
theorem dX2_become_111 : decode cX2_become 111 = .ok (.getfield 30, 3) := by decide +kernel
theorem dX2_become_114 : decode cX2_become 114 = .ok (.invokevirtual 54, 3) := by decide +kernel
theorem dX2_become_117 : decode cX2_become 117 = .ok (.return_, 1) := by decide +kernel
theorem dX2_isCrossing_0 : decode cX2_isCrossing 0 = .ok (.iload_n 1, 1) := by decide +kernel
theorem dX2_isCrossing_1 : decode cX2_isCrossing 1 = .ok (.aload_n 0, 1) := by decide +kernel
theorem dX2_isCrossing_2 : decode cX2_isCrossing 2 = .ok (.getfield 38, 3) := by decide +kernel
theorem dX2_isCrossing_5 : decode cX2_isCrossing 5 = .ok (.invokestatic 58, 3) := by decide +kernel
theorem dX2_isCrossing_8 : decode cX2_isCrossing 8 = .ok (.ireturn, 1) := by decide +kernel
theorem dX2_isCarrier_0 : decode cX2_isCarrier 0 = .ok (.iload_n 1, 1) := by decide +kernel
theorem dX2_isCarrier_1 : decode cX2_isCarrier 1 = .ok (.aload_n 0, 1) := by decide +kernel
theorem dX2_isCarrier_2 : decode cX2_isCarrier 2 = .ok (.getfield 48, 3) := by decide +kernel
theorem dX2_isCarrier_5 : decode cX2_isCarrier 5 = .ok (.invokestatic 58, 3) := by decide +kernel
theorem dX2_isCarrier_8 : decode cX2_isCarrier 8 = .ok (.ireturn, 1) := by decide +kernel
theorem dX2_isLoad_0 : decode cX2_isLoad 0 = .ok (.iload_n 1, 1) := by decide +kernel
theorem dX2_isLoad_1 : decode cX2_isLoad 1 = .ok (.aload_n 0, 1) := by decide +kernel
theorem dX2_isLoad_2 : decode cX2_isLoad 2 = .ok (.getfield 51, 3) := by decide +kernel
theorem dX2_isLoad_5 : decode cX2_isLoad 5 = .ok (.invokestatic 58, 3) := by decide +kernel
theorem dX2_isLoad_8 : decode cX2_isLoad 8 = .ok (.ireturn, 1) := by decide +kernel
theorem dX2_isSort_0 : decode cX2_isSort 0 = .ok (.aload_n 0, 1) := by decide +kernel
theorem dX2_isSort_1 : decode cX2_isSort 1 = .ok (.iload_n 1, 1) := by decide +kernel
theorem dX2_isSort_2 : decode cX2_isSort 2 = .ok (.invokevirtual 62, 3) := by decide +kernel
theorem dX2_isSort_5 : decode cX2_isSort 5 = .ok (.ifCond .eq 17, 3) := by decide +kernel
theorem dX2_isSort_8 : decode cX2_isSort 8 = .ok (.aload_n 0, 1) := by decide +kernel
theorem dX2_isSort_9 : decode cX2_isSort 9 = .ok (.getfield 9, 3) := by decide +kernel
theorem dX2_isSort_12 : decode cX2_isSort 12 = .ok (.iload_n 1, 1) := by decide +kernel
theorem dX2_isSort_13 : decode cX2_isSort 13 = .ok (.iaload, 1) := by decide +kernel
theorem dX2_isSort_14 : decode cX2_isSort 14 = .ok (.iload_n 2, 1) := by decide +kernel
theorem dX2_isSort_15 : decode cX2_isSort 15 = .ok (.if_icmp .ne 7, 3) := by decide +kernel
theorem dX2_isSort_18 : decode cX2_isSort 18 = .ok (.iconst 1, 1) := by decide +kernel
theorem dX2_isSort_19 : decode cX2_isSort 19 = .ok (.goto 4, 3) := by decide +kernel
theorem dX2_isSort_22 : decode cX2_isSort 22 = .ok (.iconst 0, 1) := by decide +kernel
theorem dX2_isSort_23 : decode cX2_isSort 23 = .ok (.ireturn, 1) := by decide +kernel
theorem dX2_bitsOf_0 : decode cX2_bitsOf 0 = .ok (.iconst 0, 1) := by decide +kernel
theorem dX2_bitsOf_1 : decode cX2_bitsOf 1 = .ok (.istore_n 2, 1) := by decide +kernel
theorem dX2_bitsOf_2 : decode cX2_bitsOf 2 = .ok (.iconst 0, 1) := by decide +kernel
theorem dX2_bitsOf_3 : decode cX2_bitsOf 3 = .ok (.istore_n 3, 1) := by decide +kernel
theorem dX2_bitsOf_4 : decode cX2_bitsOf 4 = .ok (.iload_n 3, 1) := by decide +kernel
theorem dX2_bitsOf_5 : decode cX2_bitsOf 5 = .ok (.aload_n 0, 1) := by decide +kernel
theorem dX2_bitsOf_6 : decode cX2_bitsOf 6 = .ok (.getfield 38, 3) := by decide +kernel
theorem dX2_bitsOf_9 : decode cX2_bitsOf 9 = .ok (.if_icmp .ge 25, 3) := by decide +kernel
theorem dX2_bitsOf_12 : decode cX2_bitsOf 12 = .ok (.aload_n 0, 1) := by decide +kernel
theorem dX2_bitsOf_13 : decode cX2_bitsOf 13 = .ok (.getfield 9, 3) := by decide +kernel
theorem dX2_bitsOf_16 : decode cX2_bitsOf 16 = .ok (.iload_n 3, 1) := by decide +kernel
theorem dX2_bitsOf_17 : decode cX2_bitsOf 17 = .ok (.iaload, 1) := by decide +kernel
theorem dX2_bitsOf_18 : decode cX2_bitsOf 18 = .ok (.iload_n 1, 1) := by decide +kernel
theorem dX2_bitsOf_19 : decode cX2_bitsOf 19 = .ok (.if_icmp .ne 9, 3) := by decide +kernel
theorem dX2_bitsOf_22 : decode cX2_bitsOf 22 = .ok (.iload_n 2, 1) := by decide +kernel
theorem dX2_bitsOf_23 : decode cX2_bitsOf 23 = .ok (.iconst 1, 1) := by decide +kernel
theorem dX2_bitsOf_24 : decode cX2_bitsOf 24 = .ok (.iload_n 3, 1) := by decide +kernel
theorem dX2_bitsOf_25 : decode cX2_bitsOf 25 = .ok (.ishl, 1) := by decide +kernel
theorem dX2_bitsOf_26 : decode cX2_bitsOf 26 = .ok (.ior, 1) := by decide +kernel
theorem dX2_bitsOf_27 : decode cX2_bitsOf 27 = .ok (.istore_n 2, 1) := by decide +kernel
theorem dX2_bitsOf_28 : decode cX2_bitsOf 28 = .ok (.iinc 3 1, 3) := by decide +kernel
theorem dX2_bitsOf_31 : decode cX2_bitsOf 31 = .ok (.goto (-27), 3) := by decide +kernel
theorem dX2_bitsOf_34 : decode cX2_bitsOf 34 = .ok (.iload_n 2, 1) := by decide +kernel
theorem dX2_bitsOf_35 : decode cX2_bitsOf 35 = .ok (.ireturn, 1) := by decide +kernel
theorem dX2_isLaden_0 : decode cX2_isLaden 0 = .ok (.aload_n 0, 1) := by decide +kernel
theorem dX2_isLaden_1 : decode cX2_isLaden 1 = .ok (.getfield 30, 3) := by decide +kernel
theorem dX2_isLaden_4 : decode cX2_isLaden 4 = .ok (.getfield 66, 3) := by decide +kernel
theorem dX2_isLaden_7 : decode cX2_isLaden 7 = .ok (.iload_n 1, 1) := by decide +kernel
theorem dX2_isLaden_8 : decode cX2_isLaden 8 = .ok (.iaload, 1) := by decide +kernel
theorem dX2_isLaden_9 : decode cX2_isLaden 9 = .ok (.ldc 69, 2) := by decide +kernel
theorem dX2_isLaden_11 : decode cX2_isLaden 11 = .ok (.if_icmp .eq 7, 3) := by decide +kernel
theorem dX2_isLaden_14 : decode cX2_isLaden 14 = .ok (.iconst 1, 1) := by decide +kernel
theorem dX2_isLaden_15 : decode cX2_isLaden 15 = .ok (.goto 4, 3) := by decide +kernel
theorem dX2_isLaden_18 : decode cX2_isLaden 18 = .ok (.iconst 0, 1) := by decide +kernel
theorem dX2_isLaden_19 : decode cX2_isLaden 19 = .ok (.ireturn, 1) := by decide +kernel
theorem dX2_otherEnd_0 : decode cX2_otherEnd 0 = .ok (.iload_n 2, 1) := by decide +kernel
theorem dX2_otherEnd_1 : decode cX2_otherEnd 1 = .ok (.aload_n 0, 1) := by decide +kernel
theorem dX2_otherEnd_2 : decode cX2_otherEnd 2 = .ok (.getfield 15, 3) := by decide +kernel
theorem dX2_otherEnd_5 : decode cX2_otherEnd 5 = .ok (.iload_n 1, 1) := by decide +kernel
theorem dX2_otherEnd_6 : decode cX2_otherEnd 6 = .ok (.iaload, 1) := by decide +kernel
theorem dX2_otherEnd_7 : decode cX2_otherEnd 7 = .ok (.if_icmp .ne 10, 3) := by decide +kernel
theorem dX2_otherEnd_10 : decode cX2_otherEnd 10 = .ok (.aload_n 0, 1) := by decide +kernel
theorem dX2_otherEnd_11 : decode cX2_otherEnd 11 = .ok (.getfield 18, 3) := by decide +kernel
theorem dX2_otherEnd_14 : decode cX2_otherEnd 14 = .ok (.iload_n 1, 1) := by decide +kernel
theorem dX2_otherEnd_15 : decode cX2_otherEnd 15 = .ok (.iaload, 1) := by decide +kernel
theorem dX2_otherEnd_16 : decode cX2_otherEnd 16 = .ok (.ireturn, 1) := by decide +kernel
theorem dX2_otherEnd_17 : decode cX2_otherEnd 17 = .ok (.iload_n 2, 1) := by decide +kernel
theorem dX2_otherEnd_18 : decode cX2_otherEnd 18 = .ok (.aload_n 0, 1) := by decide +kernel
theorem dX2_otherEnd_19 : decode cX2_otherEnd 19 = .ok (.getfield 18, 3) := by decide +kernel
theorem dX2_otherEnd_22 : decode cX2_otherEnd 22 = .ok (.iload_n 1, 1) := by decide +kernel
theorem dX2_otherEnd_23 : decode cX2_otherEnd 23 = .ok (.iaload, 1) := by decide +kernel
theorem dX2_otherEnd_24 : decode cX2_otherEnd 24 = .ok (.if_icmp .ne 12, 3) := by decide +kernel
theorem dX2_otherEnd_27 : decode cX2_otherEnd 27 = .ok (.aload_n 0, 1) := by decide +kernel
theorem dX2_otherEnd_28 : decode cX2_otherEnd 28 = .ok (.getfield 15, 3) := by decide +kernel
theorem dX2_otherEnd_31 : decode cX2_otherEnd 31 = .ok (.iload_n 1, 1) := by decide +kernel
theorem dX2_otherEnd_32 : decode cX2_otherEnd 32 = .ok (.iaload, 1) := by decide +kernel
theorem dX2_otherEnd_33 : decode cX2_otherEnd 33 = .ok (.goto 5, 3) := by decide +kernel
theorem dX2_otherEnd_36 : decode cX2_otherEnd 36 = .ok (.ldc 69, 2) := by decide +kernel
theorem dX2_otherEnd_38 : decode cX2_otherEnd 38 = .ok (.ireturn, 1) := by decide +kernel
theorem dX2_nextLaden_0 : decode cX2_nextLaden 0 = .ok (.aload_n 0, 1) := by decide +kernel
theorem dX2_nextLaden_1 : decode cX2_nextLaden 1 = .ok (.getfield 30, 3) := by decide +kernel
theorem dX2_nextLaden_4 : decode cX2_nextLaden 4 = .ok (.getfield 70, 3) := by decide +kernel
theorem dX2_nextLaden_7 : decode cX2_nextLaden 7 = .ok (.iload_n 1, 1) := by decide +kernel
theorem dX2_nextLaden_8 : decode cX2_nextLaden 8 = .ok (.iaload, 1) := by decide +kernel
theorem dX2_nextLaden_9 : decode cX2_nextLaden 9 = .ok (.aload_n 0, 1) := by decide +kernel
theorem dX2_nextLaden_10 : decode cX2_nextLaden 10 = .ok (.getfield 30, 3) := by decide +kernel
theorem dX2_nextLaden_13 : decode cX2_nextLaden 13 = .ok (.getfield 73, 3) := by decide +kernel
theorem dX2_nextLaden_16 : decode cX2_nextLaden 16 = .ok (.ior, 1) := by decide +kernel
theorem dX2_nextLaden_17 : decode cX2_nextLaden 17 = .ok (.ireturn, 1) := by decide +kernel
theorem dX2_may_0 : decode cX2_may 0 = .ok (.aload_n 0, 1) := by decide +kernel
theorem dX2_may_1 : decode cX2_may 1 = .ok (.getfield 30, 3) := by decide +kernel
theorem dX2_may_4 : decode cX2_may 4 = .ok (.getfield 76, 3) := by decide +kernel
theorem dX2_may_7 : decode cX2_may 7 = .ok (.iload_n 2, 1) := by decide +kernel
theorem dX2_may_8 : decode cX2_may 8 = .ok (.ishr, 1) := by decide +kernel
theorem dX2_may_9 : decode cX2_may 9 = .ok (.iconst 1, 1) := by decide +kernel
theorem dX2_may_10 : decode cX2_may 10 = .ok (.iand, 1) := by decide +kernel
theorem dX2_may_11 : decode cX2_may 11 = .ok (.ifCond .eq 22, 3) := by decide +kernel
theorem dX2_may_14 : decode cX2_may 14 = .ok (.aload_n 0, 1) := by decide +kernel
theorem dX2_may_15 : decode cX2_may 15 = .ok (.iload_n 2, 1) := by decide +kernel
theorem dX2_may_16 : decode cX2_may 16 = .ok (.aload_n 0, 1) := by decide +kernel
theorem dX2_may_17 : decode cX2_may 17 = .ok (.getfield 30, 3) := by decide +kernel
theorem dX2_may_20 : decode cX2_may 20 = .ok (.getfield 79, 3) := by decide +kernel
theorem dX2_may_23 : decode cX2_may 23 = .ok (.iload_n 1, 1) := by decide +kernel
theorem dX2_may_24 : decode cX2_may 24 = .ok (.iaload, 1) := by decide +kernel
theorem dX2_may_25 : decode cX2_may 25 = .ok (.invokevirtual 82, 3) := by decide +kernel
theorem dX2_may_28 : decode cX2_may 28 = .ok (.ldc 69, 2) := by decide +kernel
theorem dX2_may_30 : decode cX2_may 30 = .ok (.if_icmp .ne 5, 3) := by decide +kernel
theorem dX2_may_33 : decode cX2_may 33 = .ok (.iconst 0, 1) := by decide +kernel
theorem dX2_may_34 : decode cX2_may 34 = .ok (.ireturn, 1) := by decide +kernel
theorem dX2_may_35 : decode cX2_may 35 = .ok (.aload_n 0, 1) := by decide +kernel
theorem dX2_may_36 : decode cX2_may 36 = .ok (.getfield 9, 3) := by decide +kernel
theorem dX2_may_39 : decode cX2_may 39 = .ok (.iload_n 2, 1) := by decide +kernel
theorem dX2_may_40 : decode cX2_may 40 = .ok (.iaload, 1) := by decide +kernel
theorem dX2_may_41 : decode cX2_may 41 = .ok (.tableswitch 49 3 5 #[27, 29, 43], 27) := by decide +kernel
theorem dX2_may_68 : decode cX2_may 68 = .ok (.iconst 1, 1) := by decide +kernel
theorem dX2_may_69 : decode cX2_may 69 = .ok (.ireturn, 1) := by decide +kernel
theorem dX2_may_70 : decode cX2_may 70 = .ok (.aload_n 0, 1) := by decide +kernel
theorem dX2_may_71 : decode cX2_may 71 = .ok (.iload_n 1, 1) := by decide +kernel
theorem dX2_may_72 : decode cX2_may 72 = .ok (.invokevirtual 86, 3) := by decide +kernel
theorem dX2_may_75 : decode cX2_may 75 = .ok (.ifCond .ne 7, 3) := by decide +kernel
theorem dX2_may_78 : decode cX2_may 78 = .ok (.iconst 1, 1) := by decide +kernel
theorem dX2_may_79 : decode cX2_may 79 = .ok (.goto 4, 3) := by decide +kernel
theorem dX2_may_82 : decode cX2_may 82 = .ok (.iconst 0, 1) := by decide +kernel
theorem dX2_may_83 : decode cX2_may 83 = .ok (.ireturn, 1) := by decide +kernel
theorem dX2_may_84 : decode cX2_may 84 = .ok (.aload_n 0, 1) := by decide +kernel
theorem dX2_may_85 : decode cX2_may 85 = .ok (.iload_n 1, 1) := by decide +kernel
theorem dX2_may_86 : decode cX2_may 86 = .ok (.invokevirtual 86, 3) := by decide +kernel
theorem dX2_may_89 : decode cX2_may 89 = .ok (.ireturn, 1) := by decide +kernel
theorem dX2_may_90 : decode cX2_may 90 = .ok (.aload_n 0, 1) := by decide +kernel
theorem dX2_may_91 : decode cX2_may 91 = .ok (.iload_n 1, 1) := by decide +kernel
theorem dX2_may_92 : decode cX2_may 92 = .ok (.invokevirtual 86, 3) := by decide +kernel
theorem dX2_may_95 : decode cX2_may 95 = .ok (.aload_n 0, 1) := by decide +kernel
theorem dX2_may_96 : decode cX2_may 96 = .ok (.iload_n 1, 1) := by decide +kernel
theorem dX2_may_97 : decode cX2_may 97 = .ok (.invokevirtual 89, 3) := by decide +kernel
theorem dX2_may_100 : decode cX2_may 100 = .ok (.iload_n 2, 1) := by decide +kernel
theorem dX2_may_101 : decode cX2_may 101 = .ok (.ishr, 1) := by decide +kernel
theorem dX2_may_102 : decode cX2_may 102 = .ok (.iconst 1, 1) := by decide +kernel
theorem dX2_may_103 : decode cX2_may 103 = .ok (.iand, 1) := by decide +kernel
theorem dX2_may_104 : decode cX2_may 104 = .ok (.iconst 1, 1) := by decide +kernel
theorem dX2_may_105 : decode cX2_may 105 = .ok (.if_icmp .ne 7, 3) := by decide +kernel
theorem dX2_may_108 : decode cX2_may 108 = .ok (.iconst 1, 1) := by decide +kernel
theorem dX2_may_109 : decode cX2_may 109 = .ok (.goto 4, 3) := by decide +kernel
theorem dX2_may_112 : decode cX2_may 112 = .ok (.iconst 0, 1) := by decide +kernel
theorem dX2_may_113 : decode cX2_may 113 = .ok (.if_icmp .ne 7, 3) := by decide +kernel
theorem dX2_may_116 : decode cX2_may 116 = .ok (.iconst 1, 1) := by decide +kernel
theorem dX2_may_117 : decode cX2_may 117 = .ok (.goto 4, 3) := by decide +kernel
theorem dX2_may_120 : decode cX2_may 120 = .ok (.iconst 0, 1) := by decide +kernel
theorem dX2_may_121 : decode cX2_may 121 = .ok (.ireturn, 1) := by decide +kernel
theorem dX2_mayGoOver_0 : decode cX2_mayGoOver 0 = .ok (.iconst 0, 1) := by decide +kernel
theorem dX2_mayGoOver_1 : decode cX2_mayGoOver 1 = .ok (.istore_n 2, 1) := by decide +kernel
theorem dX2_mayGoOver_2 : decode cX2_mayGoOver 2 = .ok (.iconst 0, 1) := by decide +kernel
theorem dX2_mayGoOver_3 : decode cX2_mayGoOver 3 = .ok (.istore_n 3, 1) := by decide +kernel
theorem dX2_mayGoOver_4 : decode cX2_mayGoOver 4 = .ok (.iload_n 3, 1) := by decide +kernel
theorem dX2_mayGoOver_5 : decode cX2_mayGoOver 5 = .ok (.aload_n 0, 1) := by decide +kernel
theorem dX2_mayGoOver_6 : decode cX2_mayGoOver 6 = .ok (.getfield 38, 3) := by decide +kernel
theorem dX2_mayGoOver_9 : decode cX2_mayGoOver 9 = .ok (.if_icmp .ge 24, 3) := by decide +kernel
theorem dX2_mayGoOver_12 : decode cX2_mayGoOver 12 = .ok (.aload_n 0, 1) := by decide +kernel
theorem dX2_mayGoOver_13 : decode cX2_mayGoOver 13 = .ok (.iload_n 1, 1) := by decide +kernel
theorem dX2_mayGoOver_14 : decode cX2_mayGoOver 14 = .ok (.iload_n 3, 1) := by decide +kernel
theorem dX2_mayGoOver_15 : decode cX2_mayGoOver 15 = .ok (.invokevirtual 93, 3) := by decide +kernel
theorem dX2_mayGoOver_18 : decode cX2_mayGoOver 18 = .ok (.ifCond .eq 9, 3) := by decide +kernel
theorem dX2_mayGoOver_21 : decode cX2_mayGoOver 21 = .ok (.iload_n 2, 1) := by decide +kernel
theorem dX2_mayGoOver_22 : decode cX2_mayGoOver 22 = .ok (.iconst 1, 1) := by decide +kernel
theorem dX2_mayGoOver_23 : decode cX2_mayGoOver 23 = .ok (.iload_n 3, 1) := by decide +kernel
theorem dX2_mayGoOver_24 : decode cX2_mayGoOver 24 = .ok (.ishl, 1) := by decide +kernel
theorem dX2_mayGoOver_25 : decode cX2_mayGoOver 25 = .ok (.ior, 1) := by decide +kernel
theorem dX2_mayGoOver_26 : decode cX2_mayGoOver 26 = .ok (.istore_n 2, 1) := by decide +kernel
theorem dX2_mayGoOver_27 : decode cX2_mayGoOver 27 = .ok (.iinc 3 1, 3) := by decide +kernel
theorem dX2_mayGoOver_30 : decode cX2_mayGoOver 30 = .ok (.goto (-26), 3) := by decide +kernel
theorem dX2_mayGoOver_33 : decode cX2_mayGoOver 33 = .ok (.iload_n 2, 1) := by decide +kernel
theorem dX2_mayGoOver_34 : decode cX2_mayGoOver 34 = .ok (.ireturn, 1) := by decide +kernel
theorem dX2_goOver_0 : decode cX2_goOver 0 = .ok (.aload_n 0, 1) := by decide +kernel
theorem dX2_goOver_1 : decode cX2_goOver 1 = .ok (.getfield 30, 3) := by decide +kernel
theorem dX2_goOver_4 : decode cX2_goOver 4 = .ok (.getfield 79, 3) := by decide +kernel
theorem dX2_goOver_7 : decode cX2_goOver 7 = .ok (.iload_n 1, 1) := by decide +kernel
theorem dX2_goOver_8 : decode cX2_goOver 8 = .ok (.aload_n 0, 1) := by decide +kernel
theorem dX2_goOver_9 : decode cX2_goOver 9 = .ok (.iload_n 2, 1) := by decide +kernel
theorem dX2_goOver_10 : decode cX2_goOver 10 = .ok (.aload_n 0, 1) := by decide +kernel
theorem dX2_goOver_11 : decode cX2_goOver 11 = .ok (.getfield 30, 3) := by decide +kernel
theorem dX2_goOver_14 : decode cX2_goOver 14 = .ok (.getfield 79, 3) := by decide +kernel
theorem dX2_goOver_17 : decode cX2_goOver 17 = .ok (.iload_n 1, 1) := by decide +kernel
theorem dX2_goOver_18 : decode cX2_goOver 18 = .ok (.iaload, 1) := by decide +kernel
theorem dX2_goOver_19 : decode cX2_goOver 19 = .ok (.invokevirtual 82, 3) := by decide +kernel
theorem dX2_goOver_22 : decode cX2_goOver 22 = .ok (.iastore, 1) := by decide +kernel
theorem dX2_goOver_23 : decode cX2_goOver 23 = .ok (.aload_n 0, 1) := by decide +kernel
theorem dX2_goOver_24 : decode cX2_goOver 24 = .ok (.getfield 30, 3) := by decide +kernel
theorem dX2_goOver_27 : decode cX2_goOver 27 = .ok (.dup, 1) := by decide +kernel
theorem dX2_goOver_28 : decode cX2_goOver 28 = .ok (.getfield 96, 3) := by decide +kernel
theorem dX2_goOver_31 : decode cX2_goOver 31 = .ok (.aload_n 0, 1) := by decide +kernel
theorem dX2_goOver_32 : decode cX2_goOver 32 = .ok (.getfield 21, 3) := by decide +kernel
theorem dX2_goOver_35 : decode cX2_goOver 35 = .ok (.iload_n 2, 1) := by decide +kernel
theorem dX2_goOver_36 : decode cX2_goOver 36 = .ok (.iaload, 1) := by decide +kernel
theorem dX2_goOver_37 : decode cX2_goOver 37 = .ok (.iadd, 1) := by decide +kernel
theorem dX2_goOver_38 : decode cX2_goOver 38 = .ok (.putfield 96, 3) := by decide +kernel
theorem dX2_goOver_41 : decode cX2_goOver 41 = .ok (.aload_n 0, 1) := by decide +kernel
theorem dX2_goOver_42 : decode cX2_goOver 42 = .ok (.getfield 9, 3) := by decide +kernel
theorem dX2_goOver_45 : decode cX2_goOver 45 = .ok (.iload_n 2, 1) := by decide +kernel
theorem dX2_goOver_46 : decode cX2_goOver 46 = .ok (.iaload, 1) := by decide +kernel
theorem dX2_goOver_47 : decode cX2_goOver 47 = .ok (.iconst 1, 1) := by decide +kernel
theorem dX2_goOver_48 : decode cX2_goOver 48 = .ok (.if_icmp .ne 21, 3) := by decide +kernel
theorem dX2_goOver_51 : decode cX2_goOver 51 = .ok (.aload_n 0, 1) := by decide +kernel
theorem dX2_goOver_52 : decode cX2_goOver 52 = .ok (.getfield 30, 3) := by decide +kernel
theorem dX2_goOver_55 : decode cX2_goOver 55 = .ok (.getfield 70, 3) := by decide +kernel
theorem dX2_goOver_58 : decode cX2_goOver 58 = .ok (.iload_n 1, 1) := by decide +kernel
theorem dX2_goOver_59 : decode cX2_goOver 59 = .ok (.dup2, 1) := by decide +kernel
theorem dX2_goOver_60 : decode cX2_goOver 60 = .ok (.iaload, 1) := by decide +kernel
theorem dX2_goOver_61 : decode cX2_goOver 61 = .ok (.iconst 1, 1) := by decide +kernel
theorem dX2_goOver_62 : decode cX2_goOver 62 = .ok (.iload_n 2, 1) := by decide +kernel
theorem dX2_goOver_63 : decode cX2_goOver 63 = .ok (.ishl, 1) := by decide +kernel
theorem dX2_goOver_64 : decode cX2_goOver 64 = .ok (.ixor, 1) := by decide +kernel
theorem dX2_goOver_65 : decode cX2_goOver 65 = .ok (.iastore, 1) := by decide +kernel
theorem dX2_goOver_66 : decode cX2_goOver 66 = .ok (.goto 28, 3) := by decide +kernel
theorem dX2_goOver_69 : decode cX2_goOver 69 = .ok (.aload_n 0, 1) := by decide +kernel
theorem dX2_goOver_70 : decode cX2_goOver 70 = .ok (.getfield 9, 3) := by decide +kernel
theorem dX2_goOver_73 : decode cX2_goOver 73 = .ok (.iload_n 2, 1) := by decide +kernel
theorem dX2_goOver_74 : decode cX2_goOver 74 = .ok (.iaload, 1) := by decide +kernel
theorem dX2_goOver_75 : decode cX2_goOver 75 = .ok (.iconst 2, 1) := by decide +kernel
theorem dX2_goOver_76 : decode cX2_goOver 76 = .ok (.if_icmp .ne 18, 3) := by decide +kernel
theorem dX2_goOver_79 : decode cX2_goOver 79 = .ok (.aload_n 0, 1) := by decide +kernel
theorem dX2_goOver_80 : decode cX2_goOver 80 = .ok (.getfield 30, 3) := by decide +kernel
theorem dX2_goOver_83 : decode cX2_goOver 83 = .ok (.dup, 1) := by decide +kernel
theorem dX2_goOver_84 : decode cX2_goOver 84 = .ok (.getfield 73, 3) := by decide +kernel
theorem dX2_goOver_87 : decode cX2_goOver 87 = .ok (.iconst 1, 1) := by decide +kernel
theorem dX2_goOver_88 : decode cX2_goOver 88 = .ok (.iload_n 2, 1) := by decide +kernel
theorem dX2_goOver_89 : decode cX2_goOver 89 = .ok (.ishl, 1) := by decide +kernel
theorem dX2_goOver_90 : decode cX2_goOver 90 = .ok (.ixor, 1) := by decide +kernel
theorem dX2_goOver_91 : decode cX2_goOver 91 = .ok (.putfield 73, 3) := by decide +kernel
theorem dX2_goOver_94 : decode cX2_goOver 94 = .ok (.return_, 1) := by decide +kernel
theorem dX2_whoHas_0 : decode cX2_whoHas 0 = .ok (.iconst 0, 1) := by decide +kernel
theorem dX2_whoHas_1 : decode cX2_whoHas 1 = .ok (.istore_n 2, 1) := by decide +kernel
theorem dX2_whoHas_2 : decode cX2_whoHas 2 = .ok (.iload_n 2, 1) := by decide +kernel
theorem dX2_whoHas_3 : decode cX2_whoHas 3 = .ok (.aload_n 0, 1) := by decide +kernel
theorem dX2_whoHas_4 : decode cX2_whoHas 4 = .ok (.getfield 48, 3) := by decide +kernel
theorem dX2_whoHas_7 : decode cX2_whoHas 7 = .ok (.if_icmp .ge 24, 3) := by decide +kernel
theorem dX2_whoHas_10 : decode cX2_whoHas 10 = .ok (.aload_n 0, 1) := by decide +kernel
theorem dX2_whoHas_11 : decode cX2_whoHas 11 = .ok (.getfield 30, 3) := by decide +kernel
theorem dX2_whoHas_14 : decode cX2_whoHas 14 = .ok (.getfield 66, 3) := by decide +kernel
theorem dX2_whoHas_17 : decode cX2_whoHas 17 = .ok (.iload_n 2, 1) := by decide +kernel
theorem dX2_whoHas_18 : decode cX2_whoHas 18 = .ok (.iaload, 1) := by decide +kernel
theorem dX2_whoHas_19 : decode cX2_whoHas 19 = .ok (.iload_n 1, 1) := by decide +kernel
theorem dX2_whoHas_20 : decode cX2_whoHas 20 = .ok (.if_icmp .ne 5, 3) := by decide +kernel
theorem dX2_whoHas_23 : decode cX2_whoHas 23 = .ok (.iload_n 2, 1) := by decide +kernel
theorem dX2_whoHas_24 : decode cX2_whoHas 24 = .ok (.ireturn, 1) := by decide +kernel
theorem dX2_whoHas_25 : decode cX2_whoHas 25 = .ok (.iinc 2 1, 3) := by decide +kernel
theorem dX2_whoHas_28 : decode cX2_whoHas 28 = .ok (.goto (-26), 3) := by decide +kernel
theorem dX2_whoHas_31 : decode cX2_whoHas 31 = .ok (.ldc 69, 2) := by decide +kernel
theorem dX2_whoHas_33 : decode cX2_whoHas 33 = .ok (.ireturn, 1) := by decide +kernel
theorem dX2_canBring_0 : decode cX2_canBring 0 = .ok (.aload_n 0, 1) := by decide +kernel
theorem dX2_canBring_1 : decode cX2_canBring 1 = .ok (.iload_n 1, 1) := by decide +kernel
theorem dX2_canBring_2 : decode cX2_canBring 2 = .ok (.invokevirtual 86, 3) := by decide +kernel
theorem dX2_canBring_5 : decode cX2_canBring 5 = .ok (.ifCond .eq 22, 3) := by decide +kernel
theorem dX2_canBring_8 : decode cX2_canBring 8 = .ok (.aload_n 0, 1) := by decide +kernel
theorem dX2_canBring_9 : decode cX2_canBring 9 = .ok (.getfield 30, 3) := by decide +kernel
theorem dX2_canBring_12 : decode cX2_canBring 12 = .ok (.getfield 66, 3) := by decide +kernel
theorem dX2_canBring_15 : decode cX2_canBring 15 = .ok (.iload_n 1, 1) := by decide +kernel
theorem dX2_canBring_16 : decode cX2_canBring 16 = .ok (.iaload, 1) := by decide +kernel
theorem dX2_canBring_17 : decode cX2_canBring 17 = .ok (.iload_n 2, 1) := by decide +kernel
theorem dX2_canBring_18 : decode cX2_canBring 18 = .ok (.if_icmp .ne 7, 3) := by decide +kernel
theorem dX2_canBring_21 : decode cX2_canBring 21 = .ok (.iconst 1, 1) := by decide +kernel
theorem dX2_canBring_22 : decode cX2_canBring 22 = .ok (.goto 4, 3) := by decide +kernel
theorem dX2_canBring_25 : decode cX2_canBring 25 = .ok (.iconst 0, 1) := by decide +kernel
theorem dX2_canBring_26 : decode cX2_canBring 26 = .ok (.ireturn, 1) := by decide +kernel
theorem dX2_canBring_27 : decode cX2_canBring 27 = .ok (.aload_n 0, 1) := by decide +kernel
theorem dX2_canBring_28 : decode cX2_canBring 28 = .ok (.iload_n 2, 1) := by decide +kernel
theorem dX2_canBring_29 : decode cX2_canBring 29 = .ok (.invokevirtual 99, 3) := by decide +kernel
theorem dX2_canBring_32 : decode cX2_canBring 32 = .ok (.ldc 69, 2) := by decide +kernel
theorem dX2_canBring_34 : decode cX2_canBring 34 = .ok (.if_icmp .ne 7, 3) := by decide +kernel
theorem dX2_canBring_37 : decode cX2_canBring 37 = .ok (.iconst 1, 1) := by decide +kernel
theorem dX2_canBring_38 : decode cX2_canBring 38 = .ok (.goto 4, 3) := by decide +kernel
theorem dX2_canBring_41 : decode cX2_canBring 41 = .ok (.iconst 0, 1) := by decide +kernel
theorem dX2_canBring_42 : decode cX2_canBring 42 = .ok (.ireturn, 1) := by decide +kernel
theorem dX3_init_0 : decode cX3_init 0 = .ok (.aload_n 0, 1) := by decide +kernel
theorem dX3_init_1 : decode cX3_init 1 = .ok (.invokespecial 3, 3) := by decide +kernel
theorem dX3_init_4 : decode cX3_init 4 = .ok (.aload_n 0, 1) := by decide +kernel
theorem dX3_init_5 : decode cX3_init 5 = .ok (.bipush 8, 2) := by decide +kernel
theorem dX3_init_7 : decode cX3_init 7 = .ok (.newarray .int, 2) := by decide +kernel
theorem dX3_init_9 : decode cX3_init 9 = .ok (.putfield 9, 3) := by decide +kernel
theorem dX3_init_12 : decode cX3_init 12 = .ok (.aload_n 0, 1) := by decide +kernel
theorem dX3_init_13 : decode cX3_init 13 = .ok (.bipush 8, 2) := by decide +kernel
theorem dX3_init_15 : decode cX3_init 15 = .ok (.newarray .int, 2) := by decide +kernel
theorem dX3_init_17 : decode cX3_init 17 = .ok (.putfield 15, 3) := by decide +kernel
theorem dX3_init_20 : decode cX3_init 20 = .ok (.aload_n 0, 1) := by decide +kernel
theorem dX3_init_21 : decode cX3_init 21 = .ok (.bipush 8, 2) := by decide +kernel
theorem dX3_init_23 : decode cX3_init 23 = .ok (.bipush 40, 2) := by decide +kernel
theorem dX3_init_25 : decode cX3_init 25 = .ok (.multianewarray 18 2, 4) := by decide +kernel
theorem dX3_init_29 : decode cX3_init 29 = .ok (.putfield 20, 3) := by decide +kernel
theorem dX3_init_32 : decode cX3_init 32 = .ok (.iconst 0, 1) := by decide +kernel
theorem dX3_init_33 : decode cX3_init 33 = .ok (.istore_n 1, 1) := by decide +kernel
theorem dX3_init_34 : decode cX3_init 34 = .ok (.iload_n 1, 1) := by decide +kernel
theorem dX3_init_35 : decode cX3_init 35 = .ok (.bipush 8, 2) := by decide +kernel
theorem dX3_init_37 : decode cX3_init 37 = .ok (.if_icmp .ge 16, 3) := by decide +kernel
theorem dX3_init_40 : decode cX3_init 40 = .ok (.aload_n 0, 1) := by decide +kernel
theorem dX3_init_41 : decode cX3_init 41 = .ok (.getfield 15, 3) := by decide +kernel
theorem dX3_init_44 : decode cX3_init 44 = .ok (.iload_n 1, 1) := by decide +kernel
theorem dX3_init_45 : decode cX3_init 45 = .ok (.iconst (-1), 1) := by decide +kernel
theorem dX3_init_46 : decode cX3_init 46 = .ok (.iastore, 1) := by decide +kernel
theorem dX3_init_47 : decode cX3_init 47 = .ok (.iinc 1 1, 3) := by decide +kernel
theorem dX3_init_50 : decode cX3_init 50 = .ok (.goto (-16), 3) := by decide +kernel
theorem dX3_init_53 : decode cX3_init 53 = .ok (.return_, 1) := by decide +kernel
theorem dX3_isMissing_0 : decode cX3_isMissing 0 = .ok (.aload_n 0, 1) := by decide +kernel
theorem dX3_isMissing_1 : decode cX3_isMissing 1 = .ok (.getfield 15, 3) := by decide +kernel
theorem dX3_isMissing_4 : decode cX3_isMissing 4 = .ok (.iload_n 1, 1) := by decide +kernel
theorem dX3_isMissing_5 : decode cX3_isMissing 5 = .ok (.iaload, 1) := by decide +kernel
theorem dX3_isMissing_6 : decode cX3_isMissing 6 = .ok (.iconst (-1), 1) := by decide +kernel
theorem dX3_isMissing_7 : decode cX3_isMissing 7 = .ok (.if_icmp .ne 7, 3) := by decide +kernel
theorem dX3_isMissing_10 : decode cX3_isMissing 10 = .ok (.iconst 1, 1) := by decide +kernel
theorem dX3_isMissing_11 : decode cX3_isMissing 11 = .ok (.goto 4, 3) := by decide +kernel
theorem dX3_isMissing_14 : decode cX3_isMissing 14 = .ok (.iconst 0, 1) := by decide +kernel
theorem dX3_isMissing_15 : decode cX3_isMissing 15 = .ok (.ireturn, 1) := by decide +kernel
theorem dX3_make_0 : decode cX3_make 0 = .ok (.aload_n 0, 1) := by decide +kernel
theorem dX3_make_1 : decode cX3_make 1 = .ok (.getfield 9, 3) := by decide +kernel
theorem dX3_make_4 : decode cX3_make 4 = .ok (.iload_n 1, 1) := by decide +kernel
theorem dX3_make_5 : decode cX3_make 5 = .ok (.iload_n 2, 1) := by decide +kernel
theorem dX3_make_6 : decode cX3_make 6 = .ok (.iastore, 1) := by decide +kernel
theorem dX3_make_7 : decode cX3_make 7 = .ok (.aload_n 0, 1) := by decide +kernel
theorem dX3_make_8 : decode cX3_make 8 = .ok (.getfield 15, 3) := by decide +kernel
theorem dX3_make_11 : decode cX3_make 11 = .ok (.iload_n 1, 1) := by decide +kernel
theorem dX3_make_12 : decode cX3_make 12 = .ok (.iload_n 3, 1) := by decide +kernel
theorem dX3_make_13 : decode cX3_make 13 = .ok (.iastore, 1) := by decide +kernel
theorem dX3_make_14 : decode cX3_make 14 = .ok (.iconst 0, 1) := by decide +kernel
theorem dX3_make_15 : decode cX3_make 15 = .ok (.istore 4, 2) := by decide +kernel
theorem dX3_make_17 : decode cX3_make 17 = .ok (.iload 4, 2) := by decide +kernel
theorem dX3_make_19 : decode cX3_make 19 = .ok (.bipush 40, 2) := by decide +kernel
theorem dX3_make_21 : decode cX3_make 21 = .ok (.if_icmp .ge 19, 3) := by decide +kernel
theorem dX3_make_24 : decode cX3_make 24 = .ok (.aload_n 0, 1) := by decide +kernel
theorem dX3_make_25 : decode cX3_make 25 = .ok (.getfield 20, 3) := by decide +kernel
theorem dX3_make_28 : decode cX3_make 28 = .ok (.iload_n 1, 1) := by decide +kernel
theorem dX3_make_29 : decode cX3_make 29 = .ok (.aaload, 1) := by decide +kernel
theorem dX3_make_30 : decode cX3_make 30 = .ok (.iload 4, 2) := by decide +kernel
theorem dX3_make_32 : decode cX3_make 32 = .ok (.iconst 0, 1) := by decide +kernel
theorem dX3_make_33 : decode cX3_make 33 = .ok (.iastore, 1) := by decide +kernel
theorem dX3_make_34 : decode cX3_make 34 = .ok (.iinc 4 1, 3) := by decide +kernel
theorem dX3_make_37 : decode cX3_make 37 = .ok (.goto (-20), 3) := by decide +kernel
theorem dX3_make_40 : decode cX3_make 40 = .ok (.return_, 1) := by decide +kernel
theorem dX3_cutToLane_0 : decode cX3_cutToLane 0 = .ok (.aload_n 0, 1) := by decide +kernel
theorem dX3_cutToLane_1 : decode cX3_cutToLane 1 = .ok (.getfield 9, 3) := by decide +kernel
theorem dX3_cutToLane_4 : decode cX3_cutToLane 4 = .ok (.iload_n 1, 1) := by decide +kernel
theorem dX3_cutToLane_5 : decode cX3_cutToLane 5 = .ok (.iaload, 1) := by decide +kernel
theorem dX3_cutToLane_6 : decode cX3_cutToLane 6 = .ok (.lookupswitch 32 #[(0, 26), (1, 29)], 26) := by decide +kernel
theorem dX3_cutToLane_32 : decode cX3_cutToLane 32 = .ok (.iload_n 2, 1) := by decide +kernel
theorem dX3_cutToLane_33 : decode cX3_cutToLane 33 = .ok (.i2b, 1) := by decide +kernel
theorem dX3_cutToLane_34 : decode cX3_cutToLane 34 = .ok (.ireturn, 1) := by decide +kernel
theorem dX3_cutToLane_35 : decode cX3_cutToLane 35 = .ok (.iload_n 2, 1) := by decide +kernel
theorem dX3_cutToLane_36 : decode cX3_cutToLane 36 = .ok (.i2s, 1) := by decide +kernel
theorem dX3_cutToLane_37 : decode cX3_cutToLane 37 = .ok (.ireturn, 1) := by decide +kernel
theorem dX3_cutToLane_38 : decode cX3_cutToLane 38 = .ok (.iload_n 2, 1) := by decide +kernel
theorem dX3_cutToLane_39 : decode cX3_cutToLane 39 = .ok (.ireturn, 1) := by decide +kernel
theorem dX3_holds_0 : decode cX3_holds 0 = .ok (.iload_n 2, 1) := by decide +kernel
theorem dX3_holds_1 : decode cX3_holds 1 = .ok (.ifCond .lt 23, 3) := by decide +kernel
theorem dX3_holds_4 : decode cX3_holds 4 = .ok (.iload_n 3, 1) := by decide +kernel
theorem dX3_holds_5 : decode cX3_holds 5 = .ok (.ifCond .lt 19, 3) := by decide +kernel
theorem dX3_holds_8 : decode cX3_holds 8 = .ok (.iload_n 3, 1) := by decide +kernel
theorem dX3_holds_9 : decode cX3_holds 9 = .ok (.aload_n 0, 1) := by decide +kernel
theorem dX3_holds_10 : decode cX3_holds 10 = .ok (.getfield 15, 3) := by decide +kernel
theorem dX3_holds_13 : decode cX3_holds 13 = .ok (.iload_n 1, 1) := by decide +kernel
theorem dX3_holds_14 : decode cX3_holds 14 = .ok (.iaload, 1) := by decide +kernel
theorem dX3_holds_15 : decode cX3_holds 15 = .ok (.iload_n 2, 1) := by decide +kernel
theorem dX3_holds_16 : decode cX3_holds 16 = .ok (.isub, 1) := by decide +kernel
theorem dX3_holds_17 : decode cX3_holds 17 = .ok (.if_icmp .gt 7, 3) := by decide +kernel
theorem dX3_holds_20 : decode cX3_holds 20 = .ok (.iconst 1, 1) := by decide +kernel
theorem dX3_holds_21 : decode cX3_holds 21 = .ok (.goto 4, 3) := by decide +kernel
theorem dX3_holds_24 : decode cX3_holds 24 = .ok (.iconst 0, 1) := by decide +kernel
theorem dX3_holds_25 : decode cX3_holds 25 = .ok (.ireturn, 1) := by decide +kernel
theorem dX3_countThere_0 : decode cX3_countThere 0 = .ok (.iconst 0, 1) := by decide +kernel
theorem dX3_countThere_1 : decode cX3_countThere 1 = .ok (.istore_n 1, 1) := by decide +kernel
theorem dX3_countThere_2 : decode cX3_countThere 2 = .ok (.iconst 0, 1) := by decide +kernel
theorem dX3_countThere_3 : decode cX3_countThere 3 = .ok (.istore_n 2, 1) := by decide +kernel
theorem dX3_countThere_4 : decode cX3_countThere 4 = .ok (.iload_n 2, 1) := by decide +kernel
theorem dX3_countThere_5 : decode cX3_countThere 5 = .ok (.bipush 8, 2) := by decide +kernel
theorem dX3_countThere_7 : decode cX3_countThere 7 = .ok (.if_icmp .ge 20, 3) := by decide +kernel
theorem dX3_countThere_10 : decode cX3_countThere 10 = .ok (.aload_n 0, 1) := by decide +kernel
theorem dX3_countThere_11 : decode cX3_countThere 11 = .ok (.iload_n 2, 1) := by decide +kernel
theorem dX3_countThere_12 : decode cX3_countThere 12 = .ok (.invokevirtual 23, 3) := by decide +kernel
theorem dX3_countThere_15 : decode cX3_countThere 15 = .ok (.ifCond .ne 6, 3) := by decide +kernel
theorem dX3_countThere_18 : decode cX3_countThere 18 = .ok (.iinc 1 1, 3) := by decide +kernel
theorem dX3_countThere_21 : decode cX3_countThere 21 = .ok (.iinc 2 1, 3) := by decide +kernel
theorem dX3_countThere_24 : decode cX3_countThere 24 = .ok (.goto (-20), 3) := by decide +kernel
theorem dX3_countThere_27 : decode cX3_countThere 27 = .ok (.iload_n 1, 1) := by decide +kernel
theorem dX3_countThere_28 : decode cX3_countThere 28 = .ok (.ireturn, 1) := by decide +kernel
theorem dX4_init_0 : decode cX4_init 0 = .ok (.aload_n 0, 1) := by decide +kernel
theorem dX4_init_1 : decode cX4_init 1 = .ok (.invokespecial 5, 3) := by decide +kernel
theorem dX4_init_4 : decode cX4_init 4 = .ok (.aload_n 0, 1) := by decide +kernel
theorem dX4_init_5 : decode cX4_init 5 = .ok (.sipush 480, 3) := by decide +kernel
theorem dX4_init_8 : decode cX4_init 8 = .ok (.newarray .long, 2) := by decide +kernel
theorem dX4_init_10 : decode cX4_init 10 = .ok (.putfield 11, 3) := by decide +kernel
theorem dX4_init_13 : decode cX4_init 13 = .ok (.aload_n 0, 1) := by decide +kernel
theorem dX4_init_14 : decode cX4_init 14 = .ok (.bipush 48, 2) := by decide +kernel
theorem dX4_init_16 : decode cX4_init 16 = .ok (.newarray .long, 2) := by decide +kernel
theorem dX4_init_18 : decode cX4_init 18 = .ok (.putfield 15, 3) := by decide +kernel
theorem dX4_init_21 : decode cX4_init 21 = .ok (.aload_n 0, 1) := by decide +kernel
theorem dX4_init_22 : decode cX4_init 22 = .ok (.aload_n 1, 1) := by decide +kernel
theorem dX4_init_23 : decode cX4_init 23 = .ok (.putfield 18, 3) := by decide +kernel
theorem dX4_init_26 : decode cX4_init 26 = .ok (.return_, 1) := by decide +kernel
theorem dX4_stepsToBring_0 : decode cX4_stepsToBring 0 = .ok (.aload_n 0, 1) := by decide +kernel
theorem dX4_stepsToBring_1 : decode cX4_stepsToBring 1 = .ok (.getfield 18, 3) := by decide +kernel
theorem dX4_stepsToBring_4 : decode cX4_stepsToBring 4 = .ok (.getfield 22, 3) := by decide +kernel
theorem dX4_stepsToBring_7 : decode cX4_stepsToBring 7 = .ok (.iload_n 2, 1) := by decide +kernel
theorem dX4_stepsToBring_8 : decode cX4_stepsToBring 8 = .ok (.iaload, 1) := by decide +kernel
theorem dX4_stepsToBring_9 : decode cX4_stepsToBring 9 = .ok (.istore_n 3, 1) := by decide +kernel
theorem dX4_stepsToBring_10 : decode cX4_stepsToBring 10 = .ok (.aload_n 0, 1) := by decide +kernel
theorem dX4_stepsToBring_11 : decode cX4_stepsToBring 11 = .ok (.getfield 18, 3) := by decide +kernel
theorem dX4_stepsToBring_14 : decode cX4_stepsToBring 14 = .ok (.getfield 28, 3) := by decide +kernel
theorem dX4_stepsToBring_17 : decode cX4_stepsToBring 17 = .ok (.getfield 32, 3) := by decide +kernel
theorem dX4_stepsToBring_20 : decode cX4_stepsToBring 20 = .ok (.iload_n 2, 1) := by decide +kernel
theorem dX4_stepsToBring_21 : decode cX4_stepsToBring 21 = .ok (.iaload, 1) := by decide +kernel
theorem dX4_stepsToBring_22 : decode cX4_stepsToBring 22 = .ok (.istore 4, 2) := by decide +kernel
theorem dX4_stepsToBring_24 : decode cX4_stepsToBring 24 = .ok (.iload 4, 2) := by decide +kernel
theorem dX4_stepsToBring_26 : decode cX4_stepsToBring 26 = .ok (.iload_n 3, 1) := by decide +kernel
theorem dX4_stepsToBring_27 : decode cX4_stepsToBring 27 = .ok (.if_icmp .ne 5, 3) := by decide +kernel
theorem dX4_stepsToBring_30 : decode cX4_stepsToBring 30 = .ok (.iconst 0, 1) := by decide +kernel
theorem dX4_stepsToBring_31 : decode cX4_stepsToBring 31 = .ok (.ireturn, 1) := by decide +kernel
theorem dX4_stepsToBring_32 : decode cX4_stepsToBring 32 = .ok (.aload_n 0, 1) := by decide +kernel
theorem dX4_stepsToBring_33 : decode cX4_stepsToBring 33 = .ok (.iconst 1, 1) := by decide +kernel
theorem dX4_stepsToBring_34 : decode cX4_stepsToBring 34 = .ok (.aload_n 0, 1) := by decide +kernel
theorem dX4_stepsToBring_35 : decode cX4_stepsToBring 35 = .ok (.getfield 18, 3) := by decide +kernel
theorem dX4_stepsToBring_38 : decode cX4_stepsToBring 38 = .ok (.getfield 28, 3) := by decide +kernel
theorem dX4_stepsToBring_41 : decode cX4_stepsToBring 41 = .ok (.getfield 37, 3) := by decide +kernel
theorem dX4_stepsToBring_44 : decode cX4_stepsToBring 44 = .ok (.invokevirtual 41, 3) := by decide +kernel
theorem dX4_stepsToBring_47 : decode cX4_stepsToBring 47 = .ok (.aload_n 0, 1) := by decide +kernel
theorem dX4_stepsToBring_48 : decode cX4_stepsToBring 48 = .ok (.iload_n 1, 1) := by decide +kernel
theorem dX4_stepsToBring_49 : decode cX4_stepsToBring 49 = .ok (.iload 4, 2) := by decide +kernel
theorem dX4_stepsToBring_51 : decode cX4_stepsToBring 51 = .ok (.ldc 45, 2) := by decide +kernel
theorem dX4_stepsToBring_53 : decode cX4_stepsToBring 53 = .ok (.if_icmp .ne 8, 3) := by decide +kernel
theorem dX4_stepsToBring_56 : decode cX4_stepsToBring 56 = .ok (.bipush 6, 2) := by decide +kernel
theorem dX4_stepsToBring_58 : decode cX4_stepsToBring 58 = .ok (.goto 5, 3) := by decide +kernel
theorem dX4_stepsToBring_61 : decode cX4_stepsToBring 61 = .ok (.iload 4, 2) := by decide +kernel
theorem dX4_stepsToBring_63 : decode cX4_stepsToBring 63 = .ok (.invokevirtual 46, 3) := by decide +kernel
theorem dX4_stepsToBring_66 : decode cX4_stepsToBring 66 = .ok (.aload_n 0, 1) := by decide +kernel
theorem dX4_stepsToBring_67 : decode cX4_stepsToBring 67 = .ok (.iload_n 3, 1) := by decide +kernel
theorem dX4_stepsToBring_68 : decode cX4_stepsToBring 68 = .ok (.bipush 8, 2) := by decide +kernel
theorem dX4_stepsToBring_70 : decode cX4_stepsToBring 70 = .ok (.imul, 1) := by decide +kernel
theorem dX4_stepsToBring_71 : decode cX4_stepsToBring 71 = .ok (.iload_n 3, 1) := by decide +kernel
theorem dX4_stepsToBring_72 : decode cX4_stepsToBring 72 = .ok (.iadd, 1) := by decide +kernel
theorem dX4_stepsToBring_73 : decode cX4_stepsToBring 73 = .ok (.ldc2_w 49, 3) := by decide +kernel
theorem dX4_stepsToBring_76 : decode cX4_stepsToBring 76 = .ok (.invokevirtual 51, 3) := by decide +kernel
theorem dX4_stepsToBring_79 : decode cX4_stepsToBring 79 = .ok (.ireturn, 1) := by decide +kernel
theorem dX4_stepsToTown_0 : decode cX4_stepsToTown 0 = .ok (.aload_n 0, 1) := by decide +kernel
theorem dX4_stepsToTown_1 : decode cX4_stepsToTown 1 = .ok (.getfield 18, 3) := by decide +kernel
theorem dX4_stepsToTown_4 : decode cX4_stepsToTown 4 = .ok (.iload_n 1, 1) := by decide +kernel
theorem dX4_stepsToTown_5 : decode cX4_stepsToTown 5 = .ok (.invokevirtual 55, 3) := by decide +kernel
theorem dX4_stepsToTown_8 : decode cX4_stepsToTown 8 = .ok (.ifCond .eq 8, 3) := by decide +kernel
theorem dX4_stepsToTown_11 : decode cX4_stepsToTown 11 = .ok (.bipush 6, 2) := by decide +kernel
theorem dX4_stepsToTown_13 : decode cX4_stepsToTown 13 = .ok (.goto 5, 3) := by decide +kernel
theorem dX4_stepsToTown_16 : decode cX4_stepsToTown 16 = .ok (.bipush 7, 2) := by decide +kernel
theorem dX4_stepsToTown_18 : decode cX4_stepsToTown 18 = .ok (.istore_n 3, 1) := by decide +kernel
theorem dX4_stepsToTown_19 : decode cX4_stepsToTown 19 = .ok (.aload_n 0, 1) := by decide +kernel
theorem dX4_stepsToTown_20 : decode cX4_stepsToTown 20 = .ok (.iconst 0, 1) := by decide +kernel
theorem dX4_stepsToTown_21 : decode cX4_stepsToTown 21 = .ok (.aload_n 0, 1) := by decide +kernel
theorem dX4_stepsToTown_22 : decode cX4_stepsToTown 22 = .ok (.getfield 18, 3) := by decide +kernel
theorem dX4_stepsToTown_25 : decode cX4_stepsToTown 25 = .ok (.getfield 28, 3) := by decide +kernel
theorem dX4_stepsToTown_28 : decode cX4_stepsToTown 28 = .ok (.getfield 37, 3) := by decide +kernel
theorem dX4_stepsToTown_31 : decode cX4_stepsToTown 31 = .ok (.invokevirtual 41, 3) := by decide +kernel
theorem dX4_stepsToTown_34 : decode cX4_stepsToTown 34 = .ok (.aload_n 0, 1) := by decide +kernel
theorem dX4_stepsToTown_35 : decode cX4_stepsToTown 35 = .ok (.iload_n 1, 1) := by decide +kernel
theorem dX4_stepsToTown_36 : decode cX4_stepsToTown 36 = .ok (.iload_n 3, 1) := by decide +kernel
theorem dX4_stepsToTown_37 : decode cX4_stepsToTown 37 = .ok (.invokevirtual 46, 3) := by decide +kernel
theorem dX4_stepsToTown_40 : decode cX4_stepsToTown 40 = .ok (.aload_n 0, 1) := by decide +kernel
theorem dX4_stepsToTown_41 : decode cX4_stepsToTown 41 = .ok (.iload_n 2, 1) := by decide +kernel
theorem dX4_stepsToTown_42 : decode cX4_stepsToTown 42 = .ok (.bipush 8, 2) := by decide +kernel
theorem dX4_stepsToTown_44 : decode cX4_stepsToTown 44 = .ok (.imul, 1) := by decide +kernel
theorem dX4_stepsToTown_45 : decode cX4_stepsToTown 45 = .ok (.iload_n 3, 1) := by decide +kernel
theorem dX4_stepsToTown_46 : decode cX4_stepsToTown 46 = .ok (.iadd, 1) := by decide +kernel
theorem dX4_stepsToTown_47 : decode cX4_stepsToTown 47 = .ok (.ldc2_w 49, 3) := by decide +kernel
theorem dX4_stepsToTown_50 : decode cX4_stepsToTown 50 = .ok (.invokevirtual 51, 3) := by decide +kernel
theorem dX4_stepsToTown_53 : decode cX4_stepsToTown 53 = .ok (.ireturn, 1) := by decide +kernel
theorem dX4_stepsToRight_0 : decode cX4_stepsToRight 0 = .ok (.aload_n 0, 1) := by decide +kernel
theorem dX4_stepsToRight_1 : decode cX4_stepsToRight 1 = .ok (.iconst 2, 1) := by decide +kernel
theorem dX4_stepsToRight_2 : decode cX4_stepsToRight 2 = .ok (.aload_n 0, 1) := by decide +kernel
theorem dX4_stepsToRight_3 : decode cX4_stepsToRight 3 = .ok (.getfield 18, 3) := by decide +kernel
theorem dX4_stepsToRight_6 : decode cX4_stepsToRight 6 = .ok (.getfield 28, 3) := by decide +kernel
theorem dX4_stepsToRight_9 : decode cX4_stepsToRight 9 = .ok (.getfield 37, 3) := by decide +kernel
theorem dX4_stepsToRight_12 : decode cX4_stepsToRight 12 = .ok (.aload_n 0, 1) := by decide +kernel
theorem dX4_stepsToRight_13 : decode cX4_stepsToRight 13 = .ok (.getfield 18, 3) := by decide +kernel
theorem dX4_stepsToRight_16 : decode cX4_stepsToRight 16 = .ok (.iconst 2, 1) := by decide +kernel
theorem dX4_stepsToRight_17 : decode cX4_stepsToRight 17 = .ok (.invokevirtual 59, 3) := by decide +kernel
theorem dX4_stepsToRight_20 : decode cX4_stepsToRight 20 = .ok (.iconst (-1), 1) := by decide +kernel
theorem dX4_stepsToRight_21 : decode cX4_stepsToRight 21 = .ok (.ixor, 1) := by decide +kernel
theorem dX4_stepsToRight_22 : decode cX4_stepsToRight 22 = .ok (.iand, 1) := by decide +kernel
theorem dX4_stepsToRight_23 : decode cX4_stepsToRight 23 = .ok (.invokevirtual 41, 3) := by decide +kernel
theorem dX4_stepsToRight_26 : decode cX4_stepsToRight 26 = .ok (.aload_n 0, 1) := by decide +kernel
theorem dX4_stepsToRight_27 : decode cX4_stepsToRight 27 = .ok (.iload_n 1, 1) := by decide +kernel
theorem dX4_stepsToRight_28 : decode cX4_stepsToRight 28 = .ok (.bipush 7, 2) := by decide +kernel
theorem dX4_stepsToRight_30 : decode cX4_stepsToRight 30 = .ok (.invokevirtual 46, 3) := by decide +kernel
theorem dX4_stepsToRight_33 : decode cX4_stepsToRight 33 = .ok (.aload_n 0, 1) := by decide +kernel
theorem dX4_stepsToRight_34 : decode cX4_stepsToRight 34 = .ok (.getfield 18, 3) := by decide +kernel
theorem dX4_stepsToRight_37 : decode cX4_stepsToRight 37 = .ok (.iload_n 1, 1) := by decide +kernel
theorem dX4_stepsToRight_38 : decode cX4_stepsToRight 38 = .ok (.invokevirtual 63, 3) := by decide +kernel
theorem dX4_stepsToRight_41 : decode cX4_stepsToRight 41 = .ok (.iconst 1, 1) := by decide +kernel
theorem dX4_stepsToRight_42 : decode cX4_stepsToRight 42 = .ok (.iload_n 2, 1) := by decide +kernel
theorem dX4_stepsToRight_43 : decode cX4_stepsToRight 43 = .ok (.ishl, 1) := by decide +kernel
theorem dX4_stepsToRight_44 : decode cX4_stepsToRight 44 = .ok (.ixor, 1) := by decide +kernel
theorem dX4_stepsToRight_45 : decode cX4_stepsToRight 45 = .ok (.istore_n 3, 1) := by decide +kernel
theorem dX4_stepsToRight_46 : decode cX4_stepsToRight 46 = .ok (.aload_n 0, 1) := by decide +kernel
theorem dX4_stepsToRight_47 : decode cX4_stepsToRight 47 = .ok (.aload_n 0, 1) := by decide +kernel
theorem dX4_stepsToRight_48 : decode cX4_stepsToRight 48 = .ok (.getfield 18, 3) := by decide +kernel
theorem dX4_stepsToRight_51 : decode cX4_stepsToRight 51 = .ok (.getfield 28, 3) := by decide +kernel
theorem dX4_stepsToRight_54 : decode cX4_stepsToRight 54 = .ok (.getfield 66, 3) := by decide +kernel
theorem dX4_stepsToRight_57 : decode cX4_stepsToRight 57 = .ok (.iload_n 1, 1) := by decide +kernel
theorem dX4_stepsToRight_58 : decode cX4_stepsToRight 58 = .ok (.iaload, 1) := by decide +kernel
theorem dX4_stepsToRight_59 : decode cX4_stepsToRight 59 = .ok (.bipush 8, 2) := by decide +kernel
theorem dX4_stepsToRight_61 : decode cX4_stepsToRight 61 = .ok (.imul, 1) := by decide +kernel
theorem dX4_stepsToRight_62 : decode cX4_stepsToRight 62 = .ok (.bipush 7, 2) := by decide +kernel
theorem dX4_stepsToRight_64 : decode cX4_stepsToRight 64 = .ok (.iadd, 1) := by decide +kernel
theorem dX4_stepsToRight_65 : decode cX4_stepsToRight 65 = .ok (.lconst 1, 1) := by decide +kernel
theorem dX4_stepsToRight_66 : decode cX4_stepsToRight 66 = .ok (.iload_n 3, 1) := by decide +kernel
theorem dX4_stepsToRight_67 : decode cX4_stepsToRight 67 = .ok (.lshl, 1) := by decide +kernel
theorem dX4_stepsToRight_68 : decode cX4_stepsToRight 68 = .ok (.invokevirtual 51, 3) := by decide +kernel
theorem dX4_stepsToRight_71 : decode cX4_stepsToRight 71 = .ok (.ireturn, 1) := by decide +kernel
theorem dX4_begin_0 : decode cX4_begin 0 = .ok (.aload_n 0, 1) := by decide +kernel
theorem dX4_begin_1 : decode cX4_begin 1 = .ok (.iload_n 1, 1) := by decide +kernel
theorem dX4_begin_2 : decode cX4_begin 2 = .ok (.putfield 69, 3) := by decide +kernel
theorem dX4_begin_5 : decode cX4_begin 5 = .ok (.aload_n 0, 1) := by decide +kernel
theorem dX4_begin_6 : decode cX4_begin 6 = .ok (.iload_n 2, 1) := by decide +kernel
theorem dX4_begin_7 : decode cX4_begin 7 = .ok (.putfield 72, 3) := by decide +kernel
theorem dX4_begin_10 : decode cX4_begin 10 = .ok (.aload_n 0, 1) := by decide +kernel
theorem dX4_begin_11 : decode cX4_begin 11 = .ok (.iconst 0, 1) := by decide +kernel
theorem dX4_begin_12 : decode cX4_begin 12 = .ok (.putfield 75, 3) := by decide +kernel
theorem dX4_begin_15 : decode cX4_begin 15 = .ok (.iconst 0, 1) := by decide +kernel
theorem dX4_begin_16 : decode cX4_begin 16 = .ok (.istore_n 3, 1) := by decide +kernel
theorem dX4_begin_17 : decode cX4_begin 17 = .ok (.iload_n 3, 1) := by decide +kernel
theorem dX4_begin_18 : decode cX4_begin 18 = .ok (.aload_n 0, 1) := by decide +kernel
theorem dX4_begin_19 : decode cX4_begin 19 = .ok (.getfield 11, 3) := by decide +kernel
theorem dX4_begin_22 : decode cX4_begin 22 = .ok (.arraylength, 1) := by decide +kernel
theorem dX4_begin_23 : decode cX4_begin 23 = .ok (.if_icmp .ge 16, 3) := by decide +kernel
theorem dX4_begin_26 : decode cX4_begin 26 = .ok (.aload_n 0, 1) := by decide +kernel
theorem dX4_begin_27 : decode cX4_begin 27 = .ok (.getfield 11, 3) := by decide +kernel
theorem dX4_begin_30 : decode cX4_begin 30 = .ok (.iload_n 3, 1) := by decide +kernel
theorem dX4_begin_31 : decode cX4_begin 31 = .ok (.lconst 0, 1) := by decide +kernel
theorem dX4_begin_32 : decode cX4_begin 32 = .ok (.lastore, 1) := by decide +kernel
theorem dX4_begin_33 : decode cX4_begin 33 = .ok (.iinc 3 1, 3) := by decide +kernel
theorem dX4_begin_36 : decode cX4_begin 36 = .ok (.goto (-19), 3) := by decide +kernel
theorem dX4_begin_39 : decode cX4_begin 39 = .ok (.iconst 0, 1) := by decide +kernel
theorem dX4_begin_40 : decode cX4_begin 40 = .ok (.istore_n 3, 1) := by decide +kernel
theorem dX4_begin_41 : decode cX4_begin 41 = .ok (.iload_n 3, 1) := by decide +kernel
theorem dX4_begin_42 : decode cX4_begin 42 = .ok (.bipush 48, 2) := by decide +kernel
theorem dX4_begin_44 : decode cX4_begin 44 = .ok (.if_icmp .ge 16, 3) := by decide +kernel
theorem dX4_begin_47 : decode cX4_begin 47 = .ok (.aload_n 0, 1) := by decide +kernel
theorem dX4_begin_48 : decode cX4_begin 48 = .ok (.getfield 15, 3) := by decide +kernel
theorem dX4_begin_51 : decode cX4_begin 51 = .ok (.iload_n 3, 1) := by decide +kernel
theorem dX4_begin_52 : decode cX4_begin 52 = .ok (.lconst 0, 1) := by decide +kernel
theorem dX4_begin_53 : decode cX4_begin 53 = .ok (.lastore, 1) := by decide +kernel
theorem dX4_begin_54 : decode cX4_begin 54 = .ok (.iinc 3 1, 3) := by decide +kernel
theorem dX4_begin_57 : decode cX4_begin 57 = .ok (.goto (-16), 3) := by decide +kernel
theorem dX4_begin_60 : decode cX4_begin 60 = .ok (.return_, 1) := by decide +kernel
theorem dX4_start_0 : decode cX4_start 0 = .ok (.aload_n 0, 1) := by decide +kernel
theorem dX4_start_1 : decode cX4_start 1 = .ok (.getfield 11, 3) := by decide +kernel
theorem dX4_start_4 : decode cX4_start 4 = .ok (.aload_n 0, 1) := by decide +kernel
theorem dX4_start_5 : decode cX4_start 5 = .ok (.getfield 18, 3) := by decide +kernel
theorem dX4_start_8 : decode cX4_start 8 = .ok (.getfield 28, 3) := by decide +kernel
theorem dX4_start_11 : decode cX4_start 11 = .ok (.getfield 66, 3) := by decide +kernel
theorem dX4_start_14 : decode cX4_start 14 = .ok (.iload_n 1, 1) := by decide +kernel
theorem dX4_start_15 : decode cX4_start 15 = .ok (.iaload, 1) := by decide +kernel
theorem dX4_start_16 : decode cX4_start 16 = .ok (.bipush 8, 2) := by decide +kernel
theorem dX4_start_18 : decode cX4_start 18 = .ok (.imul, 1) := by decide +kernel
theorem dX4_start_19 : decode cX4_start 19 = .ok (.iload_n 2, 1) := by decide +kernel
theorem dX4_start_20 : decode cX4_start 20 = .ok (.iadd, 1) := by decide +kernel
theorem dX4_start_21 : decode cX4_start 21 = .ok (.lconst 1, 1) := by decide +kernel
theorem dX4_start_22 : decode cX4_start 22 = .ok (.aload_n 0, 1) := by decide +kernel
theorem dX4_start_23 : decode cX4_start 23 = .ok (.getfield 18, 3) := by decide +kernel
theorem dX4_start_26 : decode cX4_start 26 = .ok (.iload_n 1, 1) := by decide +kernel
theorem dX4_start_27 : decode cX4_start 27 = .ok (.invokevirtual 63, 3) := by decide +kernel
theorem dX4_start_30 : decode cX4_start 30 = .ok (.lshl, 1) := by decide +kernel
theorem dX4_start_31 : decode cX4_start 31 = .ok (.lastore, 1) := by decide +kernel
theorem dX4_start_32 : decode cX4_start 32 = .ok (.return_, 1) := by decide +kernel
theorem dX4_stepsTo_0 : decode cX4_stepsTo 0 = .ok (.iconst 0, 1) := by decide +kernel
theorem dX4_stepsTo_1 : decode cX4_stepsTo 1 = .ok (.istore 4, 2) := by decide +kernel
theorem dX4_stepsTo_3 : decode cX4_stepsTo 3 = .ok (.iload 4, 2) := by decide +kernel
theorem dX4_stepsTo_5 : decode cX4_stepsTo 5 = .ok (.aload_n 0, 1) := by decide +kernel
theorem dX4_stepsTo_6 : decode cX4_stepsTo 6 = .ok (.getfield 75, 3) := by decide +kernel
theorem dX4_stepsTo_9 : decode cX4_stepsTo 9 = .ok (.if_icmp .gt 147, 3) := by decide +kernel
theorem dX4_stepsTo_12 : decode cX4_stepsTo 12 = .ok (.iload 4, 2) := by decide +kernel
theorem dX4_stepsTo_14 : decode cX4_stepsTo 14 = .ok (.sipush 27648, 3) := by decide +kernel
theorem dX4_stepsTo_17 : decode cX4_stepsTo 17 = .ok (.if_icmp .gt 139, 3) := by decide +kernel
theorem dX4_stepsTo_20 : decode cX4_stepsTo 20 = .ok (.iload 4, 2) := by decide +kernel
theorem dX4_stepsTo_22 : decode cX4_stepsTo 22 = .ok (.bipush 10, 2) := by decide +kernel
theorem dX4_stepsTo_24 : decode cX4_stepsTo 24 = .ok (.irem, 1) := by decide +kernel
theorem dX4_stepsTo_25 : decode cX4_stepsTo 25 = .ok (.bipush 48, 2) := by decide +kernel
theorem dX4_stepsTo_27 : decode cX4_stepsTo 27 = .ok (.imul, 1) := by decide +kernel
theorem dX4_stepsTo_28 : decode cX4_stepsTo 28 = .ok (.istore 5, 2) := by decide +kernel
theorem dX4_stepsTo_30 : decode cX4_stepsTo 30 = .ok (.iconst 0, 1) := by decide +kernel
theorem dX4_stepsTo_31 : decode cX4_stepsTo 31 = .ok (.istore 6, 2) := by decide +kernel
theorem dX4_stepsTo_33 : decode cX4_stepsTo 33 = .ok (.iload 6, 2) := by decide +kernel
theorem dX4_stepsTo_35 : decode cX4_stepsTo 35 = .ok (.bipush 6, 2) := by decide +kernel
theorem dX4_stepsTo_37 : decode cX4_stepsTo 37 = .ok (.if_icmp .ge 17, 3) := by decide +kernel
theorem dX4_stepsTo_40 : decode cX4_stepsTo 40 = .ok (.aload_n 0, 1) := by decide +kernel
theorem dX4_stepsTo_41 : decode cX4_stepsTo 41 = .ok (.iload 5, 2) := by decide +kernel
theorem dX4_stepsTo_43 : decode cX4_stepsTo 43 = .ok (.iload 6, 2) := by decide +kernel
theorem dX4_stepsTo_45 : decode cX4_stepsTo 45 = .ok (.invokevirtual 78, 3) := by decide +kernel
theorem dX4_stepsTo_48 : decode cX4_stepsTo 48 = .ok (.iinc 6 1, 3) := by decide +kernel
theorem dX4_stepsTo_51 : decode cX4_stepsTo 51 = .ok (.goto (-18), 3) := by decide +kernel
theorem dX4_stepsTo_54 : decode cX4_stepsTo 54 = .ok (.iconst 0, 1) := by decide +kernel
theorem dX4_stepsTo_55 : decode cX4_stepsTo 55 = .ok (.istore 6, 2) := by decide +kernel
theorem dX4_stepsTo_57 : decode cX4_stepsTo 57 = .ok (.iload 6, 2) := by decide +kernel
theorem dX4_stepsTo_59 : decode cX4_stepsTo 59 = .ok (.bipush 48, 2) := by decide +kernel
theorem dX4_stepsTo_61 : decode cX4_stepsTo 61 = .ok (.if_icmp .ge 73, 3) := by decide +kernel
theorem dX4_stepsTo_64 : decode cX4_stepsTo 64 = .ok (.aload_n 0, 1) := by decide +kernel
theorem dX4_stepsTo_65 : decode cX4_stepsTo 65 = .ok (.getfield 11, 3) := by decide +kernel
theorem dX4_stepsTo_68 : decode cX4_stepsTo 68 = .ok (.iload 5, 2) := by decide +kernel
theorem dX4_stepsTo_70 : decode cX4_stepsTo 70 = .ok (.iload 6, 2) := by decide +kernel
theorem dX4_stepsTo_72 : decode cX4_stepsTo 72 = .ok (.iadd, 1) := by decide +kernel
theorem dX4_stepsTo_73 : decode cX4_stepsTo 73 = .ok (.laload, 1) := by decide +kernel
theorem dX4_stepsTo_74 : decode cX4_stepsTo 74 = .ok (.aload_n 0, 1) := by decide +kernel
theorem dX4_stepsTo_75 : decode cX4_stepsTo 75 = .ok (.getfield 15, 3) := by decide +kernel
theorem dX4_stepsTo_78 : decode cX4_stepsTo 78 = .ok (.iload 6, 2) := by decide +kernel
theorem dX4_stepsTo_80 : decode cX4_stepsTo 80 = .ok (.laload, 1) := by decide +kernel
theorem dX4_stepsTo_81 : decode cX4_stepsTo 81 = .ok (.ldc2_w 49, 3) := by decide +kernel
theorem dX4_stepsTo_84 : decode cX4_stepsTo 84 = .ok (.lxor, 1) := by decide +kernel
theorem dX4_stepsTo_85 : decode cX4_stepsTo 85 = .ok (.land, 1) := by decide +kernel
theorem dX4_stepsTo_86 : decode cX4_stepsTo 86 = .ok (.lstore 7, 2) := by decide +kernel
theorem dX4_stepsTo_88 : decode cX4_stepsTo 88 = .ok (.aload_n 0, 1) := by decide +kernel
theorem dX4_stepsTo_89 : decode cX4_stepsTo 89 = .ok (.getfield 11, 3) := by decide +kernel
theorem dX4_stepsTo_92 : decode cX4_stepsTo 92 = .ok (.iload 5, 2) := by decide +kernel
theorem dX4_stepsTo_94 : decode cX4_stepsTo 94 = .ok (.iload 6, 2) := by decide +kernel
theorem dX4_stepsTo_96 : decode cX4_stepsTo 96 = .ok (.iadd, 1) := by decide +kernel
theorem dX4_stepsTo_97 : decode cX4_stepsTo 97 = .ok (.lconst 0, 1) := by decide +kernel
theorem dX4_stepsTo_98 : decode cX4_stepsTo 98 = .ok (.lastore, 1) := by decide +kernel
theorem dX4_stepsTo_99 : decode cX4_stepsTo 99 = .ok (.lload 7, 2) := by decide +kernel
theorem dX4_stepsTo_101 : decode cX4_stepsTo 101 = .ok (.lconst 0, 1) := by decide +kernel
theorem dX4_stepsTo_102 : decode cX4_stepsTo 102 = .ok (.lcmp, 1) := by decide +kernel
theorem dX4_stepsTo_103 : decode cX4_stepsTo 103 = .ok (.ifCond .eq 25, 3) := by decide +kernel
theorem dX4_stepsTo_106 : decode cX4_stepsTo 106 = .ok (.aload_n 0, 1) := by decide +kernel
theorem dX4_stepsTo_107 : decode cX4_stepsTo 107 = .ok (.getfield 15, 3) := by decide +kernel
theorem dX4_stepsTo_110 : decode cX4_stepsTo 110 = .ok (.iload 6, 2) := by decide +kernel
theorem dX4_stepsTo_112 : decode cX4_stepsTo 112 = .ok (.dup2, 1) := by decide +kernel
theorem dX4_stepsTo_113 : decode cX4_stepsTo 113 = .ok (.laload, 1) := by decide +kernel
theorem dX4_stepsTo_114 : decode cX4_stepsTo 114 = .ok (.lload 7, 2) := by decide +kernel
theorem dX4_stepsTo_116 : decode cX4_stepsTo 116 = .ok (.lor, 1) := by decide +kernel
theorem dX4_stepsTo_117 : decode cX4_stepsTo 117 = .ok (.lastore, 1) := by decide +kernel
theorem dX4_stepsTo_118 : decode cX4_stepsTo 118 = .ok (.aload_n 0, 1) := by decide +kernel
theorem dX4_stepsTo_119 : decode cX4_stepsTo 119 = .ok (.iload 6, 2) := by decide +kernel
theorem dX4_stepsTo_121 : decode cX4_stepsTo 121 = .ok (.lload 7, 2) := by decide +kernel
theorem dX4_stepsTo_123 : decode cX4_stepsTo 123 = .ok (.iload 4, 2) := by decide +kernel
theorem dX4_stepsTo_125 : decode cX4_stepsTo 125 = .ok (.invokevirtual 81, 3) := by decide +kernel
theorem dX4_stepsTo_128 : decode cX4_stepsTo 128 = .ok (.iinc 6 1, 3) := by decide +kernel
theorem dX4_stepsTo_131 : decode cX4_stepsTo 131 = .ok (.goto (-74), 3) := by decide +kernel
theorem dX4_stepsTo_134 : decode cX4_stepsTo 134 = .ok (.aload_n 0, 1) := by decide +kernel
theorem dX4_stepsTo_135 : decode cX4_stepsTo 135 = .ok (.getfield 15, 3) := by decide +kernel
theorem dX4_stepsTo_138 : decode cX4_stepsTo 138 = .ok (.iload_n 1, 1) := by decide +kernel
theorem dX4_stepsTo_139 : decode cX4_stepsTo 139 = .ok (.laload, 1) := by decide +kernel
theorem dX4_stepsTo_140 : decode cX4_stepsTo 140 = .ok (.lload_n 2, 1) := by decide +kernel
theorem dX4_stepsTo_141 : decode cX4_stepsTo 141 = .ok (.land, 1) := by decide +kernel
theorem dX4_stepsTo_142 : decode cX4_stepsTo 142 = .ok (.lconst 0, 1) := by decide +kernel
theorem dX4_stepsTo_143 : decode cX4_stepsTo 143 = .ok (.lcmp, 1) := by decide +kernel
theorem dX4_stepsTo_144 : decode cX4_stepsTo 144 = .ok (.ifCond .eq 6, 3) := by decide +kernel
theorem dX4_stepsTo_147 : decode cX4_stepsTo 147 = .ok (.iload 4, 2) := by decide +kernel
theorem dX4_stepsTo_149 : decode cX4_stepsTo 149 = .ok (.ireturn, 1) := by decide +kernel
theorem dX4_stepsTo_150 : decode cX4_stepsTo 150 = .ok (.iinc 4 1, 3) := by decide +kernel
theorem dX4_stepsTo_153 : decode cX4_stepsTo 153 = .ok (.goto (-150), 3) := by decide +kernel
theorem dX4_stepsTo_156 : decode cX4_stepsTo 156 = .ok (.ldc 45, 2) := by decide +kernel
theorem dX4_stepsTo_158 : decode cX4_stepsTo 158 = .ok (.ireturn, 1) := by decide +kernel
theorem dX4_takeAndLay_0 : decode cX4_takeAndLay 0 = .ok (.aload_n 0, 1) := by decide +kernel
theorem dX4_takeAndLay_1 : decode cX4_takeAndLay 1 = .ok (.getfield 69, 3) := by decide +kernel
theorem dX4_takeAndLay_4 : decode cX4_takeAndLay 4 = .ok (.ifCond .ne 4, 3) := by decide +kernel
theorem dX4_takeAndLay_7 : decode cX4_takeAndLay 7 = .ok (.return_, 1) := by decide +kernel
theorem dX4_takeAndLay_8 : decode cX4_takeAndLay 8 = .ok (.iload_n 1, 1) := by decide +kernel
theorem dX4_takeAndLay_9 : decode cX4_takeAndLay 9 = .ok (.iload_n 2, 1) := by decide +kernel
theorem dX4_takeAndLay_10 : decode cX4_takeAndLay 10 = .ok (.bipush 8, 2) := by decide +kernel
theorem dX4_takeAndLay_12 : decode cX4_takeAndLay 12 = .ok (.imul, 1) := by decide +kernel
theorem dX4_takeAndLay_13 : decode cX4_takeAndLay 13 = .ok (.iadd, 1) := by decide +kernel
theorem dX4_takeAndLay_14 : decode cX4_takeAndLay 14 = .ok (.aload_n 0, 1) := by decide +kernel
theorem dX4_takeAndLay_15 : decode cX4_takeAndLay 15 = .ok (.getfield 69, 3) := by decide +kernel
theorem dX4_takeAndLay_18 : decode cX4_takeAndLay 18 = .ok (.iconst 1, 1) := by decide +kernel
theorem dX4_takeAndLay_19 : decode cX4_takeAndLay 19 = .ok (.if_icmp .ne 7, 3) := by decide +kernel
theorem dX4_takeAndLay_22 : decode cX4_takeAndLay 22 = .ok (.iload_n 2, 1) := by decide +kernel
theorem dX4_takeAndLay_23 : decode cX4_takeAndLay 23 = .ok (.goto 5, 3) := by decide +kernel
theorem dX4_takeAndLay_26 : decode cX4_takeAndLay 26 = .ok (.bipush 7, 2) := by decide +kernel
theorem dX4_takeAndLay_28 : decode cX4_takeAndLay 28 = .ok (.iadd, 1) := by decide +kernel
theorem dX4_takeAndLay_29 : decode cX4_takeAndLay 29 = .ok (.istore_n 3, 1) := by decide +kernel
theorem dX4_takeAndLay_30 : decode cX4_takeAndLay 30 = .ok (.iload_n 1, 1) := by decide +kernel
theorem dX4_takeAndLay_31 : decode cX4_takeAndLay 31 = .ok (.iload_n 2, 1) := by decide +kernel
theorem dX4_takeAndLay_32 : decode cX4_takeAndLay 32 = .ok (.bipush 8, 2) := by decide +kernel
theorem dX4_takeAndLay_34 : decode cX4_takeAndLay 34 = .ok (.imul, 1) := by decide +kernel
theorem dX4_takeAndLay_35 : decode cX4_takeAndLay 35 = .ok (.iadd, 1) := by decide +kernel
theorem dX4_takeAndLay_36 : decode cX4_takeAndLay 36 = .ok (.bipush 6, 2) := by decide +kernel
theorem dX4_takeAndLay_38 : decode cX4_takeAndLay 38 = .ok (.iadd, 1) := by decide +kernel
theorem dX4_takeAndLay_39 : decode cX4_takeAndLay 39 = .ok (.istore 4, 2) := by decide +kernel
theorem dX4_takeAndLay_41 : decode cX4_takeAndLay 41 = .ok (.aload_n 0, 1) := by decide +kernel
theorem dX4_takeAndLay_42 : decode cX4_takeAndLay 42 = .ok (.getfield 11, 3) := by decide +kernel
theorem dX4_takeAndLay_45 : decode cX4_takeAndLay 45 = .ok (.iload_n 3, 1) := by decide +kernel
theorem dX4_takeAndLay_46 : decode cX4_takeAndLay 46 = .ok (.laload, 1) := by decide +kernel
theorem dX4_takeAndLay_47 : decode cX4_takeAndLay 47 = .ok (.aload_n 0, 1) := by decide +kernel
theorem dX4_takeAndLay_48 : decode cX4_takeAndLay 48 = .ok (.getfield 11, 3) := by decide +kernel
theorem dX4_takeAndLay_51 : decode cX4_takeAndLay 51 = .ok (.iload 4, 2) := by decide +kernel
theorem dX4_takeAndLay_53 : decode cX4_takeAndLay 53 = .ok (.laload, 1) := by decide +kernel
theorem dX4_takeAndLay_54 : decode cX4_takeAndLay 54 = .ok (.lor, 1) := by decide +kernel
theorem dX4_takeAndLay_55 : decode cX4_takeAndLay 55 = .ok (.lstore 5, 2) := by decide +kernel
theorem dX4_takeAndLay_57 : decode cX4_takeAndLay 57 = .ok (.aload_n 0, 1) := by decide +kernel
theorem dX4_takeAndLay_58 : decode cX4_takeAndLay 58 = .ok (.getfield 11, 3) := by decide +kernel
theorem dX4_takeAndLay_61 : decode cX4_takeAndLay 61 = .ok (.iload_n 3, 1) := by decide +kernel
theorem dX4_takeAndLay_62 : decode cX4_takeAndLay 62 = .ok (.lload 5, 2) := by decide +kernel
theorem dX4_takeAndLay_64 : decode cX4_takeAndLay 64 = .ok (.lastore, 1) := by decide +kernel
theorem dX4_takeAndLay_65 : decode cX4_takeAndLay 65 = .ok (.aload_n 0, 1) := by decide +kernel
theorem dX4_takeAndLay_66 : decode cX4_takeAndLay 66 = .ok (.getfield 11, 3) := by decide +kernel
theorem dX4_takeAndLay_69 : decode cX4_takeAndLay 69 = .ok (.iload 4, 2) := by decide +kernel
theorem dX4_takeAndLay_71 : decode cX4_takeAndLay 71 = .ok (.lload 5, 2) := by decide +kernel
theorem dX4_takeAndLay_73 : decode cX4_takeAndLay 73 = .ok (.lastore, 1) := by decide +kernel
theorem dX4_takeAndLay_74 : decode cX4_takeAndLay 74 = .ok (.return_, 1) := by decide +kernel
theorem dX4_goOn_0 : decode cX4_goOn 0 = .ok (.iload_n 1, 1) := by decide +kernel
theorem dX4_goOn_1 : decode cX4_goOn 1 = .ok (.bipush 8, 2) := by decide +kernel
theorem dX4_goOn_3 : decode cX4_goOn 3 = .ok (.idiv, 1) := by decide +kernel
theorem dX4_goOn_4 : decode cX4_goOn 4 = .ok (.istore 5, 2) := by decide +kernel
theorem dX4_goOn_6 : decode cX4_goOn 6 = .ok (.iload_n 1, 1) := by decide +kernel
theorem dX4_goOn_7 : decode cX4_goOn 7 = .ok (.bipush 8, 2) := by decide +kernel
theorem dX4_goOn_9 : decode cX4_goOn 9 = .ok (.irem, 1) := by decide +kernel
theorem dX4_goOn_10 : decode cX4_goOn 10 = .ok (.istore 6, 2) := by decide +kernel
theorem dX4_goOn_12 : decode cX4_goOn 12 = .ok (.iconst 0, 1) := by decide +kernel
theorem dX4_goOn_13 : decode cX4_goOn 13 = .ok (.istore 7, 2) := by decide +kernel
theorem dX4_goOn_15 : decode cX4_goOn 15 = .ok (.iload 7, 2) := by decide +kernel
theorem dX4_goOn_17 : decode cX4_goOn 17 = .ok (.aload_n 0, 1) := by decide +kernel
theorem dX4_goOn_18 : decode cX4_goOn 18 = .ok (.getfield 18, 3) := by decide +kernel
theorem dX4_goOn_21 : decode cX4_goOn 21 = .ok (.getfield 85, 3) := by decide +kernel
theorem dX4_goOn_24 : decode cX4_goOn 24 = .ok (.if_icmp .ge 143, 3) := by decide +kernel
theorem dX4_goOn_27 : decode cX4_goOn 27 = .ok (.aload_n 0, 1) := by decide +kernel
theorem dX4_goOn_28 : decode cX4_goOn 28 = .ok (.getfield 18, 3) := by decide +kernel
theorem dX4_goOn_31 : decode cX4_goOn 31 = .ok (.iload 7, 2) := by decide +kernel
theorem dX4_goOn_33 : decode cX4_goOn 33 = .ok (.iload 5, 2) := by decide +kernel
theorem dX4_goOn_35 : decode cX4_goOn 35 = .ok (.invokevirtual 88, 3) := by decide +kernel
theorem dX4_goOn_38 : decode cX4_goOn 38 = .ok (.istore 8, 2) := by decide +kernel
theorem dX4_goOn_40 : decode cX4_goOn 40 = .ok (.aload_n 0, 1) := by decide +kernel
theorem dX4_goOn_41 : decode cX4_goOn 41 = .ok (.getfield 72, 3) := by decide +kernel
theorem dX4_goOn_44 : decode cX4_goOn 44 = .ok (.iload 7, 2) := by decide +kernel
theorem dX4_goOn_46 : decode cX4_goOn 46 = .ok (.ishr, 1) := by decide +kernel
theorem dX4_goOn_47 : decode cX4_goOn 47 = .ok (.iconst 1, 1) := by decide +kernel
theorem dX4_goOn_48 : decode cX4_goOn 48 = .ok (.iand, 1) := by decide +kernel
theorem dX4_goOn_49 : decode cX4_goOn 49 = .ok (.ifCond .eq 112, 3) := by decide +kernel
theorem dX4_goOn_52 : decode cX4_goOn 52 = .ok (.iload 8, 2) := by decide +kernel
theorem dX4_goOn_54 : decode cX4_goOn 54 = .ok (.ldc 45, 2) := by decide +kernel
theorem dX4_goOn_56 : decode cX4_goOn 56 = .ok (.if_icmp .ne 6, 3) := by decide +kernel
theorem dX4_goOn_59 : decode cX4_goOn 59 = .ok (.goto 102, 3) := by decide +kernel
theorem dX4_goOn_62 : decode cX4_goOn 62 = .ok (.iload 8, 2) := by decide +kernel
theorem dX4_goOn_64 : decode cX4_goOn 64 = .ok (.bipush 8, 2) := by decide +kernel
theorem dX4_goOn_66 : decode cX4_goOn 66 = .ok (.imul, 1) := by decide +kernel
theorem dX4_goOn_67 : decode cX4_goOn 67 = .ok (.iload 6, 2) := by decide +kernel
theorem dX4_goOn_69 : decode cX4_goOn 69 = .ok (.iadd, 1) := by decide +kernel
theorem dX4_goOn_70 : decode cX4_goOn 70 = .ok (.istore 9, 2) := by decide +kernel
theorem dX4_goOn_72 : decode cX4_goOn 72 = .ok (.aload_n 0, 1) := by decide +kernel
theorem dX4_goOn_73 : decode cX4_goOn 73 = .ok (.iload 7, 2) := by decide +kernel
theorem dX4_goOn_75 : decode cX4_goOn 75 = .ok (.iload 6, 2) := by decide +kernel
theorem dX4_goOn_77 : decode cX4_goOn 77 = .ok (.bipush 6, 2) := by decide +kernel
theorem dX4_goOn_79 : decode cX4_goOn 79 = .ok (.if_icmp .ne 7, 3) := by decide +kernel
theorem dX4_goOn_82 : decode cX4_goOn 82 = .ok (.iconst 1, 1) := by decide +kernel
theorem dX4_goOn_83 : decode cX4_goOn 83 = .ok (.goto 4, 3) := by decide +kernel
theorem dX4_goOn_86 : decode cX4_goOn 86 = .ok (.iconst 0, 1) := by decide +kernel
theorem dX4_goOn_87 : decode cX4_goOn 87 = .ok (.lload_n 2, 1) := by decide +kernel
theorem dX4_goOn_88 : decode cX4_goOn 88 = .ok (.invokevirtual 92, 3) := by decide +kernel
theorem dX4_goOn_91 : decode cX4_goOn 91 = .ok (.aload_n 0, 1) := by decide +kernel
theorem dX4_goOn_92 : decode cX4_goOn 92 = .ok (.getfield 15, 3) := by decide +kernel
theorem dX4_goOn_95 : decode cX4_goOn 95 = .ok (.iload 9, 2) := by decide +kernel
theorem dX4_goOn_97 : decode cX4_goOn 97 = .ok (.laload, 1) := by decide +kernel
theorem dX4_goOn_98 : decode cX4_goOn 98 = .ok (.ldc2_w 49, 3) := by decide +kernel
theorem dX4_goOn_101 : decode cX4_goOn 101 = .ok (.lxor, 1) := by decide +kernel
theorem dX4_goOn_102 : decode cX4_goOn 102 = .ok (.land, 1) := by decide +kernel
theorem dX4_goOn_103 : decode cX4_goOn 103 = .ok (.lstore 10, 2) := by decide +kernel
theorem dX4_goOn_105 : decode cX4_goOn 105 = .ok (.lload 10, 2) := by decide +kernel
theorem dX4_goOn_107 : decode cX4_goOn 107 = .ok (.lconst 0, 1) := by decide +kernel
theorem dX4_goOn_108 : decode cX4_goOn 108 = .ok (.lcmp, 1) := by decide +kernel
theorem dX4_goOn_109 : decode cX4_goOn 109 = .ok (.ifCond .eq 52, 3) := by decide +kernel
theorem dX4_goOn_112 : decode cX4_goOn 112 = .ok (.iload 4, 2) := by decide +kernel
theorem dX4_goOn_114 : decode cX4_goOn 114 = .ok (.aload_n 0, 1) := by decide +kernel
theorem dX4_goOn_115 : decode cX4_goOn 115 = .ok (.getfield 18, 3) := by decide +kernel
theorem dX4_goOn_118 : decode cX4_goOn 118 = .ok (.getfield 96, 3) := by decide +kernel
theorem dX4_goOn_121 : decode cX4_goOn 121 = .ok (.iload 7, 2) := by decide +kernel
theorem dX4_goOn_123 : decode cX4_goOn 123 = .ok (.iaload, 1) := by decide +kernel
theorem dX4_goOn_124 : decode cX4_goOn 124 = .ok (.iadd, 1) := by decide +kernel
theorem dX4_goOn_125 : decode cX4_goOn 125 = .ok (.istore 12, 2) := by decide +kernel
theorem dX4_goOn_127 : decode cX4_goOn 127 = .ok (.aload_n 0, 1) := by decide +kernel
theorem dX4_goOn_128 : decode cX4_goOn 128 = .ok (.getfield 11, 3) := by decide +kernel
theorem dX4_goOn_131 : decode cX4_goOn 131 = .ok (.iload 12, 2) := by decide +kernel
theorem dX4_goOn_133 : decode cX4_goOn 133 = .ok (.bipush 10, 2) := by decide +kernel
theorem dX4_goOn_135 : decode cX4_goOn 135 = .ok (.irem, 1) := by decide +kernel
theorem dX4_goOn_136 : decode cX4_goOn 136 = .ok (.bipush 48, 2) := by decide +kernel
theorem dX4_goOn_138 : decode cX4_goOn 138 = .ok (.imul, 1) := by decide +kernel
theorem dX4_goOn_139 : decode cX4_goOn 139 = .ok (.iload 9, 2) := by decide +kernel
theorem dX4_goOn_141 : decode cX4_goOn 141 = .ok (.iadd, 1) := by decide +kernel
theorem dX4_goOn_142 : decode cX4_goOn 142 = .ok (.dup2, 1) := by decide +kernel
theorem dX4_goOn_143 : decode cX4_goOn 143 = .ok (.laload, 1) := by decide +kernel
theorem dX4_goOn_144 : decode cX4_goOn 144 = .ok (.lload 10, 2) := by decide +kernel
theorem dX4_goOn_146 : decode cX4_goOn 146 = .ok (.lor, 1) := by decide +kernel
theorem dX4_goOn_147 : decode cX4_goOn 147 = .ok (.lastore, 1) := by decide +kernel
theorem dX4_goOn_148 : decode cX4_goOn 148 = .ok (.aload_n 0, 1) := by decide +kernel
theorem dX4_goOn_149 : decode cX4_goOn 149 = .ok (.aload_n 0, 1) := by decide +kernel
theorem dX4_goOn_150 : decode cX4_goOn 150 = .ok (.getfield 75, 3) := by decide +kernel
theorem dX4_goOn_153 : decode cX4_goOn 153 = .ok (.iload 12, 2) := by decide +kernel
theorem dX4_goOn_155 : decode cX4_goOn 155 = .ok (.invokestatic 99, 3) := by decide +kernel
theorem dX4_goOn_158 : decode cX4_goOn 158 = .ok (.putfield 75, 3) := by decide +kernel
theorem dX4_goOn_161 : decode cX4_goOn 161 = .ok (.iinc 7 1, 3) := by decide +kernel
theorem dX4_goOn_164 : decode cX4_goOn 164 = .ok (.goto (-149), 3) := by decide +kernel
theorem dX4_goOn_167 : decode cX4_goOn 167 = .ok (.return_, 1) := by decide +kernel
theorem dX4_setsBehind_0 : decode cX4_setsBehind 0 = .ok (.aload_n 0, 1) := by decide +kernel
theorem dX4_setsBehind_1 : decode cX4_setsBehind 1 = .ok (.getfield 18, 3) := by decide +kernel
theorem dX4_setsBehind_4 : decode cX4_setsBehind 4 = .ok (.getfield 104, 3) := by decide +kernel
theorem dX4_setsBehind_7 : decode cX4_setsBehind 7 = .ok (.iload_n 1, 1) := by decide +kernel
theorem dX4_setsBehind_8 : decode cX4_setsBehind 8 = .ok (.iaload, 1) := by decide +kernel
theorem dX4_setsBehind_9 : decode cX4_setsBehind 9 = .ok (.tableswitch 49 3 5 #[27, 29, 39], 27) := by decide +kernel
theorem dX4_setsBehind_36 : decode cX4_setsBehind 36 = .ok (.lload_n 3, 1) := by decide +kernel
theorem dX4_setsBehind_37 : decode cX4_setsBehind 37 = .ok (.lreturn, 1) := by decide +kernel
theorem dX4_setsBehind_38 : decode cX4_setsBehind 38 = .ok (.iload_n 2, 1) := by decide +kernel
theorem dX4_setsBehind_39 : decode cX4_setsBehind 39 = .ok (.ifCond .eq 7, 3) := by decide +kernel
theorem dX4_setsBehind_42 : decode cX4_setsBehind 42 = .ok (.lconst 0, 1) := by decide +kernel
theorem dX4_setsBehind_43 : decode cX4_setsBehind 43 = .ok (.goto 4, 3) := by decide +kernel
theorem dX4_setsBehind_46 : decode cX4_setsBehind 46 = .ok (.lload_n 3, 1) := by decide +kernel
theorem dX4_setsBehind_47 : decode cX4_setsBehind 47 = .ok (.lreturn, 1) := by decide +kernel
theorem dX4_setsBehind_48 : decode cX4_setsBehind 48 = .ok (.iload_n 2, 1) := by decide +kernel
theorem dX4_setsBehind_49 : decode cX4_setsBehind 49 = .ok (.ifCond .eq 7, 3) := by decide +kernel
theorem dX4_setsBehind_52 : decode cX4_setsBehind 52 = .ok (.lload_n 3, 1) := by decide +kernel
theorem dX4_setsBehind_53 : decode cX4_setsBehind 53 = .ok (.goto 4, 3) := by decide +kernel
theorem dX4_setsBehind_56 : decode cX4_setsBehind 56 = .ok (.lconst 0, 1) := by decide +kernel
theorem dX4_setsBehind_57 : decode cX4_setsBehind 57 = .ok (.lreturn, 1) := by decide +kernel
theorem dX4_setsBehind_58 : decode cX4_setsBehind 58 = .ok (.iload_n 2, 1) := by decide +kernel
theorem dX4_setsBehind_59 : decode cX4_setsBehind 59 = .ok (.ifCond .eq 17, 3) := by decide +kernel
theorem dX4_setsBehind_62 : decode cX4_setsBehind 62 = .ok (.lload_n 3, 1) := by decide +kernel
theorem dX4_setsBehind_63 : decode cX4_setsBehind 63 = .ok (.getstatic 107, 3) := by decide +kernel
theorem dX4_setsBehind_66 : decode cX4_setsBehind 66 = .ok (.iload_n 1, 1) := by decide +kernel
theorem dX4_setsBehind_67 : decode cX4_setsBehind 67 = .ok (.laload, 1) := by decide +kernel
theorem dX4_setsBehind_68 : decode cX4_setsBehind 68 = .ok (.land, 1) := by decide +kernel
theorem dX4_setsBehind_69 : decode cX4_setsBehind 69 = .ok (.iconst 1, 1) := by decide +kernel
theorem dX4_setsBehind_70 : decode cX4_setsBehind 70 = .ok (.iload_n 1, 1) := by decide +kernel
theorem dX4_setsBehind_71 : decode cX4_setsBehind 71 = .ok (.ishl, 1) := by decide +kernel
theorem dX4_setsBehind_72 : decode cX4_setsBehind 72 = .ok (.lushr, 1) := by decide +kernel
theorem dX4_setsBehind_73 : decode cX4_setsBehind 73 = .ok (.goto 18, 3) := by decide +kernel
theorem dX4_setsBehind_76 : decode cX4_setsBehind 76 = .ok (.lload_n 3, 1) := by decide +kernel
theorem dX4_setsBehind_77 : decode cX4_setsBehind 77 = .ok (.getstatic 107, 3) := by decide +kernel
theorem dX4_setsBehind_80 : decode cX4_setsBehind 80 = .ok (.iload_n 1, 1) := by decide +kernel
theorem dX4_setsBehind_81 : decode cX4_setsBehind 81 = .ok (.laload, 1) := by decide +kernel
theorem dX4_setsBehind_82 : decode cX4_setsBehind 82 = .ok (.ldc2_w 49, 3) := by decide +kernel
theorem dX4_setsBehind_85 : decode cX4_setsBehind 85 = .ok (.lxor, 1) := by decide +kernel
theorem dX4_setsBehind_86 : decode cX4_setsBehind 86 = .ok (.land, 1) := by decide +kernel
theorem dX4_setsBehind_87 : decode cX4_setsBehind 87 = .ok (.iconst 1, 1) := by decide +kernel
theorem dX4_setsBehind_88 : decode cX4_setsBehind 88 = .ok (.iload_n 1, 1) := by decide +kernel
theorem dX4_setsBehind_89 : decode cX4_setsBehind 89 = .ok (.ishl, 1) := by decide +kernel
theorem dX4_setsBehind_90 : decode cX4_setsBehind 90 = .ok (.lshl, 1) := by decide +kernel
theorem dX4_setsBehind_91 : decode cX4_setsBehind 91 = .ok (.lreturn, 1) := by decide +kernel
theorem dX5_init_0 : decode cX5_init 0 = .ok (.aload_n 0, 1) := by decide +kernel
theorem dX5_init_1 : decode cX5_init 1 = .ok (.invokespecial 3, 3) := by decide +kernel
theorem dX5_init_4 : decode cX5_init 4 = .ok (.aload_n 0, 1) := by decide +kernel
theorem dX5_init_5 : decode cX5_init 5 = .ok (.iconst 3, 1) := by decide +kernel
theorem dX5_init_6 : decode cX5_init 6 = .ok (.newarray .int, 2) := by decide +kernel
theorem dX5_init_8 : decode cX5_init 8 = .ok (.putfield 9, 3) := by decide +kernel
theorem dX5_init_11 : decode cX5_init 11 = .ok (.aload_n 0, 1) := by decide +kernel
theorem dX5_init_12 : decode cX5_init 12 = .ok (.iconst 3, 1) := by decide +kernel
theorem dX5_init_13 : decode cX5_init 13 = .ok (.newarray .int, 2) := by decide +kernel
theorem dX5_init_15 : decode cX5_init 15 = .ok (.putfield 15, 3) := by decide +kernel
theorem dX5_init_18 : decode cX5_init 18 = .ok (.aload_n 0, 1) := by decide +kernel
theorem dX5_init_19 : decode cX5_init 19 = .ok (.iconst 3, 1) := by decide +kernel
theorem dX5_init_20 : decode cX5_init 20 = .ok (.newarray .int, 2) := by decide +kernel
theorem dX5_init_22 : decode cX5_init 22 = .ok (.putfield 18, 3) := by decide +kernel
theorem dX5_init_25 : decode cX5_init 25 = .ok (.aload_n 0, 1) := by decide +kernel
theorem dX5_init_26 : decode cX5_init 26 = .ok (.iconst 4, 1) := by decide +kernel
theorem dX5_init_27 : decode cX5_init 27 = .ok (.newarray .int, 2) := by decide +kernel
theorem dX5_init_29 : decode cX5_init 29 = .ok (.putfield 21, 3) := by decide +kernel
theorem dX5_init_32 : decode cX5_init 32 = .ok (.return_, 1) := by decide +kernel
theorem dX5_become_0 : decode cX5_become 0 = .ok (.aload_n 1, 1) := by decide +kernel
theorem dX5_become_1 : decode cX5_become 1 = .ok (.getfield 9, 3) := by decide +kernel
theorem dX5_become_4 : decode cX5_become 4 = .ok (.iconst 0, 1) := by decide +kernel
theorem dX5_become_5 : decode cX5_become 5 = .ok (.aload_n 0, 1) := by decide +kernel
theorem dX5_become_6 : decode cX5_become 6 = .ok (.getfield 9, 3) := by decide +kernel
theorem dX5_become_9 : decode cX5_become 9 = .ok (.iconst 0, 1) := by decide +kernel
theorem dX5_become_10 : decode cX5_become 10 = .ok (.iconst 3, 1) := by decide +kernel
theorem dX5_become_11 : decode cX5_become 11 = .ok (.invokestatic 24, 3) := by decide +kernel
theorem dX5_become_14 : decode cX5_become 14 = .ok (.aload_n 1, 1) := by decide +kernel
theorem dX5_become_15 : decode cX5_become 15 = .ok (.getfield 15, 3) := by decide +kernel
theorem dX5_become_18 : decode cX5_become 18 = .ok (.iconst 0, 1) := by decide +kernel
theorem dX5_become_19 : decode cX5_become 19 = .ok (.aload_n 0, 1) := by decide +kernel
theorem dX5_become_20 : decode cX5_become 20 = .ok (.getfield 15, 3) := by decide +kernel
theorem dX5_become_23 : decode cX5_become 23 = .ok (.iconst 0, 1) := by decide +kernel
theorem dX5_become_24 : decode cX5_become 24 = .ok (.iconst 3, 1) := by decide +kernel
theorem dX5_become_25 : decode cX5_become 25 = .ok (.invokestatic 24, 3) := by decide +kernel
theorem dX5_become_28 : decode cX5_become 28 = .ok (.aload_n 1, 1) := by decide +kernel
theorem dX5_become_29 : decode cX5_become 29 = .ok (.getfield 18, 3) := by decide +kernel
theorem dX5_become_32 : decode cX5_become 32 = .ok (.iconst 0, 1) := by decide +kernel
theorem dX5_become_33 : decode cX5_become 33 = .ok (.aload_n 0, 1) := by decide +kernel
theorem dX5_become_34 : decode cX5_become 34 = .ok (.getfield 18, 3) := by decide +kernel
theorem dX5_become_37 : decode cX5_become 37 = .ok (.iconst 0, 1) := by decide +kernel
theorem dX5_become_38 : decode cX5_become 38 = .ok (.iconst 3, 1) := by decide +kernel
theorem dX5_become_39 : decode cX5_become 39 = .ok (.invokestatic 24, 3) := by decide +kernel
theorem dX5_become_42 : decode cX5_become 42 = .ok (.aload_n 1, 1) := by decide +kernel
theorem dX5_become_43 : decode cX5_become 43 = .ok (.getfield 21, 3) := by decide +kernel
theorem dX5_become_46 : decode cX5_become 46 = .ok (.iconst 0, 1) := by decide +kernel
theorem dX5_become_47 : decode cX5_become 47 = .ok (.aload_n 0, 1) := by decide +kernel
theorem dX5_become_48 : decode cX5_become 48 = .ok (.getfield 21, 3) := by decide +kernel
theorem dX5_become_51 : decode cX5_become 51 = .ok (.iconst 0, 1) := by decide +kernel
theorem dX5_become_52 : decode cX5_become 52 = .ok (.iconst 4, 1) := by decide +kernel
theorem dX5_become_53 : decode cX5_become 53 = .ok (.invokestatic 24, 3) := by decide +kernel
theorem dX5_become_56 : decode cX5_become 56 = .ok (.aload_n 0, 1) := by decide +kernel
theorem dX5_become_57 : decode cX5_become 57 = .ok (.aload_n 1, 1) := by decide +kernel
theorem dX5_become_58 : decode cX5_become 58 = .ok (.getfield 30, 3) := by decide +kernel
theorem dX5_become_61 : decode cX5_become 61 = .ok (.putfield 30, 3) := by decide +kernel
theorem dX5_become_64 : decode cX5_become 64 = .ok (.aload_n 0, 1) := by decide +kernel
theorem dX5_become_65 : decode cX5_become 65 = .ok (.aload_n 1, 1) := by decide +kernel
theorem dX5_become_66 : decode cX5_become 66 = .ok (.getfield 34, 3) := by decide +kernel
theorem dX5_become_69 : decode cX5_become 69 = .ok (.putfield 34, 3) := by decide +kernel
theorem dX5_become_72 : decode cX5_become 72 = .ok (.aload_n 0, 1) := by decide +kernel
theorem dX5_become_73 : decode cX5_become 73 = .ok (.aload_n 1, 1) := by decide +kernel
theorem dX5_become_74 : decode cX5_become 74 = .ok (.getfield 37, 3) := by decide +kernel
theorem dX5_become_77 : decode cX5_become 77 = .ok (.putfield 37, 3) := by decide +kernel
theorem dX5_become_80 : decode cX5_become 80 = .ok (.return_, 1) := by decide +kernel
theorem dX6_init_0 : decode cX6_init 0 = .ok (.aload_n 0, 1) := by decide +kernel
theorem dX6_init_1 : decode cX6_init 1 = .ok (.invokespecial 3, 3) := by decide +kernel
theorem dX6_init_4 : decode cX6_init 4 = .ok (.aload_n 0, 1) := by decide +kernel
theorem dX6_init_5 : decode cX6_init 5 = .ok (.sipush 400, 3) := by decide +kernel
theorem dX6_init_8 : decode cX6_init 8 = .ok (.newarray .byte, 2) := by decide +kernel
theorem dX6_init_10 : decode cX6_init 10 = .ok (.putfield 9, 3) := by decide +kernel
theorem dX6_init_13 : decode cX6_init 13 = .ok (.aload_n 0, 1) := by decide +kernel
theorem dX6_init_14 : decode cX6_init 14 = .ok (.new 15, 3) := by decide +kernel
theorem dX6_init_17 : decode cX6_init 17 = .ok (.dup, 1) := by decide +kernel
theorem dX6_init_18 : decode cX6_init 18 = .ok (.invokespecial 17, 3) := by decide +kernel
theorem dX6_init_21 : decode cX6_init 21 = .ok (.putfield 18, 3) := by decide +kernel
theorem dX6_init_24 : decode cX6_init 24 = .ok (.return_, 1) := by decide +kernel
theorem dX6_add_0 : decode cX6_add 0 = .ok (.aload_n 0, 1) := by decide +kernel
theorem dX6_add_1 : decode cX6_add 1 = .ok (.getfield 22, 3) := by decide +kernel
theorem dX6_add_4 : decode cX6_add 4 = .ok (.sipush 400, 3) := by decide +kernel
theorem dX6_add_7 : decode cX6_add 7 = .ok (.if_icmp .ge 23, 3) := by decide +kernel
theorem dX6_add_10 : decode cX6_add 10 = .ok (.aload_n 0, 1) := by decide +kernel
theorem dX6_add_11 : decode cX6_add 11 = .ok (.getfield 9, 3) := by decide +kernel
theorem dX6_add_14 : decode cX6_add 14 = .ok (.aload_n 0, 1) := by decide +kernel
theorem dX6_add_15 : decode cX6_add 15 = .ok (.getfield 22, 3) := by decide +kernel
theorem dX6_add_18 : decode cX6_add 18 = .ok (.iload_n 1, 1) := by decide +kernel
theorem dX6_add_19 : decode cX6_add 19 = .ok (.bastore, 1) := by decide +kernel
theorem dX6_add_20 : decode cX6_add 20 = .ok (.aload_n 0, 1) := by decide +kernel
theorem dX6_add_21 : decode cX6_add 21 = .ok (.dup, 1) := by decide +kernel
theorem dX6_add_22 : decode cX6_add 22 = .ok (.getfield 22, 3) := by decide +kernel
theorem dX6_add_25 : decode cX6_add 25 = .ok (.iconst 1, 1) := by decide +kernel
theorem dX6_add_26 : decode cX6_add 26 = .ok (.iadd, 1) := by decide +kernel
theorem dX6_add_27 : decode cX6_add 27 = .ok (.putfield 22, 3) := by decide +kernel
theorem dX6_add_30 : decode cX6_add 30 = .ok (.return_, 1) := by decide +kernel
theorem dX6_read_0 : decode cX6_read 0 = .ok (.aload_n 0, 1) := by decide +kernel
theorem dX6_read_1 : decode cX6_read 1 = .ok (.iconst 0, 1) := by decide +kernel
theorem dX6_read_2 : decode cX6_read 2 = .ok (.putfield 26, 3) := by decide +kernel
theorem dX6_read_5 : decode cX6_read 5 = .ok (.aload_n 0, 1) := by decide +kernel
theorem dX6_read_6 : decode cX6_read 6 = .ok (.invokevirtual 29, 3) := by decide +kernel
theorem dX6_read_9 : decode cX6_read 9 = .ok (.aload_n 0, 1) := by decide +kernel
theorem dX6_read_10 : decode cX6_read 10 = .ok (.invokevirtual 32, 3) := by decide +kernel
theorem dX6_read_13 : decode cX6_read 13 = .ok (.aload_n 0, 1) := by decide +kernel
theorem dX6_read_14 : decode cX6_read 14 = .ok (.ldc 35, 2) := by decide +kernel
theorem dX6_read_16 : decode cX6_read 16 = .ok (.invokevirtual 37, 3) := by decide +kernel
theorem dX6_read_19 : decode cX6_read 19 = .ok (.ifCond .ne 9, 3) := by decide +kernel
theorem dX6_read_22 : decode cX6_read 22 = .ok (.aload_n 0, 1) := by decide +kernel
theorem dX6_read_23 : decode cX6_read 23 = .ok (.iconst 1, 1) := by decide +kernel
theorem dX6_read_24 : decode cX6_read 24 = .ok (.invokevirtual 41, 3) := by decide +kernel
theorem dX6_read_27 : decode cX6_read 27 = .ok (.ireturn, 1) := by decide +kernel
theorem dX6_read_28 : decode cX6_read 28 = .ok (.iconst 0, 1) := by decide +kernel
theorem dX6_read_29 : decode cX6_read 29 = .ok (.istore_n 1, 1) := by decide +kernel
theorem dX6_read_30 : decode cX6_read 30 = .ok (.iload_n 1, 1) := by decide +kernel
theorem dX6_read_31 : decode cX6_read 31 = .ok (.bipush 6, 2) := by decide +kernel
theorem dX6_read_33 : decode cX6_read 33 = .ok (.if_icmp .gt 27, 3) := by decide +kernel
theorem dX6_read_36 : decode cX6_read 36 = .ok (.aload_n 0, 1) := by decide +kernel
theorem dX6_read_37 : decode cX6_read 37 = .ok (.ldc 35, 2) := by decide +kernel
theorem dX6_read_39 : decode cX6_read 39 = .ok (.invokevirtual 37, 3) := by decide +kernel
theorem dX6_read_42 : decode cX6_read 42 = .ok (.ifCond .eq 18, 3) := by decide +kernel
theorem dX6_read_45 : decode cX6_read 45 = .ok (.aload_n 0, 1) := by decide +kernel
theorem dX6_read_46 : decode cX6_read 46 = .ok (.invokevirtual 45, 3) := by decide +kernel
theorem dX6_read_49 : decode cX6_read 49 = .ok (.ifCond .ne 5, 3) := by decide +kernel
theorem dX6_read_52 : decode cX6_read 52 = .ok (.iconst 0, 1) := by decide +kernel
theorem dX6_read_53 : decode cX6_read 53 = .ok (.ireturn, 1) := by decide +kernel
theorem dX6_read_54 : decode cX6_read 54 = .ok (.iinc 1 1, 3) := by decide +kernel
theorem dX6_read_57 : decode cX6_read 57 = .ok (.goto (-27), 3) := by decide +kernel
theorem dX6_read_60 : decode cX6_read 60 = .ok (.aload_n 0, 1) := by decide +kernel
theorem dX6_read_61 : decode cX6_read 61 = .ok (.getfield 18, 3) := by decide +kernel
theorem dX6_read_64 : decode cX6_read 64 = .ok (.getfield 49, 3) := by decide +kernel
theorem dX6_read_67 : decode cX6_read 67 = .ok (.iconst 1, 1) := by decide +kernel
theorem dX6_read_68 : decode cX6_read 68 = .ok (.aload_n 0, 1) := by decide +kernel
theorem dX6_read_69 : decode cX6_read 69 = .ok (.getfield 18, 3) := by decide +kernel
theorem dX6_read_72 : decode cX6_read 72 = .ok (.getfield 53, 3) := by decide +kernel
theorem dX6_read_75 : decode cX6_read 75 = .ok (.ishl, 1) := by decide +kernel
theorem dX6_read_76 : decode cX6_read 76 = .ok (.iconst 1, 1) := by decide +kernel
theorem dX6_read_77 : decode cX6_read 77 = .ok (.isub, 1) := by decide +kernel
theorem dX6_read_78 : decode cX6_read 78 = .ok (.putfield 56, 3) := by decide +kernel
theorem dX6_read_81 : decode cX6_read 81 = .ok (.iconst 0, 1) := by decide +kernel
theorem dX6_read_82 : decode cX6_read 82 = .ok (.istore_n 1, 1) := by decide +kernel
theorem dX6_read_83 : decode cX6_read 83 = .ok (.iload_n 1, 1) := by decide +kernel
theorem dX6_read_84 : decode cX6_read 84 = .ok (.iconst 3, 1) := by decide +kernel
theorem dX6_read_85 : decode cX6_read 85 = .ok (.if_icmp .gt 27, 3) := by decide +kernel
theorem dX6_read_88 : decode cX6_read 88 = .ok (.aload_n 0, 1) := by decide +kernel
theorem dX6_read_89 : decode cX6_read 89 = .ok (.ldc 61, 2) := by decide +kernel
theorem dX6_read_91 : decode cX6_read 91 = .ok (.invokevirtual 37, 3) := by decide +kernel
theorem dX6_read_94 : decode cX6_read 94 = .ok (.ifCond .eq 18, 3) := by decide +kernel
theorem dX6_read_97 : decode cX6_read 97 = .ok (.aload_n 0, 1) := by decide +kernel
theorem dX6_read_98 : decode cX6_read 98 = .ok (.invokevirtual 63, 3) := by decide +kernel
theorem dX6_read_101 : decode cX6_read 101 = .ok (.ifCond .ne 5, 3) := by decide +kernel
theorem dX6_read_104 : decode cX6_read 104 = .ok (.iconst 0, 1) := by decide +kernel
theorem dX6_read_105 : decode cX6_read 105 = .ok (.ireturn, 1) := by decide +kernel
theorem dX6_read_106 : decode cX6_read 106 = .ok (.iinc 1 1, 3) := by decide +kernel
theorem dX6_read_109 : decode cX6_read 109 = .ok (.goto (-26), 3) := by decide +kernel
theorem dX6_read_112 : decode cX6_read 112 = .ok (.iconst 0, 1) := by decide +kernel
theorem dX6_read_113 : decode cX6_read 113 = .ok (.istore_n 1, 1) := by decide +kernel
theorem dX6_read_114 : decode cX6_read 114 = .ok (.iload_n 1, 1) := by decide +kernel
theorem dX6_read_115 : decode cX6_read 115 = .ok (.iconst 4, 1) := by decide +kernel
theorem dX6_read_116 : decode cX6_read 116 = .ok (.if_icmp .gt 27, 3) := by decide +kernel
theorem dX6_read_119 : decode cX6_read 119 = .ok (.aload_n 0, 1) := by decide +kernel
theorem dX6_read_120 : decode cX6_read 120 = .ok (.ldc 66, 2) := by decide +kernel
theorem dX6_read_122 : decode cX6_read 122 = .ok (.invokevirtual 37, 3) := by decide +kernel
theorem dX6_read_125 : decode cX6_read 125 = .ok (.ifCond .eq 18, 3) := by decide +kernel
theorem dX6_read_128 : decode cX6_read 128 = .ok (.aload_n 0, 1) := by decide +kernel
theorem dX6_read_129 : decode cX6_read 129 = .ok (.invokevirtual 68, 3) := by decide +kernel
theorem dX6_read_132 : decode cX6_read 132 = .ok (.ifCond .ne 5, 3) := by decide +kernel
theorem dX6_read_135 : decode cX6_read 135 = .ok (.iconst 0, 1) := by decide +kernel
theorem dX6_read_136 : decode cX6_read 136 = .ok (.ireturn, 1) := by decide +kernel
theorem dX6_read_137 : decode cX6_read 137 = .ok (.iinc 1 1, 3) := by decide +kernel
theorem dX6_read_140 : decode cX6_read 140 = .ok (.goto (-26), 3) := by decide +kernel
theorem dX6_read_143 : decode cX6_read 143 = .ok (.aload_n 0, 1) := by decide +kernel
theorem dX6_read_144 : decode cX6_read 144 = .ok (.getfield 71, 3) := by decide +kernel
theorem dX6_read_147 : decode cX6_read 147 = .ok (.ifCond .eq 11, 3) := by decide +kernel
theorem dX6_read_150 : decode cX6_read 150 = .ok (.aload_n 0, 1) := by decide +kernel
theorem dX6_read_151 : decode cX6_read 151 = .ok (.iconst 1, 1) := by decide +kernel
theorem dX6_read_152 : decode cX6_read 152 = .ok (.invokevirtual 41, 3) := by decide +kernel
theorem dX6_read_155 : decode cX6_read 155 = .ok (.ifCond .eq 7, 3) := by decide +kernel
theorem dX6_read_158 : decode cX6_read 158 = .ok (.iconst 1, 1) := by decide +kernel
theorem dX6_read_159 : decode cX6_read 159 = .ok (.goto 4, 3) := by decide +kernel
theorem dX6_read_162 : decode cX6_read 162 = .ok (.iconst 0, 1) := by decide +kernel
theorem dX6_read_163 : decode cX6_read 163 = .ok (.ireturn, 1) := by decide +kernel
theorem dX6_clearDraft_0 : decode cX6_clearDraft 0 = .ok (.aload_n 0, 1) := by decide +kernel
theorem dX6_clearDraft_1 : decode cX6_clearDraft 1 = .ok (.getfield 18, 3) := by decide +kernel
theorem dX6_clearDraft_4 : decode cX6_clearDraft 4 = .ok (.iconst 1, 1) := by decide +kernel
theorem dX6_clearDraft_5 : decode cX6_clearDraft 5 = .ok (.putfield 74, 3) := by decide +kernel
theorem dX6_clearDraft_8 : decode cX6_clearDraft 8 = .ok (.aload_n 0, 1) := by decide +kernel
theorem dX6_clearDraft_9 : decode cX6_clearDraft 9 = .ok (.getfield 18, 3) := by decide +kernel
theorem dX6_clearDraft_12 : decode cX6_clearDraft 12 = .ok (.iconst 0, 1) := by decide +kernel
theorem dX6_clearDraft_13 : decode cX6_clearDraft 13 = .ok (.putfield 53, 3) := by decide +kernel
theorem dX6_clearDraft_16 : decode cX6_clearDraft 16 = .ok (.aload_n 0, 1) := by decide +kernel
theorem dX6_clearDraft_17 : decode cX6_clearDraft 17 = .ok (.getfield 18, 3) := by decide +kernel
theorem dX6_clearDraft_20 : decode cX6_clearDraft 20 = .ok (.iconst 0, 1) := by decide +kernel
theorem dX6_clearDraft_21 : decode cX6_clearDraft 21 = .ok (.putfield 78, 3) := by decide +kernel
theorem dX6_clearDraft_24 : decode cX6_clearDraft 24 = .ok (.aload_n 0, 1) := by decide +kernel
theorem dX6_clearDraft_25 : decode cX6_clearDraft 25 = .ok (.getfield 18, 3) := by decide +kernel
theorem dX6_clearDraft_28 : decode cX6_clearDraft 28 = .ok (.iconst 0, 1) := by decide +kernel
theorem dX6_clearDraft_29 : decode cX6_clearDraft 29 = .ok (.putfield 81, 3) := by decide +kernel
theorem dX6_clearDraft_32 : decode cX6_clearDraft 32 = .ok (.return_, 1) := by decide +kernel
theorem dX6_readCrossing_0 : decode cX6_readCrossing 0 = .ok (.aload_n 0, 1) := by decide +kernel
theorem dX6_readCrossing_1 : decode cX6_readCrossing 1 = .ok (.getfield 18, 3) := by decide +kernel
theorem dX6_readCrossing_4 : decode cX6_readCrossing 4 = .ok (.getfield 53, 3) := by decide +kernel
theorem dX6_readCrossing_7 : decode cX6_readCrossing 7 = .ok (.istore_n 1, 1) := by decide +kernel
theorem dX6_readCrossing_8 : decode cX6_readCrossing 8 = .ok (.iload_n 1, 1) := by decide +kernel
theorem dX6_readCrossing_9 : decode cX6_readCrossing 9 = .ok (.bipush 6, 2) := by decide +kernel
theorem dX6_readCrossing_11 : decode cX6_readCrossing 11 = .ok (.if_icmp .lt 9, 3) := by decide +kernel
theorem dX6_readCrossing_14 : decode cX6_readCrossing 14 = .ok (.aload_n 0, 1) := by decide +kernel
theorem dX6_readCrossing_15 : decode cX6_readCrossing 15 = .ok (.iconst 3, 1) := by decide +kernel
theorem dX6_readCrossing_16 : decode cX6_readCrossing 16 = .ok (.invokevirtual 41, 3) := by decide +kernel
theorem dX6_readCrossing_19 : decode cX6_readCrossing 19 = .ok (.ireturn, 1) := by decide +kernel
theorem dX6_readCrossing_20 : decode cX6_readCrossing 20 = .ok (.aload_n 0, 1) := by decide +kernel
theorem dX6_readCrossing_21 : decode cX6_readCrossing 21 = .ok (.invokevirtual 32, 3) := by decide +kernel
theorem dX6_readCrossing_24 : decode cX6_readCrossing 24 = .ok (.aload_n 0, 1) := by decide +kernel
theorem dX6_readCrossing_25 : decode cX6_readCrossing 25 = .ok (.getfield 18, 3) := by decide +kernel
theorem dX6_readCrossing_28 : decode cX6_readCrossing 28 = .ok (.getfield 84, 3) := by decide +kernel
theorem dX6_readCrossing_31 : decode cX6_readCrossing 31 = .ok (.iload_n 1, 1) := by decide +kernel
theorem dX6_readCrossing_32 : decode cX6_readCrossing 32 = .ok (.aload_n 0, 1) := by decide +kernel
theorem dX6_readCrossing_33 : decode cX6_readCrossing 33 = .ok (.invokevirtual 88, 3) := by decide +kernel
theorem dX6_readCrossing_36 : decode cX6_readCrossing 36 = .ok (.iastore, 1) := by decide +kernel
theorem dX6_readCrossing_37 : decode cX6_readCrossing 37 = .ok (.aload_n 0, 1) := by decide +kernel
theorem dX6_readCrossing_38 : decode cX6_readCrossing 38 = .ok (.getfield 18, 3) := by decide +kernel
theorem dX6_readCrossing_41 : decode cX6_readCrossing 41 = .ok (.getfield 84, 3) := by decide +kernel
theorem dX6_readCrossing_44 : decode cX6_readCrossing 44 = .ok (.iload_n 1, 1) := by decide +kernel
theorem dX6_readCrossing_45 : decode cX6_readCrossing 45 = .ok (.iaload, 1) := by decide +kernel
theorem dX6_readCrossing_46 : decode cX6_readCrossing 46 = .ok (.ifCond .ne 9, 3) := by decide +kernel
theorem dX6_readCrossing_49 : decode cX6_readCrossing 49 = .ok (.aload_n 0, 1) := by decide +kernel
theorem dX6_readCrossing_50 : decode cX6_readCrossing 50 = .ok (.iconst 1, 1) := by decide +kernel
theorem dX6_readCrossing_51 : decode cX6_readCrossing 51 = .ok (.invokevirtual 41, 3) := by decide +kernel
theorem dX6_readCrossing_54 : decode cX6_readCrossing 54 = .ok (.ireturn, 1) := by decide +kernel
theorem dX6_readCrossing_55 : decode cX6_readCrossing 55 = .ok (.aload_n 0, 1) := by decide +kernel
theorem dX6_readCrossing_56 : decode cX6_readCrossing 56 = .ok (.iconst 0, 1) := by decide +kernel
theorem dX6_readCrossing_57 : decode cX6_readCrossing 57 = .ok (.iconst 5, 1) := by decide +kernel
theorem dX6_readCrossing_58 : decode cX6_readCrossing 58 = .ok (.invokevirtual 92, 3) := by decide +kernel
theorem dX6_readCrossing_61 : decode cX6_readCrossing 61 = .ok (.ifCond .ne 5, 3) := by decide +kernel
theorem dX6_readCrossing_64 : decode cX6_readCrossing 64 = .ok (.iconst 0, 1) := by decide +kernel
theorem dX6_readCrossing_65 : decode cX6_readCrossing 65 = .ok (.ireturn, 1) := by decide +kernel
theorem dX6_readCrossing_66 : decode cX6_readCrossing 66 = .ok (.aload_n 0, 1) := by decide +kernel
theorem dX6_readCrossing_67 : decode cX6_readCrossing 67 = .ok (.getfield 18, 3) := by decide +kernel
theorem dX6_readCrossing_70 : decode cX6_readCrossing 70 = .ok (.getfield 96, 3) := by decide +kernel
theorem dX6_readCrossing_73 : decode cX6_readCrossing 73 = .ok (.iload_n 1, 1) := by decide +kernel
theorem dX6_readCrossing_74 : decode cX6_readCrossing 74 = .ok (.aload_n 0, 1) := by decide +kernel
theorem dX6_readCrossing_75 : decode cX6_readCrossing 75 = .ok (.getfield 99, 3) := by decide +kernel
theorem dX6_readCrossing_78 : decode cX6_readCrossing 78 = .ok (.iastore, 1) := by decide +kernel
theorem dX6_readCrossing_79 : decode cX6_readCrossing 79 = .ok (.aload_n 0, 1) := by decide +kernel
theorem dX6_readCrossing_80 : decode cX6_readCrossing 80 = .ok (.iconst 0, 1) := by decide +kernel
theorem dX6_readCrossing_81 : decode cX6_readCrossing 81 = .ok (.iconst 5, 1) := by decide +kernel
theorem dX6_readCrossing_82 : decode cX6_readCrossing 82 = .ok (.invokevirtual 92, 3) := by decide +kernel
theorem dX6_readCrossing_85 : decode cX6_readCrossing 85 = .ok (.ifCond .ne 5, 3) := by decide +kernel
theorem dX6_readCrossing_88 : decode cX6_readCrossing 88 = .ok (.iconst 0, 1) := by decide +kernel
theorem dX6_readCrossing_89 : decode cX6_readCrossing 89 = .ok (.ireturn, 1) := by decide +kernel
theorem dX6_readCrossing_90 : decode cX6_readCrossing 90 = .ok (.aload_n 0, 1) := by decide +kernel
theorem dX6_readCrossing_91 : decode cX6_readCrossing 91 = .ok (.getfield 99, 3) := by decide +kernel
theorem dX6_readCrossing_94 : decode cX6_readCrossing 94 = .ok (.aload_n 0, 1) := by decide +kernel
theorem dX6_readCrossing_95 : decode cX6_readCrossing 95 = .ok (.getfield 18, 3) := by decide +kernel
theorem dX6_readCrossing_98 : decode cX6_readCrossing 98 = .ok (.getfield 96, 3) := by decide +kernel
theorem dX6_readCrossing_101 : decode cX6_readCrossing 101 = .ok (.iload_n 1, 1) := by decide +kernel
theorem dX6_readCrossing_102 : decode cX6_readCrossing 102 = .ok (.iaload, 1) := by decide +kernel
theorem dX6_readCrossing_103 : decode cX6_readCrossing 103 = .ok (.if_icmp .ne 9, 3) := by decide +kernel
theorem dX6_readCrossing_106 : decode cX6_readCrossing 106 = .ok (.aload_n 0, 1) := by decide +kernel
theorem dX6_readCrossing_107 : decode cX6_readCrossing 107 = .ok (.iconst 2, 1) := by decide +kernel
theorem dX6_readCrossing_108 : decode cX6_readCrossing 108 = .ok (.invokevirtual 41, 3) := by decide +kernel
theorem dX6_readCrossing_111 : decode cX6_readCrossing 111 = .ok (.ireturn, 1) := by decide +kernel
theorem dX6_readCrossing_112 : decode cX6_readCrossing 112 = .ok (.aload_n 0, 1) := by decide +kernel
theorem dX6_readCrossing_113 : decode cX6_readCrossing 113 = .ok (.getfield 18, 3) := by decide +kernel
theorem dX6_readCrossing_116 : decode cX6_readCrossing 116 = .ok (.getfield 102, 3) := by decide +kernel
theorem dX6_readCrossing_119 : decode cX6_readCrossing 119 = .ok (.iload_n 1, 1) := by decide +kernel
theorem dX6_readCrossing_120 : decode cX6_readCrossing 120 = .ok (.aload_n 0, 1) := by decide +kernel
theorem dX6_readCrossing_121 : decode cX6_readCrossing 121 = .ok (.getfield 99, 3) := by decide +kernel
theorem dX6_readCrossing_124 : decode cX6_readCrossing 124 = .ok (.iastore, 1) := by decide +kernel
theorem dX6_readCrossing_125 : decode cX6_readCrossing 125 = .ok (.aload_n 0, 1) := by decide +kernel
theorem dX6_readCrossing_126 : decode cX6_readCrossing 126 = .ok (.iconst 1, 1) := by decide +kernel
theorem dX6_readCrossing_127 : decode cX6_readCrossing 127 = .ok (.bipush 9, 2) := by decide +kernel
theorem dX6_readCrossing_129 : decode cX6_readCrossing 129 = .ok (.invokevirtual 92, 3) := by decide +kernel
theorem dX6_readCrossing_132 : decode cX6_readCrossing 132 = .ok (.ifCond .ne 5, 3) := by decide +kernel
theorem dX6_readCrossing_135 : decode cX6_readCrossing 135 = .ok (.iconst 0, 1) := by decide +kernel
theorem dX6_readCrossing_136 : decode cX6_readCrossing 136 = .ok (.ireturn, 1) := by decide +kernel
theorem dX6_readCrossing_137 : decode cX6_readCrossing 137 = .ok (.aload_n 0, 1) := by decide +kernel
theorem dX6_readCrossing_138 : decode cX6_readCrossing 138 = .ok (.getfield 18, 3) := by decide +kernel
theorem dX6_readCrossing_141 : decode cX6_readCrossing 141 = .ok (.getfield 105, 3) := by decide +kernel
theorem dX6_readCrossing_144 : decode cX6_readCrossing 144 = .ok (.iload_n 1, 1) := by decide +kernel
theorem dX6_readCrossing_145 : decode cX6_readCrossing 145 = .ok (.aload_n 0, 1) := by decide +kernel
theorem dX6_readCrossing_146 : decode cX6_readCrossing 146 = .ok (.getfield 99, 3) := by decide +kernel
theorem dX6_readCrossing_149 : decode cX6_readCrossing 149 = .ok (.iastore, 1) := by decide +kernel
theorem dX6_readCrossing_150 : decode cX6_readCrossing 150 = .ok (.aload_n 0, 1) := by decide +kernel
theorem dX6_readCrossing_151 : decode cX6_readCrossing 151 = .ok (.getfield 18, 3) := by decide +kernel
theorem dX6_readCrossing_154 : decode cX6_readCrossing 154 = .ok (.dup, 1) := by decide +kernel
theorem dX6_readCrossing_155 : decode cX6_readCrossing 155 = .ok (.getfield 53, 3) := by decide +kernel
theorem dX6_readCrossing_158 : decode cX6_readCrossing 158 = .ok (.iconst 1, 1) := by decide +kernel
theorem dX6_readCrossing_159 : decode cX6_readCrossing 159 = .ok (.iadd, 1) := by decide +kernel
theorem dX6_readCrossing_160 : decode cX6_readCrossing 160 = .ok (.putfield 53, 3) := by decide +kernel
theorem dX6_readCrossing_163 : decode cX6_readCrossing 163 = .ok (.aload_n 0, 1) := by decide +kernel
theorem dX6_readCrossing_164 : decode cX6_readCrossing 164 = .ok (.invokevirtual 108, 3) := by decide +kernel
theorem dX6_readCrossing_167 : decode cX6_readCrossing 167 = .ok (.ireturn, 1) := by decide +kernel
theorem dX6_readCarrier_0 : decode cX6_readCarrier 0 = .ok (.aload_n 0, 1) := by decide +kernel
theorem dX6_readCarrier_1 : decode cX6_readCarrier 1 = .ok (.getfield 18, 3) := by decide +kernel
theorem dX6_readCarrier_4 : decode cX6_readCarrier 4 = .ok (.getfield 78, 3) := by decide +kernel
theorem dX6_readCarrier_7 : decode cX6_readCarrier 7 = .ok (.istore_n 1, 1) := by decide +kernel
theorem dX6_readCarrier_8 : decode cX6_readCarrier 8 = .ok (.iload_n 1, 1) := by decide +kernel
theorem dX6_readCarrier_9 : decode cX6_readCarrier 9 = .ok (.iconst 3, 1) := by decide +kernel
theorem dX6_readCarrier_10 : decode cX6_readCarrier 10 = .ok (.if_icmp .lt 9, 3) := by decide +kernel
theorem dX6_readCarrier_13 : decode cX6_readCarrier 13 = .ok (.aload_n 0, 1) := by decide +kernel
theorem dX6_readCarrier_14 : decode cX6_readCarrier 14 = .ok (.iconst 3, 1) := by decide +kernel
theorem dX6_readCarrier_15 : decode cX6_readCarrier 15 = .ok (.invokevirtual 41, 3) := by decide +kernel
theorem dX6_readCarrier_18 : decode cX6_readCarrier 18 = .ok (.ireturn, 1) := by decide +kernel
theorem dX6_readCarrier_19 : decode cX6_readCarrier 19 = .ok (.aload_n 0, 1) := by decide +kernel
theorem dX6_readCarrier_20 : decode cX6_readCarrier 20 = .ok (.iconst 0, 1) := by decide +kernel
theorem dX6_readCarrier_21 : decode cX6_readCarrier 21 = .ok (.iconst 5, 1) := by decide +kernel
theorem dX6_readCarrier_22 : decode cX6_readCarrier 22 = .ok (.invokevirtual 92, 3) := by decide +kernel
theorem dX6_readCarrier_25 : decode cX6_readCarrier 25 = .ok (.ifCond .ne 5, 3) := by decide +kernel
theorem dX6_readCarrier_28 : decode cX6_readCarrier 28 = .ok (.iconst 0, 1) := by decide +kernel
theorem dX6_readCarrier_29 : decode cX6_readCarrier 29 = .ok (.ireturn, 1) := by decide +kernel
theorem dX6_readCarrier_30 : decode cX6_readCarrier 30 = .ok (.aload_n 0, 1) := by decide +kernel
theorem dX6_readCarrier_31 : decode cX6_readCarrier 31 = .ok (.getfield 18, 3) := by decide +kernel
theorem dX6_readCarrier_34 : decode cX6_readCarrier 34 = .ok (.getfield 49, 3) := by decide +kernel
theorem dX6_readCarrier_37 : decode cX6_readCarrier 37 = .ok (.getfield 111, 3) := by decide +kernel
theorem dX6_readCarrier_40 : decode cX6_readCarrier 40 = .ok (.iload_n 1, 1) := by decide +kernel
theorem dX6_readCarrier_41 : decode cX6_readCarrier 41 = .ok (.aload_n 0, 1) := by decide +kernel
theorem dX6_readCarrier_42 : decode cX6_readCarrier 42 = .ok (.getfield 99, 3) := by decide +kernel
theorem dX6_readCarrier_45 : decode cX6_readCarrier 45 = .ok (.iastore, 1) := by decide +kernel
theorem dX6_readCarrier_46 : decode cX6_readCarrier 46 = .ok (.aload_n 0, 1) := by decide +kernel
theorem dX6_readCarrier_47 : decode cX6_readCarrier 47 = .ok (.iconst 0, 1) := by decide +kernel
theorem dX6_readCarrier_48 : decode cX6_readCarrier 48 = .ok (.aload_n 0, 1) := by decide +kernel
theorem dX6_readCarrier_49 : decode cX6_readCarrier 49 = .ok (.getfield 18, 3) := by decide +kernel
theorem dX6_readCarrier_52 : decode cX6_readCarrier 52 = .ok (.getfield 49, 3) := by decide +kernel
theorem dX6_readCarrier_55 : decode cX6_readCarrier 55 = .ok (.getfield 56, 3) := by decide +kernel
theorem dX6_readCarrier_58 : decode cX6_readCarrier 58 = .ok (.invokevirtual 92, 3) := by decide +kernel
theorem dX6_readCarrier_61 : decode cX6_readCarrier 61 = .ok (.ifCond .ne 5, 3) := by decide +kernel
theorem dX6_readCarrier_64 : decode cX6_readCarrier 64 = .ok (.iconst 0, 1) := by decide +kernel
theorem dX6_readCarrier_65 : decode cX6_readCarrier 65 = .ok (.ireturn, 1) := by decide +kernel
theorem dX6_readCarrier_66 : decode cX6_readCarrier 66 = .ok (.aload_n 0, 1) := by decide +kernel
theorem dX6_readCarrier_67 : decode cX6_readCarrier 67 = .ok (.getfield 18, 3) := by decide +kernel
theorem dX6_readCarrier_70 : decode cX6_readCarrier 70 = .ok (.getfield 49, 3) := by decide +kernel
theorem dX6_readCarrier_73 : decode cX6_readCarrier 73 = .ok (.getfield 114, 3) := by decide +kernel
theorem dX6_readCarrier_76 : decode cX6_readCarrier 76 = .ok (.iload_n 1, 1) := by decide +kernel
theorem dX6_readCarrier_77 : decode cX6_readCarrier 77 = .ok (.aload_n 0, 1) := by decide +kernel
theorem dX6_readCarrier_78 : decode cX6_readCarrier 78 = .ok (.getfield 99, 3) := by decide +kernel
theorem dX6_readCarrier_81 : decode cX6_readCarrier 81 = .ok (.aload_n 0, 1) := by decide +kernel
theorem dX6_readCarrier_82 : decode cX6_readCarrier 82 = .ok (.getfield 18, 3) := by decide +kernel
theorem dX6_readCarrier_85 : decode cX6_readCarrier 85 = .ok (.iconst 1, 1) := by decide +kernel
theorem dX6_readCarrier_86 : decode cX6_readCarrier 86 = .ok (.invokevirtual 117, 3) := by decide +kernel
theorem dX6_readCarrier_89 : decode cX6_readCarrier 89 = .ok (.iand, 1) := by decide +kernel
theorem dX6_readCarrier_90 : decode cX6_readCarrier 90 = .ok (.iastore, 1) := by decide +kernel
theorem dX6_readCarrier_91 : decode cX6_readCarrier 91 = .ok (.aload_n 0, 1) := by decide +kernel
theorem dX6_readCarrier_92 : decode cX6_readCarrier 92 = .ok (.getfield 18, 3) := by decide +kernel
theorem dX6_readCarrier_95 : decode cX6_readCarrier 95 = .ok (.getfield 49, 3) := by decide +kernel
theorem dX6_readCarrier_98 : decode cX6_readCarrier 98 = .ok (.getfield 121, 3) := by decide +kernel
theorem dX6_readCarrier_101 : decode cX6_readCarrier 101 = .ok (.iload_n 1, 1) := by decide +kernel
theorem dX6_readCarrier_102 : decode cX6_readCarrier 102 = .ok (.ldc 124, 2) := by decide +kernel
theorem dX6_readCarrier_104 : decode cX6_readCarrier 104 = .ok (.iastore, 1) := by decide +kernel
theorem dX6_readCarrier_105 : decode cX6_readCarrier 105 = .ok (.aload_n 0, 1) := by decide +kernel
theorem dX6_readCarrier_106 : decode cX6_readCarrier 106 = .ok (.getfield 18, 3) := by decide +kernel
theorem dX6_readCarrier_109 : decode cX6_readCarrier 109 = .ok (.dup, 1) := by decide +kernel
theorem dX6_readCarrier_110 : decode cX6_readCarrier 110 = .ok (.getfield 78, 3) := by decide +kernel
theorem dX6_readCarrier_113 : decode cX6_readCarrier 113 = .ok (.iconst 1, 1) := by decide +kernel
theorem dX6_readCarrier_114 : decode cX6_readCarrier 114 = .ok (.iadd, 1) := by decide +kernel
theorem dX6_readCarrier_115 : decode cX6_readCarrier 115 = .ok (.putfield 78, 3) := by decide +kernel
theorem dX6_readCarrier_118 : decode cX6_readCarrier 118 = .ok (.aload_n 0, 1) := by decide +kernel
theorem dX6_readCarrier_119 : decode cX6_readCarrier 119 = .ok (.invokevirtual 108, 3) := by decide +kernel
theorem dX6_readCarrier_122 : decode cX6_readCarrier 122 = .ok (.ireturn, 1) := by decide +kernel
theorem dX6_readLoad_0 : decode cX6_readLoad 0 = .ok (.aload_n 0, 1) := by decide +kernel
theorem dX6_readLoad_1 : decode cX6_readLoad 1 = .ok (.getfield 18, 3) := by decide +kernel
theorem dX6_readLoad_4 : decode cX6_readLoad 4 = .ok (.getfield 81, 3) := by decide +kernel
theorem dX6_readLoad_7 : decode cX6_readLoad 7 = .ok (.istore_n 1, 1) := by decide +kernel
theorem dX6_readLoad_8 : decode cX6_readLoad 8 = .ok (.iload_n 1, 1) := by decide +kernel
theorem dX6_readLoad_9 : decode cX6_readLoad 9 = .ok (.iconst 4, 1) := by decide +kernel
theorem dX6_readLoad_10 : decode cX6_readLoad 10 = .ok (.if_icmp .lt 9, 3) := by decide +kernel
theorem dX6_readLoad_13 : decode cX6_readLoad 13 = .ok (.aload_n 0, 1) := by decide +kernel
theorem dX6_readLoad_14 : decode cX6_readLoad 14 = .ok (.iconst 3, 1) := by decide +kernel
theorem dX6_readLoad_15 : decode cX6_readLoad 15 = .ok (.invokevirtual 41, 3) := by decide +kernel
theorem dX6_readLoad_18 : decode cX6_readLoad 18 = .ok (.ireturn, 1) := by decide +kernel
theorem dX6_readLoad_19 : decode cX6_readLoad 19 = .ok (.aload_n 0, 1) := by decide +kernel
theorem dX6_readLoad_20 : decode cX6_readLoad 20 = .ok (.iconst 0, 1) := by decide +kernel
theorem dX6_readLoad_21 : decode cX6_readLoad 21 = .ok (.iconst 5, 1) := by decide +kernel
theorem dX6_readLoad_22 : decode cX6_readLoad 22 = .ok (.invokevirtual 92, 3) := by decide +kernel
theorem dX6_readLoad_25 : decode cX6_readLoad 25 = .ok (.ifCond .ne 5, 3) := by decide +kernel
theorem dX6_readLoad_28 : decode cX6_readLoad 28 = .ok (.iconst 0, 1) := by decide +kernel
theorem dX6_readLoad_29 : decode cX6_readLoad 29 = .ok (.ireturn, 1) := by decide +kernel
theorem dX6_readLoad_30 : decode cX6_readLoad 30 = .ok (.aload_n 0, 1) := by decide +kernel
theorem dX6_readLoad_31 : decode cX6_readLoad 31 = .ok (.getfield 18, 3) := by decide +kernel
theorem dX6_readLoad_34 : decode cX6_readLoad 34 = .ok (.getfield 49, 3) := by decide +kernel
theorem dX6_readLoad_37 : decode cX6_readLoad 37 = .ok (.getfield 125, 3) := by decide +kernel
theorem dX6_readLoad_40 : decode cX6_readLoad 40 = .ok (.iload_n 1, 1) := by decide +kernel
theorem dX6_readLoad_41 : decode cX6_readLoad 41 = .ok (.aload_n 0, 1) := by decide +kernel
theorem dX6_readLoad_42 : decode cX6_readLoad 42 = .ok (.getfield 99, 3) := by decide +kernel
theorem dX6_readLoad_45 : decode cX6_readLoad 45 = .ok (.iastore, 1) := by decide +kernel
theorem dX6_readLoad_46 : decode cX6_readLoad 46 = .ok (.aload_n 0, 1) := by decide +kernel
theorem dX6_readLoad_47 : decode cX6_readLoad 47 = .ok (.iconst 0, 1) := by decide +kernel
theorem dX6_readLoad_48 : decode cX6_readLoad 48 = .ok (.iconst 5, 1) := by decide +kernel
theorem dX6_readLoad_49 : decode cX6_readLoad 49 = .ok (.invokevirtual 92, 3) := by decide +kernel
theorem dX6_readLoad_52 : decode cX6_readLoad 52 = .ok (.ifCond .ne 5, 3) := by decide +kernel
theorem dX6_readLoad_55 : decode cX6_readLoad 55 = .ok (.iconst 0, 1) := by decide +kernel
theorem dX6_readLoad_56 : decode cX6_readLoad 56 = .ok (.ireturn, 1) := by decide +kernel
theorem dX6_readLoad_57 : decode cX6_readLoad 57 = .ok (.aload_n 0, 1) := by decide +kernel
theorem dX6_readLoad_58 : decode cX6_readLoad 58 = .ok (.getfield 18, 3) := by decide +kernel
theorem dX6_readLoad_61 : decode cX6_readLoad 61 = .ok (.getfield 128, 3) := by decide +kernel
theorem dX6_readLoad_64 : decode cX6_readLoad 64 = .ok (.iload_n 1, 1) := by decide +kernel
theorem dX6_readLoad_65 : decode cX6_readLoad 65 = .ok (.aload_n 0, 1) := by decide +kernel
theorem dX6_readLoad_66 : decode cX6_readLoad 66 = .ok (.getfield 99, 3) := by decide +kernel
theorem dX6_readLoad_69 : decode cX6_readLoad 69 = .ok (.iastore, 1) := by decide +kernel
theorem dX6_readLoad_70 : decode cX6_readLoad 70 = .ok (.aload_n 0, 1) := by decide +kernel
theorem dX6_readLoad_71 : decode cX6_readLoad 71 = .ok (.getfield 18, 3) := by decide +kernel
theorem dX6_readLoad_74 : decode cX6_readLoad 74 = .ok (.dup, 1) := by decide +kernel
theorem dX6_readLoad_75 : decode cX6_readLoad 75 = .ok (.getfield 81, 3) := by decide +kernel
theorem dX6_readLoad_78 : decode cX6_readLoad 78 = .ok (.iconst 1, 1) := by decide +kernel
theorem dX6_readLoad_79 : decode cX6_readLoad 79 = .ok (.iadd, 1) := by decide +kernel
theorem dX6_readLoad_80 : decode cX6_readLoad 80 = .ok (.putfield 81, 3) := by decide +kernel
theorem dX6_readLoad_83 : decode cX6_readLoad 83 = .ok (.aload_n 0, 1) := by decide +kernel
theorem dX6_readLoad_84 : decode cX6_readLoad 84 = .ok (.invokevirtual 108, 3) := by decide +kernel
theorem dX6_readLoad_87 : decode cX6_readLoad 87 = .ok (.ireturn, 1) := by decide +kernel
theorem dX6_readNumber_0 : decode cX6_readNumber 0 = .ok (.aload_n 0, 1) := by decide +kernel
theorem dX6_readNumber_1 : decode cX6_readNumber 1 = .ok (.invokevirtual 32, 3) := by decide +kernel
theorem dX6_readNumber_4 : decode cX6_readNumber 4 = .ok (.aload_n 0, 1) := by decide +kernel
theorem dX6_readNumber_5 : decode cX6_readNumber 5 = .ok (.getfield 71, 3) := by decide +kernel
theorem dX6_readNumber_8 : decode cX6_readNumber 8 = .ok (.iconst 2, 1) := by decide +kernel
theorem dX6_readNumber_9 : decode cX6_readNumber 9 = .ok (.if_icmp .eq 9, 3) := by decide +kernel
theorem dX6_readNumber_12 : decode cX6_readNumber 12 = .ok (.aload_n 0, 1) := by decide +kernel
theorem dX6_readNumber_13 : decode cX6_readNumber 13 = .ok (.iconst 1, 1) := by decide +kernel
theorem dX6_readNumber_14 : decode cX6_readNumber 14 = .ok (.invokevirtual 41, 3) := by decide +kernel
theorem dX6_readNumber_17 : decode cX6_readNumber 17 = .ok (.ireturn, 1) := by decide +kernel
theorem dX6_readNumber_18 : decode cX6_readNumber 18 = .ok (.aload_n 0, 1) := by decide +kernel
theorem dX6_readNumber_19 : decode cX6_readNumber 19 = .ok (.getfield 99, 3) := by decide +kernel
theorem dX6_readNumber_22 : decode cX6_readNumber 22 = .ok (.iload_n 1, 1) := by decide +kernel
theorem dX6_readNumber_23 : decode cX6_readNumber 23 = .ok (.if_icmp .lt 11, 3) := by decide +kernel
theorem dX6_readNumber_26 : decode cX6_readNumber 26 = .ok (.aload_n 0, 1) := by decide +kernel
theorem dX6_readNumber_27 : decode cX6_readNumber 27 = .ok (.getfield 99, 3) := by decide +kernel
theorem dX6_readNumber_30 : decode cX6_readNumber 30 = .ok (.iload_n 2, 1) := by decide +kernel
theorem dX6_readNumber_31 : decode cX6_readNumber 31 = .ok (.if_icmp .le 11, 3) := by decide +kernel
theorem dX6_readNumber_34 : decode cX6_readNumber 34 = .ok (.aload_n 0, 1) := by decide +kernel
theorem dX6_readNumber_35 : decode cX6_readNumber 35 = .ok (.iconst 2, 1) := by decide +kernel
theorem dX6_readNumber_36 : decode cX6_readNumber 36 = .ok (.invokevirtual 41, 3) := by decide +kernel
theorem dX6_readNumber_39 : decode cX6_readNumber 39 = .ok (.ifCond .eq 7, 3) := by decide +kernel
theorem dX6_readNumber_42 : decode cX6_readNumber 42 = .ok (.iconst 1, 1) := by decide +kernel
theorem dX6_readNumber_43 : decode cX6_readNumber 43 = .ok (.goto 4, 3) := by decide +kernel
theorem dX6_readNumber_46 : decode cX6_readNumber 46 = .ok (.iconst 0, 1) := by decide +kernel
theorem dX6_readNumber_47 : decode cX6_readNumber 47 = .ok (.ireturn, 1) := by decide +kernel
theorem dX6_readEnd_0 : decode cX6_readEnd 0 = .ok (.aload_n 0, 1) := by decide +kernel
theorem dX6_readEnd_1 : decode cX6_readEnd 1 = .ok (.invokevirtual 32, 3) := by decide +kernel
theorem dX6_readEnd_4 : decode cX6_readEnd 4 = .ok (.aload_n 0, 1) := by decide +kernel
theorem dX6_readEnd_5 : decode cX6_readEnd 5 = .ok (.getfield 71, 3) := by decide +kernel
theorem dX6_readEnd_8 : decode cX6_readEnd 8 = .ok (.iconst 3, 1) := by decide +kernel
theorem dX6_readEnd_9 : decode cX6_readEnd 9 = .ok (.if_icmp .eq 9, 3) := by decide +kernel
theorem dX6_readEnd_12 : decode cX6_readEnd 12 = .ok (.aload_n 0, 1) := by decide +kernel
theorem dX6_readEnd_13 : decode cX6_readEnd 13 = .ok (.iconst 1, 1) := by decide +kernel
theorem dX6_readEnd_14 : decode cX6_readEnd 14 = .ok (.invokevirtual 41, 3) := by decide +kernel
theorem dX6_readEnd_17 : decode cX6_readEnd 17 = .ok (.ireturn, 1) := by decide +kernel
theorem dX6_readEnd_18 : decode cX6_readEnd 18 = .ok (.aload_n 0, 1) := by decide +kernel
theorem dX6_readEnd_19 : decode cX6_readEnd 19 = .ok (.invokevirtual 32, 3) := by decide +kernel
theorem dX6_readEnd_22 : decode cX6_readEnd 22 = .ok (.iconst 1, 1) := by decide +kernel
theorem dX6_readEnd_23 : decode cX6_readEnd 23 = .ok (.ireturn, 1) := by decide +kernel
theorem dX6_failWith_0 : decode cX6_failWith 0 = .ok (.aload_n 0, 1) := by decide +kernel
theorem dX6_failWith_1 : decode cX6_failWith 1 = .ok (.iload_n 1, 1) := by decide +kernel
theorem dX6_failWith_2 : decode cX6_failWith 2 = .ok (.putfield 131, 3) := by decide +kernel
theorem dX6_failWith_5 : decode cX6_failWith 5 = .ok (.aload_n 0, 1) := by decide +kernel
theorem dX6_failWith_6 : decode cX6_failWith 6 = .ok (.aload_n 0, 1) := by decide +kernel
theorem dX6_failWith_7 : decode cX6_failWith 7 = .ok (.getfield 134, 3) := by decide +kernel
theorem dX6_failWith_10 : decode cX6_failWith 10 = .ok (.putfield 137, 3) := by decide +kernel
theorem dX6_failWith_13 : decode cX6_failWith 13 = .ok (.iconst 0, 1) := by decide +kernel
theorem dX6_failWith_14 : decode cX6_failWith 14 = .ok (.ireturn, 1) := by decide +kernel
theorem dX6_sortNamed_0 : decode cX6_sortNamed 0 = .ok (.aload_n 0, 1) := by decide +kernel
theorem dX6_sortNamed_1 : decode cX6_sortNamed 1 = .ok (.ldc 140, 2) := by decide +kernel
theorem dX6_sortNamed_3 : decode cX6_sortNamed 3 = .ok (.invokevirtual 37, 3) := by decide +kernel
theorem dX6_sortNamed_6 : decode cX6_sortNamed 6 = .ok (.ifCond .eq 5, 3) := by decide +kernel
theorem dX6_sortNamed_9 : decode cX6_sortNamed 9 = .ok (.iconst 1, 1) := by decide +kernel
theorem dX6_sortNamed_10 : decode cX6_sortNamed 10 = .ok (.ireturn, 1) := by decide +kernel
theorem dX6_sortNamed_11 : decode cX6_sortNamed 11 = .ok (.aload_n 0, 1) := by decide +kernel
theorem dX6_sortNamed_12 : decode cX6_sortNamed 12 = .ok (.ldc 142, 2) := by decide +kernel
theorem dX6_sortNamed_14 : decode cX6_sortNamed 14 = .ok (.invokevirtual 37, 3) := by decide +kernel
theorem dX6_sortNamed_17 : decode cX6_sortNamed 17 = .ok (.ifCond .eq 5, 3) := by decide +kernel
theorem dX6_sortNamed_20 : decode cX6_sortNamed 20 = .ok (.iconst 3, 1) := by decide +kernel
theorem dX6_sortNamed_21 : decode cX6_sortNamed 21 = .ok (.ireturn, 1) := by decide +kernel
theorem dX6_sortNamed_22 : decode cX6_sortNamed 22 = .ok (.aload_n 0, 1) := by decide +kernel
theorem dX6_sortNamed_23 : decode cX6_sortNamed 23 = .ok (.ldc 144, 2) := by decide +kernel
theorem dX6_sortNamed_25 : decode cX6_sortNamed 25 = .ok (.invokevirtual 37, 3) := by decide +kernel
theorem dX6_sortNamed_28 : decode cX6_sortNamed 28 = .ok (.ifCond .eq 5, 3) := by decide +kernel
theorem dX6_sortNamed_31 : decode cX6_sortNamed 31 = .ok (.iconst 4, 1) := by decide +kernel
theorem dX6_sortNamed_32 : decode cX6_sortNamed 32 = .ok (.ireturn, 1) := by decide +kernel
theorem dX6_sortNamed_33 : decode cX6_sortNamed 33 = .ok (.aload_n 0, 1) := by decide +kernel
theorem dX6_sortNamed_34 : decode cX6_sortNamed 34 = .ok (.ldc 146, 2) := by decide +kernel
theorem dX6_sortNamed_36 : decode cX6_sortNamed 36 = .ok (.invokevirtual 37, 3) := by decide +kernel
theorem dX6_sortNamed_39 : decode cX6_sortNamed 39 = .ok (.ifCond .eq 5, 3) := by decide +kernel
theorem dX6_sortNamed_42 : decode cX6_sortNamed 42 = .ok (.iconst 5, 1) := by decide +kernel
theorem dX6_sortNamed_43 : decode cX6_sortNamed 43 = .ok (.ireturn, 1) := by decide +kernel
theorem dX6_sortNamed_44 : decode cX6_sortNamed 44 = .ok (.aload_n 0, 1) := by decide +kernel
theorem dX6_sortNamed_45 : decode cX6_sortNamed 45 = .ok (.ldc 148, 2) := by decide +kernel
theorem dX6_sortNamed_47 : decode cX6_sortNamed 47 = .ok (.invokevirtual 37, 3) := by decide +kernel
theorem dX6_sortNamed_50 : decode cX6_sortNamed 50 = .ok (.ifCond .eq 7, 3) := by decide +kernel
theorem dX6_sortNamed_53 : decode cX6_sortNamed 53 = .ok (.iconst 2, 1) := by decide +kernel
theorem dX6_sortNamed_54 : decode cX6_sortNamed 54 = .ok (.goto 4, 3) := by decide +kernel
theorem dX6_sortNamed_57 : decode cX6_sortNamed 57 = .ok (.iconst 0, 1) := by decide +kernel
theorem dX6_sortNamed_58 : decode cX6_sortNamed 58 = .ok (.ireturn, 1) := by decide +kernel
theorem dX6_isWord_0 : decode cX6_isWord 0 = .ok (.aload_n 0, 1) := by decide +kernel
theorem dX6_isWord_1 : decode cX6_isWord 1 = .ok (.getfield 71, 3) := by decide +kernel
theorem dX6_isWord_4 : decode cX6_isWord 4 = .ok (.iconst 1, 1) := by decide +kernel
theorem dX6_isWord_5 : decode cX6_isWord 5 = .ok (.if_icmp .ne 19, 3) := by decide +kernel
theorem dX6_isWord_8 : decode cX6_isWord 8 = .ok (.aload_n 0, 1) := by decide +kernel
theorem dX6_isWord_9 : decode cX6_isWord 9 = .ok (.getfield 26, 3) := by decide +kernel
theorem dX6_isWord_12 : decode cX6_isWord 12 = .ok (.aload_n 0, 1) := by decide +kernel
theorem dX6_isWord_13 : decode cX6_isWord 13 = .ok (.getfield 134, 3) := by decide +kernel
theorem dX6_isWord_16 : decode cX6_isWord 16 = .ok (.isub, 1) := by decide +kernel
theorem dX6_isWord_17 : decode cX6_isWord 17 = .ok (.aload_n 1, 1) := by decide +kernel
theorem dX6_isWord_18 : decode cX6_isWord 18 = .ok (.invokevirtual 150, 3) := by decide +kernel
theorem dX6_isWord_21 : decode cX6_isWord 21 = .ok (.if_icmp .eq 5, 3) := by decide +kernel
theorem dX6_isWord_24 : decode cX6_isWord 24 = .ok (.iconst 0, 1) := by decide +kernel
theorem dX6_isWord_25 : decode cX6_isWord 25 = .ok (.ireturn, 1) := by decide +kernel
theorem dX6_isWord_26 : decode cX6_isWord 26 = .ok (.iconst 0, 1) := by decide +kernel
theorem dX6_isWord_27 : decode cX6_isWord 27 = .ok (.istore_n 2, 1) := by decide +kernel
theorem dX6_isWord_28 : decode cX6_isWord 28 = .ok (.iload_n 2, 1) := by decide +kernel
theorem dX6_isWord_29 : decode cX6_isWord 29 = .ok (.aload_n 1, 1) := by decide +kernel
theorem dX6_isWord_30 : decode cX6_isWord 30 = .ok (.invokevirtual 150, 3) := by decide +kernel
theorem dX6_isWord_33 : decode cX6_isWord 33 = .ok (.if_icmp .ge 30, 3) := by decide +kernel
theorem dX6_isWord_36 : decode cX6_isWord 36 = .ok (.aload_n 0, 1) := by decide +kernel
theorem dX6_isWord_37 : decode cX6_isWord 37 = .ok (.getfield 9, 3) := by decide +kernel
theorem dX6_isWord_40 : decode cX6_isWord 40 = .ok (.aload_n 0, 1) := by decide +kernel
theorem dX6_isWord_41 : decode cX6_isWord 41 = .ok (.getfield 134, 3) := by decide +kernel
theorem dX6_isWord_44 : decode cX6_isWord 44 = .ok (.iload_n 2, 1) := by decide +kernel
theorem dX6_isWord_45 : decode cX6_isWord 45 = .ok (.iadd, 1) := by decide +kernel
theorem dX6_isWord_46 : decode cX6_isWord 46 = .ok (.baload, 1) := by decide +kernel
theorem dX6_isWord_47 : decode cX6_isWord 47 = .ok (.aload_n 1, 1) := by decide +kernel
theorem dX6_isWord_48 : decode cX6_isWord 48 = .ok (.iload_n 2, 1) := by decide +kernel
theorem dX6_isWord_49 : decode cX6_isWord 49 = .ok (.invokevirtual 154, 3) := by decide +kernel
theorem dX6_isWord_52 : decode cX6_isWord 52 = .ok (.if_icmp .eq 5, 3) := by decide +kernel
theorem dX6_isWord_55 : decode cX6_isWord 55 = .ok (.iconst 0, 1) := by decide +kernel
theorem dX6_isWord_56 : decode cX6_isWord 56 = .ok (.ireturn, 1) := by decide +kernel
theorem dX6_isWord_57 : decode cX6_isWord 57 = .ok (.iinc 2 1, 3) := by decide +kernel
theorem dX6_isWord_60 : decode cX6_isWord 60 = .ok (.goto (-32), 3) := by decide +kernel
theorem dX6_isWord_63 : decode cX6_isWord 63 = .ok (.iconst 1, 1) := by decide +kernel
theorem dX6_isWord_64 : decode cX6_isWord 64 = .ok (.ireturn, 1) := by decide +kernel
theorem dX6_advance_0 : decode cX6_advance 0 = .ok (.aload_n 0, 1) := by decide +kernel
theorem dX6_advance_1 : decode cX6_advance 1 = .ok (.aload_n 0, 1) := by decide +kernel
theorem dX6_advance_2 : decode cX6_advance 2 = .ok (.getfield 26, 3) := by decide +kernel
theorem dX6_advance_5 : decode cX6_advance 5 = .ok (.putfield 134, 3) := by decide +kernel
theorem dX6_advance_8 : decode cX6_advance 8 = .ok (.aload_n 0, 1) := by decide +kernel
theorem dX6_advance_9 : decode cX6_advance 9 = .ok (.getfield 134, 3) := by decide +kernel
theorem dX6_advance_12 : decode cX6_advance 12 = .ok (.aload_n 0, 1) := by decide +kernel
theorem dX6_advance_13 : decode cX6_advance 13 = .ok (.getfield 22, 3) := by decide +kernel
theorem dX6_advance_16 : decode cX6_advance 16 = .ok (.if_icmp .ge 44, 3) := by decide +kernel
theorem dX6_advance_19 : decode cX6_advance 19 = .ok (.aload_n 0, 1) := by decide +kernel
theorem dX6_advance_20 : decode cX6_advance 20 = .ok (.getfield 9, 3) := by decide +kernel
theorem dX6_advance_23 : decode cX6_advance 23 = .ok (.aload_n 0, 1) := by decide +kernel
theorem dX6_advance_24 : decode cX6_advance 24 = .ok (.getfield 134, 3) := by decide +kernel
theorem dX6_advance_27 : decode cX6_advance 27 = .ok (.baload, 1) := by decide +kernel
theorem dX6_advance_28 : decode cX6_advance 28 = .ok (.bipush 32, 2) := by decide +kernel
theorem dX6_advance_30 : decode cX6_advance 30 = .ok (.if_icmp .eq 17, 3) := by decide +kernel
theorem dX6_advance_33 : decode cX6_advance 33 = .ok (.aload_n 0, 1) := by decide +kernel
theorem dX6_advance_34 : decode cX6_advance 34 = .ok (.getfield 9, 3) := by decide +kernel
theorem dX6_advance_37 : decode cX6_advance 37 = .ok (.aload_n 0, 1) := by decide +kernel
theorem dX6_advance_38 : decode cX6_advance 38 = .ok (.getfield 134, 3) := by decide +kernel
theorem dX6_advance_41 : decode cX6_advance 41 = .ok (.baload, 1) := by decide +kernel
theorem dX6_advance_42 : decode cX6_advance 42 = .ok (.bipush 10, 2) := by decide +kernel
theorem dX6_advance_44 : decode cX6_advance 44 = .ok (.if_icmp .ne 16, 3) := by decide +kernel
theorem dX6_advance_47 : decode cX6_advance 47 = .ok (.aload_n 0, 1) := by decide +kernel
theorem dX6_advance_48 : decode cX6_advance 48 = .ok (.dup, 1) := by decide +kernel
theorem dX6_advance_49 : decode cX6_advance 49 = .ok (.getfield 134, 3) := by decide +kernel
theorem dX6_advance_52 : decode cX6_advance 52 = .ok (.iconst 1, 1) := by decide +kernel
theorem dX6_advance_53 : decode cX6_advance 53 = .ok (.iadd, 1) := by decide +kernel
theorem dX6_advance_54 : decode cX6_advance 54 = .ok (.putfield 134, 3) := by decide +kernel
theorem dX6_advance_57 : decode cX6_advance 57 = .ok (.goto (-49), 3) := by decide +kernel
theorem dX6_advance_60 : decode cX6_advance 60 = .ok (.aload_n 0, 1) := by decide +kernel
theorem dX6_advance_61 : decode cX6_advance 61 = .ok (.aload_n 0, 1) := by decide +kernel
theorem dX6_advance_62 : decode cX6_advance 62 = .ok (.getfield 134, 3) := by decide +kernel
theorem dX6_advance_65 : decode cX6_advance 65 = .ok (.putfield 26, 3) := by decide +kernel
theorem dX6_advance_68 : decode cX6_advance 68 = .ok (.aload_n 0, 1) := by decide +kernel
theorem dX6_advance_69 : decode cX6_advance 69 = .ok (.getfield 134, 3) := by decide +kernel
theorem dX6_advance_72 : decode cX6_advance 72 = .ok (.aload_n 0, 1) := by decide +kernel
theorem dX6_advance_73 : decode cX6_advance 73 = .ok (.getfield 22, 3) := by decide +kernel
theorem dX6_advance_76 : decode cX6_advance 76 = .ok (.if_icmp .lt 11, 3) := by decide +kernel
theorem dX6_advance_79 : decode cX6_advance 79 = .ok (.aload_n 0, 1) := by decide +kernel
theorem dX6_advance_80 : decode cX6_advance 80 = .ok (.iconst 0, 1) := by decide +kernel
theorem dX6_advance_81 : decode cX6_advance 81 = .ok (.putfield 71, 3) := by decide +kernel
theorem dX6_advance_84 : decode cX6_advance 84 = .ok (.goto 80, 3) := by decide +kernel
theorem dX6_advance_87 : decode cX6_advance 87 = .ok (.aload_n 0, 1) := by decide +kernel
theorem dX6_advance_88 : decode cX6_advance 88 = .ok (.getfield 9, 3) := by decide +kernel
theorem dX6_advance_91 : decode cX6_advance 91 = .ok (.aload_n 0, 1) := by decide +kernel
theorem dX6_advance_92 : decode cX6_advance 92 = .ok (.getfield 134, 3) := by decide +kernel
theorem dX6_advance_95 : decode cX6_advance 95 = .ok (.baload, 1) := by decide +kernel
theorem dX6_advance_96 : decode cX6_advance 96 = .ok (.invokestatic 158, 3) := by decide +kernel
theorem dX6_advance_99 : decode cX6_advance 99 = .ok (.ifCond .eq 10, 3) := by decide +kernel
theorem dX6_advance_102 : decode cX6_advance 102 = .ok (.aload_n 0, 1) := by decide +kernel
theorem dX6_advance_103 : decode cX6_advance 103 = .ok (.invokevirtual 162, 3) := by decide +kernel
theorem dX6_advance_106 : decode cX6_advance 106 = .ok (.goto 58, 3) := by decide +kernel
theorem dX6_advance_109 : decode cX6_advance 109 = .ok (.aload_n 0, 1) := by decide +kernel
theorem dX6_advance_110 : decode cX6_advance 110 = .ok (.getfield 9, 3) := by decide +kernel
theorem dX6_advance_113 : decode cX6_advance 113 = .ok (.aload_n 0, 1) := by decide +kernel
theorem dX6_advance_114 : decode cX6_advance 114 = .ok (.getfield 134, 3) := by decide +kernel
theorem dX6_advance_117 : decode cX6_advance 117 = .ok (.baload, 1) := by decide +kernel
theorem dX6_advance_118 : decode cX6_advance 118 = .ok (.invokestatic 165, 3) := by decide +kernel
theorem dX6_advance_121 : decode cX6_advance 121 = .ok (.ifCond .eq 10, 3) := by decide +kernel
theorem dX6_advance_124 : decode cX6_advance 124 = .ok (.aload_n 0, 1) := by decide +kernel
theorem dX6_advance_125 : decode cX6_advance 125 = .ok (.invokevirtual 168, 3) := by decide +kernel
theorem dX6_advance_128 : decode cX6_advance 128 = .ok (.goto 36, 3) := by decide +kernel
theorem dX6_advance_131 : decode cX6_advance 131 = .ok (.aload_n 0, 1) := by decide +kernel
theorem dX6_advance_132 : decode cX6_advance 132 = .ok (.aload_n 0, 1) := by decide +kernel
theorem dX6_advance_133 : decode cX6_advance 133 = .ok (.getfield 9, 3) := by decide +kernel
theorem dX6_advance_136 : decode cX6_advance 136 = .ok (.aload_n 0, 1) := by decide +kernel
theorem dX6_advance_137 : decode cX6_advance 137 = .ok (.getfield 134, 3) := by decide +kernel
theorem dX6_advance_140 : decode cX6_advance 140 = .ok (.baload, 1) := by decide +kernel
theorem dX6_advance_141 : decode cX6_advance 141 = .ok (.bipush 59, 2) := by decide +kernel
theorem dX6_advance_143 : decode cX6_advance 143 = .ok (.if_icmp .ne 7, 3) := by decide +kernel
theorem dX6_advance_146 : decode cX6_advance 146 = .ok (.iconst 3, 1) := by decide +kernel
theorem dX6_advance_147 : decode cX6_advance 147 = .ok (.goto 4, 3) := by decide +kernel
theorem dX6_advance_150 : decode cX6_advance 150 = .ok (.iconst 4, 1) := by decide +kernel
theorem dX6_advance_151 : decode cX6_advance 151 = .ok (.putfield 71, 3) := by decide +kernel
theorem dX6_advance_154 : decode cX6_advance 154 = .ok (.aload_n 0, 1) := by decide +kernel
theorem dX6_advance_155 : decode cX6_advance 155 = .ok (.aload_n 0, 1) := by decide +kernel
theorem dX6_advance_156 : decode cX6_advance 156 = .ok (.getfield 134, 3) := by decide +kernel
theorem dX6_advance_159 : decode cX6_advance 159 = .ok (.iconst 1, 1) := by decide +kernel
theorem dX6_advance_160 : decode cX6_advance 160 = .ok (.iadd, 1) := by decide +kernel
theorem dX6_advance_161 : decode cX6_advance 161 = .ok (.putfield 26, 3) := by decide +kernel
theorem dX6_advance_164 : decode cX6_advance 164 = .ok (.return_, 1) := by decide +kernel
theorem dX6_advanceName_0 : decode cX6_advanceName 0 = .ok (.aload_n 0, 1) := by decide +kernel
theorem dX6_advanceName_1 : decode cX6_advanceName 1 = .ok (.iconst 1, 1) := by decide +kernel
theorem dX6_advanceName_2 : decode cX6_advanceName 2 = .ok (.putfield 71, 3) := by decide +kernel
theorem dX6_advanceName_5 : decode cX6_advanceName 5 = .ok (.aload_n 0, 1) := by decide +kernel
theorem dX6_advanceName_6 : decode cX6_advanceName 6 = .ok (.getfield 26, 3) := by decide +kernel
theorem dX6_advanceName_9 : decode cX6_advanceName 9 = .ok (.aload_n 0, 1) := by decide +kernel
theorem dX6_advanceName_10 : decode cX6_advanceName 10 = .ok (.getfield 22, 3) := by decide +kernel
theorem dX6_advanceName_13 : decode cX6_advanceName 13 = .ok (.if_icmp .ge 31, 3) := by decide +kernel
theorem dX6_advanceName_16 : decode cX6_advanceName 16 = .ok (.aload_n 0, 1) := by decide +kernel
theorem dX6_advanceName_17 : decode cX6_advanceName 17 = .ok (.getfield 9, 3) := by decide +kernel
theorem dX6_advanceName_20 : decode cX6_advanceName 20 = .ok (.aload_n 0, 1) := by decide +kernel
theorem dX6_advanceName_21 : decode cX6_advanceName 21 = .ok (.getfield 26, 3) := by decide +kernel
theorem dX6_advanceName_24 : decode cX6_advanceName 24 = .ok (.baload, 1) := by decide +kernel
theorem dX6_advanceName_25 : decode cX6_advanceName 25 = .ok (.invokestatic 158, 3) := by decide +kernel
theorem dX6_advanceName_28 : decode cX6_advanceName 28 = .ok (.ifCond .eq 16, 3) := by decide +kernel
theorem dX6_advanceName_31 : decode cX6_advanceName 31 = .ok (.aload_n 0, 1) := by decide +kernel
theorem dX6_advanceName_32 : decode cX6_advanceName 32 = .ok (.dup, 1) := by decide +kernel
theorem dX6_advanceName_33 : decode cX6_advanceName 33 = .ok (.getfield 26, 3) := by decide +kernel
theorem dX6_advanceName_36 : decode cX6_advanceName 36 = .ok (.iconst 1, 1) := by decide +kernel
theorem dX6_advanceName_37 : decode cX6_advanceName 37 = .ok (.iadd, 1) := by decide +kernel
theorem dX6_advanceName_38 : decode cX6_advanceName 38 = .ok (.putfield 26, 3) := by decide +kernel
theorem dX6_advanceName_41 : decode cX6_advanceName 41 = .ok (.goto (-36), 3) := by decide +kernel
theorem dX6_advanceName_44 : decode cX6_advanceName 44 = .ok (.return_, 1) := by decide +kernel
theorem dX6_advanceNumber_0 : decode cX6_advanceNumber 0 = .ok (.aload_n 0, 1) := by decide +kernel
theorem dX6_advanceNumber_1 : decode cX6_advanceNumber 1 = .ok (.iconst 0, 1) := by decide +kernel
theorem dX6_advanceNumber_2 : decode cX6_advanceNumber 2 = .ok (.putfield 99, 3) := by decide +kernel
theorem dX6_advanceNumber_5 : decode cX6_advanceNumber 5 = .ok (.aload_n 0, 1) := by decide +kernel
theorem dX6_advanceNumber_6 : decode cX6_advanceNumber 6 = .ok (.getfield 26, 3) := by decide +kernel
theorem dX6_advanceNumber_9 : decode cX6_advanceNumber 9 = .ok (.aload_n 0, 1) := by decide +kernel
theorem dX6_advanceNumber_10 : decode cX6_advanceNumber 10 = .ok (.getfield 22, 3) := by decide +kernel
theorem dX6_advanceNumber_13 : decode cX6_advanceNumber 13 = .ok (.if_icmp .ge 55, 3) := by decide +kernel
theorem dX6_advanceNumber_16 : decode cX6_advanceNumber 16 = .ok (.aload_n 0, 1) := by decide +kernel
theorem dX6_advanceNumber_17 : decode cX6_advanceNumber 17 = .ok (.getfield 9, 3) := by decide +kernel
theorem dX6_advanceNumber_20 : decode cX6_advanceNumber 20 = .ok (.aload_n 0, 1) := by decide +kernel
theorem dX6_advanceNumber_21 : decode cX6_advanceNumber 21 = .ok (.getfield 26, 3) := by decide +kernel
theorem dX6_advanceNumber_24 : decode cX6_advanceNumber 24 = .ok (.baload, 1) := by decide +kernel
theorem dX6_advanceNumber_25 : decode cX6_advanceNumber 25 = .ok (.invokestatic 165, 3) := by decide +kernel
theorem dX6_advanceNumber_28 : decode cX6_advanceNumber 28 = .ok (.ifCond .eq 40, 3) := by decide +kernel
theorem dX6_advanceNumber_31 : decode cX6_advanceNumber 31 = .ok (.aload_n 0, 1) := by decide +kernel
theorem dX6_advanceNumber_32 : decode cX6_advanceNumber 32 = .ok (.bipush 10, 2) := by decide +kernel
theorem dX6_advanceNumber_34 : decode cX6_advanceNumber 34 = .ok (.aload_n 0, 1) := by decide +kernel
theorem dX6_advanceNumber_35 : decode cX6_advanceNumber 35 = .ok (.getfield 99, 3) := by decide +kernel
theorem dX6_advanceNumber_38 : decode cX6_advanceNumber 38 = .ok (.imul, 1) := by decide +kernel
theorem dX6_advanceNumber_39 : decode cX6_advanceNumber 39 = .ok (.aload_n 0, 1) := by decide +kernel
theorem dX6_advanceNumber_40 : decode cX6_advanceNumber 40 = .ok (.getfield 9, 3) := by decide +kernel
theorem dX6_advanceNumber_43 : decode cX6_advanceNumber 43 = .ok (.aload_n 0, 1) := by decide +kernel
theorem dX6_advanceNumber_44 : decode cX6_advanceNumber 44 = .ok (.getfield 26, 3) := by decide +kernel
theorem dX6_advanceNumber_47 : decode cX6_advanceNumber 47 = .ok (.baload, 1) := by decide +kernel
theorem dX6_advanceNumber_48 : decode cX6_advanceNumber 48 = .ok (.iadd, 1) := by decide +kernel
theorem dX6_advanceNumber_49 : decode cX6_advanceNumber 49 = .ok (.bipush 48, 2) := by decide +kernel
theorem dX6_advanceNumber_51 : decode cX6_advanceNumber 51 = .ok (.isub, 1) := by decide +kernel
theorem dX6_advanceNumber_52 : decode cX6_advanceNumber 52 = .ok (.putfield 99, 3) := by decide +kernel
theorem dX6_advanceNumber_55 : decode cX6_advanceNumber 55 = .ok (.aload_n 0, 1) := by decide +kernel
theorem dX6_advanceNumber_56 : decode cX6_advanceNumber 56 = .ok (.dup, 1) := by decide +kernel
theorem dX6_advanceNumber_57 : decode cX6_advanceNumber 57 = .ok (.getfield 26, 3) := by decide +kernel
theorem dX6_advanceNumber_60 : decode cX6_advanceNumber 60 = .ok (.iconst 1, 1) := by decide +kernel
theorem dX6_advanceNumber_61 : decode cX6_advanceNumber 61 = .ok (.iadd, 1) := by decide +kernel
theorem dX6_advanceNumber_62 : decode cX6_advanceNumber 62 = .ok (.putfield 26, 3) := by decide +kernel
theorem dX6_advanceNumber_65 : decode cX6_advanceNumber 65 = .ok (.goto (-60), 3) := by decide +kernel
theorem dX6_advanceNumber_68 : decode cX6_advanceNumber 68 = .ok (.aload_n 0, 1) := by decide +kernel
theorem dX6_advanceNumber_69 : decode cX6_advanceNumber 69 = .ok (.aload_n 0, 1) := by decide +kernel
theorem dX6_advanceNumber_70 : decode cX6_advanceNumber 70 = .ok (.getfield 26, 3) := by decide +kernel
theorem dX6_advanceNumber_73 : decode cX6_advanceNumber 73 = .ok (.aload_n 0, 1) := by decide +kernel
theorem dX6_advanceNumber_74 : decode cX6_advanceNumber 74 = .ok (.getfield 134, 3) := by decide +kernel
theorem dX6_advanceNumber_77 : decode cX6_advanceNumber 77 = .ok (.isub, 1) := by decide +kernel
theorem dX6_advanceNumber_78 : decode cX6_advanceNumber 78 = .ok (.iconst 3, 1) := by decide +kernel
theorem dX6_advanceNumber_79 : decode cX6_advanceNumber 79 = .ok (.if_icmp .gt 7, 3) := by decide +kernel
theorem dX6_advanceNumber_82 : decode cX6_advanceNumber 82 = .ok (.iconst 2, 1) := by decide +kernel
theorem dX6_advanceNumber_83 : decode cX6_advanceNumber 83 = .ok (.goto 4, 3) := by decide +kernel
theorem dX6_advanceNumber_86 : decode cX6_advanceNumber 86 = .ok (.iconst 4, 1) := by decide +kernel
theorem dX6_advanceNumber_87 : decode cX6_advanceNumber 87 = .ok (.putfield 71, 3) := by decide +kernel
theorem dX6_advanceNumber_90 : decode cX6_advanceNumber 90 = .ok (.return_, 1) := by decide +kernel
theorem dX6_isLetter_0 : decode cX6_isLetter 0 = .ok (.iload_n 0, 1) := by decide +kernel
theorem dX6_isLetter_1 : decode cX6_isLetter 1 = .ok (.bipush 97, 2) := by decide +kernel
theorem dX6_isLetter_3 : decode cX6_isLetter 3 = .ok (.if_icmp .lt 13, 3) := by decide +kernel
theorem dX6_isLetter_6 : decode cX6_isLetter 6 = .ok (.iload_n 0, 1) := by decide +kernel
theorem dX6_isLetter_7 : decode cX6_isLetter 7 = .ok (.bipush 122, 2) := by decide +kernel
theorem dX6_isLetter_9 : decode cX6_isLetter 9 = .ok (.if_icmp .gt 7, 3) := by decide +kernel
theorem dX6_isLetter_12 : decode cX6_isLetter 12 = .ok (.iconst 1, 1) := by decide +kernel
theorem dX6_isLetter_13 : decode cX6_isLetter 13 = .ok (.goto 4, 3) := by decide +kernel
theorem dX6_isLetter_16 : decode cX6_isLetter 16 = .ok (.iconst 0, 1) := by decide +kernel
theorem dX6_isLetter_17 : decode cX6_isLetter 17 = .ok (.ireturn, 1) := by decide +kernel
theorem dX6_isFigure_0 : decode cX6_isFigure 0 = .ok (.iload_n 0, 1) := by decide +kernel
theorem dX6_isFigure_1 : decode cX6_isFigure 1 = .ok (.bipush 48, 2) := by decide +kernel
theorem dX6_isFigure_3 : decode cX6_isFigure 3 = .ok (.if_icmp .lt 13, 3) := by decide +kernel
theorem dX6_isFigure_6 : decode cX6_isFigure 6 = .ok (.iload_n 0, 1) := by decide +kernel
theorem dX6_isFigure_7 : decode cX6_isFigure 7 = .ok (.bipush 57, 2) := by decide +kernel
theorem dX6_isFigure_9 : decode cX6_isFigure 9 = .ok (.if_icmp .gt 7, 3) := by decide +kernel
theorem dX6_isFigure_12 : decode cX6_isFigure 12 = .ok (.iconst 1, 1) := by decide +kernel
theorem dX6_isFigure_13 : decode cX6_isFigure 13 = .ok (.goto 4, 3) := by decide +kernel
theorem dX6_isFigure_16 : decode cX6_isFigure 16 = .ok (.iconst 0, 1) := by decide +kernel
theorem dX6_isFigure_17 : decode cX6_isFigure 17 = .ok (.ireturn, 1) := by decide +kernel
theorem dX7_init_0 : decode cX7_init 0 = .ok (.aload_n 0, 1) := by decide +kernel
theorem dX7_init_1 : decode cX7_init 1 = .ok (.invokespecial 1, 3) := by decide +kernel
theorem dX7_init_4 : decode cX7_init 4 = .ok (.aload_n 0, 1) := by decide +kernel
theorem dX7_init_5 : decode cX7_init 5 = .ok (.new 7, 3) := by decide +kernel
theorem dX7_init_8 : decode cX7_init 8 = .ok (.dup, 1) := by decide +kernel
theorem dX7_init_9 : decode cX7_init 9 = .ok (.invokespecial 9, 3) := by decide +kernel
theorem dX7_init_12 : decode cX7_init 12 = .ok (.putfield 10, 3) := by decide +kernel
theorem dX7_init_15 : decode cX7_init 15 = .ok (.aload_n 0, 1) := by decide +kernel
theorem dX7_init_16 : decode cX7_init 16 = .ok (.new 16, 3) := by decide +kernel
theorem dX7_init_19 : decode cX7_init 19 = .ok (.dup, 1) := by decide +kernel
theorem dX7_init_20 : decode cX7_init 20 = .ok (.invokespecial 18, 3) := by decide +kernel
theorem dX7_init_23 : decode cX7_init 23 = .ok (.putfield 19, 3) := by decide +kernel
theorem dX7_init_26 : decode cX7_init 26 = .ok (.aload_n 0, 1) := by decide +kernel
theorem dX7_init_27 : decode cX7_init 27 = .ok (.new 23, 3) := by decide +kernel
theorem dX7_init_30 : decode cX7_init 30 = .ok (.dup, 1) := by decide +kernel
theorem dX7_init_31 : decode cX7_init 31 = .ok (.invokespecial 25, 3) := by decide +kernel
theorem dX7_init_34 : decode cX7_init 34 = .ok (.putfield 26, 3) := by decide +kernel
theorem dX7_init_37 : decode cX7_init 37 = .ok (.aload_n 0, 1) := by decide +kernel
theorem dX7_init_38 : decode cX7_init 38 = .ok (.new 30, 3) := by decide +kernel
theorem dX7_init_41 : decode cX7_init 41 = .ok (.dup, 1) := by decide +kernel
theorem dX7_init_42 : decode cX7_init 42 = .ok (.invokespecial 32, 3) := by decide +kernel
theorem dX7_init_45 : decode cX7_init 45 = .ok (.putfield 33, 3) := by decide +kernel
theorem dX7_init_48 : decode cX7_init 48 = .ok (.aload_n 0, 1) := by decide +kernel
theorem dX7_init_49 : decode cX7_init 49 = .ok (.iconst 2, 1) := by decide +kernel
theorem dX7_init_50 : decode cX7_init 50 = .ok (.anewarray 23, 3) := by decide +kernel
theorem dX7_init_53 : decode cX7_init 53 = .ok (.putfield 37, 3) := by decide +kernel
theorem dX7_init_56 : decode cX7_init 56 = .ok (.iconst 0, 1) := by decide +kernel
theorem dX7_init_57 : decode cX7_init 57 = .ok (.istore_n 1, 1) := by decide +kernel
theorem dX7_init_58 : decode cX7_init 58 = .ok (.iload_n 1, 1) := by decide +kernel
theorem dX7_init_59 : decode cX7_init 59 = .ok (.iconst 2, 1) := by decide +kernel
theorem dX7_init_60 : decode cX7_init 60 = .ok (.if_icmp .ge 22, 3) := by decide +kernel
theorem dX7_init_63 : decode cX7_init 63 = .ok (.aload_n 0, 1) := by decide +kernel
theorem dX7_init_64 : decode cX7_init 64 = .ok (.getfield 37, 3) := by decide +kernel
theorem dX7_init_67 : decode cX7_init 67 = .ok (.iload_n 1, 1) := by decide +kernel
theorem dX7_init_68 : decode cX7_init 68 = .ok (.new 23, 3) := by decide +kernel
theorem dX7_init_71 : decode cX7_init 71 = .ok (.dup, 1) := by decide +kernel
theorem dX7_init_72 : decode cX7_init 72 = .ok (.invokespecial 25, 3) := by decide +kernel
theorem dX7_init_75 : decode cX7_init 75 = .ok (.aastore, 1) := by decide +kernel
theorem dX7_init_76 : decode cX7_init 76 = .ok (.iinc 1 1, 3) := by decide +kernel
theorem dX7_init_79 : decode cX7_init 79 = .ok (.goto (-21), 3) := by decide +kernel
theorem dX7_init_82 : decode cX7_init 82 = .ok (.aload_n 0, 1) := by decide +kernel
theorem dX7_init_83 : decode cX7_init 83 = .ok (.new 41, 3) := by decide +kernel
theorem dX7_init_86 : decode cX7_init 86 = .ok (.dup, 1) := by decide +kernel
theorem dX7_init_87 : decode cX7_init 87 = .ok (.aload_n 0, 1) := by decide +kernel
theorem dX7_init_88 : decode cX7_init 88 = .ok (.getfield 26, 3) := by decide +kernel
theorem dX7_init_91 : decode cX7_init 91 = .ok (.invokespecial 43, 3) := by decide +kernel
theorem dX7_init_94 : decode cX7_init 94 = .ok (.putfield 46, 3) := by decide +kernel
theorem dX7_init_97 : decode cX7_init 97 = .ok (.aload_n 0, 1) := by decide +kernel
theorem dX7_init_98 : decode cX7_init 98 = .ok (.new 50, 3) := by decide +kernel
theorem dX7_init_101 : decode cX7_init 101 = .ok (.dup, 1) := by decide +kernel
theorem dX7_init_102 : decode cX7_init 102 = .ok (.aload_n 0, 1) := by decide +kernel
theorem dX7_init_103 : decode cX7_init 103 = .ok (.getfield 26, 3) := by decide +kernel
theorem dX7_init_106 : decode cX7_init 106 = .ok (.invokespecial 52, 3) := by decide +kernel
theorem dX7_init_109 : decode cX7_init 109 = .ok (.putfield 53, 3) := by decide +kernel
theorem dX7_init_112 : decode cX7_init 112 = .ok (.return_, 1) := by decide +kernel
theorem dX7_row_0 : decode cX7_row 0 = .ok (.iload_n 1, 1) := by decide +kernel
theorem dX7_row_1 : decode cX7_row 1 = .ok (.bipush 8, 2) := by decide +kernel
theorem dX7_row_3 : decode cX7_row 3 = .ok (.invokestatic 57, 3) := by decide +kernel
theorem dX7_row_6 : decode cX7_row 6 = .ok (.ifCond .eq 17, 3) := by decide +kernel
theorem dX7_row_9 : decode cX7_row 9 = .ok (.iload_n 2, 1) := by decide +kernel
theorem dX7_row_10 : decode cX7_row 10 = .ok (.iconst 3, 1) := by decide +kernel
theorem dX7_row_11 : decode cX7_row 11 = .ok (.invokestatic 57, 3) := by decide +kernel
theorem dX7_row_14 : decode cX7_row 14 = .ok (.ifCond .eq 9, 3) := by decide +kernel
theorem dX7_row_17 : decode cX7_row 17 = .ok (.iload_n 3, 1) := by decide +kernel
theorem dX7_row_18 : decode cX7_row 18 = .ok (.bipush 40, 2) := by decide +kernel
theorem dX7_row_20 : decode cX7_row 20 = .ok (.if_icmp .le 6, 3) := by decide +kernel
theorem dX7_row_23 : decode cX7_row 23 = .ok (.ldc 61, 2) := by decide +kernel
theorem dX7_row_25 : decode cX7_row 25 = .ok (.ireturn, 1) := by decide +kernel
theorem dX7_row_26 : decode cX7_row 26 = .ok (.iload_n 3, 1) := by decide +kernel
theorem dX7_row_27 : decode cX7_row 27 = .ok (.ifCond .ge 9, 3) := by decide +kernel
theorem dX7_row_30 : decode cX7_row 30 = .ok (.aload_n 0, 1) := by decide +kernel
theorem dX7_row_31 : decode cX7_row 31 = .ok (.iconst 4, 1) := by decide +kernel
theorem dX7_row_32 : decode cX7_row 32 = .ok (.invokevirtual 62, 3) := by decide +kernel
theorem dX7_row_35 : decode cX7_row 35 = .ok (.ireturn, 1) := by decide +kernel
theorem dX7_row_36 : decode cX7_row 36 = .ok (.aload_n 0, 1) := by decide +kernel
theorem dX7_row_37 : decode cX7_row 37 = .ok (.getfield 10, 3) := by decide +kernel
theorem dX7_row_40 : decode cX7_row 40 = .ok (.iload_n 1, 1) := by decide +kernel
theorem dX7_row_41 : decode cX7_row 41 = .ok (.iload_n 2, 1) := by decide +kernel
theorem dX7_row_42 : decode cX7_row 42 = .ok (.iload_n 3, 1) := by decide +kernel
theorem dX7_row_43 : decode cX7_row 43 = .ok (.invokevirtual 66, 3) := by decide +kernel
theorem dX7_row_46 : decode cX7_row 46 = .ok (.aload_n 0, 1) := by decide +kernel
theorem dX7_row_47 : decode cX7_row 47 = .ok (.iload_n 3, 1) := by decide +kernel
theorem dX7_row_48 : decode cX7_row 48 = .ok (.invokevirtual 70, 3) := by decide +kernel
theorem dX7_row_51 : decode cX7_row 51 = .ok (.ireturn, 1) := by decide +kernel
theorem dX7_set_0 : decode cX7_set 0 = .ok (.iload_n 1, 1) := by decide +kernel
theorem dX7_set_1 : decode cX7_set 1 = .ok (.bipush 8, 2) := by decide +kernel
theorem dX7_set_3 : decode cX7_set 3 = .ok (.invokestatic 57, 3) := by decide +kernel
theorem dX7_set_6 : decode cX7_set 6 = .ok (.ifCond .ne 6, 3) := by decide +kernel
theorem dX7_set_9 : decode cX7_set 9 = .ok (.ldc 61, 2) := by decide +kernel
theorem dX7_set_11 : decode cX7_set 11 = .ok (.ireturn, 1) := by decide +kernel
theorem dX7_set_12 : decode cX7_set 12 = .ok (.aload_n 0, 1) := by decide +kernel
theorem dX7_set_13 : decode cX7_set 13 = .ok (.getfield 10, 3) := by decide +kernel
theorem dX7_set_16 : decode cX7_set 16 = .ok (.iload_n 1, 1) := by decide +kernel
theorem dX7_set_17 : decode cX7_set 17 = .ok (.invokevirtual 73, 3) := by decide +kernel
theorem dX7_set_20 : decode cX7_set 20 = .ok (.ifCond .eq 9, 3) := by decide +kernel
theorem dX7_set_23 : decode cX7_set 23 = .ok (.aload_n 0, 1) := by decide +kernel
theorem dX7_set_24 : decode cX7_set 24 = .ok (.iconst 1, 1) := by decide +kernel
theorem dX7_set_25 : decode cX7_set 25 = .ok (.invokevirtual 62, 3) := by decide +kernel
theorem dX7_set_28 : decode cX7_set 28 = .ok (.ireturn, 1) := by decide +kernel
theorem dX7_set_29 : decode cX7_set 29 = .ok (.iload_n 2, 1) := by decide +kernel
theorem dX7_set_30 : decode cX7_set 30 = .ok (.aload_n 0, 1) := by decide +kernel
theorem dX7_set_31 : decode cX7_set 31 = .ok (.getfield 10, 3) := by decide +kernel
theorem dX7_set_34 : decode cX7_set 34 = .ok (.getfield 77, 3) := by decide +kernel
theorem dX7_set_37 : decode cX7_set 37 = .ok (.iload_n 1, 1) := by decide +kernel
theorem dX7_set_38 : decode cX7_set 38 = .ok (.iaload, 1) := by decide +kernel
theorem dX7_set_39 : decode cX7_set 39 = .ok (.invokestatic 57, 3) := by decide +kernel
theorem dX7_set_42 : decode cX7_set 42 = .ok (.ifCond .ne 9, 3) := by decide +kernel
theorem dX7_set_45 : decode cX7_set 45 = .ok (.aload_n 0, 1) := by decide +kernel
theorem dX7_set_46 : decode cX7_set 46 = .ok (.iconst 2, 1) := by decide +kernel
theorem dX7_set_47 : decode cX7_set 47 = .ok (.invokevirtual 62, 3) := by decide +kernel
theorem dX7_set_50 : decode cX7_set 50 = .ok (.ireturn, 1) := by decide +kernel
theorem dX7_set_51 : decode cX7_set 51 = .ok (.aload_n 0, 1) := by decide +kernel
theorem dX7_set_52 : decode cX7_set 52 = .ok (.getfield 10, 3) := by decide +kernel
theorem dX7_set_55 : decode cX7_set 55 = .ok (.getfield 81, 3) := by decide +kernel
theorem dX7_set_58 : decode cX7_set 58 = .ok (.iload_n 1, 1) := by decide +kernel
theorem dX7_set_59 : decode cX7_set 59 = .ok (.aaload, 1) := by decide +kernel
theorem dX7_set_60 : decode cX7_set 60 = .ok (.iload_n 2, 1) := by decide +kernel
theorem dX7_set_61 : decode cX7_set 61 = .ok (.aload_n 0, 1) := by decide +kernel
theorem dX7_set_62 : decode cX7_set 62 = .ok (.getfield 10, 3) := by decide +kernel
theorem dX7_set_65 : decode cX7_set 65 = .ok (.iload_n 1, 1) := by decide +kernel
theorem dX7_set_66 : decode cX7_set 66 = .ok (.iload_n 3, 1) := by decide +kernel
theorem dX7_set_67 : decode cX7_set 67 = .ok (.invokevirtual 85, 3) := by decide +kernel
theorem dX7_set_70 : decode cX7_set 70 = .ok (.iastore, 1) := by decide +kernel
theorem dX7_set_71 : decode cX7_set 71 = .ok (.aload_n 0, 1) := by decide +kernel
theorem dX7_set_72 : decode cX7_set 72 = .ok (.aload_n 0, 1) := by decide +kernel
theorem dX7_set_73 : decode cX7_set 73 = .ok (.getfield 10, 3) := by decide +kernel
theorem dX7_set_76 : decode cX7_set 76 = .ok (.getfield 81, 3) := by decide +kernel
theorem dX7_set_79 : decode cX7_set 79 = .ok (.iload_n 1, 1) := by decide +kernel
theorem dX7_set_80 : decode cX7_set 80 = .ok (.aaload, 1) := by decide +kernel
theorem dX7_set_81 : decode cX7_set 81 = .ok (.iload_n 2, 1) := by decide +kernel
theorem dX7_set_82 : decode cX7_set 82 = .ok (.iaload, 1) := by decide +kernel
theorem dX7_set_83 : decode cX7_set 83 = .ok (.invokevirtual 70, 3) := by decide +kernel
theorem dX7_set_86 : decode cX7_set 86 = .ok (.ireturn, 1) := by decide +kernel
theorem dX7_copy_0 : decode cX7_copy 0 = .ok (.iload_n 1, 1) := by decide +kernel
theorem dX7_copy_1 : decode cX7_copy 1 = .ok (.bipush 8, 2) := by decide +kernel
theorem dX7_copy_3 : decode cX7_copy 3 = .ok (.invokestatic 57, 3) := by decide +kernel
theorem dX7_copy_6 : decode cX7_copy 6 = .ok (.ifCond .eq 12, 3) := by decide +kernel
theorem dX7_copy_9 : decode cX7_copy 9 = .ok (.iload_n 3, 1) := by decide +kernel
theorem dX7_copy_10 : decode cX7_copy 10 = .ok (.bipush 8, 2) := by decide +kernel
theorem dX7_copy_12 : decode cX7_copy 12 = .ok (.invokestatic 57, 3) := by decide +kernel
theorem dX7_copy_15 : decode cX7_copy 15 = .ok (.ifCond .ne 6, 3) := by decide +kernel
theorem dX7_copy_18 : decode cX7_copy 18 = .ok (.ldc 61, 2) := by decide +kernel
theorem dX7_copy_20 : decode cX7_copy 20 = .ok (.ireturn, 1) := by decide +kernel
theorem dX7_copy_21 : decode cX7_copy 21 = .ok (.aload_n 0, 1) := by decide +kernel
theorem dX7_copy_22 : decode cX7_copy 22 = .ok (.getfield 10, 3) := by decide +kernel
theorem dX7_copy_25 : decode cX7_copy 25 = .ok (.iload_n 1, 1) := by decide +kernel
theorem dX7_copy_26 : decode cX7_copy 26 = .ok (.invokevirtual 73, 3) := by decide +kernel
theorem dX7_copy_29 : decode cX7_copy 29 = .ok (.ifCond .ne 14, 3) := by decide +kernel
theorem dX7_copy_32 : decode cX7_copy 32 = .ok (.aload_n 0, 1) := by decide +kernel
theorem dX7_copy_33 : decode cX7_copy 33 = .ok (.getfield 10, 3) := by decide +kernel
theorem dX7_copy_36 : decode cX7_copy 36 = .ok (.iload_n 3, 1) := by decide +kernel
theorem dX7_copy_37 : decode cX7_copy 37 = .ok (.invokevirtual 73, 3) := by decide +kernel
theorem dX7_copy_40 : decode cX7_copy 40 = .ok (.ifCond .eq 9, 3) := by decide +kernel
theorem dX7_copy_43 : decode cX7_copy 43 = .ok (.aload_n 0, 1) := by decide +kernel
theorem dX7_copy_44 : decode cX7_copy 44 = .ok (.iconst 1, 1) := by decide +kernel
theorem dX7_copy_45 : decode cX7_copy 45 = .ok (.invokevirtual 62, 3) := by decide +kernel
theorem dX7_copy_48 : decode cX7_copy 48 = .ok (.ireturn, 1) := by decide +kernel
theorem dX7_copy_49 : decode cX7_copy 49 = .ok (.aload_n 0, 1) := by decide +kernel
theorem dX7_copy_50 : decode cX7_copy 50 = .ok (.getfield 10, 3) := by decide +kernel
theorem dX7_copy_53 : decode cX7_copy 53 = .ok (.getfield 89, 3) := by decide +kernel
theorem dX7_copy_56 : decode cX7_copy 56 = .ok (.iload_n 1, 1) := by decide +kernel
theorem dX7_copy_57 : decode cX7_copy 57 = .ok (.iaload, 1) := by decide +kernel
theorem dX7_copy_58 : decode cX7_copy 58 = .ok (.aload_n 0, 1) := by decide +kernel
theorem dX7_copy_59 : decode cX7_copy 59 = .ok (.getfield 10, 3) := by decide +kernel
theorem dX7_copy_62 : decode cX7_copy 62 = .ok (.getfield 89, 3) := by decide +kernel
theorem dX7_copy_65 : decode cX7_copy 65 = .ok (.iload_n 3, 1) := by decide +kernel
theorem dX7_copy_66 : decode cX7_copy 66 = .ok (.iaload, 1) := by decide +kernel
theorem dX7_copy_67 : decode cX7_copy 67 = .ok (.if_icmp .eq 9, 3) := by decide +kernel
theorem dX7_copy_70 : decode cX7_copy 70 = .ok (.aload_n 0, 1) := by decide +kernel
theorem dX7_copy_71 : decode cX7_copy 71 = .ok (.iconst 5, 1) := by decide +kernel
theorem dX7_copy_72 : decode cX7_copy 72 = .ok (.invokevirtual 62, 3) := by decide +kernel
theorem dX7_copy_75 : decode cX7_copy 75 = .ok (.ireturn, 1) := by decide +kernel
theorem dX7_copy_76 : decode cX7_copy 76 = .ok (.aload_n 0, 1) := by decide +kernel
theorem dX7_copy_77 : decode cX7_copy 77 = .ok (.getfield 10, 3) := by decide +kernel
theorem dX7_copy_80 : decode cX7_copy 80 = .ok (.iload_n 1, 1) := by decide +kernel
theorem dX7_copy_81 : decode cX7_copy 81 = .ok (.iload_n 2, 1) := by decide +kernel
theorem dX7_copy_82 : decode cX7_copy 82 = .ok (.iload 5, 2) := by decide +kernel
theorem dX7_copy_84 : decode cX7_copy 84 = .ok (.invokevirtual 92, 3) := by decide +kernel
theorem dX7_copy_87 : decode cX7_copy 87 = .ok (.ifCond .eq 18, 3) := by decide +kernel
theorem dX7_copy_90 : decode cX7_copy 90 = .ok (.aload_n 0, 1) := by decide +kernel
theorem dX7_copy_91 : decode cX7_copy 91 = .ok (.getfield 10, 3) := by decide +kernel
theorem dX7_copy_94 : decode cX7_copy 94 = .ok (.iload_n 3, 1) := by decide +kernel
theorem dX7_copy_95 : decode cX7_copy 95 = .ok (.iload 4, 2) := by decide +kernel
theorem dX7_copy_97 : decode cX7_copy 97 = .ok (.iload 5, 2) := by decide +kernel
theorem dX7_copy_99 : decode cX7_copy 99 = .ok (.invokevirtual 92, 3) := by decide +kernel
theorem dX7_copy_102 : decode cX7_copy 102 = .ok (.ifCond .ne 9, 3) := by decide +kernel
theorem dX7_copy_105 : decode cX7_copy 105 = .ok (.aload_n 0, 1) := by decide +kernel
theorem dX7_copy_106 : decode cX7_copy 106 = .ok (.iconst 2, 1) := by decide +kernel
theorem dX7_copy_107 : decode cX7_copy 107 = .ok (.invokevirtual 62, 3) := by decide +kernel
theorem dX7_copy_110 : decode cX7_copy 110 = .ok (.ireturn, 1) := by decide +kernel
theorem dX7_copy_111 : decode cX7_copy 111 = .ok (.aload_n 0, 1) := by decide +kernel
theorem dX7_copy_112 : decode cX7_copy 112 = .ok (.getfield 10, 3) := by decide +kernel
theorem dX7_copy_115 : decode cX7_copy 115 = .ok (.getfield 81, 3) := by decide +kernel
theorem dX7_copy_118 : decode cX7_copy 118 = .ok (.iload_n 1, 1) := by decide +kernel
theorem dX7_copy_119 : decode cX7_copy 119 = .ok (.aaload, 1) := by decide +kernel
theorem dX7_copy_120 : decode cX7_copy 120 = .ok (.iload_n 2, 1) := by decide +kernel
theorem dX7_copy_121 : decode cX7_copy 121 = .ok (.aload_n 0, 1) := by decide +kernel
theorem dX7_copy_122 : decode cX7_copy 122 = .ok (.getfield 10, 3) := by decide +kernel
theorem dX7_copy_125 : decode cX7_copy 125 = .ok (.getfield 81, 3) := by decide +kernel
theorem dX7_copy_128 : decode cX7_copy 128 = .ok (.iload_n 3, 1) := by decide +kernel
theorem dX7_copy_129 : decode cX7_copy 129 = .ok (.aaload, 1) := by decide +kernel
theorem dX7_copy_130 : decode cX7_copy 130 = .ok (.iload 4, 2) := by decide +kernel
theorem dX7_copy_132 : decode cX7_copy 132 = .ok (.iload 5, 2) := by decide +kernel
theorem dX7_copy_134 : decode cX7_copy 134 = .ok (.invokestatic 96, 3) := by decide +kernel
theorem dX7_copy_137 : decode cX7_copy 137 = .ok (.aload_n 0, 1) := by decide +kernel
theorem dX7_copy_138 : decode cX7_copy 138 = .ok (.iload 5, 2) := by decide +kernel
theorem dX7_copy_140 : decode cX7_copy 140 = .ok (.invokevirtual 70, 3) := by decide +kernel
theorem dX7_copy_143 : decode cX7_copy 143 = .ok (.ireturn, 1) := by decide +kernel
theorem dX7_drop_0 : decode cX7_drop 0 = .ok (.iload_n 1, 1) := by decide +kernel
theorem dX7_drop_1 : decode cX7_drop 1 = .ok (.bipush 8, 2) := by decide +kernel
theorem dX7_drop_3 : decode cX7_drop 3 = .ok (.invokestatic 57, 3) := by decide +kernel
theorem dX7_drop_6 : decode cX7_drop 6 = .ok (.ifCond .ne 6, 3) := by decide +kernel
theorem dX7_drop_9 : decode cX7_drop 9 = .ok (.ldc 61, 2) := by decide +kernel
theorem dX7_drop_11 : decode cX7_drop 11 = .ok (.ireturn, 1) := by decide +kernel
theorem dX7_drop_12 : decode cX7_drop 12 = .ok (.aload_n 0, 1) := by decide +kernel
theorem dX7_drop_13 : decode cX7_drop 13 = .ok (.getfield 10, 3) := by decide +kernel
theorem dX7_drop_16 : decode cX7_drop 16 = .ok (.iload_n 1, 1) := by decide +kernel
theorem dX7_drop_17 : decode cX7_drop 17 = .ok (.invokevirtual 73, 3) := by decide +kernel
theorem dX7_drop_20 : decode cX7_drop 20 = .ok (.ifCond .eq 9, 3) := by decide +kernel
theorem dX7_drop_23 : decode cX7_drop 23 = .ok (.aload_n 0, 1) := by decide +kernel
theorem dX7_drop_24 : decode cX7_drop 24 = .ok (.iconst 1, 1) := by decide +kernel
theorem dX7_drop_25 : decode cX7_drop 25 = .ok (.invokevirtual 62, 3) := by decide +kernel
theorem dX7_drop_28 : decode cX7_drop 28 = .ok (.ireturn, 1) := by decide +kernel
theorem dX7_drop_29 : decode cX7_drop 29 = .ok (.aload_n 0, 1) := by decide +kernel
theorem dX7_drop_30 : decode cX7_drop 30 = .ok (.getfield 10, 3) := by decide +kernel
theorem dX7_drop_33 : decode cX7_drop 33 = .ok (.getfield 77, 3) := by decide +kernel
theorem dX7_drop_36 : decode cX7_drop 36 = .ok (.iload_n 1, 1) := by decide +kernel
theorem dX7_drop_37 : decode cX7_drop 37 = .ok (.iaload, 1) := by decide +kernel
theorem dX7_drop_38 : decode cX7_drop 38 = .ok (.istore_n 2, 1) := by decide +kernel
theorem dX7_drop_39 : decode cX7_drop 39 = .ok (.aload_n 0, 1) := by decide +kernel
theorem dX7_drop_40 : decode cX7_drop 40 = .ok (.getfield 10, 3) := by decide +kernel
theorem dX7_drop_43 : decode cX7_drop 43 = .ok (.getfield 77, 3) := by decide +kernel
theorem dX7_drop_46 : decode cX7_drop 46 = .ok (.iload_n 1, 1) := by decide +kernel
theorem dX7_drop_47 : decode cX7_drop 47 = .ok (.iconst (-1), 1) := by decide +kernel
theorem dX7_drop_48 : decode cX7_drop 48 = .ok (.iastore, 1) := by decide +kernel
theorem dX7_drop_49 : decode cX7_drop 49 = .ok (.aload_n 0, 1) := by decide +kernel
theorem dX7_drop_50 : decode cX7_drop 50 = .ok (.iload_n 2, 1) := by decide +kernel
theorem dX7_drop_51 : decode cX7_drop 51 = .ok (.invokevirtual 70, 3) := by decide +kernel
theorem dX7_drop_54 : decode cX7_drop 54 = .ok (.ireturn, 1) := by decide +kernel
theorem dX7_feed_0 : decode cX7_feed 0 = .ok (.iload_n 3, 1) := by decide +kernel
theorem dX7_feed_1 : decode cX7_feed 1 = .ok (.iconst 1, 1) := by decide +kernel
theorem dX7_feed_2 : decode cX7_feed 2 = .ok (.if_icmp .lt 9, 3) := by decide +kernel
theorem dX7_feed_5 : decode cX7_feed 5 = .ok (.iload_n 3, 1) := by decide +kernel
theorem dX7_feed_6 : decode cX7_feed 6 = .ok (.bipush 8, 2) := by decide +kernel
theorem dX7_feed_8 : decode cX7_feed 8 = .ok (.if_icmp .le 6, 3) := by decide +kernel
theorem dX7_feed_11 : decode cX7_feed 11 = .ok (.ldc 61, 2) := by decide +kernel
theorem dX7_feed_13 : decode cX7_feed 13 = .ok (.ireturn, 1) := by decide +kernel
theorem dX7_feed_14 : decode cX7_feed 14 = .ok (.iload_n 3, 1) := by decide +kernel
theorem dX7_feed_15 : decode cX7_feed 15 = .ok (.sipush 400, 3) := by decide +kernel
theorem dX7_feed_18 : decode cX7_feed 18 = .ok (.aload_n 0, 1) := by decide +kernel
theorem dX7_feed_19 : decode cX7_feed 19 = .ok (.getfield 19, 3) := by decide +kernel
theorem dX7_feed_22 : decode cX7_feed 22 = .ok (.getfield 102, 3) := by decide +kernel
theorem dX7_feed_25 : decode cX7_feed 25 = .ok (.isub, 1) := by decide +kernel
theorem dX7_feed_26 : decode cX7_feed 26 = .ok (.if_icmp .le 6, 3) := by decide +kernel
theorem dX7_feed_29 : decode cX7_feed 29 = .ok (.ldc 106, 2) := by decide +kernel
theorem dX7_feed_31 : decode cX7_feed 31 = .ok (.ireturn, 1) := by decide +kernel
theorem dX7_feed_32 : decode cX7_feed 32 = .ok (.iload_n 3, 1) := by decide +kernel
theorem dX7_feed_33 : decode cX7_feed 33 = .ok (.iconst 1, 1) := by decide +kernel
theorem dX7_feed_34 : decode cX7_feed 34 = .ok (.isub, 1) := by decide +kernel
theorem dX7_feed_35 : decode cX7_feed 35 = .ok (.istore 4, 2) := by decide +kernel
theorem dX7_feed_37 : decode cX7_feed 37 = .ok (.iload 4, 2) := by decide +kernel
theorem dX7_feed_39 : decode cX7_feed 39 = .ok (.ifCond .lt 25, 3) := by decide +kernel
theorem dX7_feed_42 : decode cX7_feed 42 = .ok (.aload_n 0, 1) := by decide +kernel
theorem dX7_feed_43 : decode cX7_feed 43 = .ok (.getfield 19, 3) := by decide +kernel
theorem dX7_feed_46 : decode cX7_feed 46 = .ok (.lload_n 1, 1) := by decide +kernel
theorem dX7_feed_47 : decode cX7_feed 47 = .ok (.bipush 8, 2) := by decide +kernel
theorem dX7_feed_49 : decode cX7_feed 49 = .ok (.iload 4, 2) := by decide +kernel
theorem dX7_feed_51 : decode cX7_feed 51 = .ok (.imul, 1) := by decide +kernel
theorem dX7_feed_52 : decode cX7_feed 52 = .ok (.lushr, 1) := by decide +kernel
theorem dX7_feed_53 : decode cX7_feed 53 = .ok (.l2i, 1) := by decide +kernel
theorem dX7_feed_54 : decode cX7_feed 54 = .ok (.i2b, 1) := by decide +kernel
theorem dX7_feed_55 : decode cX7_feed 55 = .ok (.invokevirtual 107, 3) := by decide +kernel
theorem dX7_feed_58 : decode cX7_feed 58 = .ok (.iinc 4 (-1), 3) := by decide +kernel
theorem dX7_feed_61 : decode cX7_feed 61 = .ok (.goto (-24), 3) := by decide +kernel
theorem dX7_feed_64 : decode cX7_feed 64 = .ok (.aload_n 0, 1) := by decide +kernel
theorem dX7_feed_65 : decode cX7_feed 65 = .ok (.getfield 19, 3) := by decide +kernel
theorem dX7_feed_68 : decode cX7_feed 68 = .ok (.getfield 102, 3) := by decide +kernel
theorem dX7_feed_71 : decode cX7_feed 71 = .ok (.ireturn, 1) := by decide +kernel
theorem dX7_land_0 : decode cX7_land 0 = .ok (.aload_n 0, 1) := by decide +kernel
theorem dX7_land_1 : decode cX7_land 1 = .ok (.getfield 19, 3) := by decide +kernel
theorem dX7_land_4 : decode cX7_land 4 = .ok (.invokevirtual 111, 3) := by decide +kernel
theorem dX7_land_7 : decode cX7_land 7 = .ok (.istore_n 1, 1) := by decide +kernel
theorem dX7_land_8 : decode cX7_land 8 = .ok (.aload_n 0, 1) := by decide +kernel
theorem dX7_land_9 : decode cX7_land 9 = .ok (.getfield 19, 3) := by decide +kernel
theorem dX7_land_12 : decode cX7_land 12 = .ok (.iconst 0, 1) := by decide +kernel
theorem dX7_land_13 : decode cX7_land 13 = .ok (.putfield 102, 3) := by decide +kernel
theorem dX7_land_16 : decode cX7_land 16 = .ok (.iload_n 1, 1) := by decide +kernel
theorem dX7_land_17 : decode cX7_land 17 = .ok (.ifCond .ne 14, 3) := by decide +kernel
theorem dX7_land_20 : decode cX7_land 20 = .ok (.ldc 115, 2) := by decide +kernel
theorem dX7_land_22 : decode cX7_land 22 = .ok (.aload_n 0, 1) := by decide +kernel
theorem dX7_land_23 : decode cX7_land 23 = .ok (.getfield 19, 3) := by decide +kernel
theorem dX7_land_26 : decode cX7_land 26 = .ok (.getfield 116, 3) := by decide +kernel
theorem dX7_land_29 : decode cX7_land 29 = .ok (.isub, 1) := by decide +kernel
theorem dX7_land_30 : decode cX7_land 30 = .ok (.ireturn, 1) := by decide +kernel
theorem dX7_land_31 : decode cX7_land 31 = .ok (.aload_n 0, 1) := by decide +kernel
theorem dX7_land_32 : decode cX7_land 32 = .ok (.getfield 26, 3) := by decide +kernel
theorem dX7_land_35 : decode cX7_land 35 = .ok (.aload_n 0, 1) := by decide +kernel
theorem dX7_land_36 : decode cX7_land 36 = .ok (.getfield 19, 3) := by decide +kernel
theorem dX7_land_39 : decode cX7_land 39 = .ok (.getfield 119, 3) := by decide +kernel
theorem dX7_land_42 : decode cX7_land 42 = .ok (.invokevirtual 122, 3) := by decide +kernel
theorem dX7_land_45 : decode cX7_land 45 = .ok (.aload_n 0, 1) := by decide +kernel
theorem dX7_land_46 : decode cX7_land 46 = .ok (.getfield 33, 3) := by decide +kernel
theorem dX7_land_49 : decode cX7_land 49 = .ok (.invokevirtual 125, 3) := by decide +kernel
theorem dX7_land_52 : decode cX7_land 52 = .ok (.aload_n 0, 1) := by decide +kernel
theorem dX7_land_53 : decode cX7_land 53 = .ok (.getfield 26, 3) := by decide +kernel
theorem dX7_land_56 : decode cX7_land 56 = .ok (.getfield 128, 3) := by decide +kernel
theorem dX7_land_59 : decode cX7_land 59 = .ok (.ireturn, 1) := by decide +kernel
theorem dX7_fault_0 : decode cX7_fault 0 = .ok (.aload_n 0, 1) := by decide +kernel
theorem dX7_fault_1 : decode cX7_fault 1 = .ok (.getfield 19, 3) := by decide +kernel
theorem dX7_fault_4 : decode cX7_fault 4 = .ok (.getfield 131, 3) := by decide +kernel
theorem dX7_fault_7 : decode cX7_fault 7 = .ok (.ireturn, 1) := by decide +kernel
theorem dX7_go_0 : decode cX7_go 0 = .ok (.aload_n 0, 1) := by decide +kernel
theorem dX7_go_1 : decode cX7_go 1 = .ok (.getfield 26, 3) := by decide +kernel
theorem dX7_go_4 : decode cX7_go 4 = .ok (.iload_n 1, 1) := by decide +kernel
theorem dX7_go_5 : decode cX7_go 5 = .ok (.invokevirtual 134, 3) := by decide +kernel
theorem dX7_go_8 : decode cX7_go 8 = .ok (.ifCond .eq 14, 3) := by decide +kernel
theorem dX7_go_11 : decode cX7_go 11 = .ok (.aload_n 0, 1) := by decide +kernel
theorem dX7_go_12 : decode cX7_go 12 = .ok (.getfield 26, 3) := by decide +kernel
theorem dX7_go_15 : decode cX7_go 15 = .ok (.iload_n 2, 1) := by decide +kernel
theorem dX7_go_16 : decode cX7_go 16 = .ok (.invokevirtual 137, 3) := by decide +kernel
theorem dX7_go_19 : decode cX7_go 19 = .ok (.ifCond .ne 6, 3) := by decide +kernel
theorem dX7_go_22 : decode cX7_go 22 = .ok (.ldc 61, 2) := by decide +kernel
theorem dX7_go_24 : decode cX7_go 24 = .ok (.ireturn, 1) := by decide +kernel
theorem dX7_go_25 : decode cX7_go 25 = .ok (.aload_n 0, 1) := by decide +kernel
theorem dX7_go_26 : decode cX7_go 26 = .ok (.getfield 26, 3) := by decide +kernel
theorem dX7_go_29 : decode cX7_go 29 = .ok (.iload_n 1, 1) := by decide +kernel
theorem dX7_go_30 : decode cX7_go 30 = .ok (.iload_n 2, 1) := by decide +kernel
theorem dX7_go_31 : decode cX7_go 31 = .ok (.invokevirtual 140, 3) := by decide +kernel
theorem dX7_go_34 : decode cX7_go 34 = .ok (.ifCond .ne 6, 3) := by decide +kernel
theorem dX7_go_37 : decode cX7_go 37 = .ok (.ldc 143, 2) := by decide +kernel
theorem dX7_go_39 : decode cX7_go 39 = .ok (.ireturn, 1) := by decide +kernel
theorem dX7_go_40 : decode cX7_go 40 = .ok (.aload_n 0, 1) := by decide +kernel
theorem dX7_go_41 : decode cX7_go 41 = .ok (.getfield 33, 3) := by decide +kernel
theorem dX7_go_44 : decode cX7_go 44 = .ok (.aload_n 0, 1) := by decide +kernel
theorem dX7_go_45 : decode cX7_go 45 = .ok (.getfield 26, 3) := by decide +kernel
theorem dX7_go_48 : decode cX7_go 48 = .ok (.getfield 144, 3) := by decide +kernel
theorem dX7_go_51 : decode cX7_go 51 = .ok (.invokevirtual 148, 3) := by decide +kernel
theorem dX7_go_54 : decode cX7_go 54 = .ok (.aload_n 0, 1) := by decide +kernel
theorem dX7_go_55 : decode cX7_go 55 = .ok (.getfield 26, 3) := by decide +kernel
theorem dX7_go_58 : decode cX7_go 58 = .ok (.iload_n 1, 1) := by decide +kernel
theorem dX7_go_59 : decode cX7_go 59 = .ok (.iload_n 2, 1) := by decide +kernel
theorem dX7_go_60 : decode cX7_go 60 = .ok (.invokevirtual 152, 3) := by decide +kernel
theorem dX7_go_63 : decode cX7_go 63 = .ok (.aload_n 0, 1) := by decide +kernel
theorem dX7_go_64 : decode cX7_go 64 = .ok (.getfield 26, 3) := by decide +kernel
theorem dX7_go_67 : decode cX7_go 67 = .ok (.getfield 144, 3) := by decide +kernel
theorem dX7_go_70 : decode cX7_go 70 = .ok (.getfield 156, 3) := by decide +kernel
theorem dX7_go_73 : decode cX7_go 73 = .ok (.iload_n 1, 1) := by decide +kernel
theorem dX7_go_74 : decode cX7_go 74 = .ok (.iaload, 1) := by decide +kernel
theorem dX7_go_75 : decode cX7_go 75 = .ok (.ireturn, 1) := by decide +kernel
theorem dX7_take_0 : decode cX7_take 0 = .ok (.aload_n 0, 1) := by decide +kernel
theorem dX7_take_1 : decode cX7_take 1 = .ok (.getfield 26, 3) := by decide +kernel
theorem dX7_take_4 : decode cX7_take 4 = .ok (.iload_n 1, 1) := by decide +kernel
theorem dX7_take_5 : decode cX7_take 5 = .ok (.invokevirtual 134, 3) := by decide +kernel
theorem dX7_take_8 : decode cX7_take 8 = .ok (.ifCond .eq 14, 3) := by decide +kernel
theorem dX7_take_11 : decode cX7_take 11 = .ok (.aload_n 0, 1) := by decide +kernel
theorem dX7_take_12 : decode cX7_take 12 = .ok (.getfield 26, 3) := by decide +kernel
theorem dX7_take_15 : decode cX7_take 15 = .ok (.iload_n 2, 1) := by decide +kernel
theorem dX7_take_16 : decode cX7_take 16 = .ok (.invokevirtual 161, 3) := by decide +kernel
theorem dX7_take_19 : decode cX7_take 19 = .ok (.ifCond .ne 6, 3) := by decide +kernel
theorem dX7_take_22 : decode cX7_take 22 = .ok (.ldc 61, 2) := by decide +kernel
theorem dX7_take_24 : decode cX7_take 24 = .ok (.ireturn, 1) := by decide +kernel
theorem dX7_take_25 : decode cX7_take 25 = .ok (.aload_n 0, 1) := by decide +kernel
theorem dX7_take_26 : decode cX7_take 26 = .ok (.getfield 26, 3) := by decide +kernel
theorem dX7_take_29 : decode cX7_take 29 = .ok (.iload_n 1, 1) := by decide +kernel
theorem dX7_take_30 : decode cX7_take 30 = .ok (.invokevirtual 164, 3) := by decide +kernel
theorem dX7_take_33 : decode cX7_take 33 = .ok (.ifCond .ne 30, 3) := by decide +kernel
theorem dX7_take_36 : decode cX7_take 36 = .ok (.aload_n 0, 1) := by decide +kernel
theorem dX7_take_37 : decode cX7_take 37 = .ok (.getfield 26, 3) := by decide +kernel
theorem dX7_take_40 : decode cX7_take 40 = .ok (.getfield 144, 3) := by decide +kernel
theorem dX7_take_43 : decode cX7_take 43 = .ok (.getfield 167, 3) := by decide +kernel
theorem dX7_take_46 : decode cX7_take 46 = .ok (.iload_n 2, 1) := by decide +kernel
theorem dX7_take_47 : decode cX7_take 47 = .ok (.iaload, 1) := by decide +kernel
theorem dX7_take_48 : decode cX7_take 48 = .ok (.aload_n 0, 1) := by decide +kernel
theorem dX7_take_49 : decode cX7_take 49 = .ok (.getfield 26, 3) := by decide +kernel
theorem dX7_take_52 : decode cX7_take 52 = .ok (.getfield 144, 3) := by decide +kernel
theorem dX7_take_55 : decode cX7_take 55 = .ok (.getfield 156, 3) := by decide +kernel
theorem dX7_take_58 : decode cX7_take 58 = .ok (.iload_n 1, 1) := by decide +kernel
theorem dX7_take_59 : decode cX7_take 59 = .ok (.iaload, 1) := by decide +kernel
theorem dX7_take_60 : decode cX7_take 60 = .ok (.if_icmp .eq 6, 3) := by decide +kernel
theorem dX7_take_63 : decode cX7_take 63 = .ok (.ldc 143, 2) := by decide +kernel
theorem dX7_take_65 : decode cX7_take 65 = .ok (.ireturn, 1) := by decide +kernel
theorem dX7_take_66 : decode cX7_take 66 = .ok (.aload_n 0, 1) := by decide +kernel
theorem dX7_take_67 : decode cX7_take 67 = .ok (.getfield 33, 3) := by decide +kernel
theorem dX7_take_70 : decode cX7_take 70 = .ok (.aload_n 0, 1) := by decide +kernel
theorem dX7_take_71 : decode cX7_take 71 = .ok (.getfield 26, 3) := by decide +kernel
theorem dX7_take_74 : decode cX7_take 74 = .ok (.getfield 144, 3) := by decide +kernel
theorem dX7_take_77 : decode cX7_take 77 = .ok (.invokevirtual 148, 3) := by decide +kernel
theorem dX7_take_80 : decode cX7_take 80 = .ok (.aload_n 0, 1) := by decide +kernel
theorem dX7_take_81 : decode cX7_take 81 = .ok (.getfield 26, 3) := by decide +kernel
theorem dX7_take_84 : decode cX7_take 84 = .ok (.getfield 144, 3) := by decide +kernel
theorem dX7_take_87 : decode cX7_take 87 = .ok (.getfield 170, 3) := by decide +kernel
theorem dX7_take_90 : decode cX7_take 90 = .ok (.iload_n 1, 1) := by decide +kernel
theorem dX7_take_91 : decode cX7_take 91 = .ok (.iload_n 2, 1) := by decide +kernel
theorem dX7_take_92 : decode cX7_take 92 = .ok (.iastore, 1) := by decide +kernel
theorem dX7_take_93 : decode cX7_take 93 = .ok (.aload_n 0, 1) := by decide +kernel
theorem dX7_take_94 : decode cX7_take 94 = .ok (.getfield 26, 3) := by decide +kernel
theorem dX7_take_97 : decode cX7_take 97 = .ok (.getfield 144, 3) := by decide +kernel
theorem dX7_take_100 : decode cX7_take 100 = .ok (.getfield 167, 3) := by decide +kernel
theorem dX7_take_103 : decode cX7_take 103 = .ok (.iload_n 2, 1) := by decide +kernel
theorem dX7_take_104 : decode cX7_take 104 = .ok (.ldc 173, 2) := by decide +kernel
theorem dX7_take_106 : decode cX7_take 106 = .ok (.iastore, 1) := by decide +kernel
theorem dX7_take_107 : decode cX7_take 107 = .ok (.iload_n 2, 1) := by decide +kernel
theorem dX7_take_108 : decode cX7_take 108 = .ok (.ireturn, 1) := by decide +kernel
theorem dX7_lay_0 : decode cX7_lay 0 = .ok (.aload_n 0, 1) := by decide +kernel
theorem dX7_lay_1 : decode cX7_lay 1 = .ok (.getfield 26, 3) := by decide +kernel
theorem dX7_lay_4 : decode cX7_lay 4 = .ok (.iload_n 1, 1) := by decide +kernel
theorem dX7_lay_5 : decode cX7_lay 5 = .ok (.invokevirtual 134, 3) := by decide +kernel
theorem dX7_lay_8 : decode cX7_lay 8 = .ok (.ifCond .ne 6, 3) := by decide +kernel
theorem dX7_lay_11 : decode cX7_lay 11 = .ok (.ldc 61, 2) := by decide +kernel
theorem dX7_lay_13 : decode cX7_lay 13 = .ok (.ireturn, 1) := by decide +kernel
theorem dX7_lay_14 : decode cX7_lay 14 = .ok (.aload_n 0, 1) := by decide +kernel
theorem dX7_lay_15 : decode cX7_lay 15 = .ok (.getfield 26, 3) := by decide +kernel
theorem dX7_lay_18 : decode cX7_lay 18 = .ok (.getfield 144, 3) := by decide +kernel
theorem dX7_lay_21 : decode cX7_lay 21 = .ok (.getfield 170, 3) := by decide +kernel
theorem dX7_lay_24 : decode cX7_lay 24 = .ok (.iload_n 1, 1) := by decide +kernel
theorem dX7_lay_25 : decode cX7_lay 25 = .ok (.iaload, 1) := by decide +kernel
theorem dX7_lay_26 : decode cX7_lay 26 = .ok (.istore_n 2, 1) := by decide +kernel
theorem dX7_lay_27 : decode cX7_lay 27 = .ok (.aload_n 0, 1) := by decide +kernel
theorem dX7_lay_28 : decode cX7_lay 28 = .ok (.getfield 26, 3) := by decide +kernel
theorem dX7_lay_31 : decode cX7_lay 31 = .ok (.iload_n 2, 1) := by decide +kernel
theorem dX7_lay_32 : decode cX7_lay 32 = .ok (.invokevirtual 161, 3) := by decide +kernel
theorem dX7_lay_35 : decode cX7_lay 35 = .ok (.ifCond .ne 6, 3) := by decide +kernel
theorem dX7_lay_38 : decode cX7_lay 38 = .ok (.ldc 143, 2) := by decide +kernel
theorem dX7_lay_40 : decode cX7_lay 40 = .ok (.ireturn, 1) := by decide +kernel
theorem dX7_lay_41 : decode cX7_lay 41 = .ok (.aload_n 0, 1) := by decide +kernel
theorem dX7_lay_42 : decode cX7_lay 42 = .ok (.getfield 33, 3) := by decide +kernel
theorem dX7_lay_45 : decode cX7_lay 45 = .ok (.aload_n 0, 1) := by decide +kernel
theorem dX7_lay_46 : decode cX7_lay 46 = .ok (.getfield 26, 3) := by decide +kernel
theorem dX7_lay_49 : decode cX7_lay 49 = .ok (.getfield 144, 3) := by decide +kernel
theorem dX7_lay_52 : decode cX7_lay 52 = .ok (.invokevirtual 148, 3) := by decide +kernel
theorem dX7_lay_55 : decode cX7_lay 55 = .ok (.aload_n 0, 1) := by decide +kernel
theorem dX7_lay_56 : decode cX7_lay 56 = .ok (.getfield 26, 3) := by decide +kernel
theorem dX7_lay_59 : decode cX7_lay 59 = .ok (.getfield 144, 3) := by decide +kernel
theorem dX7_lay_62 : decode cX7_lay 62 = .ok (.getfield 170, 3) := by decide +kernel
theorem dX7_lay_65 : decode cX7_lay 65 = .ok (.iload_n 1, 1) := by decide +kernel
theorem dX7_lay_66 : decode cX7_lay 66 = .ok (.ldc 173, 2) := by decide +kernel
theorem dX7_lay_68 : decode cX7_lay 68 = .ok (.iastore, 1) := by decide +kernel
theorem dX7_lay_69 : decode cX7_lay 69 = .ok (.aload_n 0, 1) := by decide +kernel
theorem dX7_lay_70 : decode cX7_lay 70 = .ok (.getfield 26, 3) := by decide +kernel
theorem dX7_lay_73 : decode cX7_lay 73 = .ok (.getfield 144, 3) := by decide +kernel
theorem dX7_lay_76 : decode cX7_lay 76 = .ok (.getfield 167, 3) := by decide +kernel
theorem dX7_lay_79 : decode cX7_lay 79 = .ok (.iload_n 2, 1) := by decide +kernel
theorem dX7_lay_80 : decode cX7_lay 80 = .ok (.aload_n 0, 1) := by decide +kernel
theorem dX7_lay_81 : decode cX7_lay 81 = .ok (.getfield 26, 3) := by decide +kernel
theorem dX7_lay_84 : decode cX7_lay 84 = .ok (.getfield 144, 3) := by decide +kernel
theorem dX7_lay_87 : decode cX7_lay 87 = .ok (.getfield 156, 3) := by decide +kernel
theorem dX7_lay_90 : decode cX7_lay 90 = .ok (.iload_n 1, 1) := by decide +kernel
theorem dX7_lay_91 : decode cX7_lay 91 = .ok (.iaload, 1) := by decide +kernel
theorem dX7_lay_92 : decode cX7_lay 92 = .ok (.iastore, 1) := by decide +kernel
theorem dX7_lay_93 : decode cX7_lay 93 = .ok (.iload_n 2, 1) := by decide +kernel
theorem dX7_lay_94 : decode cX7_lay 94 = .ok (.ireturn, 1) := by decide +kernel
theorem dX7_hand_0 : decode cX7_hand 0 = .ok (.aload_n 0, 1) := by decide +kernel
theorem dX7_hand_1 : decode cX7_hand 1 = .ok (.getfield 26, 3) := by decide +kernel
theorem dX7_hand_4 : decode cX7_hand 4 = .ok (.iload_n 1, 1) := by decide +kernel
theorem dX7_hand_5 : decode cX7_hand 5 = .ok (.invokevirtual 134, 3) := by decide +kernel
theorem dX7_hand_8 : decode cX7_hand 8 = .ok (.ifCond .eq 19, 3) := by decide +kernel
theorem dX7_hand_11 : decode cX7_hand 11 = .ok (.aload_n 0, 1) := by decide +kernel
theorem dX7_hand_12 : decode cX7_hand 12 = .ok (.getfield 26, 3) := by decide +kernel
theorem dX7_hand_15 : decode cX7_hand 15 = .ok (.iload_n 2, 1) := by decide +kernel
theorem dX7_hand_16 : decode cX7_hand 16 = .ok (.invokevirtual 134, 3) := by decide +kernel
theorem dX7_hand_19 : decode cX7_hand 19 = .ok (.ifCond .eq 8, 3) := by decide +kernel
theorem dX7_hand_22 : decode cX7_hand 22 = .ok (.iload_n 1, 1) := by decide +kernel
theorem dX7_hand_23 : decode cX7_hand 23 = .ok (.iload_n 2, 1) := by decide +kernel
theorem dX7_hand_24 : decode cX7_hand 24 = .ok (.if_icmp .ne 6, 3) := by decide +kernel
theorem dX7_hand_27 : decode cX7_hand 27 = .ok (.ldc 61, 2) := by decide +kernel
theorem dX7_hand_29 : decode cX7_hand 29 = .ok (.ireturn, 1) := by decide +kernel
theorem dX7_hand_30 : decode cX7_hand 30 = .ok (.aload_n 0, 1) := by decide +kernel
theorem dX7_hand_31 : decode cX7_hand 31 = .ok (.getfield 26, 3) := by decide +kernel
theorem dX7_hand_34 : decode cX7_hand 34 = .ok (.getfield 144, 3) := by decide +kernel
theorem dX7_hand_37 : decode cX7_hand 37 = .ok (.getfield 156, 3) := by decide +kernel
theorem dX7_hand_40 : decode cX7_hand 40 = .ok (.iload_n 1, 1) := by decide +kernel
theorem dX7_hand_41 : decode cX7_hand 41 = .ok (.iaload, 1) := by decide +kernel
theorem dX7_hand_42 : decode cX7_hand 42 = .ok (.aload_n 0, 1) := by decide +kernel
theorem dX7_hand_43 : decode cX7_hand 43 = .ok (.getfield 26, 3) := by decide +kernel
theorem dX7_hand_46 : decode cX7_hand 46 = .ok (.getfield 144, 3) := by decide +kernel
theorem dX7_hand_49 : decode cX7_hand 49 = .ok (.getfield 156, 3) := by decide +kernel
theorem dX7_hand_52 : decode cX7_hand 52 = .ok (.iload_n 2, 1) := by decide +kernel
theorem dX7_hand_53 : decode cX7_hand 53 = .ok (.iaload, 1) := by decide +kernel
theorem dX7_hand_54 : decode cX7_hand 54 = .ok (.if_icmp .ne 7, 3) := by decide +kernel
theorem dX7_hand_57 : decode cX7_hand 57 = .ok (.iconst 1, 1) := by decide +kernel
theorem dX7_hand_58 : decode cX7_hand 58 = .ok (.goto 4, 3) := by decide +kernel
theorem dX7_hand_61 : decode cX7_hand 61 = .ok (.iconst 0, 1) := by decide +kernel
theorem dX7_hand_62 : decode cX7_hand 62 = .ok (.istore_n 3, 1) := by decide +kernel
theorem dX7_hand_63 : decode cX7_hand 63 = .ok (.aload_n 0, 1) := by decide +kernel
theorem dX7_hand_64 : decode cX7_hand 64 = .ok (.getfield 26, 3) := by decide +kernel
theorem dX7_hand_67 : decode cX7_hand 67 = .ok (.iload_n 1, 1) := by decide +kernel
theorem dX7_hand_68 : decode cX7_hand 68 = .ok (.invokevirtual 164, 3) := by decide +kernel
theorem dX7_hand_71 : decode cX7_hand 71 = .ok (.ifCond .eq 18, 3) := by decide +kernel
theorem dX7_hand_74 : decode cX7_hand 74 = .ok (.aload_n 0, 1) := by decide +kernel
theorem dX7_hand_75 : decode cX7_hand 75 = .ok (.getfield 26, 3) := by decide +kernel
theorem dX7_hand_78 : decode cX7_hand 78 = .ok (.iload_n 2, 1) := by decide +kernel
theorem dX7_hand_79 : decode cX7_hand 79 = .ok (.invokevirtual 164, 3) := by decide +kernel
theorem dX7_hand_82 : decode cX7_hand 82 = .ok (.ifCond .ne 7, 3) := by decide +kernel
theorem dX7_hand_85 : decode cX7_hand 85 = .ok (.iload_n 3, 1) := by decide +kernel
theorem dX7_hand_86 : decode cX7_hand 86 = .ok (.ifCond .ne 6, 3) := by decide +kernel
theorem dX7_hand_89 : decode cX7_hand 89 = .ok (.ldc 143, 2) := by decide +kernel
theorem dX7_hand_91 : decode cX7_hand 91 = .ok (.ireturn, 1) := by decide +kernel
theorem dX7_hand_92 : decode cX7_hand 92 = .ok (.aload_n 0, 1) := by decide +kernel
theorem dX7_hand_93 : decode cX7_hand 93 = .ok (.getfield 33, 3) := by decide +kernel
theorem dX7_hand_96 : decode cX7_hand 96 = .ok (.aload_n 0, 1) := by decide +kernel
theorem dX7_hand_97 : decode cX7_hand 97 = .ok (.getfield 26, 3) := by decide +kernel
theorem dX7_hand_100 : decode cX7_hand 100 = .ok (.getfield 144, 3) := by decide +kernel
theorem dX7_hand_103 : decode cX7_hand 103 = .ok (.invokevirtual 148, 3) := by decide +kernel
theorem dX7_hand_106 : decode cX7_hand 106 = .ok (.aload_n 0, 1) := by decide +kernel
theorem dX7_hand_107 : decode cX7_hand 107 = .ok (.getfield 26, 3) := by decide +kernel
theorem dX7_hand_110 : decode cX7_hand 110 = .ok (.getfield 144, 3) := by decide +kernel
theorem dX7_hand_113 : decode cX7_hand 113 = .ok (.getfield 170, 3) := by decide +kernel
theorem dX7_hand_116 : decode cX7_hand 116 = .ok (.iload_n 2, 1) := by decide +kernel
theorem dX7_hand_117 : decode cX7_hand 117 = .ok (.aload_n 0, 1) := by decide +kernel
theorem dX7_hand_118 : decode cX7_hand 118 = .ok (.getfield 26, 3) := by decide +kernel
theorem dX7_hand_121 : decode cX7_hand 121 = .ok (.getfield 144, 3) := by decide +kernel
theorem dX7_hand_124 : decode cX7_hand 124 = .ok (.getfield 170, 3) := by decide +kernel
theorem dX7_hand_127 : decode cX7_hand 127 = .ok (.iload_n 1, 1) := by decide +kernel
theorem dX7_hand_128 : decode cX7_hand 128 = .ok (.iaload, 1) := by decide +kernel
theorem dX7_hand_129 : decode cX7_hand 129 = .ok (.iastore, 1) := by decide +kernel
theorem dX7_hand_130 : decode cX7_hand 130 = .ok (.aload_n 0, 1) := by decide +kernel
theorem dX7_hand_131 : decode cX7_hand 131 = .ok (.getfield 26, 3) := by decide +kernel
theorem dX7_hand_134 : decode cX7_hand 134 = .ok (.getfield 144, 3) := by decide +kernel
theorem dX7_hand_137 : decode cX7_hand 137 = .ok (.getfield 170, 3) := by decide +kernel
theorem dX7_hand_140 : decode cX7_hand 140 = .ok (.iload_n 1, 1) := by decide +kernel
theorem dX7_hand_141 : decode cX7_hand 141 = .ok (.ldc 173, 2) := by decide +kernel
theorem dX7_hand_143 : decode cX7_hand 143 = .ok (.iastore, 1) := by decide +kernel
theorem dX7_hand_144 : decode cX7_hand 144 = .ok (.aload_n 0, 1) := by decide +kernel
theorem dX7_hand_145 : decode cX7_hand 145 = .ok (.getfield 26, 3) := by decide +kernel
theorem dX7_hand_148 : decode cX7_hand 148 = .ok (.getfield 144, 3) := by decide +kernel
theorem dX7_hand_151 : decode cX7_hand 151 = .ok (.getfield 170, 3) := by decide +kernel
theorem dX7_hand_154 : decode cX7_hand 154 = .ok (.iload_n 2, 1) := by decide +kernel
theorem dX7_hand_155 : decode cX7_hand 155 = .ok (.iaload, 1) := by decide +kernel
theorem dX7_hand_156 : decode cX7_hand 156 = .ok (.ireturn, 1) := by decide +kernel
theorem dX7_feast_0 : decode cX7_feast 0 = .ok (.aload_n 0, 1) := by decide +kernel
theorem dX7_feast_1 : decode cX7_feast 1 = .ok (.getfield 26, 3) := by decide +kernel
theorem dX7_feast_4 : decode cX7_feast 4 = .ok (.getfield 174, 3) := by decide +kernel
theorem dX7_feast_7 : decode cX7_feast 7 = .ok (.ifCond .ne 6, 3) := by decide +kernel
theorem dX7_feast_10 : decode cX7_feast 10 = .ok (.ldc 143, 2) := by decide +kernel
theorem dX7_feast_12 : decode cX7_feast 12 = .ok (.ireturn, 1) := by decide +kernel
theorem dX7_feast_13 : decode cX7_feast 13 = .ok (.aload_n 0, 1) := by decide +kernel
theorem dX7_feast_14 : decode cX7_feast 14 = .ok (.getfield 33, 3) := by decide +kernel
theorem dX7_feast_17 : decode cX7_feast 17 = .ok (.aload_n 0, 1) := by decide +kernel
theorem dX7_feast_18 : decode cX7_feast 18 = .ok (.getfield 26, 3) := by decide +kernel
theorem dX7_feast_21 : decode cX7_feast 21 = .ok (.getfield 144, 3) := by decide +kernel
theorem dX7_feast_24 : decode cX7_feast 24 = .ok (.invokevirtual 148, 3) := by decide +kernel
theorem dX7_feast_27 : decode cX7_feast 27 = .ok (.aload_n 0, 1) := by decide +kernel
theorem dX7_feast_28 : decode cX7_feast 28 = .ok (.getfield 26, 3) := by decide +kernel
theorem dX7_feast_31 : decode cX7_feast 31 = .ok (.iconst 1, 1) := by decide +kernel
theorem dX7_feast_32 : decode cX7_feast 32 = .ok (.invokevirtual 178, 3) := by decide +kernel
theorem dX7_feast_35 : decode cX7_feast 35 = .ok (.istore_n 1, 1) := by decide +kernel
theorem dX7_feast_36 : decode cX7_feast 36 = .ok (.iconst 0, 1) := by decide +kernel
theorem dX7_feast_37 : decode cX7_feast 37 = .ok (.istore_n 2, 1) := by decide +kernel
theorem dX7_feast_38 : decode cX7_feast 38 = .ok (.iload_n 2, 1) := by decide +kernel
theorem dX7_feast_39 : decode cX7_feast 39 = .ok (.aload_n 0, 1) := by decide +kernel
theorem dX7_feast_40 : decode cX7_feast 40 = .ok (.getfield 26, 3) := by decide +kernel
theorem dX7_feast_43 : decode cX7_feast 43 = .ok (.getfield 181, 3) := by decide +kernel
theorem dX7_feast_46 : decode cX7_feast 46 = .ok (.if_icmp .ge 25, 3) := by decide +kernel
theorem dX7_feast_49 : decode cX7_feast 49 = .ok (.aload_n 0, 1) := by decide +kernel
theorem dX7_feast_50 : decode cX7_feast 50 = .ok (.getfield 26, 3) := by decide +kernel
theorem dX7_feast_53 : decode cX7_feast 53 = .ok (.getfield 144, 3) := by decide +kernel
theorem dX7_feast_56 : decode cX7_feast 56 = .ok (.getfield 184, 3) := by decide +kernel
theorem dX7_feast_59 : decode cX7_feast 59 = .ok (.iload_n 2, 1) := by decide +kernel
theorem dX7_feast_60 : decode cX7_feast 60 = .ok (.dup2, 1) := by decide +kernel
theorem dX7_feast_61 : decode cX7_feast 61 = .ok (.iaload, 1) := by decide +kernel
theorem dX7_feast_62 : decode cX7_feast 62 = .ok (.iload_n 1, 1) := by decide +kernel
theorem dX7_feast_63 : decode cX7_feast 63 = .ok (.ixor, 1) := by decide +kernel
theorem dX7_feast_64 : decode cX7_feast 64 = .ok (.iastore, 1) := by decide +kernel
theorem dX7_feast_65 : decode cX7_feast 65 = .ok (.iinc 2 1, 3) := by decide +kernel
theorem dX7_feast_68 : decode cX7_feast 68 = .ok (.goto (-30), 3) := by decide +kernel
theorem dX7_feast_71 : decode cX7_feast 71 = .ok (.aload_n 0, 1) := by decide +kernel
theorem dX7_feast_72 : decode cX7_feast 72 = .ok (.getfield 26, 3) := by decide +kernel
theorem dX7_feast_75 : decode cX7_feast 75 = .ok (.getfield 144, 3) := by decide +kernel
theorem dX7_feast_78 : decode cX7_feast 78 = .ok (.dup, 1) := by decide +kernel
theorem dX7_feast_79 : decode cX7_feast 79 = .ok (.getfield 187, 3) := by decide +kernel
theorem dX7_feast_82 : decode cX7_feast 82 = .ok (.aload_n 0, 1) := by decide +kernel
theorem dX7_feast_83 : decode cX7_feast 83 = .ok (.getfield 26, 3) := by decide +kernel
theorem dX7_feast_86 : decode cX7_feast 86 = .ok (.iconst 2, 1) := by decide +kernel
theorem dX7_feast_87 : decode cX7_feast 87 = .ok (.invokevirtual 178, 3) := by decide +kernel
theorem dX7_feast_90 : decode cX7_feast 90 = .ok (.ixor, 1) := by decide +kernel
theorem dX7_feast_91 : decode cX7_feast 91 = .ok (.putfield 187, 3) := by decide +kernel
theorem dX7_feast_94 : decode cX7_feast 94 = .ok (.iconst 1, 1) := by decide +kernel
theorem dX7_feast_95 : decode cX7_feast 95 = .ok (.ireturn, 1) := by decide +kernel
theorem dX7_put_0 : decode cX7_put 0 = .ok (.aload_n 0, 1) := by decide +kernel
theorem dX7_put_1 : decode cX7_put 1 = .ok (.getfield 26, 3) := by decide +kernel
theorem dX7_put_4 : decode cX7_put 4 = .ok (.iload_n 1, 1) := by decide +kernel
theorem dX7_put_5 : decode cX7_put 5 = .ok (.invokevirtual 137, 3) := by decide +kernel
theorem dX7_put_8 : decode cX7_put 8 = .ok (.ifCond .eq 11, 3) := by decide +kernel
theorem dX7_put_11 : decode cX7_put 11 = .ok (.iload_n 2, 1) := by decide +kernel
theorem dX7_put_12 : decode cX7_put 12 = .ok (.iconst 2, 1) := by decide +kernel
theorem dX7_put_13 : decode cX7_put 13 = .ok (.invokestatic 57, 3) := by decide +kernel
theorem dX7_put_16 : decode cX7_put 16 = .ok (.ifCond .ne 6, 3) := by decide +kernel
theorem dX7_put_19 : decode cX7_put 19 = .ok (.ldc 61, 2) := by decide +kernel
theorem dX7_put_21 : decode cX7_put 21 = .ok (.ireturn, 1) := by decide +kernel
theorem dX7_put_22 : decode cX7_put 22 = .ok (.aload_n 0, 1) := by decide +kernel
theorem dX7_put_23 : decode cX7_put 23 = .ok (.getfield 26, 3) := by decide +kernel
theorem dX7_put_26 : decode cX7_put 26 = .ok (.getfield 144, 3) := by decide +kernel
theorem dX7_put_29 : decode cX7_put 29 = .ok (.getfield 190, 3) := by decide +kernel
theorem dX7_put_32 : decode cX7_put 32 = .ok (.iload_n 1, 1) := by decide +kernel
theorem dX7_put_33 : decode cX7_put 33 = .ok (.ishr, 1) := by decide +kernel
theorem dX7_put_34 : decode cX7_put 34 = .ok (.iconst 1, 1) := by decide +kernel
theorem dX7_put_35 : decode cX7_put 35 = .ok (.iand, 1) := by decide +kernel
theorem dX7_put_36 : decode cX7_put 36 = .ok (.istore_n 3, 1) := by decide +kernel
theorem dX7_put_37 : decode cX7_put 37 = .ok (.aload_n 0, 1) := by decide +kernel
theorem dX7_put_38 : decode cX7_put 38 = .ok (.getfield 33, 3) := by decide +kernel
theorem dX7_put_41 : decode cX7_put 41 = .ok (.aload_n 0, 1) := by decide +kernel
