theorem dX7_put_42 : decode cX7_put 42 = .ok (.getfield 26, 3) := by decide +kernel
theorem dX7_put_45 : decode cX7_put 45 = .ok (.getfield 144, 3) := by decide +kernel
theorem dX7_put_48 : decode cX7_put 48 = .ok (.invokevirtual 148, 3) := by decide +kernel
theorem dX7_put_51 : decode cX7_put 51 = .ok (.aload_n 0, 1) := by decide +kernel
theorem dX7_put_52 : decode cX7_put 52 = .ok (.getfield 26, 3) := by decide +kernel
theorem dX7_put_55 : decode cX7_put 55 = .ok (.getfield 144, 3) := by decide +kernel
theorem dX7_put_58 : decode cX7_put 58 = .ok (.aload_n 0, 1) := by decide +kernel
theorem dX7_put_59 : decode cX7_put 59 = .ok (.getfield 26, 3) := by decide +kernel
theorem dX7_put_62 : decode cX7_put 62 = .ok (.getfield 144, 3) := by decide +kernel
theorem dX7_put_65 : decode cX7_put 65 = .ok (.getfield 190, 3) := by decide +kernel
theorem dX7_put_68 : decode cX7_put 68 = .ok (.iconst 1, 1) := by decide +kernel
theorem dX7_put_69 : decode cX7_put 69 = .ok (.iload_n 1, 1) := by decide +kernel
theorem dX7_put_70 : decode cX7_put 70 = .ok (.ishl, 1) := by decide +kernel
theorem dX7_put_71 : decode cX7_put 71 = .ok (.iconst (-1), 1) := by decide +kernel
theorem dX7_put_72 : decode cX7_put 72 = .ok (.ixor, 1) := by decide +kernel
theorem dX7_put_73 : decode cX7_put 73 = .ok (.iand, 1) := by decide +kernel
theorem dX7_put_74 : decode cX7_put 74 = .ok (.iload_n 2, 1) := by decide +kernel
theorem dX7_put_75 : decode cX7_put 75 = .ok (.iload_n 1, 1) := by decide +kernel
theorem dX7_put_76 : decode cX7_put 76 = .ok (.ishl, 1) := by decide +kernel
theorem dX7_put_77 : decode cX7_put 77 = .ok (.ior, 1) := by decide +kernel
theorem dX7_put_78 : decode cX7_put 78 = .ok (.putfield 190, 3) := by decide +kernel
theorem dX7_put_81 : decode cX7_put 81 = .ok (.iload_n 3, 1) := by decide +kernel
theorem dX7_put_82 : decode cX7_put 82 = .ok (.ireturn, 1) := by decide +kernel
theorem dX7_undo_0 : decode cX7_undo 0 = .ok (.aload_n 0, 1) := by decide +kernel
theorem dX7_undo_1 : decode cX7_undo 1 = .ok (.getfield 33, 3) := by decide +kernel
theorem dX7_undo_4 : decode cX7_undo 4 = .ok (.getfield 193, 3) := by decide +kernel
theorem dX7_undo_7 : decode cX7_undo 7 = .ok (.ifCond .ne 6, 3) := by decide +kernel
theorem dX7_undo_10 : decode cX7_undo 10 = .ok (.ldc 143, 2) := by decide +kernel
theorem dX7_undo_12 : decode cX7_undo 12 = .ok (.ireturn, 1) := by decide +kernel
theorem dX7_undo_13 : decode cX7_undo 13 = .ok (.aload_n 0, 1) := by decide +kernel
theorem dX7_undo_14 : decode cX7_undo 14 = .ok (.getfield 33, 3) := by decide +kernel
theorem dX7_undo_17 : decode cX7_undo 17 = .ok (.aload_n 0, 1) := by decide +kernel
theorem dX7_undo_18 : decode cX7_undo 18 = .ok (.getfield 26, 3) := by decide +kernel
theorem dX7_undo_21 : decode cX7_undo 21 = .ok (.getfield 144, 3) := by decide +kernel
theorem dX7_undo_24 : decode cX7_undo 24 = .ok (.invokevirtual 196, 3) := by decide +kernel
theorem dX7_undo_27 : decode cX7_undo 27 = .ok (.aload_n 0, 1) := by decide +kernel
theorem dX7_undo_28 : decode cX7_undo 28 = .ok (.getfield 33, 3) := by decide +kernel
theorem dX7_undo_31 : decode cX7_undo 31 = .ok (.getfield 193, 3) := by decide +kernel
theorem dX7_undo_34 : decode cX7_undo 34 = .ok (.ireturn, 1) := by decide +kernel
theorem dX7_carrier_0 : decode cX7_carrier 0 = .ok (.aload_n 0, 1) := by decide +kernel
theorem dX7_carrier_1 : decode cX7_carrier 1 = .ok (.getfield 26, 3) := by decide +kernel
theorem dX7_carrier_4 : decode cX7_carrier 4 = .ok (.iload_n 1, 1) := by decide +kernel
theorem dX7_carrier_5 : decode cX7_carrier 5 = .ok (.invokevirtual 134, 3) := by decide +kernel
theorem dX7_carrier_8 : decode cX7_carrier 8 = .ok (.ifCond .ne 6, 3) := by decide +kernel
theorem dX7_carrier_11 : decode cX7_carrier 11 = .ok (.ldc 61, 2) := by decide +kernel
theorem dX7_carrier_13 : decode cX7_carrier 13 = .ok (.ireturn, 1) := by decide +kernel
theorem dX7_carrier_14 : decode cX7_carrier 14 = .ok (.iload_n 2, 1) := by decide +kernel
theorem dX7_carrier_15 : decode cX7_carrier 15 = .ok (.tableswitch 77 0 3 #[29, 42, 55, 68], 29) := by decide +kernel
theorem dX7_carrier_44 : decode cX7_carrier 44 = .ok (.aload_n 0, 1) := by decide +kernel
theorem dX7_carrier_45 : decode cX7_carrier 45 = .ok (.getfield 26, 3) := by decide +kernel
theorem dX7_carrier_48 : decode cX7_carrier 48 = .ok (.getfield 144, 3) := by decide +kernel
theorem dX7_carrier_51 : decode cX7_carrier 51 = .ok (.getfield 156, 3) := by decide +kernel
theorem dX7_carrier_54 : decode cX7_carrier 54 = .ok (.iload_n 1, 1) := by decide +kernel
theorem dX7_carrier_55 : decode cX7_carrier 55 = .ok (.iaload, 1) := by decide +kernel
theorem dX7_carrier_56 : decode cX7_carrier 56 = .ok (.ireturn, 1) := by decide +kernel
theorem dX7_carrier_57 : decode cX7_carrier 57 = .ok (.aload_n 0, 1) := by decide +kernel
theorem dX7_carrier_58 : decode cX7_carrier 58 = .ok (.getfield 26, 3) := by decide +kernel
theorem dX7_carrier_61 : decode cX7_carrier 61 = .ok (.getfield 144, 3) := by decide +kernel
theorem dX7_carrier_64 : decode cX7_carrier 64 = .ok (.getfield 170, 3) := by decide +kernel
theorem dX7_carrier_67 : decode cX7_carrier 67 = .ok (.iload_n 1, 1) := by decide +kernel
theorem dX7_carrier_68 : decode cX7_carrier 68 = .ok (.iaload, 1) := by decide +kernel
theorem dX7_carrier_69 : decode cX7_carrier 69 = .ok (.ireturn, 1) := by decide +kernel
theorem dX7_carrier_70 : decode cX7_carrier 70 = .ok (.aload_n 0, 1) := by decide +kernel
theorem dX7_carrier_71 : decode cX7_carrier 71 = .ok (.getfield 26, 3) := by decide +kernel
theorem dX7_carrier_74 : decode cX7_carrier 74 = .ok (.getfield 144, 3) := by decide +kernel
theorem dX7_carrier_77 : decode cX7_carrier 77 = .ok (.getfield 184, 3) := by decide +kernel
theorem dX7_carrier_80 : decode cX7_carrier 80 = .ok (.iload_n 1, 1) := by decide +kernel
theorem dX7_carrier_81 : decode cX7_carrier 81 = .ok (.iaload, 1) := by decide +kernel
theorem dX7_carrier_82 : decode cX7_carrier 82 = .ok (.ireturn, 1) := by decide +kernel
theorem dX7_carrier_83 : decode cX7_carrier 83 = .ok (.aload_n 0, 1) := by decide +kernel
theorem dX7_carrier_84 : decode cX7_carrier 84 = .ok (.getfield 26, 3) := by decide +kernel
theorem dX7_carrier_87 : decode cX7_carrier 87 = .ok (.iload_n 1, 1) := by decide +kernel
theorem dX7_carrier_88 : decode cX7_carrier 88 = .ok (.invokevirtual 199, 3) := by decide +kernel
theorem dX7_carrier_91 : decode cX7_carrier 91 = .ok (.ireturn, 1) := by decide +kernel
theorem dX7_carrier_92 : decode cX7_carrier 92 = .ok (.ldc 61, 2) := by decide +kernel
theorem dX7_carrier_94 : decode cX7_carrier 94 = .ok (.ireturn, 1) := by decide +kernel
theorem dX7_load_0 : decode cX7_load 0 = .ok (.aload_n 0, 1) := by decide +kernel
theorem dX7_load_1 : decode cX7_load 1 = .ok (.getfield 26, 3) := by decide +kernel
theorem dX7_load_4 : decode cX7_load 4 = .ok (.iload_n 1, 1) := by decide +kernel
theorem dX7_load_5 : decode cX7_load 5 = .ok (.invokevirtual 161, 3) := by decide +kernel
theorem dX7_load_8 : decode cX7_load 8 = .ok (.ifCond .ne 6, 3) := by decide +kernel
theorem dX7_load_11 : decode cX7_load 11 = .ok (.ldc 61, 2) := by decide +kernel
theorem dX7_load_13 : decode cX7_load 13 = .ok (.ireturn, 1) := by decide +kernel
theorem dX7_load_14 : decode cX7_load 14 = .ok (.iload_n 2, 1) := by decide +kernel
theorem dX7_load_15 : decode cX7_load 15 = .ok (.tableswitch 57 0 2 #[25, 38, 48], 25) := by decide +kernel
theorem dX7_load_40 : decode cX7_load 40 = .ok (.aload_n 0, 1) := by decide +kernel
theorem dX7_load_41 : decode cX7_load 41 = .ok (.getfield 26, 3) := by decide +kernel
theorem dX7_load_44 : decode cX7_load 44 = .ok (.getfield 144, 3) := by decide +kernel
theorem dX7_load_47 : decode cX7_load 47 = .ok (.getfield 167, 3) := by decide +kernel
theorem dX7_load_50 : decode cX7_load 50 = .ok (.iload_n 1, 1) := by decide +kernel
theorem dX7_load_51 : decode cX7_load 51 = .ok (.iaload, 1) := by decide +kernel
theorem dX7_load_52 : decode cX7_load 52 = .ok (.ireturn, 1) := by decide +kernel
theorem dX7_load_53 : decode cX7_load 53 = .ok (.aload_n 0, 1) := by decide +kernel
theorem dX7_load_54 : decode cX7_load 54 = .ok (.getfield 26, 3) := by decide +kernel
theorem dX7_load_57 : decode cX7_load 57 = .ok (.getfield 202, 3) := by decide +kernel
theorem dX7_load_60 : decode cX7_load 60 = .ok (.iload_n 1, 1) := by decide +kernel
theorem dX7_load_61 : decode cX7_load 61 = .ok (.iaload, 1) := by decide +kernel
theorem dX7_load_62 : decode cX7_load 62 = .ok (.ireturn, 1) := by decide +kernel
theorem dX7_load_63 : decode cX7_load 63 = .ok (.aload_n 0, 1) := by decide +kernel
theorem dX7_load_64 : decode cX7_load 64 = .ok (.getfield 26, 3) := by decide +kernel
theorem dX7_load_67 : decode cX7_load 67 = .ok (.iload_n 1, 1) := by decide +kernel
theorem dX7_load_68 : decode cX7_load 68 = .ok (.invokevirtual 205, 3) := by decide +kernel
theorem dX7_load_71 : decode cX7_load 71 = .ok (.ireturn, 1) := by decide +kernel
theorem dX7_load_72 : decode cX7_load 72 = .ok (.ldc 61, 2) := by decide +kernel
theorem dX7_load_74 : decode cX7_load 74 = .ok (.ireturn, 1) := by decide +kernel
theorem dX7_fewest_0 : decode cX7_fewest 0 = .ok (.aload_n 0, 1) := by decide +kernel
theorem dX7_fewest_1 : decode cX7_fewest 1 = .ok (.getfield 26, 3) := by decide +kernel
theorem dX7_fewest_4 : decode cX7_fewest 4 = .ok (.iload_n 1, 1) := by decide +kernel
theorem dX7_fewest_5 : decode cX7_fewest 5 = .ok (.invokevirtual 134, 3) := by decide +kernel
theorem dX7_fewest_8 : decode cX7_fewest 8 = .ok (.ifCond .eq 14, 3) := by decide +kernel
theorem dX7_fewest_11 : decode cX7_fewest 11 = .ok (.aload_n 0, 1) := by decide +kernel
theorem dX7_fewest_12 : decode cX7_fewest 12 = .ok (.getfield 26, 3) := by decide +kernel
theorem dX7_fewest_15 : decode cX7_fewest 15 = .ok (.iload_n 2, 1) := by decide +kernel
theorem dX7_fewest_16 : decode cX7_fewest 16 = .ok (.invokevirtual 161, 3) := by decide +kernel
theorem dX7_fewest_19 : decode cX7_fewest 19 = .ok (.ifCond .ne 6, 3) := by decide +kernel
theorem dX7_fewest_22 : decode cX7_fewest 22 = .ok (.ldc 61, 2) := by decide +kernel
theorem dX7_fewest_24 : decode cX7_fewest 24 = .ok (.ireturn, 1) := by decide +kernel
theorem dX7_fewest_25 : decode cX7_fewest 25 = .ok (.aload_n 0, 1) := by decide +kernel
theorem dX7_fewest_26 : decode cX7_fewest 26 = .ok (.getfield 26, 3) := by decide +kernel
theorem dX7_fewest_29 : decode cX7_fewest 29 = .ok (.iload_n 1, 1) := by decide +kernel
theorem dX7_fewest_30 : decode cX7_fewest 30 = .ok (.iload_n 2, 1) := by decide +kernel
theorem dX7_fewest_31 : decode cX7_fewest 31 = .ok (.invokevirtual 208, 3) := by decide +kernel
theorem dX7_fewest_34 : decode cX7_fewest 34 = .ok (.ifCond .eq 15, 3) := by decide +kernel
theorem dX7_fewest_37 : decode cX7_fewest 37 = .ok (.aload_n 0, 1) := by decide +kernel
theorem dX7_fewest_38 : decode cX7_fewest 38 = .ok (.getfield 46, 3) := by decide +kernel
theorem dX7_fewest_41 : decode cX7_fewest 41 = .ok (.iload_n 1, 1) := by decide +kernel
theorem dX7_fewest_42 : decode cX7_fewest 42 = .ok (.iload_n 2, 1) := by decide +kernel
theorem dX7_fewest_43 : decode cX7_fewest 43 = .ok (.invokevirtual 211, 3) := by decide +kernel
theorem dX7_fewest_46 : decode cX7_fewest 46 = .ok (.goto 5, 3) := by decide +kernel
theorem dX7_fewest_49 : decode cX7_fewest 49 = .ok (.ldc 143, 2) := by decide +kernel
theorem dX7_fewest_51 : decode cX7_fewest 51 = .ok (.ireturn, 1) := by decide +kernel
theorem dX7_whom_0 : decode cX7_whom 0 = .ok (.aload_n 0, 1) := by decide +kernel
theorem dX7_whom_1 : decode cX7_whom 1 = .ok (.getfield 26, 3) := by decide +kernel
theorem dX7_whom_4 : decode cX7_whom 4 = .ok (.iload_n 1, 1) := by decide +kernel
theorem dX7_whom_5 : decode cX7_whom 5 = .ok (.invokevirtual 161, 3) := by decide +kernel
theorem dX7_whom_8 : decode cX7_whom 8 = .ok (.ifCond .ne 6, 3) := by decide +kernel
theorem dX7_whom_11 : decode cX7_whom 11 = .ok (.ldc 61, 2) := by decide +kernel
theorem dX7_whom_13 : decode cX7_whom 13 = .ok (.ireturn, 1) := by decide +kernel
theorem dX7_whom_14 : decode cX7_whom 14 = .ok (.ldc 173, 2) := by decide +kernel
theorem dX7_whom_16 : decode cX7_whom 16 = .ok (.istore_n 2, 1) := by decide +kernel
theorem dX7_whom_17 : decode cX7_whom 17 = .ok (.ldc 173, 2) := by decide +kernel
theorem dX7_whom_19 : decode cX7_whom 19 = .ok (.istore_n 3, 1) := by decide +kernel
theorem dX7_whom_20 : decode cX7_whom 20 = .ok (.iconst 0, 1) := by decide +kernel
theorem dX7_whom_21 : decode cX7_whom 21 = .ok (.istore 4, 2) := by decide +kernel
theorem dX7_whom_23 : decode cX7_whom 23 = .ok (.iload 4, 2) := by decide +kernel
theorem dX7_whom_25 : decode cX7_whom 25 = .ok (.aload_n 0, 1) := by decide +kernel
theorem dX7_whom_26 : decode cX7_whom 26 = .ok (.getfield 26, 3) := by decide +kernel
theorem dX7_whom_29 : decode cX7_whom 29 = .ok (.getfield 181, 3) := by decide +kernel
theorem dX7_whom_32 : decode cX7_whom 32 = .ok (.if_icmp .ge 64, 3) := by decide +kernel
theorem dX7_whom_35 : decode cX7_whom 35 = .ok (.aload_n 0, 1) := by decide +kernel
theorem dX7_whom_36 : decode cX7_whom 36 = .ok (.getfield 26, 3) := by decide +kernel
theorem dX7_whom_39 : decode cX7_whom 39 = .ok (.iload 4, 2) := by decide +kernel
theorem dX7_whom_41 : decode cX7_whom 41 = .ok (.iload_n 1, 1) := by decide +kernel
theorem dX7_whom_42 : decode cX7_whom 42 = .ok (.invokevirtual 208, 3) := by decide +kernel
theorem dX7_whom_45 : decode cX7_whom 45 = .ok (.ifCond .eq 16, 3) := by decide +kernel
theorem dX7_whom_48 : decode cX7_whom 48 = .ok (.aload_n 0, 1) := by decide +kernel
theorem dX7_whom_49 : decode cX7_whom 49 = .ok (.getfield 46, 3) := by decide +kernel
theorem dX7_whom_52 : decode cX7_whom 52 = .ok (.iload 4, 2) := by decide +kernel
theorem dX7_whom_54 : decode cX7_whom 54 = .ok (.iload_n 1, 1) := by decide +kernel
theorem dX7_whom_55 : decode cX7_whom 55 = .ok (.invokevirtual 211, 3) := by decide +kernel
theorem dX7_whom_58 : decode cX7_whom 58 = .ok (.goto 5, 3) := by decide +kernel
theorem dX7_whom_61 : decode cX7_whom 61 = .ok (.ldc 173, 2) := by decide +kernel
theorem dX7_whom_63 : decode cX7_whom 63 = .ok (.istore 5, 2) := by decide +kernel
theorem dX7_whom_65 : decode cX7_whom 65 = .ok (.iload 5, 2) := by decide +kernel
theorem dX7_whom_67 : decode cX7_whom 67 = .ok (.ldc 173, 2) := by decide +kernel
theorem dX7_whom_69 : decode cX7_whom 69 = .ok (.if_icmp .eq 21, 3) := by decide +kernel
theorem dX7_whom_72 : decode cX7_whom 72 = .ok (.iload_n 2, 1) := by decide +kernel
theorem dX7_whom_73 : decode cX7_whom 73 = .ok (.ldc 173, 2) := by decide +kernel
theorem dX7_whom_75 : decode cX7_whom 75 = .ok (.if_icmp .eq 9, 3) := by decide +kernel
theorem dX7_whom_78 : decode cX7_whom 78 = .ok (.iload 5, 2) := by decide +kernel
theorem dX7_whom_80 : decode cX7_whom 80 = .ok (.iload_n 3, 1) := by decide +kernel
theorem dX7_whom_81 : decode cX7_whom 81 = .ok (.if_icmp .ge 9, 3) := by decide +kernel
theorem dX7_whom_84 : decode cX7_whom 84 = .ok (.iload 4, 2) := by decide +kernel
theorem dX7_whom_86 : decode cX7_whom 86 = .ok (.istore_n 2, 1) := by decide +kernel
theorem dX7_whom_87 : decode cX7_whom 87 = .ok (.iload 5, 2) := by decide +kernel
theorem dX7_whom_89 : decode cX7_whom 89 = .ok (.istore_n 3, 1) := by decide +kernel
theorem dX7_whom_90 : decode cX7_whom 90 = .ok (.iinc 4 1, 3) := by decide +kernel
theorem dX7_whom_93 : decode cX7_whom 93 = .ok (.goto (-70), 3) := by decide +kernel
theorem dX7_whom_96 : decode cX7_whom 96 = .ok (.iload_n 2, 1) := by decide +kernel
theorem dX7_whom_97 : decode cX7_whom 97 = .ok (.ireturn, 1) := by decide +kernel
theorem dX7_off_0 : decode cX7_off 0 = .ok (.aload_n 0, 1) := by decide +kernel
theorem dX7_off_1 : decode cX7_off 1 = .ok (.getfield 26, 3) := by decide +kernel
theorem dX7_off_4 : decode cX7_off 4 = .ok (.iload_n 1, 1) := by decide +kernel
theorem dX7_off_5 : decode cX7_off 5 = .ok (.invokevirtual 134, 3) := by decide +kernel
theorem dX7_off_8 : decode cX7_off 8 = .ok (.ifCond .eq 12, 3) := by decide +kernel
theorem dX7_off_11 : decode cX7_off 11 = .ok (.iload_n 2, 1) := by decide +kernel
theorem dX7_off_12 : decode cX7_off 12 = .ok (.bipush 6, 2) := by decide +kernel
theorem dX7_off_14 : decode cX7_off 14 = .ok (.invokestatic 57, 3) := by decide +kernel
theorem dX7_off_17 : decode cX7_off 17 = .ok (.ifCond .ne 6, 3) := by decide +kernel
theorem dX7_off_20 : decode cX7_off 20 = .ok (.ldc 61, 2) := by decide +kernel
theorem dX7_off_22 : decode cX7_off 22 = .ok (.ireturn, 1) := by decide +kernel
theorem dX7_off_23 : decode cX7_off 23 = .ok (.aload_n 0, 1) := by decide +kernel
theorem dX7_off_24 : decode cX7_off 24 = .ok (.getfield 46, 3) := by decide +kernel
theorem dX7_off_27 : decode cX7_off 27 = .ok (.iload_n 1, 1) := by decide +kernel
theorem dX7_off_28 : decode cX7_off 28 = .ok (.iload_n 2, 1) := by decide +kernel
theorem dX7_off_29 : decode cX7_off 29 = .ok (.invokevirtual 214, 3) := by decide +kernel
theorem dX7_off_32 : decode cX7_off 32 = .ok (.ireturn, 1) := by decide +kernel
theorem dX7_reach_0 : decode cX7_reach 0 = .ok (.aload_n 0, 1) := by decide +kernel
theorem dX7_reach_1 : decode cX7_reach 1 = .ok (.getfield 26, 3) := by decide +kernel
theorem dX7_reach_4 : decode cX7_reach 4 = .ok (.iload_n 1, 1) := by decide +kernel
theorem dX7_reach_5 : decode cX7_reach 5 = .ok (.invokevirtual 134, 3) := by decide +kernel
theorem dX7_reach_8 : decode cX7_reach 8 = .ok (.ifCond .ne 6, 3) := by decide +kernel
theorem dX7_reach_11 : decode cX7_reach 11 = .ok (.ldc 61, 2) := by decide +kernel
theorem dX7_reach_13 : decode cX7_reach 13 = .ok (.ireturn, 1) := by decide +kernel
theorem dX7_reach_14 : decode cX7_reach 14 = .ok (.iconst 0, 1) := by decide +kernel
theorem dX7_reach_15 : decode cX7_reach 15 = .ok (.istore_n 2, 1) := by decide +kernel
theorem dX7_reach_16 : decode cX7_reach 16 = .ok (.iconst 0, 1) := by decide +kernel
theorem dX7_reach_17 : decode cX7_reach 17 = .ok (.istore_n 3, 1) := by decide +kernel
theorem dX7_reach_18 : decode cX7_reach 18 = .ok (.iload_n 3, 1) := by decide +kernel
theorem dX7_reach_19 : decode cX7_reach 19 = .ok (.bipush 6, 2) := by decide +kernel
theorem dX7_reach_21 : decode cX7_reach 21 = .ok (.if_icmp .ge 29, 3) := by decide +kernel
theorem dX7_reach_24 : decode cX7_reach 24 = .ok (.aload_n 0, 1) := by decide +kernel
theorem dX7_reach_25 : decode cX7_reach 25 = .ok (.getfield 46, 3) := by decide +kernel
theorem dX7_reach_28 : decode cX7_reach 28 = .ok (.iload_n 1, 1) := by decide +kernel
theorem dX7_reach_29 : decode cX7_reach 29 = .ok (.iload_n 3, 1) := by decide +kernel
theorem dX7_reach_30 : decode cX7_reach 30 = .ok (.invokevirtual 214, 3) := by decide +kernel
theorem dX7_reach_33 : decode cX7_reach 33 = .ok (.ldc 173, 2) := by decide +kernel
theorem dX7_reach_35 : decode cX7_reach 35 = .ok (.if_icmp .eq 9, 3) := by decide +kernel
theorem dX7_reach_38 : decode cX7_reach 38 = .ok (.iload_n 2, 1) := by decide +kernel
theorem dX7_reach_39 : decode cX7_reach 39 = .ok (.iconst 1, 1) := by decide +kernel
theorem dX7_reach_40 : decode cX7_reach 40 = .ok (.iload_n 3, 1) := by decide +kernel
theorem dX7_reach_41 : decode cX7_reach 41 = .ok (.ishl, 1) := by decide +kernel
theorem dX7_reach_42 : decode cX7_reach 42 = .ok (.ior, 1) := by decide +kernel
theorem dX7_reach_43 : decode cX7_reach 43 = .ok (.istore_n 2, 1) := by decide +kernel
theorem dX7_reach_44 : decode cX7_reach 44 = .ok (.iinc 3 1, 3) := by decide +kernel
theorem dX7_reach_47 : decode cX7_reach 47 = .ok (.goto (-29), 3) := by decide +kernel
theorem dX7_reach_50 : decode cX7_reach 50 = .ok (.iload_n 2, 1) := by decide +kernel
theorem dX7_reach_51 : decode cX7_reach 51 = .ok (.ireturn, 1) := by decide +kernel
theorem dX7_right_0 : decode cX7_right 0 = .ok (.aload_n 0, 1) := by decide +kernel
theorem dX7_right_1 : decode cX7_right 1 = .ok (.getfield 26, 3) := by decide +kernel
theorem dX7_right_4 : decode cX7_right 4 = .ok (.iload_n 1, 1) := by decide +kernel
theorem dX7_right_5 : decode cX7_right 5 = .ok (.invokevirtual 134, 3) := by decide +kernel
theorem dX7_right_8 : decode cX7_right 8 = .ok (.ifCond .eq 15, 3) := by decide +kernel
theorem dX7_right_11 : decode cX7_right 11 = .ok (.aload_n 0, 1) := by decide +kernel
theorem dX7_right_12 : decode cX7_right 12 = .ok (.getfield 26, 3) := by decide +kernel
theorem dX7_right_15 : decode cX7_right 15 = .ok (.iload_n 2, 1) := by decide +kernel
theorem dX7_right_16 : decode cX7_right 16 = .ok (.iconst 1, 1) := by decide +kernel
theorem dX7_right_17 : decode cX7_right 17 = .ok (.invokevirtual 217, 3) := by decide +kernel
theorem dX7_right_20 : decode cX7_right 20 = .ok (.ifCond .ne 6, 3) := by decide +kernel
theorem dX7_right_23 : decode cX7_right 23 = .ok (.ldc 61, 2) := by decide +kernel
theorem dX7_right_25 : decode cX7_right 25 = .ok (.ireturn, 1) := by decide +kernel
theorem dX7_right_26 : decode cX7_right 26 = .ok (.aload_n 0, 1) := by decide +kernel
theorem dX7_right_27 : decode cX7_right 27 = .ok (.getfield 26, 3) := by decide +kernel
theorem dX7_right_30 : decode cX7_right 30 = .ok (.iload_n 1, 1) := by decide +kernel
theorem dX7_right_31 : decode cX7_right 31 = .ok (.invokevirtual 164, 3) := by decide +kernel
theorem dX7_right_34 : decode cX7_right 34 = .ok (.ifCond .eq 8, 3) := by decide +kernel
theorem dX7_right_37 : decode cX7_right 37 = .ok (.ldc 143, 2) := by decide +kernel
theorem dX7_right_39 : decode cX7_right 39 = .ok (.goto 12, 3) := by decide +kernel
theorem dX7_right_42 : decode cX7_right 42 = .ok (.aload_n 0, 1) := by decide +kernel
theorem dX7_right_43 : decode cX7_right 43 = .ok (.getfield 46, 3) := by decide +kernel
theorem dX7_right_46 : decode cX7_right 46 = .ok (.iload_n 1, 1) := by decide +kernel
theorem dX7_right_47 : decode cX7_right 47 = .ok (.iload_n 2, 1) := by decide +kernel
theorem dX7_right_48 : decode cX7_right 48 = .ok (.invokevirtual 220, 3) := by decide +kernel
theorem dX7_right_51 : decode cX7_right 51 = .ok (.ireturn, 1) := by decide +kernel
theorem dX7_walk_0 : decode cX7_walk 0 = .ok (.aload_n 0, 1) := by decide +kernel
theorem dX7_walk_1 : decode cX7_walk 1 = .ok (.getfield 26, 3) := by decide +kernel
theorem dX7_walk_4 : decode cX7_walk 4 = .ok (.getfield 174, 3) := by decide +kernel
theorem dX7_walk_7 : decode cX7_walk 7 = .ok (.ifCond .ne 6, 3) := by decide +kernel
theorem dX7_walk_10 : decode cX7_walk 10 = .ok (.ldc 143, 2) := by decide +kernel
theorem dX7_walk_12 : decode cX7_walk 12 = .ok (.ireturn, 1) := by decide +kernel
theorem dX7_walk_13 : decode cX7_walk 13 = .ok (.iload_n 1, 1) := by decide +kernel
theorem dX7_walk_14 : decode cX7_walk 14 = .ok (.bipush 8, 2) := by decide +kernel
theorem dX7_walk_16 : decode cX7_walk 16 = .ok (.invokestatic 57, 3) := by decide +kernel
theorem dX7_walk_19 : decode cX7_walk 19 = .ok (.ifCond .eq 21, 3) := by decide +kernel
theorem dX7_walk_22 : decode cX7_walk 22 = .ok (.iload_n 2, 1) := by decide +kernel
theorem dX7_walk_23 : decode cX7_walk 23 = .ok (.ifCond .lt 17, 3) := by decide +kernel
theorem dX7_walk_26 : decode cX7_walk 26 = .ok (.iload_n 2, 1) := by decide +kernel
theorem dX7_walk_27 : decode cX7_walk 27 = .ok (.bipush 40, 2) := by decide +kernel
theorem dX7_walk_29 : decode cX7_walk 29 = .ok (.if_icmp .gt 11, 3) := by decide +kernel
theorem dX7_walk_32 : decode cX7_walk 32 = .ok (.iload_n 3, 1) := by decide +kernel
theorem dX7_walk_33 : decode cX7_walk 33 = .ok (.iconst 3, 1) := by decide +kernel
theorem dX7_walk_34 : decode cX7_walk 34 = .ok (.invokestatic 57, 3) := by decide +kernel
theorem dX7_walk_37 : decode cX7_walk 37 = .ok (.ifCond .ne 6, 3) := by decide +kernel
theorem dX7_walk_40 : decode cX7_walk 40 = .ok (.ldc 61, 2) := by decide +kernel
theorem dX7_walk_42 : decode cX7_walk 42 = .ok (.ireturn, 1) := by decide +kernel
theorem dX7_walk_43 : decode cX7_walk 43 = .ok (.aload_n 0, 1) := by decide +kernel
theorem dX7_walk_44 : decode cX7_walk 44 = .ok (.getfield 10, 3) := by decide +kernel
theorem dX7_walk_47 : decode cX7_walk 47 = .ok (.iload_n 1, 1) := by decide +kernel
theorem dX7_walk_48 : decode cX7_walk 48 = .ok (.invokevirtual 73, 3) := by decide +kernel
theorem dX7_walk_51 : decode cX7_walk 51 = .ok (.ifCond .eq 9, 3) := by decide +kernel
theorem dX7_walk_54 : decode cX7_walk 54 = .ok (.aload_n 0, 1) := by decide +kernel
theorem dX7_walk_55 : decode cX7_walk 55 = .ok (.iconst 1, 1) := by decide +kernel
theorem dX7_walk_56 : decode cX7_walk 56 = .ok (.invokevirtual 62, 3) := by decide +kernel
theorem dX7_walk_59 : decode cX7_walk 59 = .ok (.ireturn, 1) := by decide +kernel
theorem dX7_walk_60 : decode cX7_walk 60 = .ok (.iload_n 2, 1) := by decide +kernel
theorem dX7_walk_61 : decode cX7_walk 61 = .ok (.aload_n 0, 1) := by decide +kernel
theorem dX7_walk_62 : decode cX7_walk 62 = .ok (.getfield 10, 3) := by decide +kernel
theorem dX7_walk_65 : decode cX7_walk 65 = .ok (.getfield 77, 3) := by decide +kernel
theorem dX7_walk_68 : decode cX7_walk 68 = .ok (.iload_n 1, 1) := by decide +kernel
theorem dX7_walk_69 : decode cX7_walk 69 = .ok (.iaload, 1) := by decide +kernel
theorem dX7_walk_70 : decode cX7_walk 70 = .ok (.if_icmp .le 9, 3) := by decide +kernel
theorem dX7_walk_73 : decode cX7_walk 73 = .ok (.aload_n 0, 1) := by decide +kernel
theorem dX7_walk_74 : decode cX7_walk 74 = .ok (.iconst 2, 1) := by decide +kernel
theorem dX7_walk_75 : decode cX7_walk 75 = .ok (.invokevirtual 62, 3) := by decide +kernel
theorem dX7_walk_78 : decode cX7_walk 78 = .ok (.ireturn, 1) := by decide +kernel
theorem dX7_walk_79 : decode cX7_walk 79 = .ok (.iconst 0, 1) := by decide +kernel
theorem dX7_walk_80 : decode cX7_walk 80 = .ok (.istore 4, 2) := by decide +kernel
theorem dX7_walk_82 : decode cX7_walk 82 = .ok (.iload 4, 2) := by decide +kernel
theorem dX7_walk_84 : decode cX7_walk 84 = .ok (.iload_n 2, 1) := by decide +kernel
theorem dX7_walk_85 : decode cX7_walk 85 = .ok (.if_icmp .ge 39, 3) := by decide +kernel
theorem dX7_walk_88 : decode cX7_walk 88 = .ok (.aload_n 0, 1) := by decide +kernel
theorem dX7_walk_89 : decode cX7_walk 89 = .ok (.getfield 10, 3) := by decide +kernel
theorem dX7_walk_92 : decode cX7_walk 92 = .ok (.getfield 81, 3) := by decide +kernel
theorem dX7_walk_95 : decode cX7_walk 95 = .ok (.iload_n 1, 1) := by decide +kernel
theorem dX7_walk_96 : decode cX7_walk 96 = .ok (.aaload, 1) := by decide +kernel
theorem dX7_walk_97 : decode cX7_walk 97 = .ok (.iload 4, 2) := by decide +kernel
theorem dX7_walk_99 : decode cX7_walk 99 = .ok (.iaload, 1) := by decide +kernel
theorem dX7_walk_100 : decode cX7_walk 100 = .ok (.iconst 2, 1) := by decide +kernel
theorem dX7_walk_101 : decode cX7_walk 101 = .ok (.aload_n 0, 1) := by decide +kernel
theorem dX7_walk_102 : decode cX7_walk 102 = .ok (.getfield 26, 3) := by decide +kernel
theorem dX7_walk_105 : decode cX7_walk 105 = .ok (.getfield 128, 3) := by decide +kernel
theorem dX7_walk_108 : decode cX7_walk 108 = .ok (.imul, 1) := by decide +kernel
theorem dX7_walk_109 : decode cX7_walk 109 = .ok (.invokestatic 57, 3) := by decide +kernel
theorem dX7_walk_112 : decode cX7_walk 112 = .ok (.ifCond .ne 6, 3) := by decide +kernel
theorem dX7_walk_115 : decode cX7_walk 115 = .ok (.ldc 61, 2) := by decide +kernel
theorem dX7_walk_117 : decode cX7_walk 117 = .ok (.ireturn, 1) := by decide +kernel
theorem dX7_walk_118 : decode cX7_walk 118 = .ok (.iinc 4 1, 3) := by decide +kernel
theorem dX7_walk_121 : decode cX7_walk 121 = .ok (.goto (-39), 3) := by decide +kernel
theorem dX7_walk_124 : decode cX7_walk 124 = .ok (.aload_n 0, 1) := by decide +kernel
theorem dX7_walk_125 : decode cX7_walk 125 = .ok (.aload_n 0, 1) := by decide +kernel
theorem dX7_walk_126 : decode cX7_walk 126 = .ok (.aload_n 0, 1) := by decide +kernel
theorem dX7_walk_127 : decode cX7_walk 127 = .ok (.getfield 10, 3) := by decide +kernel
theorem dX7_walk_130 : decode cX7_walk 130 = .ok (.getfield 81, 3) := by decide +kernel
theorem dX7_walk_133 : decode cX7_walk 133 = .ok (.iload_n 1, 1) := by decide +kernel
theorem dX7_walk_134 : decode cX7_walk 134 = .ok (.aaload, 1) := by decide +kernel
theorem dX7_walk_135 : decode cX7_walk 135 = .ok (.iload_n 2, 1) := by decide +kernel
theorem dX7_walk_136 : decode cX7_walk 136 = .ok (.iload_n 3, 1) := by decide +kernel
theorem dX7_walk_137 : decode cX7_walk 137 = .ok (.invokevirtual 223, 3) := by decide +kernel
theorem dX7_walk_140 : decode cX7_walk 140 = .ok (.invokevirtual 70, 3) := by decide +kernel
theorem dX7_walk_143 : decode cX7_walk 143 = .ok (.ireturn, 1) := by decide +kernel
theorem dX7_image_0 : decode cX7_image 0 = .ok (.iload_n 1, 1) := by decide +kernel
theorem dX7_image_1 : decode cX7_image 1 = .ok (.iconst 2, 1) := by decide +kernel
theorem dX7_image_2 : decode cX7_image 2 = .ok (.invokestatic 57, 3) := by decide +kernel
theorem dX7_image_5 : decode cX7_image 5 = .ok (.ifCond .ne 6, 3) := by decide +kernel
theorem dX7_image_8 : decode cX7_image 8 = .ok (.ldc 61, 2) := by decide +kernel
theorem dX7_image_10 : decode cX7_image 10 = .ok (.ireturn, 1) := by decide +kernel
theorem dX7_image_11 : decode cX7_image 11 = .ok (.aload_n 0, 1) := by decide +kernel
theorem dX7_image_12 : decode cX7_image 12 = .ok (.getfield 26, 3) := by decide +kernel
theorem dX7_image_15 : decode cX7_image 15 = .ok (.getfield 174, 3) := by decide +kernel
theorem dX7_image_18 : decode cX7_image 18 = .ok (.ifCond .ne 6, 3) := by decide +kernel
theorem dX7_image_21 : decode cX7_image 21 = .ok (.ldc 143, 2) := by decide +kernel
theorem dX7_image_23 : decode cX7_image 23 = .ok (.ireturn, 1) := by decide +kernel
theorem dX7_image_24 : decode cX7_image 24 = .ok (.aload_n 0, 1) := by decide +kernel
theorem dX7_image_25 : decode cX7_image 25 = .ok (.getfield 37, 3) := by decide +kernel
theorem dX7_image_28 : decode cX7_image 28 = .ok (.iload_n 1, 1) := by decide +kernel
theorem dX7_image_29 : decode cX7_image 29 = .ok (.aaload, 1) := by decide +kernel
theorem dX7_image_30 : decode cX7_image 30 = .ok (.aload_n 0, 1) := by decide +kernel
theorem dX7_image_31 : decode cX7_image 31 = .ok (.getfield 26, 3) := by decide +kernel
theorem dX7_image_34 : decode cX7_image 34 = .ok (.invokevirtual 122, 3) := by decide +kernel
theorem dX7_image_37 : decode cX7_image 37 = .ok (.iconst 1, 1) := by decide +kernel
theorem dX7_image_38 : decode cX7_image 38 = .ok (.ireturn, 1) := by decide +kernel
theorem dX7_restore_0 : decode cX7_restore 0 = .ok (.iload_n 1, 1) := by decide +kernel
theorem dX7_restore_1 : decode cX7_restore 1 = .ok (.iconst 2, 1) := by decide +kernel
theorem dX7_restore_2 : decode cX7_restore 2 = .ok (.invokestatic 57, 3) := by decide +kernel
theorem dX7_restore_5 : decode cX7_restore 5 = .ok (.ifCond .ne 6, 3) := by decide +kernel
theorem dX7_restore_8 : decode cX7_restore 8 = .ok (.ldc 61, 2) := by decide +kernel
theorem dX7_restore_10 : decode cX7_restore 10 = .ok (.ireturn, 1) := by decide +kernel
theorem dX7_restore_11 : decode cX7_restore 11 = .ok (.aload_n 0, 1) := by decide +kernel
theorem dX7_restore_12 : decode cX7_restore 12 = .ok (.getfield 37, 3) := by decide +kernel
theorem dX7_restore_15 : decode cX7_restore 15 = .ok (.iload_n 1, 1) := by decide +kernel
theorem dX7_restore_16 : decode cX7_restore 16 = .ok (.aaload, 1) := by decide +kernel
theorem dX7_restore_17 : decode cX7_restore 17 = .ok (.getfield 174, 3) := by decide +kernel
theorem dX7_restore_20 : decode cX7_restore 20 = .ok (.ifCond .ne 6, 3) := by decide +kernel
theorem dX7_restore_23 : decode cX7_restore 23 = .ok (.ldc 143, 2) := by decide +kernel
theorem dX7_restore_25 : decode cX7_restore 25 = .ok (.ireturn, 1) := by decide +kernel
theorem dX7_restore_26 : decode cX7_restore 26 = .ok (.aload_n 0, 1) := by decide +kernel
theorem dX7_restore_27 : decode cX7_restore 27 = .ok (.getfield 26, 3) := by decide +kernel
theorem dX7_restore_30 : decode cX7_restore 30 = .ok (.aload_n 0, 1) := by decide +kernel
theorem dX7_restore_31 : decode cX7_restore 31 = .ok (.getfield 37, 3) := by decide +kernel
theorem dX7_restore_34 : decode cX7_restore 34 = .ok (.iload_n 1, 1) := by decide +kernel
theorem dX7_restore_35 : decode cX7_restore 35 = .ok (.aaload, 1) := by decide +kernel
theorem dX7_restore_36 : decode cX7_restore 36 = .ok (.invokevirtual 122, 3) := by decide +kernel
theorem dX7_restore_39 : decode cX7_restore 39 = .ok (.aload_n 0, 1) := by decide +kernel
theorem dX7_restore_40 : decode cX7_restore 40 = .ok (.getfield 33, 3) := by decide +kernel
theorem dX7_restore_43 : decode cX7_restore 43 = .ok (.invokevirtual 125, 3) := by decide +kernel
theorem dX7_restore_46 : decode cX7_restore 46 = .ok (.iconst 1, 1) := by decide +kernel
theorem dX7_restore_47 : decode cX7_restore 47 = .ok (.ireturn, 1) := by decide +kernel
theorem dX7_kind_0 : decode cX7_kind 0 = .ok (.aload_n 0, 1) := by decide +kernel
theorem dX7_kind_1 : decode cX7_kind 1 = .ok (.getfield 26, 3) := by decide +kernel
theorem dX7_kind_4 : decode cX7_kind 4 = .ok (.iload_n 1, 1) := by decide +kernel
theorem dX7_kind_5 : decode cX7_kind 5 = .ok (.invokevirtual 137, 3) := by decide +kernel
theorem dX7_kind_8 : decode cX7_kind 8 = .ok (.ifCond .eq 15, 3) := by decide +kernel
theorem dX7_kind_11 : decode cX7_kind 11 = .ok (.aload_n 0, 1) := by decide +kernel
theorem dX7_kind_12 : decode cX7_kind 12 = .ok (.getfield 26, 3) := by decide +kernel
theorem dX7_kind_15 : decode cX7_kind 15 = .ok (.getfield 227, 3) := by decide +kernel
theorem dX7_kind_18 : decode cX7_kind 18 = .ok (.iload_n 1, 1) := by decide +kernel
theorem dX7_kind_19 : decode cX7_kind 19 = .ok (.iaload, 1) := by decide +kernel
theorem dX7_kind_20 : decode cX7_kind 20 = .ok (.goto 5, 3) := by decide +kernel
theorem dX7_kind_23 : decode cX7_kind 23 = .ok (.ldc 61, 2) := by decide +kernel
theorem dX7_kind_25 : decode cX7_kind 25 = .ok (.ireturn, 1) := by decide +kernel
theorem dX7_as_0 : decode cX7_as 0 = .ok (.aload_n 0, 1) := by decide +kernel
theorem dX7_as_1 : decode cX7_as 1 = .ok (.getfield 26, 3) := by decide +kernel
theorem dX7_as_4 : decode cX7_as 4 = .ok (.iload_n 1, 1) := by decide +kernel
theorem dX7_as_5 : decode cX7_as 5 = .ok (.invokevirtual 137, 3) := by decide +kernel
theorem dX7_as_8 : decode cX7_as 8 = .ok (.ifCond .eq 12, 3) := by decide +kernel
theorem dX7_as_11 : decode cX7_as 11 = .ok (.iload_n 2, 1) := by decide +kernel
theorem dX7_as_12 : decode cX7_as 12 = .ok (.ifCond .lt 8, 3) := by decide +kernel
theorem dX7_as_15 : decode cX7_as 15 = .ok (.iload_n 2, 1) := by decide +kernel
theorem dX7_as_16 : decode cX7_as 16 = .ok (.iconst 5, 1) := by decide +kernel
theorem dX7_as_17 : decode cX7_as 17 = .ok (.if_icmp .le 6, 3) := by decide +kernel
theorem dX7_as_20 : decode cX7_as 20 = .ok (.ldc 61, 2) := by decide +kernel
theorem dX7_as_22 : decode cX7_as 22 = .ok (.ireturn, 1) := by decide +kernel
theorem dX7_as_23 : decode cX7_as 23 = .ok (.aload_n 0, 1) := by decide +kernel
theorem dX7_as_24 : decode cX7_as 24 = .ok (.getfield 26, 3) := by decide +kernel
theorem dX7_as_27 : decode cX7_as 27 = .ok (.getfield 227, 3) := by decide +kernel
theorem dX7_as_30 : decode cX7_as 30 = .ok (.iload_n 1, 1) := by decide +kernel
theorem dX7_as_31 : decode cX7_as 31 = .ok (.iaload, 1) := by decide +kernel
theorem dX7_as_32 : decode cX7_as 32 = .ok (.iload_n 2, 1) := by decide +kernel
theorem dX7_as_33 : decode cX7_as 33 = .ok (.invokestatic 230, 3) := by decide +kernel
theorem dX7_as_36 : decode cX7_as 36 = .ok (.ifCond .eq 11, 3) := by decide +kernel
theorem dX7_as_39 : decode cX7_as 39 = .ok (.aload_n 0, 1) := by decide +kernel
theorem dX7_as_40 : decode cX7_as 40 = .ok (.iload_n 1, 1) := by decide +kernel
theorem dX7_as_41 : decode cX7_as 41 = .ok (.invokevirtual 70, 3) := by decide +kernel
theorem dX7_as_44 : decode cX7_as 44 = .ok (.goto 8, 3) := by decide +kernel
theorem dX7_as_47 : decode cX7_as 47 = .ok (.aload_n 0, 1) := by decide +kernel
theorem dX7_as_48 : decode cX7_as 48 = .ok (.iconst 3, 1) := by decide +kernel
theorem dX7_as_49 : decode cX7_as 49 = .ok (.invokevirtual 62, 3) := by decide +kernel
theorem dX7_as_52 : decode cX7_as 52 = .ok (.ireturn, 1) := by decide +kernel
theorem dX7_ask_0 : decode cX7_ask 0 = .ok (.aload_n 0, 1) := by decide +kernel
theorem dX7_ask_1 : decode cX7_ask 1 = .ok (.getfield 26, 3) := by decide +kernel
theorem dX7_ask_4 : decode cX7_ask 4 = .ok (.iload_n 1, 1) := by decide +kernel
theorem dX7_ask_5 : decode cX7_ask 5 = .ok (.invokevirtual 137, 3) := by decide +kernel
theorem dX7_ask_8 : decode cX7_ask 8 = .ok (.ifCond .eq 11, 3) := by decide +kernel
theorem dX7_ask_11 : decode cX7_ask 11 = .ok (.iload_n 2, 1) := by decide +kernel
theorem dX7_ask_12 : decode cX7_ask 12 = .ok (.iconst 2, 1) := by decide +kernel
theorem dX7_ask_13 : decode cX7_ask 13 = .ok (.invokestatic 57, 3) := by decide +kernel
theorem dX7_ask_16 : decode cX7_ask 16 = .ok (.ifCond .ne 6, 3) := by decide +kernel
theorem dX7_ask_19 : decode cX7_ask 19 = .ok (.ldc 61, 2) := by decide +kernel
theorem dX7_ask_21 : decode cX7_ask 21 = .ok (.ireturn, 1) := by decide +kernel
theorem dX7_ask_22 : decode cX7_ask 22 = .ok (.aload_n 0, 1) := by decide +kernel
theorem dX7_ask_23 : decode cX7_ask 23 = .ok (.getfield 53, 3) := by decide +kernel
theorem dX7_ask_26 : decode cX7_ask 26 = .ok (.iconst 0, 1) := by decide +kernel
theorem dX7_ask_27 : decode cX7_ask 27 = .ok (.putfield 233, 3) := by decide +kernel
theorem dX7_ask_30 : decode cX7_ask 30 = .ok (.iload_n 2, 1) := by decide +kernel
theorem dX7_ask_31 : decode cX7_ask 31 = .ok (.ifCond .ne 14, 3) := by decide +kernel
theorem dX7_ask_34 : decode cX7_ask 34 = .ok (.aload_n 0, 1) := by decide +kernel
theorem dX7_ask_35 : decode cX7_ask 35 = .ok (.getfield 53, 3) := by decide +kernel
theorem dX7_ask_38 : decode cX7_ask 38 = .ok (.iload_n 1, 1) := by decide +kernel
theorem dX7_ask_39 : decode cX7_ask 39 = .ok (.invokevirtual 236, 3) := by decide +kernel
theorem dX7_ask_42 : decode cX7_ask 42 = .ok (.goto 11, 3) := by decide +kernel
theorem dX7_ask_45 : decode cX7_ask 45 = .ok (.aload_n 0, 1) := by decide +kernel
theorem dX7_ask_46 : decode cX7_ask 46 = .ok (.getfield 53, 3) := by decide +kernel
theorem dX7_ask_49 : decode cX7_ask 49 = .ok (.iload_n 1, 1) := by decide +kernel
theorem dX7_ask_50 : decode cX7_ask 50 = .ok (.invokevirtual 239, 3) := by decide +kernel
theorem dX7_ask_53 : decode cX7_ask 53 = .ok (.ireturn, 1) := by decide +kernel
theorem dX7_trace_0 : decode cX7_trace 0 = .ok (.iload_n 1, 1) := by decide +kernel
theorem dX7_trace_1 : decode cX7_trace 1 = .ok (.aload_n 0, 1) := by decide +kernel
theorem dX7_trace_2 : decode cX7_trace 2 = .ok (.getfield 53, 3) := by decide +kernel
theorem dX7_trace_5 : decode cX7_trace 5 = .ok (.getfield 233, 3) := by decide +kernel
theorem dX7_trace_8 : decode cX7_trace 8 = .ok (.invokestatic 57, 3) := by decide +kernel
theorem dX7_trace_11 : decode cX7_trace 11 = .ok (.ifCond .eq 15, 3) := by decide +kernel
theorem dX7_trace_14 : decode cX7_trace 14 = .ok (.aload_n 0, 1) := by decide +kernel
theorem dX7_trace_15 : decode cX7_trace 15 = .ok (.getfield 53, 3) := by decide +kernel
theorem dX7_trace_18 : decode cX7_trace 18 = .ok (.getfield 242, 3) := by decide +kernel
theorem dX7_trace_21 : decode cX7_trace 21 = .ok (.iload_n 1, 1) := by decide +kernel
theorem dX7_trace_22 : decode cX7_trace 22 = .ok (.iaload, 1) := by decide +kernel
theorem dX7_trace_23 : decode cX7_trace 23 = .ok (.goto 5, 3) := by decide +kernel
theorem dX7_trace_26 : decode cX7_trace 26 = .ok (.ldc 173, 2) := by decide +kernel
theorem dX7_trace_28 : decode cX7_trace 28 = .ok (.ireturn, 1) := by decide +kernel
theorem dX7_count_0 : decode cX7_count 0 = .ok (.iload_n 1, 1) := by decide +kernel
theorem dX7_count_1 : decode cX7_count 1 = .ok (.tableswitch 117 0 7 #[47, 55, 63, 71, 79, 87, 98, 109], 47) := by decide +kernel
theorem dX7_count_48 : decode cX7_count 48 = .ok (.aload_n 0, 1) := by decide +kernel
theorem dX7_count_49 : decode cX7_count 49 = .ok (.getfield 10, 3) := by decide +kernel
theorem dX7_count_52 : decode cX7_count 52 = .ok (.invokevirtual 245, 3) := by decide +kernel
theorem dX7_count_55 : decode cX7_count 55 = .ok (.ireturn, 1) := by decide +kernel
theorem dX7_count_56 : decode cX7_count 56 = .ok (.aload_n 0, 1) := by decide +kernel
theorem dX7_count_57 : decode cX7_count 57 = .ok (.getfield 26, 3) := by decide +kernel
theorem dX7_count_60 : decode cX7_count 60 = .ok (.getfield 128, 3) := by decide +kernel
theorem dX7_count_63 : decode cX7_count 63 = .ok (.ireturn, 1) := by decide +kernel
theorem dX7_count_64 : decode cX7_count 64 = .ok (.aload_n 0, 1) := by decide +kernel
theorem dX7_count_65 : decode cX7_count 65 = .ok (.getfield 26, 3) := by decide +kernel
theorem dX7_count_68 : decode cX7_count 68 = .ok (.getfield 181, 3) := by decide +kernel
theorem dX7_count_71 : decode cX7_count 71 = .ok (.ireturn, 1) := by decide +kernel
theorem dX7_count_72 : decode cX7_count 72 = .ok (.aload_n 0, 1) := by decide +kernel
theorem dX7_count_73 : decode cX7_count 73 = .ok (.getfield 26, 3) := by decide +kernel
theorem dX7_count_76 : decode cX7_count 76 = .ok (.getfield 249, 3) := by decide +kernel
theorem dX7_count_79 : decode cX7_count 79 = .ok (.ireturn, 1) := by decide +kernel
theorem dX7_count_80 : decode cX7_count 80 = .ok (.aload_n 0, 1) := by decide +kernel
theorem dX7_count_81 : decode cX7_count 81 = .ok (.getfield 33, 3) := by decide +kernel
theorem dX7_count_84 : decode cX7_count 84 = .ok (.getfield 193, 3) := by decide +kernel
theorem dX7_count_87 : decode cX7_count 87 = .ok (.ireturn, 1) := by decide +kernel
theorem dX7_count_88 : decode cX7_count 88 = .ok (.aload_n 0, 1) := by decide +kernel
theorem dX7_count_89 : decode cX7_count 89 = .ok (.getfield 26, 3) := by decide +kernel
theorem dX7_count_92 : decode cX7_count 92 = .ok (.getfield 144, 3) := by decide +kernel
theorem dX7_count_95 : decode cX7_count 95 = .ok (.getfield 252, 3) := by decide +kernel
theorem dX7_count_98 : decode cX7_count 98 = .ok (.ireturn, 1) := by decide +kernel
theorem dX7_count_99 : decode cX7_count 99 = .ok (.aload_n 0, 1) := by decide +kernel
theorem dX7_count_100 : decode cX7_count 100 = .ok (.getfield 26, 3) := by decide +kernel
theorem dX7_count_103 : decode cX7_count 103 = .ok (.getfield 144, 3) := by decide +kernel
theorem dX7_count_106 : decode cX7_count 106 = .ok (.getfield 187, 3) := by decide +kernel
theorem dX7_count_109 : decode cX7_count 109 = .ok (.ireturn, 1) := by decide +kernel
theorem dX7_count_110 : decode cX7_count 110 = .ok (.aload_n 0, 1) := by decide +kernel
theorem dX7_count_111 : decode cX7_count 111 = .ok (.getfield 19, 3) := by decide +kernel
theorem dX7_count_114 : decode cX7_count 114 = .ok (.getfield 102, 3) := by decide +kernel
theorem dX7_count_117 : decode cX7_count 117 = .ok (.ireturn, 1) := by decide +kernel
theorem dX7_count_118 : decode cX7_count 118 = .ok (.ldc 61, 2) := by decide +kernel
theorem dX7_count_120 : decode cX7_count 120 = .ok (.ireturn, 1) := by decide +kernel
theorem dX7_status_0 : decode cX7_status 0 = .ok (.aload_n 0, 1) := by decide +kernel
theorem dX7_status_1 : decode cX7_status 1 = .ok (.getfield 255, 3) := by decide +kernel
theorem dX7_status_4 : decode cX7_status 4 = .ok (.ireturn, 1) := by decide +kernel
theorem dX7_isIn_0 : decode cX7_isIn 0 = .ok (.iload_n 0, 1) := by decide +kernel
theorem dX7_isIn_1 : decode cX7_isIn 1 = .ok (.ifCond .lt 12, 3) := by decide +kernel
theorem dX7_isIn_4 : decode cX7_isIn 4 = .ok (.iload_n 0, 1) := by decide +kernel
theorem dX7_isIn_5 : decode cX7_isIn 5 = .ok (.iload_n 1, 1) := by decide +kernel
theorem dX7_isIn_6 : decode cX7_isIn 6 = .ok (.if_icmp .ge 7, 3) := by decide +kernel
theorem dX7_isIn_9 : decode cX7_isIn 9 = .ok (.iconst 1, 1) := by decide +kernel
theorem dX7_isIn_10 : decode cX7_isIn 10 = .ok (.goto 4, 3) := by decide +kernel
theorem dX7_isIn_13 : decode cX7_isIn 13 = .ok (.iconst 0, 1) := by decide +kernel
theorem dX7_isIn_14 : decode cX7_isIn 14 = .ok (.ireturn, 1) := by decide +kernel
theorem dX7_found_0 : decode cX7_found 0 = .ok (.aload_n 0, 1) := by decide +kernel
theorem dX7_found_1 : decode cX7_found 1 = .ok (.iload_n 1, 1) := by decide +kernel
theorem dX7_found_2 : decode cX7_found 2 = .ok (.putfield 255, 3) := by decide +kernel
theorem dX7_found_5 : decode cX7_found 5 = .ok (.ldc_w 258, 3) := by decide +kernel
theorem dX7_found_8 : decode cX7_found 8 = .ok (.iload_n 1, 1) := by decide +kernel
theorem dX7_found_9 : decode cX7_found 9 = .ok (.isub, 1) := by decide +kernel
theorem dX7_found_10 : decode cX7_found 10 = .ok (.ireturn, 1) := by decide +kernel
theorem dX7_well_0 : decode cX7_well 0 = .ok (.aload_n 0, 1) := by decide +kernel
theorem dX7_well_1 : decode cX7_well 1 = .ok (.iconst 0, 1) := by decide +kernel
theorem dX7_well_2 : decode cX7_well 2 = .ok (.putfield 255, 3) := by decide +kernel
theorem dX7_well_5 : decode cX7_well 5 = .ok (.iload_n 1, 1) := by decide +kernel
theorem dX7_well_6 : decode cX7_well 6 = .ok (.ireturn, 1) := by decide +kernel
theorem dX7_isKindOf_0 : decode cX7_isKindOf 0 = .ok (.iload_n 1, 1) := by decide +kernel
theorem dX7_isKindOf_1 : decode cX7_isKindOf 1 = .ok (.ifCond .eq 16, 3) := by decide +kernel
theorem dX7_isKindOf_4 : decode cX7_isKindOf 4 = .ok (.iload_n 1, 1) := by decide +kernel
theorem dX7_isKindOf_5 : decode cX7_isKindOf 5 = .ok (.iload_n 0, 1) := by decide +kernel
theorem dX7_isKindOf_6 : decode cX7_isKindOf 6 = .ok (.if_icmp .eq 11, 3) := by decide +kernel
theorem dX7_isKindOf_9 : decode cX7_isKindOf 9 = .ok (.iload_n 1, 1) := by decide +kernel
theorem dX7_isKindOf_10 : decode cX7_isKindOf 10 = .ok (.iload_n 0, 1) := by decide +kernel
theorem dX7_isKindOf_11 : decode cX7_isKindOf 11 = .ok (.invokestatic 259, 3) := by decide +kernel
theorem dX7_isKindOf_14 : decode cX7_isKindOf 14 = .ok (.if_icmp .ne 7, 3) := by decide +kernel
theorem dX7_isKindOf_17 : decode cX7_isKindOf 17 = .ok (.iconst 1, 1) := by decide +kernel
theorem dX7_isKindOf_18 : decode cX7_isKindOf 18 = .ok (.goto 4, 3) := by decide +kernel
theorem dX7_isKindOf_21 : decode cX7_isKindOf 21 = .ok (.iconst 0, 1) := by decide +kernel
theorem dX7_isKindOf_22 : decode cX7_isKindOf 22 = .ok (.ireturn, 1) := by decide +kernel
theorem dX7_nearestAbove_0 : decode cX7_nearestAbove 0 = .ok (.iload_n 0, 1) := by decide +kernel
theorem dX7_nearestAbove_1 : decode cX7_nearestAbove 1 = .ok (.tableswitch 35 2 5 #[31, 35, 33, 33], 31) := by decide +kernel
theorem dX7_nearestAbove_32 : decode cX7_nearestAbove 32 = .ok (.iconst 1, 1) := by decide +kernel
theorem dX7_nearestAbove_33 : decode cX7_nearestAbove 33 = .ok (.ireturn, 1) := by decide +kernel
theorem dX7_nearestAbove_34 : decode cX7_nearestAbove 34 = .ok (.iconst 3, 1) := by decide +kernel
theorem dX7_nearestAbove_35 : decode cX7_nearestAbove 35 = .ok (.ireturn, 1) := by decide +kernel
theorem dX7_nearestAbove_36 : decode cX7_nearestAbove 36 = .ok (.iconst 0, 1) := by decide +kernel
theorem dX7_nearestAbove_37 : decode cX7_nearestAbove 37 = .ok (.ireturn, 1) := by decide +kernel
theorem dX7_walked_0 : decode cX7_walked 0 = .ok (.aload_n 0, 1) := by decide +kernel
theorem dX7_walked_1 : decode cX7_walked 1 = .ok (.getfield 26, 3) := by decide +kernel
theorem dX7_walked_4 : decode cX7_walked 4 = .ok (.iconst 1, 1) := by decide +kernel
theorem dX7_walked_5 : decode cX7_walked 5 = .ok (.invokevirtual 178, 3) := by decide +kernel
theorem dX7_walked_8 : decode cX7_walked 8 = .ok (.aload_n 0, 1) := by decide +kernel
theorem dX7_walked_9 : decode cX7_walked 9 = .ok (.getfield 26, 3) := by decide +kernel
theorem dX7_walked_12 : decode cX7_walked 12 = .ok (.iconst 2, 1) := by decide +kernel
theorem dX7_walked_13 : decode cX7_walked 13 = .ok (.invokevirtual 178, 3) := by decide +kernel
theorem dX7_walked_16 : decode cX7_walked 16 = .ok (.ior, 1) := by decide +kernel
theorem dX7_walked_17 : decode cX7_walked 17 = .ok (.istore 4, 2) := by decide +kernel
theorem dX7_walked_19 : decode cX7_walked 19 = .ok (.iconst 0, 1) := by decide +kernel
theorem dX7_walked_20 : decode cX7_walked 20 = .ok (.istore 5, 2) := by decide +kernel
theorem dX7_walked_22 : decode cX7_walked 22 = .ok (.iconst 0, 1) := by decide +kernel
theorem dX7_walked_23 : decode cX7_walked 23 = .ok (.istore 6, 2) := by decide +kernel
theorem dX7_walked_25 : decode cX7_walked 25 = .ok (.iconst 0, 1) := by decide +kernel
theorem dX7_walked_26 : decode cX7_walked 26 = .ok (.istore 7, 2) := by decide +kernel
theorem dX7_walked_28 : decode cX7_walked 28 = .ok (.iconst 0, 1) := by decide +kernel
theorem dX7_walked_29 : decode cX7_walked 29 = .ok (.istore 8, 2) := by decide +kernel
theorem dX7_walked_31 : decode cX7_walked 31 = .ok (.iload 8, 2) := by decide +kernel
theorem dX7_walked_33 : decode cX7_walked 33 = .ok (.iload_n 2, 1) := by decide +kernel
theorem dX7_walked_34 : decode cX7_walked 34 = .ok (.if_icmp .ge 96, 3) := by decide +kernel
theorem dX7_walked_37 : decode cX7_walked 37 = .ok (.iconst 1, 1) := by decide +kernel
theorem dX7_walked_38 : decode cX7_walked 38 = .ok (.aload_n 1, 1) := by decide +kernel
theorem dX7_walked_39 : decode cX7_walked 39 = .ok (.iload 8, 2) := by decide +kernel
theorem dX7_walked_41 : decode cX7_walked 41 = .ok (.iaload, 1) := by decide +kernel
theorem dX7_walked_42 : decode cX7_walked 42 = .ok (.iconst 1, 1) := by decide +kernel
theorem dX7_walked_43 : decode cX7_walked 43 = .ok (.ishr, 1) := by decide +kernel
theorem dX7_walked_44 : decode cX7_walked 44 = .ok (.ishl, 1) := by decide +kernel
theorem dX7_walked_45 : decode cX7_walked 45 = .ok (.iload 4, 2) := by decide +kernel
theorem dX7_walked_47 : decode cX7_walked 47 = .ok (.iand, 1) := by decide +kernel
theorem dX7_walked_48 : decode cX7_walked 48 = .ok (.istore 9, 2) := by decide +kernel
theorem dX7_walked_50 : decode cX7_walked 50 = .ok (.aload_n 1, 1) := by decide +kernel
theorem dX7_walked_51 : decode cX7_walked 51 = .ok (.iload 8, 2) := by decide +kernel
theorem dX7_walked_53 : decode cX7_walked 53 = .ok (.iaload, 1) := by decide +kernel
theorem dX7_walked_54 : decode cX7_walked 54 = .ok (.iconst 1, 1) := by decide +kernel
theorem dX7_walked_55 : decode cX7_walked 55 = .ok (.iand, 1) := by decide +kernel
theorem dX7_walked_56 : decode cX7_walked 56 = .ok (.iconst 1, 1) := by decide +kernel
theorem dX7_walked_57 : decode cX7_walked 57 = .ok (.if_icmp .ne 8, 3) := by decide +kernel
theorem dX7_walked_60 : decode cX7_walked 60 = .ok (.iload 9, 2) := by decide +kernel
theorem dX7_walked_62 : decode cX7_walked 62 = .ok (.goto 4, 3) := by decide +kernel
theorem dX7_walked_65 : decode cX7_walked 65 = .ok (.iconst 0, 1) := by decide +kernel
theorem dX7_walked_66 : decode cX7_walked 66 = .ok (.istore 10, 2) := by decide +kernel
theorem dX7_walked_68 : decode cX7_walked 68 = .ok (.iload 5, 2) := by decide +kernel
theorem dX7_walked_70 : decode cX7_walked 70 = .ok (.iload 9, 2) := by decide +kernel
theorem dX7_walked_72 : decode cX7_walked 72 = .ok (.iand, 1) := by decide +kernel
theorem dX7_walked_73 : decode cX7_walked 73 = .ok (.ifCond .eq 20, 3) := by decide +kernel
theorem dX7_walked_76 : decode cX7_walked 76 = .ok (.iload 6, 2) := by decide +kernel
theorem dX7_walked_78 : decode cX7_walked 78 = .ok (.iload 9, 2) := by decide +kernel
theorem dX7_walked_80 : decode cX7_walked 80 = .ok (.iand, 1) := by decide +kernel
theorem dX7_walked_81 : decode cX7_walked 81 = .ok (.iload 10, 2) := by decide +kernel
theorem dX7_walked_83 : decode cX7_walked 83 = .ok (.if_icmp .ne 10, 3) := by decide +kernel
theorem dX7_walked_86 : decode cX7_walked 86 = .ok (.iload 8, 2) := by decide +kernel
theorem dX7_walked_88 : decode cX7_walked 88 = .ok (.iload_n 3, 1) := by decide +kernel
theorem dX7_walked_89 : decode cX7_walked 89 = .ok (.invokestatic 262, 3) := by decide +kernel
theorem dX7_walked_92 : decode cX7_walked 92 = .ok (.ireturn, 1) := by decide +kernel
theorem dX7_walked_93 : decode cX7_walked 93 = .ok (.iload 7, 2) := by decide +kernel
theorem dX7_walked_95 : decode cX7_walked 95 = .ok (.iload 10, 2) := by decide +kernel
theorem dX7_walked_97 : decode cX7_walked 97 = .ok (.iload 5, 2) := by decide +kernel
theorem dX7_walked_99 : decode cX7_walked 99 = .ok (.iconst (-1), 1) := by decide +kernel
theorem dX7_walked_100 : decode cX7_walked 100 = .ok (.ixor, 1) := by decide +kernel
theorem dX7_walked_101 : decode cX7_walked 101 = .ok (.iand, 1) := by decide +kernel
theorem dX7_walked_102 : decode cX7_walked 102 = .ok (.ior, 1) := by decide +kernel
theorem dX7_walked_103 : decode cX7_walked 103 = .ok (.istore 7, 2) := by decide +kernel
theorem dX7_walked_105 : decode cX7_walked 105 = .ok (.iload 5, 2) := by decide +kernel
theorem dX7_walked_107 : decode cX7_walked 107 = .ok (.iload 9, 2) := by decide +kernel
theorem dX7_walked_109 : decode cX7_walked 109 = .ok (.ior, 1) := by decide +kernel
theorem dX7_walked_110 : decode cX7_walked 110 = .ok (.istore 5, 2) := by decide +kernel
theorem dX7_walked_112 : decode cX7_walked 112 = .ok (.iload 6, 2) := by decide +kernel
theorem dX7_walked_114 : decode cX7_walked 114 = .ok (.iload 9, 2) := by decide +kernel
theorem dX7_walked_116 : decode cX7_walked 116 = .ok (.iconst (-1), 1) := by decide +kernel
theorem dX7_walked_117 : decode cX7_walked 117 = .ok (.ixor, 1) := by decide +kernel
theorem dX7_walked_118 : decode cX7_walked 118 = .ok (.iand, 1) := by decide +kernel
theorem dX7_walked_119 : decode cX7_walked 119 = .ok (.iload 10, 2) := by decide +kernel
theorem dX7_walked_121 : decode cX7_walked 121 = .ok (.ior, 1) := by decide +kernel
theorem dX7_walked_122 : decode cX7_walked 122 = .ok (.istore 6, 2) := by decide +kernel
theorem dX7_walked_124 : decode cX7_walked 124 = .ok (.iinc 8 1, 3) := by decide +kernel
theorem dX7_walked_127 : decode cX7_walked 127 = .ok (.goto (-96), 3) := by decide +kernel
theorem dX7_walked_130 : decode cX7_walked 130 = .ok (.iload_n 3, 1) := by decide +kernel
theorem dX7_walked_131 : decode cX7_walked 131 = .ok (.lookupswitch 41 #[(0, 25), (1, 38)], 25) := by decide +kernel
theorem dX7_walked_156 : decode cX7_walked 156 = .ok (.iconst 1, 1) := by decide +kernel
theorem dX7_walked_157 : decode cX7_walked 157 = .ok (.iload 4, 2) := by decide +kernel
theorem dX7_walked_159 : decode cX7_walked 159 = .ok (.iload 5, 2) := by decide +kernel
theorem dX7_walked_161 : decode cX7_walked 161 = .ok (.iconst (-1), 1) := by decide +kernel
theorem dX7_walked_162 : decode cX7_walked 162 = .ok (.ixor, 1) := by decide +kernel
theorem dX7_walked_163 : decode cX7_walked 163 = .ok (.iand, 1) := by decide +kernel
theorem dX7_walked_164 : decode cX7_walked 164 = .ok (.invokestatic 265, 3) := by decide +kernel
theorem dX7_walked_167 : decode cX7_walked 167 = .ok (.ishl, 1) := by decide +kernel
theorem dX7_walked_168 : decode cX7_walked 168 = .ok (.ireturn, 1) := by decide +kernel
theorem dX7_walked_169 : decode cX7_walked 169 = .ok (.iload 7, 2) := by decide +kernel
theorem dX7_walked_171 : decode cX7_walked 171 = .ok (.ireturn, 1) := by decide +kernel
theorem dX7_walked_172 : decode cX7_walked 172 = .ok (.ldc 173, 2) := by decide +kernel
theorem dX7_walked_174 : decode cX7_walked 174 = .ok (.ireturn, 1) := by decide +kernel
theorem dX7_wrongAt_0 : decode cX7_wrongAt 0 = .ok (.iload_n 1, 1) := by decide +kernel
theorem dX7_wrongAt_1 : decode cX7_wrongAt 1 = .ok (.lookupswitch 32 #[(0, 27), (1, 29)], 27) := by decide +kernel
theorem dX7_wrongAt_28 : decode cX7_wrongAt 28 = .ok (.iconst 0, 1) := by decide +kernel
theorem dX7_wrongAt_29 : decode cX7_wrongAt 29 = .ok (.ireturn, 1) := by decide +kernel
theorem dX7_wrongAt_30 : decode cX7_wrongAt 30 = .ok (.ldc 173, 2) := by decide +kernel
theorem dX7_wrongAt_32 : decode cX7_wrongAt 32 = .ok (.ireturn, 1) := by decide +kernel
theorem dX7_wrongAt_33 : decode cX7_wrongAt 33 = .ok (.iload_n 0, 1) := by decide +kernel
theorem dX7_wrongAt_34 : decode cX7_wrongAt 34 = .ok (.ireturn, 1) := by decide +kernel
theorem dX8_init_0 : decode cX8_init 0 = .ok (.aload_n 0, 1) := by decide +kernel
theorem dX8_init_1 : decode cX8_init 1 = .ok (.invokespecial 1, 3) := by decide +kernel
theorem dX8_init_4 : decode cX8_init 4 = .ok (.aload_n 0, 1) := by decide +kernel
theorem dX8_init_5 : decode cX8_init 5 = .ok (.bipush 48, 2) := by decide +kernel
theorem dX8_init_7 : decode cX8_init 7 = .ok (.newarray .int, 2) := by decide +kernel
theorem dX8_init_9 : decode cX8_init 9 = .ok (.putfield 7, 3) := by decide +kernel
theorem dX8_init_12 : decode cX8_init 12 = .ok (.aload_n 0, 1) := by decide +kernel
theorem dX8_init_13 : decode cX8_init 13 = .ok (.bipush 96, 2) := by decide +kernel
theorem dX8_init_15 : decode cX8_init 15 = .ok (.newarray .int, 2) := by decide +kernel
theorem dX8_init_17 : decode cX8_init 17 = .ok (.putfield 13, 3) := by decide +kernel
theorem dX8_init_20 : decode cX8_init 20 = .ok (.aload_n 0, 1) := by decide +kernel
theorem dX8_init_21 : decode cX8_init 21 = .ok (.iconst 2, 1) := by decide +kernel
theorem dX8_init_22 : decode cX8_init 22 = .ok (.newarray .boolean, 2) := by decide +kernel
theorem dX8_init_24 : decode cX8_init 24 = .ok (.putfield 16, 3) := by decide +kernel
theorem dX8_init_27 : decode cX8_init 27 = .ok (.aload_n 0, 1) := by decide +kernel
theorem dX8_init_28 : decode cX8_init 28 = .ok (.sipush 384, 3) := by decide +kernel
theorem dX8_init_31 : decode cX8_init 31 = .ok (.newarray .int, 2) := by decide +kernel
theorem dX8_init_33 : decode cX8_init 33 = .ok (.putfield 20, 3) := by decide +kernel
theorem dX8_init_36 : decode cX8_init 36 = .ok (.aload_n 0, 1) := by decide +kernel
theorem dX8_init_37 : decode cX8_init 37 = .ok (.bipush 8, 2) := by decide +kernel
theorem dX8_init_39 : decode cX8_init 39 = .ok (.newarray .int, 2) := by decide +kernel
theorem dX8_init_41 : decode cX8_init 41 = .ok (.putfield 23, 3) := by decide +kernel
theorem dX8_init_44 : decode cX8_init 44 = .ok (.aload_n 0, 1) := by decide +kernel
theorem dX8_init_45 : decode cX8_init 45 = .ok (.bipush 8, 2) := by decide +kernel
theorem dX8_init_47 : decode cX8_init 47 = .ok (.newarray .int, 2) := by decide +kernel
theorem dX8_init_49 : decode cX8_init 49 = .ok (.putfield 26, 3) := by decide +kernel
theorem dX8_init_52 : decode cX8_init 52 = .ok (.aload_n 0, 1) := by decide +kernel
theorem dX8_init_53 : decode cX8_init 53 = .ok (.sipush 320, 3) := by decide +kernel
theorem dX8_init_56 : decode cX8_init 56 = .ok (.newarray .int, 2) := by decide +kernel
theorem dX8_init_58 : decode cX8_init 58 = .ok (.putfield 29, 3) := by decide +kernel
theorem dX8_init_61 : decode cX8_init 61 = .ok (.aload_n 0, 1) := by decide +kernel
theorem dX8_init_62 : decode cX8_init 62 = .ok (.sipush 400, 3) := by decide +kernel
theorem dX8_init_65 : decode cX8_init 65 = .ok (.newarray .int, 2) := by decide +kernel
theorem dX8_init_67 : decode cX8_init 67 = .ok (.putfield 32, 3) := by decide +kernel
theorem dX8_init_70 : decode cX8_init 70 = .ok (.aload_n 0, 1) := by decide +kernel
theorem dX8_init_71 : decode cX8_init 71 = .ok (.bipush 48, 2) := by decide +kernel
theorem dX8_init_73 : decode cX8_init 73 = .ok (.newarray .int, 2) := by decide +kernel
theorem dX8_init_75 : decode cX8_init 75 = .ok (.putfield 35, 3) := by decide +kernel
theorem dX8_init_78 : decode cX8_init 78 = .ok (.aload_n 0, 1) := by decide +kernel
theorem dX8_init_79 : decode cX8_init 79 = .ok (.sipush 2688, 3) := by decide +kernel
theorem dX8_init_82 : decode cX8_init 82 = .ok (.newarray .int, 2) := by decide +kernel
theorem dX8_init_84 : decode cX8_init 84 = .ok (.putfield 38, 3) := by decide +kernel
theorem dX8_init_87 : decode cX8_init 87 = .ok (.aload_n 0, 1) := by decide +kernel
theorem dX8_init_88 : decode cX8_init 88 = .ok (.bipush 16, 2) := by decide +kernel
theorem dX8_init_90 : decode cX8_init 90 = .ok (.newarray .int, 2) := by decide +kernel
theorem dX8_init_92 : decode cX8_init 92 = .ok (.putfield 41, 3) := by decide +kernel
theorem dX8_init_95 : decode cX8_init 95 = .ok (.iconst 0, 1) := by decide +kernel
theorem dX8_init_96 : decode cX8_init 96 = .ok (.istore_n 1, 1) := by decide +kernel
theorem dX8_init_97 : decode cX8_init 97 = .ok (.iload_n 1, 1) := by decide +kernel
theorem dX8_init_98 : decode cX8_init 98 = .ok (.bipush 8, 2) := by decide +kernel
theorem dX8_init_100 : decode cX8_init 100 = .ok (.if_icmp .ge 17, 3) := by decide +kernel
theorem dX8_init_103 : decode cX8_init 103 = .ok (.aload_n 0, 1) := by decide +kernel
theorem dX8_init_104 : decode cX8_init 104 = .ok (.getfield 23, 3) := by decide +kernel
theorem dX8_init_107 : decode cX8_init 107 = .ok (.iload_n 1, 1) := by decide +kernel
theorem dX8_init_108 : decode cX8_init 108 = .ok (.ldc 44, 2) := by decide +kernel
theorem dX8_init_110 : decode cX8_init 110 = .ok (.iastore, 1) := by decide +kernel
theorem dX8_init_111 : decode cX8_init 111 = .ok (.iinc 1 1, 3) := by decide +kernel
theorem dX8_init_114 : decode cX8_init 114 = .ok (.goto (-17), 3) := by decide +kernel
theorem dX8_init_117 : decode cX8_init 117 = .ok (.return_, 1) := by decide +kernel
theorem dX8_in_0 : decode cX8_in 0 = .ok (.iload_n 0, 1) := by decide +kernel
theorem dX8_in_1 : decode cX8_in 1 = .ok (.iload_n 1, 1) := by decide +kernel
theorem dX8_in_2 : decode cX8_in 2 = .ok (.if_icmp .lt 12, 3) := by decide +kernel
theorem dX8_in_5 : decode cX8_in 5 = .ok (.iload_n 0, 1) := by decide +kernel
theorem dX8_in_6 : decode cX8_in 6 = .ok (.iload_n 2, 1) := by decide +kernel
theorem dX8_in_7 : decode cX8_in 7 = .ok (.if_icmp .gt 7, 3) := by decide +kernel
theorem dX8_in_10 : decode cX8_in 10 = .ok (.iconst 1, 1) := by decide +kernel
theorem dX8_in_11 : decode cX8_in 11 = .ok (.goto 4, 3) := by decide +kernel
theorem dX8_in_14 : decode cX8_in 14 = .ok (.iconst 0, 1) := by decide +kernel
theorem dX8_in_15 : decode cX8_in 15 = .ok (.ireturn, 1) := by decide +kernel
theorem dX8_has_0 : decode cX8_has 0 = .ok (.iload_n 0, 1) := by decide +kernel
theorem dX8_has_1 : decode cX8_has 1 = .ok (.iload_n 1, 1) := by decide +kernel
theorem dX8_has_2 : decode cX8_has 2 = .ok (.ishr, 1) := by decide +kernel
theorem dX8_has_3 : decode cX8_has 3 = .ok (.iconst 1, 1) := by decide +kernel
theorem dX8_has_4 : decode cX8_has 4 = .ok (.iand, 1) := by decide +kernel
theorem dX8_has_5 : decode cX8_has 5 = .ok (.iconst 1, 1) := by decide +kernel
theorem dX8_has_6 : decode cX8_has 6 = .ok (.if_icmp .ne 7, 3) := by decide +kernel
theorem dX8_has_9 : decode cX8_has 9 = .ok (.iconst 1, 1) := by decide +kernel
theorem dX8_has_10 : decode cX8_has 10 = .ok (.goto 4, 3) := by decide +kernel
theorem dX8_has_13 : decode cX8_has 13 = .ok (.iconst 0, 1) := by decide +kernel
theorem dX8_has_14 : decode cX8_has 14 = .ok (.ireturn, 1) := by decide +kernel
theorem dX8_found_0 : decode cX8_found 0 = .ok (.aload_n 0, 1) := by decide +kernel
theorem dX8_found_1 : decode cX8_found 1 = .ok (.iload_n 1, 1) := by decide +kernel
theorem dX8_found_2 : decode cX8_found 2 = .ok (.putfield 45, 3) := by decide +kernel
theorem dX8_found_5 : decode cX8_found 5 = .ok (.ldc 49, 2) := by decide +kernel
theorem dX8_found_7 : decode cX8_found 7 = .ok (.iload_n 1, 1) := by decide +kernel
theorem dX8_found_8 : decode cX8_found 8 = .ok (.isub, 1) := by decide +kernel
theorem dX8_found_9 : decode cX8_found 9 = .ok (.ireturn, 1) := by decide +kernel
theorem dX8_well_0 : decode cX8_well 0 = .ok (.aload_n 0, 1) := by decide +kernel
theorem dX8_well_1 : decode cX8_well 1 = .ok (.iconst 0, 1) := by decide +kernel
theorem dX8_well_2 : decode cX8_well 2 = .ok (.putfield 45, 3) := by decide +kernel
theorem dX8_well_5 : decode cX8_well 5 = .ok (.iload_n 1, 1) := by decide +kernel
theorem dX8_well_6 : decode cX8_well 6 = .ok (.ireturn, 1) := by decide +kernel
theorem dX8_isRow_0 : decode cX8_isRow 0 = .ok (.iload_n 0, 1) := by decide +kernel
theorem dX8_isRow_1 : decode cX8_isRow 1 = .ok (.iconst 0, 1) := by decide +kernel
theorem dX8_isRow_2 : decode cX8_isRow 2 = .ok (.bipush 7, 2) := by decide +kernel
theorem dX8_isRow_4 : decode cX8_isRow 4 = .ok (.invokestatic 50, 3) := by decide +kernel
theorem dX8_isRow_7 : decode cX8_isRow 7 = .ok (.ireturn, 1) := by decide +kernel
theorem dX8_row_0 : decode cX8_row 0 = .ok (.iload_n 1, 1) := by decide +kernel
theorem dX8_row_1 : decode cX8_row 1 = .ok (.invokestatic 54, 3) := by decide +kernel
theorem dX8_row_4 : decode cX8_row 4 = .ok (.ifCond .eq 18, 3) := by decide +kernel
theorem dX8_row_7 : decode cX8_row 7 = .ok (.iload_n 2, 1) := by decide +kernel
theorem dX8_row_8 : decode cX8_row 8 = .ok (.iconst 0, 1) := by decide +kernel
theorem dX8_row_9 : decode cX8_row 9 = .ok (.iconst 2, 1) := by decide +kernel
theorem dX8_row_10 : decode cX8_row 10 = .ok (.invokestatic 50, 3) := by decide +kernel
theorem dX8_row_13 : decode cX8_row 13 = .ok (.ifCond .eq 9, 3) := by decide +kernel
theorem dX8_row_16 : decode cX8_row 16 = .ok (.iload_n 3, 1) := by decide +kernel
theorem dX8_row_17 : decode cX8_row 17 = .ok (.bipush 40, 2) := by decide +kernel
theorem dX8_row_19 : decode cX8_row 19 = .ok (.if_icmp .le 6, 3) := by decide +kernel
theorem dX8_row_22 : decode cX8_row 22 = .ok (.ldc 58, 2) := by decide +kernel
theorem dX8_row_24 : decode cX8_row 24 = .ok (.ireturn, 1) := by decide +kernel
theorem dX8_row_25 : decode cX8_row 25 = .ok (.iload_n 3, 1) := by decide +kernel
theorem dX8_row_26 : decode cX8_row 26 = .ok (.ifCond .ge 9, 3) := by decide +kernel
theorem dX8_row_29 : decode cX8_row 29 = .ok (.aload_n 0, 1) := by decide +kernel
theorem dX8_row_30 : decode cX8_row 30 = .ok (.iconst 4, 1) := by decide +kernel
theorem dX8_row_31 : decode cX8_row 31 = .ok (.invokevirtual 59, 3) := by decide +kernel
theorem dX8_row_34 : decode cX8_row 34 = .ok (.ireturn, 1) := by decide +kernel
theorem dX8_row_35 : decode cX8_row 35 = .ok (.aload_n 0, 1) := by decide +kernel
theorem dX8_row_36 : decode cX8_row 36 = .ok (.getfield 23, 3) := by decide +kernel
theorem dX8_row_39 : decode cX8_row 39 = .ok (.iload_n 1, 1) := by decide +kernel
theorem dX8_row_40 : decode cX8_row 40 = .ok (.iload_n 2, 1) := by decide +kernel
theorem dX8_row_41 : decode cX8_row 41 = .ok (.iastore, 1) := by decide +kernel
theorem dX8_row_42 : decode cX8_row 42 = .ok (.aload_n 0, 1) := by decide +kernel
theorem dX8_row_43 : decode cX8_row 43 = .ok (.getfield 26, 3) := by decide +kernel
theorem dX8_row_46 : decode cX8_row 46 = .ok (.iload_n 1, 1) := by decide +kernel
theorem dX8_row_47 : decode cX8_row 47 = .ok (.iload_n 3, 1) := by decide +kernel
theorem dX8_row_48 : decode cX8_row 48 = .ok (.iastore, 1) := by decide +kernel
theorem dX8_row_49 : decode cX8_row 49 = .ok (.iconst 0, 1) := by decide +kernel
theorem dX8_row_50 : decode cX8_row 50 = .ok (.istore 4, 2) := by decide +kernel
theorem dX8_row_52 : decode cX8_row 52 = .ok (.iload 4, 2) := by decide +kernel
theorem dX8_row_54 : decode cX8_row 54 = .ok (.bipush 40, 2) := by decide +kernel
theorem dX8_row_56 : decode cX8_row 56 = .ok (.if_icmp .ge 22, 3) := by decide +kernel
theorem dX8_row_59 : decode cX8_row 59 = .ok (.aload_n 0, 1) := by decide +kernel
theorem dX8_row_60 : decode cX8_row 60 = .ok (.getfield 29, 3) := by decide +kernel
theorem dX8_row_63 : decode cX8_row 63 = .ok (.bipush 40, 2) := by decide +kernel
theorem dX8_row_65 : decode cX8_row 65 = .ok (.iload_n 1, 1) := by decide +kernel
theorem dX8_row_66 : decode cX8_row 66 = .ok (.imul, 1) := by decide +kernel
theorem dX8_row_67 : decode cX8_row 67 = .ok (.iload 4, 2) := by decide +kernel
theorem dX8_row_69 : decode cX8_row 69 = .ok (.iadd, 1) := by decide +kernel
theorem dX8_row_70 : decode cX8_row 70 = .ok (.iconst 0, 1) := by decide +kernel
theorem dX8_row_71 : decode cX8_row 71 = .ok (.iastore, 1) := by decide +kernel
theorem dX8_row_72 : decode cX8_row 72 = .ok (.iinc 4 1, 3) := by decide +kernel
theorem dX8_row_75 : decode cX8_row 75 = .ok (.goto (-23), 3) := by decide +kernel
theorem dX8_row_78 : decode cX8_row 78 = .ok (.aload_n 0, 1) := by decide +kernel
theorem dX8_row_79 : decode cX8_row 79 = .ok (.iload_n 3, 1) := by decide +kernel
theorem dX8_row_80 : decode cX8_row 80 = .ok (.invokevirtual 63, 3) := by decide +kernel
theorem dX8_row_83 : decode cX8_row 83 = .ok (.ireturn, 1) := by decide +kernel
theorem dX8_set_0 : decode cX8_set 0 = .ok (.iload_n 1, 1) := by decide +kernel
theorem dX8_set_1 : decode cX8_set 1 = .ok (.invokestatic 54, 3) := by decide +kernel
theorem dX8_set_4 : decode cX8_set 4 = .ok (.ifCond .ne 6, 3) := by decide +kernel
theorem dX8_set_7 : decode cX8_set 7 = .ok (.ldc 58, 2) := by decide +kernel
theorem dX8_set_9 : decode cX8_set 9 = .ok (.ireturn, 1) := by decide +kernel
theorem dX8_set_10 : decode cX8_set 10 = .ok (.aload_n 0, 1) := by decide +kernel
theorem dX8_set_11 : decode cX8_set 11 = .ok (.getfield 23, 3) := by decide +kernel
theorem dX8_set_14 : decode cX8_set 14 = .ok (.iload_n 1, 1) := by decide +kernel
theorem dX8_set_15 : decode cX8_set 15 = .ok (.iaload, 1) := by decide +kernel
theorem dX8_set_16 : decode cX8_set 16 = .ok (.ldc 44, 2) := by decide +kernel
theorem dX8_set_18 : decode cX8_set 18 = .ok (.if_icmp .ne 9, 3) := by decide +kernel
theorem dX8_set_21 : decode cX8_set 21 = .ok (.aload_n 0, 1) := by decide +kernel
theorem dX8_set_22 : decode cX8_set 22 = .ok (.iconst 1, 1) := by decide +kernel
theorem dX8_set_23 : decode cX8_set 23 = .ok (.invokevirtual 59, 3) := by decide +kernel
theorem dX8_set_26 : decode cX8_set 26 = .ok (.ireturn, 1) := by decide +kernel
theorem dX8_set_27 : decode cX8_set 27 = .ok (.iload_n 2, 1) := by decide +kernel
theorem dX8_set_28 : decode cX8_set 28 = .ok (.iconst 0, 1) := by decide +kernel
theorem dX8_set_29 : decode cX8_set 29 = .ok (.aload_n 0, 1) := by decide +kernel
theorem dX8_set_30 : decode cX8_set 30 = .ok (.getfield 26, 3) := by decide +kernel
theorem dX8_set_33 : decode cX8_set 33 = .ok (.iload_n 1, 1) := by decide +kernel
theorem dX8_set_34 : decode cX8_set 34 = .ok (.iaload, 1) := by decide +kernel
theorem dX8_set_35 : decode cX8_set 35 = .ok (.iconst 1, 1) := by decide +kernel
theorem dX8_set_36 : decode cX8_set 36 = .ok (.isub, 1) := by decide +kernel
theorem dX8_set_37 : decode cX8_set 37 = .ok (.invokestatic 50, 3) := by decide +kernel
theorem dX8_set_40 : decode cX8_set 40 = .ok (.ifCond .ne 9, 3) := by decide +kernel
theorem dX8_set_43 : decode cX8_set 43 = .ok (.aload_n 0, 1) := by decide +kernel
theorem dX8_set_44 : decode cX8_set 44 = .ok (.iconst 2, 1) := by decide +kernel
theorem dX8_set_45 : decode cX8_set 45 = .ok (.invokevirtual 59, 3) := by decide +kernel
theorem dX8_set_48 : decode cX8_set 48 = .ok (.ireturn, 1) := by decide +kernel
theorem dX8_set_49 : decode cX8_set 49 = .ok (.aload_n 0, 1) := by decide +kernel
theorem dX8_set_50 : decode cX8_set 50 = .ok (.getfield 23, 3) := by decide +kernel
theorem dX8_set_53 : decode cX8_set 53 = .ok (.iload_n 1, 1) := by decide +kernel
theorem dX8_set_54 : decode cX8_set 54 = .ok (.iaload, 1) := by decide +kernel
theorem dX8_set_55 : decode cX8_set 55 = .ok (.ifCond .ne 8, 3) := by decide +kernel
theorem dX8_set_58 : decode cX8_set 58 = .ok (.iload_n 3, 1) := by decide +kernel
theorem dX8_set_59 : decode cX8_set 59 = .ok (.i2b, 1) := by decide +kernel
theorem dX8_set_60 : decode cX8_set 60 = .ok (.goto 19, 3) := by decide +kernel
theorem dX8_set_63 : decode cX8_set 63 = .ok (.aload_n 0, 1) := by decide +kernel
theorem dX8_set_64 : decode cX8_set 64 = .ok (.getfield 23, 3) := by decide +kernel
theorem dX8_set_67 : decode cX8_set 67 = .ok (.iload_n 1, 1) := by decide +kernel
theorem dX8_set_68 : decode cX8_set 68 = .ok (.iaload, 1) := by decide +kernel
theorem dX8_set_69 : decode cX8_set 69 = .ok (.iconst 1, 1) := by decide +kernel
theorem dX8_set_70 : decode cX8_set 70 = .ok (.if_icmp .ne 8, 3) := by decide +kernel
theorem dX8_set_73 : decode cX8_set 73 = .ok (.iload_n 3, 1) := by decide +kernel
theorem dX8_set_74 : decode cX8_set 74 = .ok (.i2s, 1) := by decide +kernel
theorem dX8_set_75 : decode cX8_set 75 = .ok (.goto 4, 3) := by decide +kernel
theorem dX8_set_78 : decode cX8_set 78 = .ok (.iload_n 3, 1) := by decide +kernel
theorem dX8_set_79 : decode cX8_set 79 = .ok (.istore 4, 2) := by decide +kernel
theorem dX8_set_81 : decode cX8_set 81 = .ok (.aload_n 0, 1) := by decide +kernel
theorem dX8_set_82 : decode cX8_set 82 = .ok (.getfield 29, 3) := by decide +kernel
theorem dX8_set_85 : decode cX8_set 85 = .ok (.bipush 40, 2) := by decide +kernel
theorem dX8_set_87 : decode cX8_set 87 = .ok (.iload_n 1, 1) := by decide +kernel
theorem dX8_set_88 : decode cX8_set 88 = .ok (.imul, 1) := by decide +kernel
theorem dX8_set_89 : decode cX8_set 89 = .ok (.iload_n 2, 1) := by decide +kernel
theorem dX8_set_90 : decode cX8_set 90 = .ok (.iadd, 1) := by decide +kernel
theorem dX8_set_91 : decode cX8_set 91 = .ok (.iload 4, 2) := by decide +kernel
theorem dX8_set_93 : decode cX8_set 93 = .ok (.iastore, 1) := by decide +kernel
theorem dX8_set_94 : decode cX8_set 94 = .ok (.aload_n 0, 1) := by decide +kernel
theorem dX8_set_95 : decode cX8_set 95 = .ok (.iload 4, 2) := by decide +kernel
theorem dX8_set_97 : decode cX8_set 97 = .ok (.invokevirtual 63, 3) := by decide +kernel
theorem dX8_set_100 : decode cX8_set 100 = .ok (.ireturn, 1) := by decide +kernel
theorem dX8_isSpan_0 : decode cX8_isSpan 0 = .ok (.iload_n 2, 1) := by decide +kernel
theorem dX8_isSpan_1 : decode cX8_isSpan 1 = .ok (.ifCond .lt 27, 3) := by decide +kernel
theorem dX8_isSpan_4 : decode cX8_isSpan 4 = .ok (.iload_n 3, 1) := by decide +kernel
theorem dX8_isSpan_5 : decode cX8_isSpan 5 = .ok (.ifCond .lt 23, 3) := by decide +kernel
theorem dX8_isSpan_8 : decode cX8_isSpan 8 = .ok (.iload_n 2, 1) := by decide +kernel
theorem dX8_isSpan_9 : decode cX8_isSpan 9 = .ok (.i2l, 1) := by decide +kernel
theorem dX8_isSpan_10 : decode cX8_isSpan 10 = .ok (.iload_n 3, 1) := by decide +kernel
theorem dX8_isSpan_11 : decode cX8_isSpan 11 = .ok (.i2l, 1) := by decide +kernel
theorem dX8_isSpan_12 : decode cX8_isSpan 12 = .ok (.ladd, 1) := by decide +kernel
theorem dX8_isSpan_13 : decode cX8_isSpan 13 = .ok (.aload_n 0, 1) := by decide +kernel
theorem dX8_isSpan_14 : decode cX8_isSpan 14 = .ok (.getfield 26, 3) := by decide +kernel
theorem dX8_isSpan_17 : decode cX8_isSpan 17 = .ok (.iload_n 1, 1) := by decide +kernel
theorem dX8_isSpan_18 : decode cX8_isSpan 18 = .ok (.iaload, 1) := by decide +kernel
theorem dX8_isSpan_19 : decode cX8_isSpan 19 = .ok (.i2l, 1) := by decide +kernel
theorem dX8_isSpan_20 : decode cX8_isSpan 20 = .ok (.lcmp, 1) := by decide +kernel
theorem dX8_isSpan_21 : decode cX8_isSpan 21 = .ok (.ifCond .gt 7, 3) := by decide +kernel
theorem dX8_isSpan_24 : decode cX8_isSpan 24 = .ok (.iconst 1, 1) := by decide +kernel
theorem dX8_isSpan_25 : decode cX8_isSpan 25 = .ok (.goto 4, 3) := by decide +kernel
theorem dX8_isSpan_28 : decode cX8_isSpan 28 = .ok (.iconst 0, 1) := by decide +kernel
theorem dX8_isSpan_29 : decode cX8_isSpan 29 = .ok (.ireturn, 1) := by decide +kernel
theorem dX8_copy_0 : decode cX8_copy 0 = .ok (.iload_n 1, 1) := by decide +kernel
theorem dX8_copy_1 : decode cX8_copy 1 = .ok (.invokestatic 54, 3) := by decide +kernel
theorem dX8_copy_4 : decode cX8_copy 4 = .ok (.ifCond .eq 10, 3) := by decide +kernel
theorem dX8_copy_7 : decode cX8_copy 7 = .ok (.iload_n 3, 1) := by decide +kernel
theorem dX8_copy_8 : decode cX8_copy 8 = .ok (.invokestatic 54, 3) := by decide +kernel
theorem dX8_copy_11 : decode cX8_copy 11 = .ok (.ifCond .ne 6, 3) := by decide +kernel
theorem dX8_copy_14 : decode cX8_copy 14 = .ok (.ldc 58, 2) := by decide +kernel
theorem dX8_copy_16 : decode cX8_copy 16 = .ok (.ireturn, 1) := by decide +kernel
theorem dX8_copy_17 : decode cX8_copy 17 = .ok (.aload_n 0, 1) := by decide +kernel
theorem dX8_copy_18 : decode cX8_copy 18 = .ok (.getfield 23, 3) := by decide +kernel
theorem dX8_copy_21 : decode cX8_copy 21 = .ok (.iload_n 1, 1) := by decide +kernel
theorem dX8_copy_22 : decode cX8_copy 22 = .ok (.iaload, 1) := by decide +kernel
theorem dX8_copy_23 : decode cX8_copy 23 = .ok (.ldc 44, 2) := by decide +kernel
theorem dX8_copy_25 : decode cX8_copy 25 = .ok (.if_icmp .eq 14, 3) := by decide +kernel
theorem dX8_copy_28 : decode cX8_copy 28 = .ok (.aload_n 0, 1) := by decide +kernel
theorem dX8_copy_29 : decode cX8_copy 29 = .ok (.getfield 23, 3) := by decide +kernel
theorem dX8_copy_32 : decode cX8_copy 32 = .ok (.iload_n 3, 1) := by decide +kernel
theorem dX8_copy_33 : decode cX8_copy 33 = .ok (.iaload, 1) := by decide +kernel
theorem dX8_copy_34 : decode cX8_copy 34 = .ok (.ldc 44, 2) := by decide +kernel
theorem dX8_copy_36 : decode cX8_copy 36 = .ok (.if_icmp .ne 9, 3) := by decide +kernel
theorem dX8_copy_39 : decode cX8_copy 39 = .ok (.aload_n 0, 1) := by decide +kernel
theorem dX8_copy_40 : decode cX8_copy 40 = .ok (.iconst 1, 1) := by decide +kernel
theorem dX8_copy_41 : decode cX8_copy 41 = .ok (.invokevirtual 59, 3) := by decide +kernel
theorem dX8_copy_44 : decode cX8_copy 44 = .ok (.ireturn, 1) := by decide +kernel
theorem dX8_copy_45 : decode cX8_copy 45 = .ok (.aload_n 0, 1) := by decide +kernel
theorem dX8_copy_46 : decode cX8_copy 46 = .ok (.getfield 23, 3) := by decide +kernel
theorem dX8_copy_49 : decode cX8_copy 49 = .ok (.iload_n 1, 1) := by decide +kernel
theorem dX8_copy_50 : decode cX8_copy 50 = .ok (.iaload, 1) := by decide +kernel
theorem dX8_copy_51 : decode cX8_copy 51 = .ok (.aload_n 0, 1) := by decide +kernel
theorem dX8_copy_52 : decode cX8_copy 52 = .ok (.getfield 23, 3) := by decide +kernel
theorem dX8_copy_55 : decode cX8_copy 55 = .ok (.iload_n 3, 1) := by decide +kernel
theorem dX8_copy_56 : decode cX8_copy 56 = .ok (.iaload, 1) := by decide +kernel
theorem dX8_copy_57 : decode cX8_copy 57 = .ok (.if_icmp .eq 9, 3) := by decide +kernel
theorem dX8_copy_60 : decode cX8_copy 60 = .ok (.aload_n 0, 1) := by decide +kernel
theorem dX8_copy_61 : decode cX8_copy 61 = .ok (.iconst 5, 1) := by decide +kernel
theorem dX8_copy_62 : decode cX8_copy 62 = .ok (.invokevirtual 59, 3) := by decide +kernel
theorem dX8_copy_65 : decode cX8_copy 65 = .ok (.ireturn, 1) := by decide +kernel
theorem dX8_copy_66 : decode cX8_copy 66 = .ok (.aload_n 0, 1) := by decide +kernel
theorem dX8_copy_67 : decode cX8_copy 67 = .ok (.iload_n 1, 1) := by decide +kernel
theorem dX8_copy_68 : decode cX8_copy 68 = .ok (.iload_n 2, 1) := by decide +kernel
theorem dX8_copy_69 : decode cX8_copy 69 = .ok (.iload 5, 2) := by decide +kernel
theorem dX8_copy_71 : decode cX8_copy 71 = .ok (.invokevirtual 66, 3) := by decide +kernel
theorem dX8_copy_74 : decode cX8_copy 74 = .ok (.ifCond .eq 15, 3) := by decide +kernel
theorem dX8_copy_77 : decode cX8_copy 77 = .ok (.aload_n 0, 1) := by decide +kernel
theorem dX8_copy_78 : decode cX8_copy 78 = .ok (.iload_n 3, 1) := by decide +kernel
theorem dX8_copy_79 : decode cX8_copy 79 = .ok (.iload 4, 2) := by decide +kernel
theorem dX8_copy_81 : decode cX8_copy 81 = .ok (.iload 5, 2) := by decide +kernel
theorem dX8_copy_83 : decode cX8_copy 83 = .ok (.invokevirtual 66, 3) := by decide +kernel
theorem dX8_copy_86 : decode cX8_copy 86 = .ok (.ifCond .ne 9, 3) := by decide +kernel
theorem dX8_copy_89 : decode cX8_copy 89 = .ok (.aload_n 0, 1) := by decide +kernel
theorem dX8_copy_90 : decode cX8_copy 90 = .ok (.iconst 2, 1) := by decide +kernel
theorem dX8_copy_91 : decode cX8_copy 91 = .ok (.invokevirtual 59, 3) := by decide +kernel
theorem dX8_copy_94 : decode cX8_copy 94 = .ok (.ireturn, 1) := by decide +kernel
theorem dX8_copy_95 : decode cX8_copy 95 = .ok (.iconst 0, 1) := by decide +kernel
theorem dX8_copy_96 : decode cX8_copy 96 = .ok (.istore 6, 2) := by decide +kernel
theorem dX8_copy_98 : decode cX8_copy 98 = .ok (.iload 6, 2) := by decide +kernel
theorem dX8_copy_100 : decode cX8_copy 100 = .ok (.iload 5, 2) := by decide +kernel
theorem dX8_copy_102 : decode cX8_copy 102 = .ok (.if_icmp .ge 58, 3) := by decide +kernel
theorem dX8_copy_105 : decode cX8_copy 105 = .ok (.iload_n 2, 1) := by decide +kernel
theorem dX8_copy_106 : decode cX8_copy 106 = .ok (.iload 4, 2) := by decide +kernel
theorem dX8_copy_108 : decode cX8_copy 108 = .ok (.if_icmp .le 8, 3) := by decide +kernel
theorem dX8_copy_111 : decode cX8_copy 111 = .ok (.iload 6, 2) := by decide +kernel
theorem dX8_copy_113 : decode cX8_copy 113 = .ok (.goto 10, 3) := by decide +kernel
theorem dX8_copy_116 : decode cX8_copy 116 = .ok (.iload 5, 2) := by decide +kernel
theorem dX8_copy_118 : decode cX8_copy 118 = .ok (.iconst 1, 1) := by decide +kernel
theorem dX8_copy_119 : decode cX8_copy 119 = .ok (.isub, 1) := by decide +kernel
theorem dX8_copy_120 : decode cX8_copy 120 = .ok (.iload 6, 2) := by decide +kernel
theorem dX8_copy_122 : decode cX8_copy 122 = .ok (.isub, 1) := by decide +kernel
theorem dX8_copy_123 : decode cX8_copy 123 = .ok (.istore 7, 2) := by decide +kernel
theorem dX8_copy_125 : decode cX8_copy 125 = .ok (.aload_n 0, 1) := by decide +kernel
theorem dX8_copy_126 : decode cX8_copy 126 = .ok (.getfield 29, 3) := by decide +kernel
theorem dX8_copy_129 : decode cX8_copy 129 = .ok (.bipush 40, 2) := by decide +kernel
theorem dX8_copy_131 : decode cX8_copy 131 = .ok (.iload_n 3, 1) := by decide +kernel
theorem dX8_copy_132 : decode cX8_copy 132 = .ok (.imul, 1) := by decide +kernel
theorem dX8_copy_133 : decode cX8_copy 133 = .ok (.iload 4, 2) := by decide +kernel
theorem dX8_copy_135 : decode cX8_copy 135 = .ok (.iadd, 1) := by decide +kernel
theorem dX8_copy_136 : decode cX8_copy 136 = .ok (.iload 7, 2) := by decide +kernel
theorem dX8_copy_138 : decode cX8_copy 138 = .ok (.iadd, 1) := by decide +kernel
theorem dX8_copy_139 : decode cX8_copy 139 = .ok (.aload_n 0, 1) := by decide +kernel
theorem dX8_copy_140 : decode cX8_copy 140 = .ok (.getfield 29, 3) := by decide +kernel
theorem dX8_copy_143 : decode cX8_copy 143 = .ok (.bipush 40, 2) := by decide +kernel
theorem dX8_copy_145 : decode cX8_copy 145 = .ok (.iload_n 1, 1) := by decide +kernel
theorem dX8_copy_146 : decode cX8_copy 146 = .ok (.imul, 1) := by decide +kernel
theorem dX8_copy_147 : decode cX8_copy 147 = .ok (.iload_n 2, 1) := by decide +kernel
theorem dX8_copy_148 : decode cX8_copy 148 = .ok (.iadd, 1) := by decide +kernel
theorem dX8_copy_149 : decode cX8_copy 149 = .ok (.iload 7, 2) := by decide +kernel
theorem dX8_copy_151 : decode cX8_copy 151 = .ok (.iadd, 1) := by decide +kernel
theorem dX8_copy_152 : decode cX8_copy 152 = .ok (.iaload, 1) := by decide +kernel
theorem dX8_copy_153 : decode cX8_copy 153 = .ok (.iastore, 1) := by decide +kernel
theorem dX8_copy_154 : decode cX8_copy 154 = .ok (.iinc 6 1, 3) := by decide +kernel
theorem dX8_copy_157 : decode cX8_copy 157 = .ok (.goto (-59), 3) := by decide +kernel
theorem dX8_copy_160 : decode cX8_copy 160 = .ok (.aload_n 0, 1) := by decide +kernel
theorem dX8_copy_161 : decode cX8_copy 161 = .ok (.iload 5, 2) := by decide +kernel
theorem dX8_copy_163 : decode cX8_copy 163 = .ok (.invokevirtual 63, 3) := by decide +kernel
theorem dX8_copy_166 : decode cX8_copy 166 = .ok (.ireturn, 1) := by decide +kernel
theorem dX8_drop_0 : decode cX8_drop 0 = .ok (.iload_n 1, 1) := by decide +kernel
theorem dX8_drop_1 : decode cX8_drop 1 = .ok (.invokestatic 54, 3) := by decide +kernel
theorem dX8_drop_4 : decode cX8_drop 4 = .ok (.ifCond .ne 6, 3) := by decide +kernel
theorem dX8_drop_7 : decode cX8_drop 7 = .ok (.ldc 58, 2) := by decide +kernel
theorem dX8_drop_9 : decode cX8_drop 9 = .ok (.ireturn, 1) := by decide +kernel
theorem dX8_drop_10 : decode cX8_drop 10 = .ok (.aload_n 0, 1) := by decide +kernel
theorem dX8_drop_11 : decode cX8_drop 11 = .ok (.getfield 23, 3) := by decide +kernel
theorem dX8_drop_14 : decode cX8_drop 14 = .ok (.iload_n 1, 1) := by decide +kernel
theorem dX8_drop_15 : decode cX8_drop 15 = .ok (.iaload, 1) := by decide +kernel
theorem dX8_drop_16 : decode cX8_drop 16 = .ok (.ldc 44, 2) := by decide +kernel
theorem dX8_drop_18 : decode cX8_drop 18 = .ok (.if_icmp .ne 9, 3) := by decide +kernel
theorem dX8_drop_21 : decode cX8_drop 21 = .ok (.aload_n 0, 1) := by decide +kernel
theorem dX8_drop_22 : decode cX8_drop 22 = .ok (.iconst 1, 1) := by decide +kernel
theorem dX8_drop_23 : decode cX8_drop 23 = .ok (.invokevirtual 59, 3) := by decide +kernel
theorem dX8_drop_26 : decode cX8_drop 26 = .ok (.ireturn, 1) := by decide +kernel
theorem dX8_drop_27 : decode cX8_drop 27 = .ok (.aload_n 0, 1) := by decide +kernel
theorem dX8_drop_28 : decode cX8_drop 28 = .ok (.getfield 23, 3) := by decide +kernel
theorem dX8_drop_31 : decode cX8_drop 31 = .ok (.iload_n 1, 1) := by decide +kernel
theorem dX8_drop_32 : decode cX8_drop 32 = .ok (.ldc 44, 2) := by decide +kernel
theorem dX8_drop_34 : decode cX8_drop 34 = .ok (.iastore, 1) := by decide +kernel
theorem dX8_drop_35 : decode cX8_drop 35 = .ok (.aload_n 0, 1) := by decide +kernel
theorem dX8_drop_36 : decode cX8_drop 36 = .ok (.aload_n 0, 1) := by decide +kernel
theorem dX8_drop_37 : decode cX8_drop 37 = .ok (.getfield 26, 3) := by decide +kernel
theorem dX8_drop_40 : decode cX8_drop 40 = .ok (.iload_n 1, 1) := by decide +kernel
theorem dX8_drop_41 : decode cX8_drop 41 = .ok (.iaload, 1) := by decide +kernel
theorem dX8_drop_42 : decode cX8_drop 42 = .ok (.invokevirtual 63, 3) := by decide +kernel
theorem dX8_drop_45 : decode cX8_drop 45 = .ok (.ireturn, 1) := by decide +kernel
theorem dX8_feed_0 : decode cX8_feed 0 = .ok (.iload_n 3, 1) := by decide +kernel
theorem dX8_feed_1 : decode cX8_feed 1 = .ok (.iconst 1, 1) := by decide +kernel
theorem dX8_feed_2 : decode cX8_feed 2 = .ok (.bipush 8, 2) := by decide +kernel
theorem dX8_feed_4 : decode cX8_feed 4 = .ok (.invokestatic 50, 3) := by decide +kernel
theorem dX8_feed_7 : decode cX8_feed 7 = .ok (.ifCond .ne 6, 3) := by decide +kernel
theorem dX8_feed_10 : decode cX8_feed 10 = .ok (.ldc 58, 2) := by decide +kernel
theorem dX8_feed_12 : decode cX8_feed 12 = .ok (.ireturn, 1) := by decide +kernel
theorem dX8_feed_13 : decode cX8_feed 13 = .ok (.aload_n 0, 1) := by decide +kernel
theorem dX8_feed_14 : decode cX8_feed 14 = .ok (.getfield 69, 3) := by decide +kernel
theorem dX8_feed_17 : decode cX8_feed 17 = .ok (.iload_n 3, 1) := by decide +kernel
theorem dX8_feed_18 : decode cX8_feed 18 = .ok (.iadd, 1) := by decide +kernel
theorem dX8_feed_19 : decode cX8_feed 19 = .ok (.sipush 400, 3) := by decide +kernel
theorem dX8_feed_22 : decode cX8_feed 22 = .ok (.if_icmp .le 6, 3) := by decide +kernel
theorem dX8_feed_25 : decode cX8_feed 25 = .ok (.ldc 72, 2) := by decide +kernel
theorem dX8_feed_27 : decode cX8_feed 27 = .ok (.ireturn, 1) := by decide +kernel
theorem dX8_feed_28 : decode cX8_feed 28 = .ok (.iload_n 3, 1) := by decide +kernel
theorem dX8_feed_29 : decode cX8_feed 29 = .ok (.iconst 1, 1) := by decide +kernel
theorem dX8_feed_30 : decode cX8_feed 30 = .ok (.isub, 1) := by decide +kernel
theorem dX8_feed_31 : decode cX8_feed 31 = .ok (.istore 4, 2) := by decide +kernel
theorem dX8_feed_33 : decode cX8_feed 33 = .ok (.iload 4, 2) := by decide +kernel
theorem dX8_feed_35 : decode cX8_feed 35 = .ok (.ifCond .lt 40, 3) := by decide +kernel
theorem dX8_feed_38 : decode cX8_feed 38 = .ok (.aload_n 0, 1) := by decide +kernel
theorem dX8_feed_39 : decode cX8_feed 39 = .ok (.getfield 32, 3) := by decide +kernel
theorem dX8_feed_42 : decode cX8_feed 42 = .ok (.aload_n 0, 1) := by decide +kernel
theorem dX8_feed_43 : decode cX8_feed 43 = .ok (.getfield 69, 3) := by decide +kernel
theorem dX8_feed_46 : decode cX8_feed 46 = .ok (.lload_n 1, 1) := by decide +kernel
theorem dX8_feed_47 : decode cX8_feed 47 = .ok (.bipush 8, 2) := by decide +kernel
theorem dX8_feed_49 : decode cX8_feed 49 = .ok (.iload 4, 2) := by decide +kernel
theorem dX8_feed_51 : decode cX8_feed 51 = .ok (.imul, 1) := by decide +kernel
theorem dX8_feed_52 : decode cX8_feed 52 = .ok (.lshr, 1) := by decide +kernel
theorem dX8_feed_53 : decode cX8_feed 53 = .ok (.ldc2_w 73, 3) := by decide +kernel
theorem dX8_feed_56 : decode cX8_feed 56 = .ok (.land, 1) := by decide +kernel
theorem dX8_feed_57 : decode cX8_feed 57 = .ok (.l2i, 1) := by decide +kernel
theorem dX8_feed_58 : decode cX8_feed 58 = .ok (.iastore, 1) := by decide +kernel
theorem dX8_feed_59 : decode cX8_feed 59 = .ok (.aload_n 0, 1) := by decide +kernel
theorem dX8_feed_60 : decode cX8_feed 60 = .ok (.dup, 1) := by decide +kernel
theorem dX8_feed_61 : decode cX8_feed 61 = .ok (.getfield 69, 3) := by decide +kernel
theorem dX8_feed_64 : decode cX8_feed 64 = .ok (.iconst 1, 1) := by decide +kernel
theorem dX8_feed_65 : decode cX8_feed 65 = .ok (.iadd, 1) := by decide +kernel
theorem dX8_feed_66 : decode cX8_feed 66 = .ok (.putfield 69, 3) := by decide +kernel
theorem dX8_feed_69 : decode cX8_feed 69 = .ok (.iinc 4 (-1), 3) := by decide +kernel
theorem dX8_feed_72 : decode cX8_feed 72 = .ok (.goto (-39), 3) := by decide +kernel
theorem dX8_feed_75 : decode cX8_feed 75 = .ok (.aload_n 0, 1) := by decide +kernel
theorem dX8_feed_76 : decode cX8_feed 76 = .ok (.getfield 69, 3) := by decide +kernel
theorem dX8_feed_79 : decode cX8_feed 79 = .ok (.ireturn, 1) := by decide +kernel
theorem dX8_byteAt_0 : decode cX8_byteAt 0 = .ok (.iload_n 1, 1) := by decide +kernel
theorem dX8_byteAt_1 : decode cX8_byteAt 1 = .ok (.aload_n 0, 1) := by decide +kernel
theorem dX8_byteAt_2 : decode cX8_byteAt 2 = .ok (.getfield 69, 3) := by decide +kernel
theorem dX8_byteAt_5 : decode cX8_byteAt 5 = .ok (.if_icmp .ge 12, 3) := by decide +kernel
theorem dX8_byteAt_8 : decode cX8_byteAt 8 = .ok (.aload_n 0, 1) := by decide +kernel
theorem dX8_byteAt_9 : decode cX8_byteAt 9 = .ok (.getfield 32, 3) := by decide +kernel
theorem dX8_byteAt_12 : decode cX8_byteAt 12 = .ok (.iload_n 1, 1) := by decide +kernel
theorem dX8_byteAt_13 : decode cX8_byteAt 13 = .ok (.iaload, 1) := by decide +kernel
theorem dX8_byteAt_14 : decode cX8_byteAt 14 = .ok (.goto 4, 3) := by decide +kernel
theorem dX8_byteAt_17 : decode cX8_byteAt 17 = .ok (.iconst (-1), 1) := by decide +kernel
theorem dX8_byteAt_18 : decode cX8_byteAt 18 = .ok (.ireturn, 1) := by decide +kernel
theorem dX8_next_0 : decode cX8_next 0 = .ok (.aload_n 0, 1) := by decide +kernel
theorem dX8_next_1 : decode cX8_next 1 = .ok (.aload_n 0, 1) := by decide +kernel
theorem dX8_next_2 : decode cX8_next 2 = .ok (.getfield 75, 3) := by decide +kernel
theorem dX8_next_5 : decode cX8_next 5 = .ok (.invokevirtual 78, 3) := by decide +kernel
theorem dX8_next_8 : decode cX8_next 8 = .ok (.bipush 32, 2) := by decide +kernel
theorem dX8_next_10 : decode cX8_next 10 = .ok (.if_icmp .eq 16, 3) := by decide +kernel
theorem dX8_next_13 : decode cX8_next 13 = .ok (.aload_n 0, 1) := by decide +kernel
theorem dX8_next_14 : decode cX8_next 14 = .ok (.aload_n 0, 1) := by decide +kernel
theorem dX8_next_15 : decode cX8_next 15 = .ok (.getfield 75, 3) := by decide +kernel
theorem dX8_next_18 : decode cX8_next 18 = .ok (.invokevirtual 78, 3) := by decide +kernel
theorem dX8_next_21 : decode cX8_next 21 = .ok (.bipush 10, 2) := by decide +kernel
theorem dX8_next_23 : decode cX8_next 23 = .ok (.if_icmp .ne 16, 3) := by decide +kernel
theorem dX8_next_26 : decode cX8_next 26 = .ok (.aload_n 0, 1) := by decide +kernel
theorem dX8_next_27 : decode cX8_next 27 = .ok (.dup, 1) := by decide +kernel
theorem dX8_next_28 : decode cX8_next 28 = .ok (.getfield 75, 3) := by decide +kernel
theorem dX8_next_31 : decode cX8_next 31 = .ok (.iconst 1, 1) := by decide +kernel
theorem dX8_next_32 : decode cX8_next 32 = .ok (.iadd, 1) := by decide +kernel
theorem dX8_next_33 : decode cX8_next 33 = .ok (.putfield 75, 3) := by decide +kernel
theorem dX8_next_36 : decode cX8_next 36 = .ok (.goto (-36), 3) := by decide +kernel
theorem dX8_next_39 : decode cX8_next 39 = .ok (.aload_n 0, 1) := by decide +kernel
theorem dX8_next_40 : decode cX8_next 40 = .ok (.aload_n 0, 1) := by decide +kernel
theorem dX8_next_41 : decode cX8_next 41 = .ok (.getfield 75, 3) := by decide +kernel
theorem dX8_next_44 : decode cX8_next 44 = .ok (.putfield 81, 3) := by decide +kernel
theorem dX8_next_47 : decode cX8_next 47 = .ok (.aload_n 0, 1) := by decide +kernel
theorem dX8_next_48 : decode cX8_next 48 = .ok (.aload_n 0, 1) := by decide +kernel
theorem dX8_next_49 : decode cX8_next 49 = .ok (.getfield 75, 3) := by decide +kernel
theorem dX8_next_52 : decode cX8_next 52 = .ok (.invokevirtual 78, 3) := by decide +kernel
theorem dX8_next_55 : decode cX8_next 55 = .ok (.istore_n 1, 1) := by decide +kernel
theorem dX8_next_56 : decode cX8_next 56 = .ok (.iload_n 1, 1) := by decide +kernel
theorem dX8_next_57 : decode cX8_next 57 = .ok (.ifCond .ge 11, 3) := by decide +kernel
theorem dX8_next_60 : decode cX8_next 60 = .ok (.aload_n 0, 1) := by decide +kernel
theorem dX8_next_61 : decode cX8_next 61 = .ok (.iconst 0, 1) := by decide +kernel
theorem dX8_next_62 : decode cX8_next 62 = .ok (.putfield 84, 3) := by decide +kernel
theorem dX8_next_65 : decode cX8_next 65 = .ok (.goto 234, 3) := by decide +kernel
theorem dX8_next_68 : decode cX8_next 68 = .ok (.iload_n 1, 1) := by decide +kernel
theorem dX8_next_69 : decode cX8_next 69 = .ok (.bipush 97, 2) := by decide +kernel
theorem dX8_next_71 : decode cX8_next 71 = .ok (.bipush 122, 2) := by decide +kernel
theorem dX8_next_73 : decode cX8_next 73 = .ok (.invokestatic 50, 3) := by decide +kernel
theorem dX8_next_76 : decode cX8_next 76 = .ok (.ifCond .eq 83, 3) := by decide +kernel
theorem dX8_next_79 : decode cX8_next 79 = .ok (.aload_n 0, 1) := by decide +kernel
theorem dX8_next_80 : decode cX8_next 80 = .ok (.iconst 1, 1) := by decide +kernel
theorem dX8_next_81 : decode cX8_next 81 = .ok (.putfield 84, 3) := by decide +kernel
theorem dX8_next_84 : decode cX8_next 84 = .ok (.aload_n 0, 1) := by decide +kernel
theorem dX8_next_85 : decode cX8_next 85 = .ok (.lconst 0, 1) := by decide +kernel
theorem dX8_next_86 : decode cX8_next 86 = .ok (.putfield 87, 3) := by decide +kernel
theorem dX8_next_89 : decode cX8_next 89 = .ok (.aload_n 0, 1) := by decide +kernel
theorem dX8_next_90 : decode cX8_next 90 = .ok (.aload_n 0, 1) := by decide +kernel
theorem dX8_next_91 : decode cX8_next 91 = .ok (.getfield 75, 3) := by decide +kernel
theorem dX8_next_94 : decode cX8_next 94 = .ok (.invokevirtual 78, 3) := by decide +kernel
theorem dX8_next_97 : decode cX8_next 97 = .ok (.bipush 97, 2) := by decide +kernel
theorem dX8_next_99 : decode cX8_next 99 = .ok (.bipush 122, 2) := by decide +kernel
theorem dX8_next_101 : decode cX8_next 101 = .ok (.invokestatic 50, 3) := by decide +kernel
theorem dX8_next_104 : decode cX8_next 104 = .ok (.ifCond .eq 195, 3) := by decide +kernel
theorem dX8_next_107 : decode cX8_next 107 = .ok (.aload_n 0, 1) := by decide +kernel
theorem dX8_next_108 : decode cX8_next 108 = .ok (.aload_n 0, 1) := by decide +kernel
theorem dX8_next_109 : decode cX8_next 109 = .ok (.getfield 75, 3) := by decide +kernel
theorem dX8_next_112 : decode cX8_next 112 = .ok (.aload_n 0, 1) := by decide +kernel
theorem dX8_next_113 : decode cX8_next 113 = .ok (.getfield 81, 3) := by decide +kernel
theorem dX8_next_116 : decode cX8_next 116 = .ok (.isub, 1) := by decide +kernel
theorem dX8_next_117 : decode cX8_next 117 = .ok (.bipush 8, 2) := by decide +kernel
theorem dX8_next_119 : decode cX8_next 119 = .ok (.if_icmp .ge 23, 3) := by decide +kernel
theorem dX8_next_122 : decode cX8_next 122 = .ok (.aload_n 0, 1) := by decide +kernel
theorem dX8_next_123 : decode cX8_next 123 = .ok (.getfield 87, 3) := by decide +kernel
theorem dX8_next_126 : decode cX8_next 126 = .ok (.bipush 8, 2) := by decide +kernel
theorem dX8_next_128 : decode cX8_next 128 = .ok (.lshl, 1) := by decide +kernel
theorem dX8_next_129 : decode cX8_next 129 = .ok (.aload_n 0, 1) := by decide +kernel
theorem dX8_next_130 : decode cX8_next 130 = .ok (.aload_n 0, 1) := by decide +kernel
theorem dX8_next_131 : decode cX8_next 131 = .ok (.getfield 75, 3) := by decide +kernel
theorem dX8_next_134 : decode cX8_next 134 = .ok (.invokevirtual 78, 3) := by decide +kernel
theorem dX8_next_137 : decode cX8_next 137 = .ok (.i2l, 1) := by decide +kernel
theorem dX8_next_138 : decode cX8_next 138 = .ok (.lor, 1) := by decide +kernel
theorem dX8_next_139 : decode cX8_next 139 = .ok (.goto 4, 3) := by decide +kernel
theorem dX8_next_142 : decode cX8_next 142 = .ok (.lconst 0, 1) := by decide +kernel
theorem dX8_next_143 : decode cX8_next 143 = .ok (.putfield 87, 3) := by decide +kernel
theorem dX8_next_146 : decode cX8_next 146 = .ok (.aload_n 0, 1) := by decide +kernel
theorem dX8_next_147 : decode cX8_next 147 = .ok (.dup, 1) := by decide +kernel
theorem dX8_next_148 : decode cX8_next 148 = .ok (.getfield 75, 3) := by decide +kernel
theorem dX8_next_151 : decode cX8_next 151 = .ok (.iconst 1, 1) := by decide +kernel
theorem dX8_next_152 : decode cX8_next 152 = .ok (.iadd, 1) := by decide +kernel
theorem dX8_next_153 : decode cX8_next 153 = .ok (.putfield 75, 3) := by decide +kernel
theorem dX8_next_156 : decode cX8_next 156 = .ok (.goto (-67), 3) := by decide +kernel
theorem dX8_next_159 : decode cX8_next 159 = .ok (.iload_n 1, 1) := by decide +kernel
theorem dX8_next_160 : decode cX8_next 160 = .ok (.bipush 48, 2) := by decide +kernel
theorem dX8_next_162 : decode cX8_next 162 = .ok (.bipush 57, 2) := by decide +kernel
theorem dX8_next_164 : decode cX8_next 164 = .ok (.invokestatic 50, 3) := by decide +kernel
theorem dX8_next_167 : decode cX8_next 167 = .ok (.ifCond .eq 107, 3) := by decide +kernel
theorem dX8_next_170 : decode cX8_next 170 = .ok (.aload_n 0, 1) := by decide +kernel
theorem dX8_next_171 : decode cX8_next 171 = .ok (.iconst 0, 1) := by decide +kernel
theorem dX8_next_172 : decode cX8_next 172 = .ok (.putfield 91, 3) := by decide +kernel
theorem dX8_next_175 : decode cX8_next 175 = .ok (.aload_n 0, 1) := by decide +kernel
theorem dX8_next_176 : decode cX8_next 176 = .ok (.aload_n 0, 1) := by decide +kernel
theorem dX8_next_177 : decode cX8_next 177 = .ok (.getfield 75, 3) := by decide +kernel
theorem dX8_next_180 : decode cX8_next 180 = .ok (.invokevirtual 78, 3) := by decide +kernel
theorem dX8_next_183 : decode cX8_next 183 = .ok (.bipush 48, 2) := by decide +kernel
theorem dX8_next_185 : decode cX8_next 185 = .ok (.bipush 57, 2) := by decide +kernel
theorem dX8_next_187 : decode cX8_next 187 = .ok (.invokestatic 50, 3) := by decide +kernel
theorem dX8_next_190 : decode cX8_next 190 = .ok (.ifCond .eq 59, 3) := by decide +kernel
theorem dX8_next_193 : decode cX8_next 193 = .ok (.aload_n 0, 1) := by decide +kernel
theorem dX8_next_194 : decode cX8_next 194 = .ok (.aload_n 0, 1) := by decide +kernel
theorem dX8_next_195 : decode cX8_next 195 = .ok (.getfield 75, 3) := by decide +kernel
theorem dX8_next_198 : decode cX8_next 198 = .ok (.aload_n 0, 1) := by decide +kernel
theorem dX8_next_199 : decode cX8_next 199 = .ok (.getfield 81, 3) := by decide +kernel
theorem dX8_next_202 : decode cX8_next 202 = .ok (.isub, 1) := by decide +kernel
theorem dX8_next_203 : decode cX8_next 203 = .ok (.iconst 3, 1) := by decide +kernel
theorem dX8_next_204 : decode cX8_next 204 = .ok (.if_icmp .ge 25, 3) := by decide +kernel
theorem dX8_next_207 : decode cX8_next 207 = .ok (.bipush 10, 2) := by decide +kernel
theorem dX8_next_209 : decode cX8_next 209 = .ok (.aload_n 0, 1) := by decide +kernel
theorem dX8_next_210 : decode cX8_next 210 = .ok (.getfield 91, 3) := by decide +kernel
theorem dX8_next_213 : decode cX8_next 213 = .ok (.imul, 1) := by decide +kernel
theorem dX8_next_214 : decode cX8_next 214 = .ok (.aload_n 0, 1) := by decide +kernel
theorem dX8_next_215 : decode cX8_next 215 = .ok (.aload_n 0, 1) := by decide +kernel
theorem dX8_next_216 : decode cX8_next 216 = .ok (.getfield 75, 3) := by decide +kernel
theorem dX8_next_219 : decode cX8_next 219 = .ok (.invokevirtual 78, 3) := by decide +kernel
theorem dX8_next_222 : decode cX8_next 222 = .ok (.iadd, 1) := by decide +kernel
theorem dX8_next_223 : decode cX8_next 223 = .ok (.bipush 48, 2) := by decide +kernel
theorem dX8_next_225 : decode cX8_next 225 = .ok (.isub, 1) := by decide +kernel
theorem dX8_next_226 : decode cX8_next 226 = .ok (.goto 7, 3) := by decide +kernel
theorem dX8_next_229 : decode cX8_next 229 = .ok (.aload_n 0, 1) := by decide +kernel
theorem dX8_next_230 : decode cX8_next 230 = .ok (.getfield 91, 3) := by decide +kernel
theorem dX8_next_233 : decode cX8_next 233 = .ok (.putfield 91, 3) := by decide +kernel
theorem dX8_next_236 : decode cX8_next 236 = .ok (.aload_n 0, 1) := by decide +kernel
theorem dX8_next_237 : decode cX8_next 237 = .ok (.dup, 1) := by decide +kernel
theorem dX8_next_238 : decode cX8_next 238 = .ok (.getfield 75, 3) := by decide +kernel
theorem dX8_next_241 : decode cX8_next 241 = .ok (.iconst 1, 1) := by decide +kernel
theorem dX8_next_242 : decode cX8_next 242 = .ok (.iadd, 1) := by decide +kernel
theorem dX8_next_243 : decode cX8_next 243 = .ok (.putfield 75, 3) := by decide +kernel
theorem dX8_next_246 : decode cX8_next 246 = .ok (.goto (-71), 3) := by decide +kernel
theorem dX8_next_249 : decode cX8_next 249 = .ok (.aload_n 0, 1) := by decide +kernel
theorem dX8_next_250 : decode cX8_next 250 = .ok (.aload_n 0, 1) := by decide +kernel
theorem dX8_next_251 : decode cX8_next 251 = .ok (.getfield 75, 3) := by decide +kernel
theorem dX8_next_254 : decode cX8_next 254 = .ok (.aload_n 0, 1) := by decide +kernel
theorem dX8_next_255 : decode cX8_next 255 = .ok (.getfield 81, 3) := by decide +kernel
theorem dX8_next_258 : decode cX8_next 258 = .ok (.isub, 1) := by decide +kernel
theorem dX8_next_259 : decode cX8_next 259 = .ok (.iconst 4, 1) := by decide +kernel
theorem dX8_next_260 : decode cX8_next 260 = .ok (.if_icmp .ge 7, 3) := by decide +kernel
theorem dX8_next_263 : decode cX8_next 263 = .ok (.iconst 2, 1) := by decide +kernel
theorem dX8_next_264 : decode cX8_next 264 = .ok (.goto 4, 3) := by decide +kernel
theorem dX8_next_267 : decode cX8_next 267 = .ok (.iconst 4, 1) := by decide +kernel
theorem dX8_next_268 : decode cX8_next 268 = .ok (.putfield 84, 3) := by decide +kernel
theorem dX8_next_271 : decode cX8_next 271 = .ok (.goto 28, 3) := by decide +kernel
theorem dX8_next_274 : decode cX8_next 274 = .ok (.aload_n 0, 1) := by decide +kernel
theorem dX8_next_275 : decode cX8_next 275 = .ok (.iload_n 1, 1) := by decide +kernel
theorem dX8_next_276 : decode cX8_next 276 = .ok (.bipush 59, 2) := by decide +kernel
theorem dX8_next_278 : decode cX8_next 278 = .ok (.if_icmp .ne 7, 3) := by decide +kernel
theorem dX8_next_281 : decode cX8_next 281 = .ok (.iconst 3, 1) := by decide +kernel
theorem dX8_next_282 : decode cX8_next 282 = .ok (.goto 4, 3) := by decide +kernel
theorem dX8_next_285 : decode cX8_next 285 = .ok (.iconst 4, 1) := by decide +kernel
theorem dX8_next_286 : decode cX8_next 286 = .ok (.putfield 84, 3) := by decide +kernel
theorem dX8_next_289 : decode cX8_next 289 = .ok (.aload_n 0, 1) := by decide +kernel
theorem dX8_next_290 : decode cX8_next 290 = .ok (.dup, 1) := by decide +kernel
theorem dX8_next_291 : decode cX8_next 291 = .ok (.getfield 75, 3) := by decide +kernel
theorem dX8_next_294 : decode cX8_next 294 = .ok (.iconst 1, 1) := by decide +kernel
theorem dX8_next_295 : decode cX8_next 295 = .ok (.iadd, 1) := by decide +kernel
theorem dX8_next_296 : decode cX8_next 296 = .ok (.putfield 75, 3) := by decide +kernel
theorem dX8_next_299 : decode cX8_next 299 = .ok (.return_, 1) := by decide +kernel
theorem dX8_isName_0 : decode cX8_isName 0 = .ok (.aload_n 0, 1) := by decide +kernel
theorem dX8_isName_1 : decode cX8_isName 1 = .ok (.getfield 84, 3) := by decide +kernel
theorem dX8_isName_4 : decode cX8_isName 4 = .ok (.iconst 1, 1) := by decide +kernel
theorem dX8_isName_5 : decode cX8_isName 5 = .ok (.if_icmp .ne 16, 3) := by decide +kernel
theorem dX8_isName_8 : decode cX8_isName 8 = .ok (.aload_n 0, 1) := by decide +kernel
theorem dX8_isName_9 : decode cX8_isName 9 = .ok (.getfield 87, 3) := by decide +kernel
theorem dX8_isName_12 : decode cX8_isName 12 = .ok (.lload_n 1, 1) := by decide +kernel
theorem dX8_isName_13 : decode cX8_isName 13 = .ok (.lcmp, 1) := by decide +kernel
theorem dX8_isName_14 : decode cX8_isName 14 = .ok (.ifCond .ne 7, 3) := by decide +kernel
theorem dX8_isName_17 : decode cX8_isName 17 = .ok (.iconst 1, 1) := by decide +kernel
theorem dX8_isName_18 : decode cX8_isName 18 = .ok (.goto 4, 3) := by decide +kernel
theorem dX8_isName_21 : decode cX8_isName 21 = .ok (.iconst 0, 1) := by decide +kernel
theorem dX8_isName_22 : decode cX8_isName 22 = .ok (.ireturn, 1) := by decide +kernel
theorem dX8_must_0 : decode cX8_must 0 = .ok (.aload_n 0, 1) := by decide +kernel
theorem dX8_must_1 : decode cX8_must 1 = .ok (.getfield 94, 3) := by decide +kernel
theorem dX8_must_4 : decode cX8_must 4 = .ok (.ifCond .ne 12, 3) := by decide +kernel
theorem dX8_must_7 : decode cX8_must 7 = .ok (.iload_n 1, 1) := by decide +kernel
theorem dX8_must_8 : decode cX8_must 8 = .ok (.ifCond .ne 8, 3) := by decide +kernel
theorem dX8_must_11 : decode cX8_must 11 = .ok (.aload_n 0, 1) := by decide +kernel
theorem dX8_must_12 : decode cX8_must 12 = .ok (.iload_n 2, 1) := by decide +kernel
theorem dX8_must_13 : decode cX8_must 13 = .ok (.putfield 94, 3) := by decide +kernel
theorem dX8_must_16 : decode cX8_must 16 = .ok (.return_, 1) := by decide +kernel
theorem dX8_goesOn_0 : decode cX8_goesOn 0 = .ok (.aload_n 0, 1) := by decide +kernel
theorem dX8_goesOn_1 : decode cX8_goesOn 1 = .ok (.getfield 94, 3) := by decide +kernel
theorem dX8_goesOn_4 : decode cX8_goesOn 4 = .ok (.ifCond .ne 7, 3) := by decide +kernel
theorem dX8_goesOn_7 : decode cX8_goesOn 7 = .ok (.aload_n 0, 1) := by decide +kernel
theorem dX8_goesOn_8 : decode cX8_goesOn 8 = .ok (.invokevirtual 97, 3) := by decide +kernel
theorem dX8_goesOn_11 : decode cX8_goesOn 11 = .ok (.return_, 1) := by decide +kernel
theorem dX8_readNumber_0 : decode cX8_readNumber 0 = .ok (.aload_n 0, 1) := by decide +kernel
theorem dX8_readNumber_1 : decode cX8_readNumber 1 = .ok (.aload_n 0, 1) := by decide +kernel
theorem dX8_readNumber_2 : decode cX8_readNumber 2 = .ok (.getfield 84, 3) := by decide +kernel
theorem dX8_readNumber_5 : decode cX8_readNumber 5 = .ok (.iconst 2, 1) := by decide +kernel
theorem dX8_readNumber_6 : decode cX8_readNumber 6 = .ok (.if_icmp .ne 7, 3) := by decide +kernel
theorem dX8_readNumber_9 : decode cX8_readNumber 9 = .ok (.iconst 1, 1) := by decide +kernel
theorem dX8_readNumber_10 : decode cX8_readNumber 10 = .ok (.goto 4, 3) := by decide +kernel
theorem dX8_readNumber_13 : decode cX8_readNumber 13 = .ok (.iconst 0, 1) := by decide +kernel
theorem dX8_readNumber_14 : decode cX8_readNumber 14 = .ok (.iconst 1, 1) := by decide +kernel
theorem dX8_readNumber_15 : decode cX8_readNumber 15 = .ok (.invokevirtual 100, 3) := by decide +kernel
theorem dX8_readNumber_18 : decode cX8_readNumber 18 = .ok (.aload_n 0, 1) := by decide +kernel
theorem dX8_readNumber_19 : decode cX8_readNumber 19 = .ok (.aload_n 0, 1) := by decide +kernel
theorem dX8_readNumber_20 : decode cX8_readNumber 20 = .ok (.getfield 91, 3) := by decide +kernel
theorem dX8_readNumber_23 : decode cX8_readNumber 23 = .ok (.iload_n 1, 1) := by decide +kernel
theorem dX8_readNumber_24 : decode cX8_readNumber 24 = .ok (.iload_n 2, 1) := by decide +kernel
theorem dX8_readNumber_25 : decode cX8_readNumber 25 = .ok (.invokestatic 50, 3) := by decide +kernel
theorem dX8_readNumber_28 : decode cX8_readNumber 28 = .ok (.ifCond .eq 15, 3) := by decide +kernel
theorem dX8_readNumber_31 : decode cX8_readNumber 31 = .ok (.aload_n 0, 1) := by decide +kernel
theorem dX8_readNumber_32 : decode cX8_readNumber 32 = .ok (.getfield 91, 3) := by decide +kernel
theorem dX8_readNumber_35 : decode cX8_readNumber 35 = .ok (.iload_n 3, 1) := by decide +kernel
theorem dX8_readNumber_36 : decode cX8_readNumber 36 = .ok (.if_icmp .eq 7, 3) := by decide +kernel
theorem dX8_readNumber_39 : decode cX8_readNumber 39 = .ok (.iconst 1, 1) := by decide +kernel
theorem dX8_readNumber_40 : decode cX8_readNumber 40 = .ok (.goto 4, 3) := by decide +kernel
theorem dX8_readNumber_43 : decode cX8_readNumber 43 = .ok (.iconst 0, 1) := by decide +kernel
theorem dX8_readNumber_44 : decode cX8_readNumber 44 = .ok (.iconst 2, 1) := by decide +kernel
theorem dX8_readNumber_45 : decode cX8_readNumber 45 = .ok (.invokevirtual 100, 3) := by decide +kernel
theorem dX8_readNumber_48 : decode cX8_readNumber 48 = .ok (.aload_n 0, 1) := by decide +kernel
theorem dX8_readNumber_49 : decode cX8_readNumber 49 = .ok (.getfield 91, 3) := by decide +kernel
theorem dX8_readNumber_52 : decode cX8_readNumber 52 = .ok (.istore 4, 2) := by decide +kernel
theorem dX8_readNumber_54 : decode cX8_readNumber 54 = .ok (.aload_n 0, 1) := by decide +kernel
theorem dX8_readNumber_55 : decode cX8_readNumber 55 = .ok (.invokevirtual 104, 3) := by decide +kernel
theorem dX8_readNumber_58 : decode cX8_readNumber 58 = .ok (.iload 4, 2) := by decide +kernel
theorem dX8_readNumber_60 : decode cX8_readNumber 60 = .ok (.ireturn, 1) := by decide +kernel
theorem dX8_readStop_0 : decode cX8_readStop 0 = .ok (.aload_n 0, 1) := by decide +kernel
theorem dX8_readStop_1 : decode cX8_readStop 1 = .ok (.aload_n 0, 1) := by decide +kernel
theorem dX8_readStop_2 : decode cX8_readStop 2 = .ok (.getfield 84, 3) := by decide +kernel
theorem dX8_readStop_5 : decode cX8_readStop 5 = .ok (.iconst 3, 1) := by decide +kernel
theorem dX8_readStop_6 : decode cX8_readStop 6 = .ok (.if_icmp .ne 7, 3) := by decide +kernel
theorem dX8_readStop_9 : decode cX8_readStop 9 = .ok (.iconst 1, 1) := by decide +kernel
theorem dX8_readStop_10 : decode cX8_readStop 10 = .ok (.goto 4, 3) := by decide +kernel
theorem dX8_readStop_13 : decode cX8_readStop 13 = .ok (.iconst 0, 1) := by decide +kernel
theorem dX8_readStop_14 : decode cX8_readStop 14 = .ok (.iconst 1, 1) := by decide +kernel
theorem dX8_readStop_15 : decode cX8_readStop 15 = .ok (.invokevirtual 100, 3) := by decide +kernel
theorem dX8_readStop_18 : decode cX8_readStop 18 = .ok (.aload_n 0, 1) := by decide +kernel
theorem dX8_readStop_19 : decode cX8_readStop 19 = .ok (.invokevirtual 104, 3) := by decide +kernel
theorem dX8_readStop_22 : decode cX8_readStop 22 = .ok (.return_, 1) := by decide +kernel
theorem dX8_sortNow_0 : decode cX8_sortNow 0 = .ok (.aload_n 0, 1) := by decide +kernel
theorem dX8_sortNow_1 : decode cX8_sortNow 1 = .ok (.ldc2_w 107, 3) := by decide +kernel
theorem dX8_sortNow_4 : decode cX8_sortNow 4 = .ok (.invokevirtual 109, 3) := by decide +kernel
theorem dX8_sortNow_7 : decode cX8_sortNow 7 = .ok (.ifCond .eq 7, 3) := by decide +kernel
theorem dX8_sortNow_10 : decode cX8_sortNow 10 = .ok (.iconst 1, 1) := by decide +kernel
theorem dX8_sortNow_11 : decode cX8_sortNow 11 = .ok (.goto 61, 3) := by decide +kernel
theorem dX8_sortNow_14 : decode cX8_sortNow 14 = .ok (.aload_n 0, 1) := by decide +kernel
theorem dX8_sortNow_15 : decode cX8_sortNow 15 = .ok (.ldc2_w 113, 3) := by decide +kernel
theorem dX8_sortNow_18 : decode cX8_sortNow 18 = .ok (.invokevirtual 109, 3) := by decide +kernel
theorem dX8_sortNow_21 : decode cX8_sortNow 21 = .ok (.ifCond .eq 7, 3) := by decide +kernel
theorem dX8_sortNow_24 : decode cX8_sortNow 24 = .ok (.iconst 2, 1) := by decide +kernel
theorem dX8_sortNow_25 : decode cX8_sortNow 25 = .ok (.goto 47, 3) := by decide +kernel
theorem dX8_sortNow_28 : decode cX8_sortNow 28 = .ok (.aload_n 0, 1) := by decide +kernel
theorem dX8_sortNow_29 : decode cX8_sortNow 29 = .ok (.ldc2_w 115, 3) := by decide +kernel
theorem dX8_sortNow_32 : decode cX8_sortNow 32 = .ok (.invokevirtual 109, 3) := by decide +kernel
theorem dX8_sortNow_35 : decode cX8_sortNow 35 = .ok (.ifCond .eq 7, 3) := by decide +kernel
theorem dX8_sortNow_38 : decode cX8_sortNow 38 = .ok (.iconst 3, 1) := by decide +kernel
theorem dX8_sortNow_39 : decode cX8_sortNow 39 = .ok (.goto 33, 3) := by decide +kernel
theorem dX8_sortNow_42 : decode cX8_sortNow 42 = .ok (.aload_n 0, 1) := by decide +kernel
theorem dX8_sortNow_43 : decode cX8_sortNow 43 = .ok (.ldc2_w 117, 3) := by decide +kernel
theorem dX8_sortNow_46 : decode cX8_sortNow 46 = .ok (.invokevirtual 109, 3) := by decide +kernel
theorem dX8_sortNow_49 : decode cX8_sortNow 49 = .ok (.ifCond .eq 7, 3) := by decide +kernel
theorem dX8_sortNow_52 : decode cX8_sortNow 52 = .ok (.iconst 4, 1) := by decide +kernel
theorem dX8_sortNow_53 : decode cX8_sortNow 53 = .ok (.goto 19, 3) := by decide +kernel
theorem dX8_sortNow_56 : decode cX8_sortNow 56 = .ok (.aload_n 0, 1) := by decide +kernel
theorem dX8_sortNow_57 : decode cX8_sortNow 57 = .ok (.ldc2_w 119, 3) := by decide +kernel
theorem dX8_sortNow_60 : decode cX8_sortNow 60 = .ok (.invokevirtual 109, 3) := by decide +kernel
theorem dX8_sortNow_63 : decode cX8_sortNow 63 = .ok (.ifCond .eq 7, 3) := by decide +kernel
theorem dX8_sortNow_66 : decode cX8_sortNow 66 = .ok (.iconst 5, 1) := by decide +kernel
theorem dX8_sortNow_67 : decode cX8_sortNow 67 = .ok (.goto 5, 3) := by decide +kernel
theorem dX8_sortNow_70 : decode cX8_sortNow 70 = .ok (.ldc 44, 2) := by decide +kernel
theorem dX8_sortNow_72 : decode cX8_sortNow 72 = .ok (.ireturn, 1) := by decide +kernel
theorem dX8_readCrossing_0 : decode cX8_readCrossing 0 = .ok (.aload_n 0, 1) := by decide +kernel
theorem dX8_readCrossing_1 : decode cX8_readCrossing 1 = .ok (.aload_n 0, 1) := by decide +kernel
theorem dX8_readCrossing_2 : decode cX8_readCrossing 2 = .ok (.ldc2_w 121, 3) := by decide +kernel
theorem dX8_readCrossing_5 : decode cX8_readCrossing 5 = .ok (.invokevirtual 109, 3) := by decide +kernel
theorem dX8_readCrossing_8 : decode cX8_readCrossing 8 = .ok (.iconst 1, 1) := by decide +kernel
theorem dX8_readCrossing_9 : decode cX8_readCrossing 9 = .ok (.invokevirtual 100, 3) := by decide +kernel
theorem dX8_readCrossing_12 : decode cX8_readCrossing 12 = .ok (.aload_n 0, 1) := by decide +kernel
theorem dX8_readCrossing_13 : decode cX8_readCrossing 13 = .ok (.aload_n 0, 1) := by decide +kernel
theorem dX8_readCrossing_14 : decode cX8_readCrossing 14 = .ok (.getfield 35, 3) := by decide +kernel
theorem dX8_readCrossing_17 : decode cX8_readCrossing 17 = .ok (.iconst 1, 1) := by decide +kernel
theorem dX8_readCrossing_18 : decode cX8_readCrossing 18 = .ok (.iaload, 1) := by decide +kernel
theorem dX8_readCrossing_19 : decode cX8_readCrossing 19 = .ok (.bipush 6, 2) := by decide +kernel
theorem dX8_readCrossing_21 : decode cX8_readCrossing 21 = .ok (.if_icmp .ge 7, 3) := by decide +kernel
theorem dX8_readCrossing_24 : decode cX8_readCrossing 24 = .ok (.iconst 1, 1) := by decide +kernel
theorem dX8_readCrossing_25 : decode cX8_readCrossing 25 = .ok (.goto 4, 3) := by decide +kernel
theorem dX8_readCrossing_28 : decode cX8_readCrossing 28 = .ok (.iconst 0, 1) := by decide +kernel
theorem dX8_readCrossing_29 : decode cX8_readCrossing 29 = .ok (.iconst 3, 1) := by decide +kernel
theorem dX8_readCrossing_30 : decode cX8_readCrossing 30 = .ok (.invokevirtual 100, 3) := by decide +kernel
theorem dX8_readCrossing_33 : decode cX8_readCrossing 33 = .ok (.aload_n 0, 1) := by decide +kernel
theorem dX8_readCrossing_34 : decode cX8_readCrossing 34 = .ok (.invokevirtual 104, 3) := by decide +kernel
theorem dX8_readCrossing_37 : decode cX8_readCrossing 37 = .ok (.aload_n 0, 1) := by decide +kernel
theorem dX8_readCrossing_38 : decode cX8_readCrossing 38 = .ok (.invokevirtual 123, 3) := by decide +kernel
theorem dX8_readCrossing_41 : decode cX8_readCrossing 41 = .ok (.istore_n 1, 1) := by decide +kernel
theorem dX8_readCrossing_42 : decode cX8_readCrossing 42 = .ok (.aload_n 0, 1) := by decide +kernel
theorem dX8_readCrossing_43 : decode cX8_readCrossing 43 = .ok (.iload_n 1, 1) := by decide +kernel
theorem dX8_readCrossing_44 : decode cX8_readCrossing 44 = .ok (.ldc 44, 2) := by decide +kernel
theorem dX8_readCrossing_46 : decode cX8_readCrossing 46 = .ok (.if_icmp .eq 7, 3) := by decide +kernel
theorem dX8_readCrossing_49 : decode cX8_readCrossing 49 = .ok (.iconst 1, 1) := by decide +kernel
theorem dX8_readCrossing_50 : decode cX8_readCrossing 50 = .ok (.goto 4, 3) := by decide +kernel
theorem dX8_readCrossing_53 : decode cX8_readCrossing 53 = .ok (.iconst 0, 1) := by decide +kernel
theorem dX8_readCrossing_54 : decode cX8_readCrossing 54 = .ok (.iconst 1, 1) := by decide +kernel
theorem dX8_readCrossing_55 : decode cX8_readCrossing 55 = .ok (.invokevirtual 100, 3) := by decide +kernel
theorem dX8_readCrossing_58 : decode cX8_readCrossing 58 = .ok (.aload_n 0, 1) := by decide +kernel
theorem dX8_readCrossing_59 : decode cX8_readCrossing 59 = .ok (.invokevirtual 104, 3) := by decide +kernel
theorem dX8_readCrossing_62 : decode cX8_readCrossing 62 = .ok (.aload_n 0, 1) := by decide +kernel
theorem dX8_readCrossing_63 : decode cX8_readCrossing 63 = .ok (.iconst 0, 1) := by decide +kernel
theorem dX8_readCrossing_64 : decode cX8_readCrossing 64 = .ok (.iconst 5, 1) := by decide +kernel
theorem dX8_readCrossing_65 : decode cX8_readCrossing 65 = .ok (.ldc 44, 2) := by decide +kernel
theorem dX8_readCrossing_67 : decode cX8_readCrossing 67 = .ok (.invokevirtual 127, 3) := by decide +kernel
theorem dX8_readCrossing_70 : decode cX8_readCrossing 70 = .ok (.istore_n 2, 1) := by decide +kernel
theorem dX8_readCrossing_71 : decode cX8_readCrossing 71 = .ok (.aload_n 0, 1) := by decide +kernel
theorem dX8_readCrossing_72 : decode cX8_readCrossing 72 = .ok (.iconst 0, 1) := by decide +kernel
theorem dX8_readCrossing_73 : decode cX8_readCrossing 73 = .ok (.iconst 5, 1) := by decide +kernel
theorem dX8_readCrossing_74 : decode cX8_readCrossing 74 = .ok (.iload_n 2, 1) := by decide +kernel
theorem dX8_readCrossing_75 : decode cX8_readCrossing 75 = .ok (.invokevirtual 127, 3) := by decide +kernel
theorem dX8_readCrossing_78 : decode cX8_readCrossing 78 = .ok (.istore_n 3, 1) := by decide +kernel
theorem dX8_readCrossing_79 : decode cX8_readCrossing 79 = .ok (.aload_n 0, 1) := by decide +kernel
theorem dX8_readCrossing_80 : decode cX8_readCrossing 80 = .ok (.iconst 1, 1) := by decide +kernel
theorem dX8_readCrossing_81 : decode cX8_readCrossing 81 = .ok (.bipush 9, 2) := by decide +kernel
theorem dX8_readCrossing_83 : decode cX8_readCrossing 83 = .ok (.ldc 44, 2) := by decide +kernel
theorem dX8_readCrossing_85 : decode cX8_readCrossing 85 = .ok (.invokevirtual 127, 3) := by decide +kernel
theorem dX8_readCrossing_88 : decode cX8_readCrossing 88 = .ok (.istore 4, 2) := by decide +kernel
theorem dX8_readCrossing_90 : decode cX8_readCrossing 90 = .ok (.aload_n 0, 1) := by decide +kernel
theorem dX8_readCrossing_91 : decode cX8_readCrossing 91 = .ok (.invokevirtual 131, 3) := by decide +kernel
theorem dX8_readCrossing_94 : decode cX8_readCrossing 94 = .ok (.aload_n 0, 1) := by decide +kernel
theorem dX8_readCrossing_95 : decode cX8_readCrossing 95 = .ok (.getfield 94, 3) := by decide +kernel
theorem dX8_readCrossing_98 : decode cX8_readCrossing 98 = .ok (.ifCond .ne 64, 3) := by decide +kernel
theorem dX8_readCrossing_101 : decode cX8_readCrossing 101 = .ok (.iconst 4, 1) := by decide +kernel
theorem dX8_readCrossing_102 : decode cX8_readCrossing 102 = .ok (.iconst 4, 1) := by decide +kernel
theorem dX8_readCrossing_103 : decode cX8_readCrossing 103 = .ok (.aload_n 0, 1) := by decide +kernel
theorem dX8_readCrossing_104 : decode cX8_readCrossing 104 = .ok (.getfield 35, 3) := by decide +kernel
theorem dX8_readCrossing_107 : decode cX8_readCrossing 107 = .ok (.iconst 1, 1) := by decide +kernel
theorem dX8_readCrossing_108 : decode cX8_readCrossing 108 = .ok (.iaload, 1) := by decide +kernel
theorem dX8_readCrossing_109 : decode cX8_readCrossing 109 = .ok (.imul, 1) := by decide +kernel
theorem dX8_readCrossing_110 : decode cX8_readCrossing 110 = .ok (.iadd, 1) := by decide +kernel
theorem dX8_readCrossing_111 : decode cX8_readCrossing 111 = .ok (.istore 5, 2) := by decide +kernel
theorem dX8_readCrossing_113 : decode cX8_readCrossing 113 = .ok (.aload_n 0, 1) := by decide +kernel
theorem dX8_readCrossing_114 : decode cX8_readCrossing 114 = .ok (.getfield 35, 3) := by decide +kernel
theorem dX8_readCrossing_117 : decode cX8_readCrossing 117 = .ok (.iload 5, 2) := by decide +kernel
theorem dX8_readCrossing_119 : decode cX8_readCrossing 119 = .ok (.iload_n 1, 1) := by decide +kernel
theorem dX8_readCrossing_120 : decode cX8_readCrossing 120 = .ok (.iastore, 1) := by decide +kernel
theorem dX8_readCrossing_121 : decode cX8_readCrossing 121 = .ok (.aload_n 0, 1) := by decide +kernel
theorem dX8_readCrossing_122 : decode cX8_readCrossing 122 = .ok (.getfield 35, 3) := by decide +kernel
theorem dX8_readCrossing_125 : decode cX8_readCrossing 125 = .ok (.iload 5, 2) := by decide +kernel
theorem dX8_readCrossing_127 : decode cX8_readCrossing 127 = .ok (.iconst 1, 1) := by decide +kernel
theorem dX8_readCrossing_128 : decode cX8_readCrossing 128 = .ok (.iadd, 1) := by decide +kernel
theorem dX8_readCrossing_129 : decode cX8_readCrossing 129 = .ok (.iload_n 2, 1) := by decide +kernel
theorem dX8_readCrossing_130 : decode cX8_readCrossing 130 = .ok (.iastore, 1) := by decide +kernel
theorem dX8_readCrossing_131 : decode cX8_readCrossing 131 = .ok (.aload_n 0, 1) := by decide +kernel
theorem dX8_readCrossing_132 : decode cX8_readCrossing 132 = .ok (.getfield 35, 3) := by decide +kernel
theorem dX8_readCrossing_135 : decode cX8_readCrossing 135 = .ok (.iload 5, 2) := by decide +kernel
theorem dX8_readCrossing_137 : decode cX8_readCrossing 137 = .ok (.iconst 2, 1) := by decide +kernel
theorem dX8_readCrossing_138 : decode cX8_readCrossing 138 = .ok (.iadd, 1) := by decide +kernel
theorem dX8_readCrossing_139 : decode cX8_readCrossing 139 = .ok (.iload_n 3, 1) := by decide +kernel
theorem dX8_readCrossing_140 : decode cX8_readCrossing 140 = .ok (.iastore, 1) := by decide +kernel
theorem dX8_readCrossing_141 : decode cX8_readCrossing 141 = .ok (.aload_n 0, 1) := by decide +kernel
theorem dX8_readCrossing_142 : decode cX8_readCrossing 142 = .ok (.getfield 35, 3) := by decide +kernel
theorem dX8_readCrossing_145 : decode cX8_readCrossing 145 = .ok (.iload 5, 2) := by decide +kernel
theorem dX8_readCrossing_147 : decode cX8_readCrossing 147 = .ok (.iconst 3, 1) := by decide +kernel
theorem dX8_readCrossing_148 : decode cX8_readCrossing 148 = .ok (.iadd, 1) := by decide +kernel
theorem dX8_readCrossing_149 : decode cX8_readCrossing 149 = .ok (.iload 4, 2) := by decide +kernel
theorem dX8_readCrossing_151 : decode cX8_readCrossing 151 = .ok (.iastore, 1) := by decide +kernel
theorem dX8_readCrossing_152 : decode cX8_readCrossing 152 = .ok (.aload_n 0, 1) := by decide +kernel
theorem dX8_readCrossing_153 : decode cX8_readCrossing 153 = .ok (.getfield 35, 3) := by decide +kernel
theorem dX8_readCrossing_156 : decode cX8_readCrossing 156 = .ok (.iconst 1, 1) := by decide +kernel
theorem dX8_readCrossing_157 : decode cX8_readCrossing 157 = .ok (.dup2, 1) := by decide +kernel
theorem dX8_readCrossing_158 : decode cX8_readCrossing 158 = .ok (.iaload, 1) := by decide +kernel
theorem dX8_readCrossing_159 : decode cX8_readCrossing 159 = .ok (.iconst 1, 1) := by decide +kernel
theorem dX8_readCrossing_160 : decode cX8_readCrossing 160 = .ok (.iadd, 1) := by decide +kernel
theorem dX8_readCrossing_161 : decode cX8_readCrossing 161 = .ok (.iastore, 1) := by decide +kernel
theorem dX8_readCrossing_162 : decode cX8_readCrossing 162 = .ok (.return_, 1) := by decide +kernel
theorem dX8_readCarrier_0 : decode cX8_readCarrier 0 = .ok (.aload_n 0, 1) := by decide +kernel
theorem dX8_readCarrier_1 : decode cX8_readCarrier 1 = .ok (.aload_n 0, 1) := by decide +kernel
theorem dX8_readCarrier_2 : decode cX8_readCarrier 2 = .ok (.getfield 35, 3) := by decide +kernel
theorem dX8_readCarrier_5 : decode cX8_readCarrier 5 = .ok (.iconst 2, 1) := by decide +kernel
theorem dX8_readCarrier_6 : decode cX8_readCarrier 6 = .ok (.iaload, 1) := by decide +kernel
theorem dX8_readCarrier_7 : decode cX8_readCarrier 7 = .ok (.iconst 3, 1) := by decide +kernel
theorem dX8_readCarrier_8 : decode cX8_readCarrier 8 = .ok (.if_icmp .ge 7, 3) := by decide +kernel
theorem dX8_readCarrier_11 : decode cX8_readCarrier 11 = .ok (.iconst 1, 1) := by decide +kernel
theorem dX8_readCarrier_12 : decode cX8_readCarrier 12 = .ok (.goto 4, 3) := by decide +kernel
theorem dX8_readCarrier_15 : decode cX8_readCarrier 15 = .ok (.iconst 0, 1) := by decide +kernel
theorem dX8_readCarrier_16 : decode cX8_readCarrier 16 = .ok (.iconst 3, 1) := by decide +kernel
theorem dX8_readCarrier_17 : decode cX8_readCarrier 17 = .ok (.invokevirtual 100, 3) := by decide +kernel
theorem dX8_readCarrier_20 : decode cX8_readCarrier 20 = .ok (.aload_n 0, 1) := by decide +kernel
theorem dX8_readCarrier_21 : decode cX8_readCarrier 21 = .ok (.invokevirtual 104, 3) := by decide +kernel
theorem dX8_readCarrier_24 : decode cX8_readCarrier 24 = .ok (.aload_n 0, 1) := by decide +kernel
theorem dX8_readCarrier_25 : decode cX8_readCarrier 25 = .ok (.iconst 0, 1) := by decide +kernel
theorem dX8_readCarrier_26 : decode cX8_readCarrier 26 = .ok (.iconst 5, 1) := by decide +kernel
theorem dX8_readCarrier_27 : decode cX8_readCarrier 27 = .ok (.ldc 44, 2) := by decide +kernel
theorem dX8_readCarrier_29 : decode cX8_readCarrier 29 = .ok (.invokevirtual 127, 3) := by decide +kernel
theorem dX8_readCarrier_32 : decode cX8_readCarrier 32 = .ok (.istore_n 1, 1) := by decide +kernel
theorem dX8_readCarrier_33 : decode cX8_readCarrier 33 = .ok (.aload_n 0, 1) := by decide +kernel
theorem dX8_readCarrier_34 : decode cX8_readCarrier 34 = .ok (.iconst 0, 1) := by decide +kernel
theorem dX8_readCarrier_35 : decode cX8_readCarrier 35 = .ok (.iconst 1, 1) := by decide +kernel
theorem dX8_readCarrier_36 : decode cX8_readCarrier 36 = .ok (.aload_n 0, 1) := by decide +kernel
theorem dX8_readCarrier_37 : decode cX8_readCarrier 37 = .ok (.getfield 35, 3) := by decide +kernel
theorem dX8_readCarrier_40 : decode cX8_readCarrier 40 = .ok (.iconst 1, 1) := by decide +kernel
theorem dX8_readCarrier_41 : decode cX8_readCarrier 41 = .ok (.iaload, 1) := by decide +kernel
theorem dX8_readCarrier_42 : decode cX8_readCarrier 42 = .ok (.ishl, 1) := by decide +kernel
theorem dX8_readCarrier_43 : decode cX8_readCarrier 43 = .ok (.iconst 1, 1) := by decide +kernel
theorem dX8_readCarrier_44 : decode cX8_readCarrier 44 = .ok (.isub, 1) := by decide +kernel
theorem dX8_readCarrier_45 : decode cX8_readCarrier 45 = .ok (.ldc 44, 2) := by decide +kernel
theorem dX8_readCarrier_47 : decode cX8_readCarrier 47 = .ok (.invokevirtual 127, 3) := by decide +kernel
theorem dX8_readCarrier_50 : decode cX8_readCarrier 50 = .ok (.istore_n 2, 1) := by decide +kernel
theorem dX8_readCarrier_51 : decode cX8_readCarrier 51 = .ok (.aload_n 0, 1) := by decide +kernel
theorem dX8_readCarrier_52 : decode cX8_readCarrier 52 = .ok (.invokevirtual 131, 3) := by decide +kernel
theorem dX8_readCarrier_55 : decode cX8_readCarrier 55 = .ok (.aload_n 0, 1) := by decide +kernel
theorem dX8_readCarrier_56 : decode cX8_readCarrier 56 = .ok (.getfield 94, 3) := by decide +kernel
theorem dX8_readCarrier_59 : decode cX8_readCarrier 59 = .ok (.ifCond .ne 59, 3) := by decide +kernel
theorem dX8_readCarrier_62 : decode cX8_readCarrier 62 = .ok (.aload_n 0, 1) := by decide +kernel
theorem dX8_readCarrier_63 : decode cX8_readCarrier 63 = .ok (.getfield 35, 3) := by decide +kernel
theorem dX8_readCarrier_66 : decode cX8_readCarrier 66 = .ok (.bipush 32, 2) := by decide +kernel
theorem dX8_readCarrier_68 : decode cX8_readCarrier 68 = .ok (.aload_n 0, 1) := by decide +kernel
theorem dX8_readCarrier_69 : decode cX8_readCarrier 69 = .ok (.getfield 35, 3) := by decide +kernel
theorem dX8_readCarrier_72 : decode cX8_readCarrier 72 = .ok (.iconst 2, 1) := by decide +kernel
theorem dX8_readCarrier_73 : decode cX8_readCarrier 73 = .ok (.iaload, 1) := by decide +kernel
theorem dX8_readCarrier_74 : decode cX8_readCarrier 74 = .ok (.iadd, 1) := by decide +kernel
theorem dX8_readCarrier_75 : decode cX8_readCarrier 75 = .ok (.iload_n 1, 1) := by decide +kernel
theorem dX8_readCarrier_76 : decode cX8_readCarrier 76 = .ok (.iastore, 1) := by decide +kernel
theorem dX8_readCarrier_77 : decode cX8_readCarrier 77 = .ok (.aload_n 0, 1) := by decide +kernel
theorem dX8_readCarrier_78 : decode cX8_readCarrier 78 = .ok (.getfield 35, 3) := by decide +kernel
theorem dX8_readCarrier_81 : decode cX8_readCarrier 81 = .ok (.bipush 35, 2) := by decide +kernel
theorem dX8_readCarrier_83 : decode cX8_readCarrier 83 = .ok (.aload_n 0, 1) := by decide +kernel
theorem dX8_readCarrier_84 : decode cX8_readCarrier 84 = .ok (.getfield 35, 3) := by decide +kernel
theorem dX8_readCarrier_87 : decode cX8_readCarrier 87 = .ok (.iconst 2, 1) := by decide +kernel
theorem dX8_readCarrier_88 : decode cX8_readCarrier 88 = .ok (.iaload, 1) := by decide +kernel
theorem dX8_readCarrier_89 : decode cX8_readCarrier 89 = .ok (.iadd, 1) := by decide +kernel
theorem dX8_readCarrier_90 : decode cX8_readCarrier 90 = .ok (.ldc 44, 2) := by decide +kernel
theorem dX8_readCarrier_92 : decode cX8_readCarrier 92 = .ok (.iastore, 1) := by decide +kernel
theorem dX8_readCarrier_93 : decode cX8_readCarrier 93 = .ok (.aload_n 0, 1) := by decide +kernel
theorem dX8_readCarrier_94 : decode cX8_readCarrier 94 = .ok (.getfield 35, 3) := by decide +kernel
theorem dX8_readCarrier_97 : decode cX8_readCarrier 97 = .ok (.bipush 38, 2) := by decide +kernel
theorem dX8_readCarrier_99 : decode cX8_readCarrier 99 = .ok (.aload_n 0, 1) := by decide +kernel
theorem dX8_readCarrier_100 : decode cX8_readCarrier 100 = .ok (.getfield 35, 3) := by decide +kernel
theorem dX8_readCarrier_103 : decode cX8_readCarrier 103 = .ok (.iconst 2, 1) := by decide +kernel
theorem dX8_readCarrier_104 : decode cX8_readCarrier 104 = .ok (.iaload, 1) := by decide +kernel
theorem dX8_readCarrier_105 : decode cX8_readCarrier 105 = .ok (.iadd, 1) := by decide +kernel
theorem dX8_readCarrier_106 : decode cX8_readCarrier 106 = .ok (.iload_n 2, 1) := by decide +kernel
theorem dX8_readCarrier_107 : decode cX8_readCarrier 107 = .ok (.iastore, 1) := by decide +kernel
theorem dX8_readCarrier_108 : decode cX8_readCarrier 108 = .ok (.aload_n 0, 1) := by decide +kernel
theorem dX8_readCarrier_109 : decode cX8_readCarrier 109 = .ok (.getfield 35, 3) := by decide +kernel
theorem dX8_readCarrier_112 : decode cX8_readCarrier 112 = .ok (.iconst 2, 1) := by decide +kernel
theorem dX8_readCarrier_113 : decode cX8_readCarrier 113 = .ok (.dup2, 1) := by decide +kernel
theorem dX8_readCarrier_114 : decode cX8_readCarrier 114 = .ok (.iaload, 1) := by decide +kernel
theorem dX8_readCarrier_115 : decode cX8_readCarrier 115 = .ok (.iconst 1, 1) := by decide +kernel
theorem dX8_readCarrier_116 : decode cX8_readCarrier 116 = .ok (.iadd, 1) := by decide +kernel
theorem dX8_readCarrier_117 : decode cX8_readCarrier 117 = .ok (.iastore, 1) := by decide +kernel
theorem dX8_readCarrier_118 : decode cX8_readCarrier 118 = .ok (.return_, 1) := by decide +kernel
theorem dX8_readLoad_0 : decode cX8_readLoad 0 = .ok (.aload_n 0, 1) := by decide +kernel
theorem dX8_readLoad_1 : decode cX8_readLoad 1 = .ok (.aload_n 0, 1) := by decide +kernel
theorem dX8_readLoad_2 : decode cX8_readLoad 2 = .ok (.getfield 35, 3) := by decide +kernel
theorem dX8_readLoad_5 : decode cX8_readLoad 5 = .ok (.iconst 3, 1) := by decide +kernel
theorem dX8_readLoad_6 : decode cX8_readLoad 6 = .ok (.iaload, 1) := by decide +kernel
theorem dX8_readLoad_7 : decode cX8_readLoad 7 = .ok (.iconst 4, 1) := by decide +kernel
theorem dX8_readLoad_8 : decode cX8_readLoad 8 = .ok (.if_icmp .ge 7, 3) := by decide +kernel
theorem dX8_readLoad_11 : decode cX8_readLoad 11 = .ok (.iconst 1, 1) := by decide +kernel
theorem dX8_readLoad_12 : decode cX8_readLoad 12 = .ok (.goto 4, 3) := by decide +kernel
theorem dX8_readLoad_15 : decode cX8_readLoad 15 = .ok (.iconst 0, 1) := by decide +kernel
theorem dX8_readLoad_16 : decode cX8_readLoad 16 = .ok (.iconst 3, 1) := by decide +kernel
theorem dX8_readLoad_17 : decode cX8_readLoad 17 = .ok (.invokevirtual 100, 3) := by decide +kernel
theorem dX8_readLoad_20 : decode cX8_readLoad 20 = .ok (.aload_n 0, 1) := by decide +kernel
theorem dX8_readLoad_21 : decode cX8_readLoad 21 = .ok (.invokevirtual 104, 3) := by decide +kernel
theorem dX8_readLoad_24 : decode cX8_readLoad 24 = .ok (.aload_n 0, 1) := by decide +kernel
theorem dX8_readLoad_25 : decode cX8_readLoad 25 = .ok (.iconst 0, 1) := by decide +kernel
theorem dX8_readLoad_26 : decode cX8_readLoad 26 = .ok (.iconst 5, 1) := by decide +kernel
theorem dX8_readLoad_27 : decode cX8_readLoad 27 = .ok (.ldc 44, 2) := by decide +kernel
theorem dX8_readLoad_29 : decode cX8_readLoad 29 = .ok (.invokevirtual 127, 3) := by decide +kernel
theorem dX8_readLoad_32 : decode cX8_readLoad 32 = .ok (.istore_n 1, 1) := by decide +kernel
theorem dX8_readLoad_33 : decode cX8_readLoad 33 = .ok (.aload_n 0, 1) := by decide +kernel
theorem dX8_readLoad_34 : decode cX8_readLoad 34 = .ok (.iconst 0, 1) := by decide +kernel
theorem dX8_readLoad_35 : decode cX8_readLoad 35 = .ok (.iconst 5, 1) := by decide +kernel
theorem dX8_readLoad_36 : decode cX8_readLoad 36 = .ok (.ldc 44, 2) := by decide +kernel
theorem dX8_readLoad_38 : decode cX8_readLoad 38 = .ok (.invokevirtual 127, 3) := by decide +kernel
theorem dX8_readLoad_41 : decode cX8_readLoad 41 = .ok (.istore_n 2, 1) := by decide +kernel
theorem dX8_readLoad_42 : decode cX8_readLoad 42 = .ok (.aload_n 0, 1) := by decide +kernel
theorem dX8_readLoad_43 : decode cX8_readLoad 43 = .ok (.invokevirtual 131, 3) := by decide +kernel
theorem dX8_readLoad_46 : decode cX8_readLoad 46 = .ok (.aload_n 0, 1) := by decide +kernel
theorem dX8_readLoad_47 : decode cX8_readLoad 47 = .ok (.getfield 94, 3) := by decide +kernel
theorem dX8_readLoad_50 : decode cX8_readLoad 50 = .ok (.ifCond .ne 43, 3) := by decide +kernel
theorem dX8_readLoad_53 : decode cX8_readLoad 53 = .ok (.aload_n 0, 1) := by decide +kernel
theorem dX8_readLoad_54 : decode cX8_readLoad 54 = .ok (.getfield 35, 3) := by decide +kernel
theorem dX8_readLoad_57 : decode cX8_readLoad 57 = .ok (.bipush 43, 2) := by decide +kernel
theorem dX8_readLoad_59 : decode cX8_readLoad 59 = .ok (.aload_n 0, 1) := by decide +kernel
theorem dX8_readLoad_60 : decode cX8_readLoad 60 = .ok (.getfield 35, 3) := by decide +kernel
theorem dX8_readLoad_63 : decode cX8_readLoad 63 = .ok (.iconst 3, 1) := by decide +kernel
theorem dX8_readLoad_64 : decode cX8_readLoad 64 = .ok (.iaload, 1) := by decide +kernel
theorem dX8_readLoad_65 : decode cX8_readLoad 65 = .ok (.iadd, 1) := by decide +kernel
theorem dX8_readLoad_66 : decode cX8_readLoad 66 = .ok (.iload_n 1, 1) := by decide +kernel
theorem dX8_readLoad_67 : decode cX8_readLoad 67 = .ok (.iastore, 1) := by decide +kernel
theorem dX8_readLoad_68 : decode cX8_readLoad 68 = .ok (.aload_n 0, 1) := by decide +kernel
theorem dX8_readLoad_69 : decode cX8_readLoad 69 = .ok (.getfield 35, 3) := by decide +kernel
theorem dX8_readLoad_72 : decode cX8_readLoad 72 = .ok (.bipush 28, 2) := by decide +kernel
theorem dX8_readLoad_74 : decode cX8_readLoad 74 = .ok (.aload_n 0, 1) := by decide +kernel
theorem dX8_readLoad_75 : decode cX8_readLoad 75 = .ok (.getfield 35, 3) := by decide +kernel
theorem dX8_readLoad_78 : decode cX8_readLoad 78 = .ok (.iconst 3, 1) := by decide +kernel
theorem dX8_readLoad_79 : decode cX8_readLoad 79 = .ok (.iaload, 1) := by decide +kernel
theorem dX8_readLoad_80 : decode cX8_readLoad 80 = .ok (.iadd, 1) := by decide +kernel
theorem dX8_readLoad_81 : decode cX8_readLoad 81 = .ok (.iload_n 2, 1) := by decide +kernel
theorem dX8_readLoad_82 : decode cX8_readLoad 82 = .ok (.iastore, 1) := by decide +kernel
theorem dX8_readLoad_83 : decode cX8_readLoad 83 = .ok (.aload_n 0, 1) := by decide +kernel
theorem dX8_readLoad_84 : decode cX8_readLoad 84 = .ok (.getfield 35, 3) := by decide +kernel
theorem dX8_readLoad_87 : decode cX8_readLoad 87 = .ok (.iconst 3, 1) := by decide +kernel
theorem dX8_readLoad_88 : decode cX8_readLoad 88 = .ok (.dup2, 1) := by decide +kernel
theorem dX8_readLoad_89 : decode cX8_readLoad 89 = .ok (.iaload, 1) := by decide +kernel
theorem dX8_readLoad_90 : decode cX8_readLoad 90 = .ok (.iconst 1, 1) := by decide +kernel
theorem dX8_readLoad_91 : decode cX8_readLoad 91 = .ok (.iadd, 1) := by decide +kernel
theorem dX8_readLoad_92 : decode cX8_readLoad 92 = .ok (.iastore, 1) := by decide +kernel
theorem dX8_readLoad_93 : decode cX8_readLoad 93 = .ok (.return_, 1) := by decide +kernel
theorem dX8_land_0 : decode cX8_land 0 = .ok (.iconst 0, 1) := by decide +kernel
theorem dX8_land_1 : decode cX8_land 1 = .ok (.istore_n 1, 1) := by decide +kernel
theorem dX8_land_2 : decode cX8_land 2 = .ok (.iload_n 1, 1) := by decide +kernel
theorem dX8_land_3 : decode cX8_land 3 = .ok (.bipush 48, 2) := by decide +kernel
theorem dX8_land_5 : decode cX8_land 5 = .ok (.if_icmp .ge 16, 3) := by decide +kernel
theorem dX8_land_8 : decode cX8_land 8 = .ok (.aload_n 0, 1) := by decide +kernel
theorem dX8_land_9 : decode cX8_land 9 = .ok (.getfield 35, 3) := by decide +kernel
theorem dX8_land_12 : decode cX8_land 12 = .ok (.iload_n 1, 1) := by decide +kernel
theorem dX8_land_13 : decode cX8_land 13 = .ok (.iconst 0, 1) := by decide +kernel
theorem dX8_land_14 : decode cX8_land 14 = .ok (.iastore, 1) := by decide +kernel
theorem dX8_land_15 : decode cX8_land 15 = .ok (.iinc 1 1, 3) := by decide +kernel
theorem dX8_land_18 : decode cX8_land 18 = .ok (.goto (-16), 3) := by decide +kernel
theorem dX8_land_21 : decode cX8_land 21 = .ok (.aload_n 0, 1) := by decide +kernel
theorem dX8_land_22 : decode cX8_land 22 = .ok (.iconst 0, 1) := by decide +kernel
theorem dX8_land_23 : decode cX8_land 23 = .ok (.putfield 75, 3) := by decide +kernel
theorem dX8_land_26 : decode cX8_land 26 = .ok (.aload_n 0, 1) := by decide +kernel
theorem dX8_land_27 : decode cX8_land 27 = .ok (.iconst 0, 1) := by decide +kernel
theorem dX8_land_28 : decode cX8_land 28 = .ok (.putfield 94, 3) := by decide +kernel
theorem dX8_land_31 : decode cX8_land 31 = .ok (.aload_n 0, 1) := by decide +kernel
theorem dX8_land_32 : decode cX8_land 32 = .ok (.invokevirtual 97, 3) := by decide +kernel
theorem dX8_land_35 : decode cX8_land 35 = .ok (.aload_n 0, 1) := by decide +kernel
theorem dX8_land_36 : decode cX8_land 36 = .ok (.invokevirtual 134, 3) := by decide +kernel
theorem dX8_land_39 : decode cX8_land 39 = .ok (.aload_n 0, 1) := by decide +kernel
theorem dX8_land_40 : decode cX8_land 40 = .ok (.getfield 94, 3) := by decide +kernel
theorem dX8_land_43 : decode cX8_land 43 = .ok (.ifCond .ne 20, 3) := by decide +kernel
theorem dX8_land_46 : decode cX8_land 46 = .ok (.aload_n 0, 1) := by decide +kernel
theorem dX8_land_47 : decode cX8_land 47 = .ok (.ldc2_w 121, 3) := by decide +kernel
theorem dX8_land_50 : decode cX8_land 50 = .ok (.invokevirtual 109, 3) := by decide +kernel
theorem dX8_land_53 : decode cX8_land 53 = .ok (.ifCond .eq 10, 3) := by decide +kernel
theorem dX8_land_56 : decode cX8_land 56 = .ok (.aload_n 0, 1) := by decide +kernel
theorem dX8_land_57 : decode cX8_land 57 = .ok (.invokevirtual 134, 3) := by decide +kernel
theorem dX8_land_60 : decode cX8_land 60 = .ok (.goto (-21), 3) := by decide +kernel
theorem dX8_land_63 : decode cX8_land 63 = .ok (.aload_n 0, 1) := by decide +kernel
theorem dX8_land_64 : decode cX8_land 64 = .ok (.getfield 94, 3) := by decide +kernel
theorem dX8_land_67 : decode cX8_land 67 = .ok (.ifCond .ne 20, 3) := by decide +kernel
theorem dX8_land_70 : decode cX8_land 70 = .ok (.aload_n 0, 1) := by decide +kernel
theorem dX8_land_71 : decode cX8_land 71 = .ok (.ldc2_w 137, 3) := by decide +kernel
theorem dX8_land_74 : decode cX8_land 74 = .ok (.invokevirtual 109, 3) := by decide +kernel
theorem dX8_land_77 : decode cX8_land 77 = .ok (.ifCond .eq 10, 3) := by decide +kernel
theorem dX8_land_80 : decode cX8_land 80 = .ok (.aload_n 0, 1) := by decide +kernel
theorem dX8_land_81 : decode cX8_land 81 = .ok (.invokevirtual 139, 3) := by decide +kernel
theorem dX8_land_84 : decode cX8_land 84 = .ok (.goto (-21), 3) := by decide +kernel
theorem dX8_land_87 : decode cX8_land 87 = .ok (.aload_n 0, 1) := by decide +kernel
theorem dX8_land_88 : decode cX8_land 88 = .ok (.getfield 94, 3) := by decide +kernel
theorem dX8_land_91 : decode cX8_land 91 = .ok (.ifCond .ne 20, 3) := by decide +kernel
theorem dX8_land_94 : decode cX8_land 94 = .ok (.aload_n 0, 1) := by decide +kernel
theorem dX8_land_95 : decode cX8_land 95 = .ok (.ldc2_w 142, 3) := by decide +kernel
theorem dX8_land_98 : decode cX8_land 98 = .ok (.invokevirtual 109, 3) := by decide +kernel
theorem dX8_land_101 : decode cX8_land 101 = .ok (.ifCond .eq 10, 3) := by decide +kernel
theorem dX8_land_104 : decode cX8_land 104 = .ok (.aload_n 0, 1) := by decide +kernel
theorem dX8_land_105 : decode cX8_land 105 = .ok (.invokevirtual 144, 3) := by decide +kernel
theorem dX8_land_108 : decode cX8_land 108 = .ok (.goto (-21), 3) := by decide +kernel
theorem dX8_land_111 : decode cX8_land 111 = .ok (.aload_n 0, 1) := by decide +kernel
theorem dX8_land_112 : decode cX8_land 112 = .ok (.aload_n 0, 1) := by decide +kernel
theorem dX8_land_113 : decode cX8_land 113 = .ok (.getfield 84, 3) := by decide +kernel
theorem dX8_land_116 : decode cX8_land 116 = .ok (.ifCond .ne 7, 3) := by decide +kernel
theorem dX8_land_119 : decode cX8_land 119 = .ok (.iconst 1, 1) := by decide +kernel
theorem dX8_land_120 : decode cX8_land 120 = .ok (.goto 4, 3) := by decide +kernel
theorem dX8_land_123 : decode cX8_land 123 = .ok (.iconst 0, 1) := by decide +kernel
theorem dX8_land_124 : decode cX8_land 124 = .ok (.iconst 1, 1) := by decide +kernel
theorem dX8_land_125 : decode cX8_land 125 = .ok (.invokevirtual 100, 3) := by decide +kernel
theorem dX8_land_128 : decode cX8_land 128 = .ok (.aload_n 0, 1) := by decide +kernel
theorem dX8_land_129 : decode cX8_land 129 = .ok (.getfield 81, 3) := by decide +kernel
theorem dX8_land_132 : decode cX8_land 132 = .ok (.istore_n 1, 1) := by decide +kernel
theorem dX8_land_133 : decode cX8_land 133 = .ok (.aload_n 0, 1) := by decide +kernel
theorem dX8_land_134 : decode cX8_land 134 = .ok (.iconst 0, 1) := by decide +kernel
theorem dX8_land_135 : decode cX8_land 135 = .ok (.putfield 69, 3) := by decide +kernel
theorem dX8_land_138 : decode cX8_land 138 = .ok (.aload_n 0, 1) := by decide +kernel
theorem dX8_land_139 : decode cX8_land 139 = .ok (.getfield 94, 3) := by decide +kernel
theorem dX8_land_142 : decode cX8_land 142 = .ok (.ifCond .le 16, 3) := by decide +kernel
theorem dX8_land_145 : decode cX8_land 145 = .ok (.aload_n 0, 1) := by decide +kernel
theorem dX8_land_146 : decode cX8_land 146 = .ok (.aload_n 0, 1) := by decide +kernel
theorem dX8_land_147 : decode cX8_land 147 = .ok (.getfield 94, 3) := by decide +kernel
theorem dX8_land_150 : decode cX8_land 150 = .ok (.putfield 147, 3) := by decide +kernel
theorem dX8_land_153 : decode cX8_land 153 = .ok (.ldc 150, 2) := by decide +kernel
theorem dX8_land_155 : decode cX8_land 155 = .ok (.iload_n 1, 1) := by decide +kernel
theorem dX8_land_156 : decode cX8_land 156 = .ok (.isub, 1) := by decide +kernel
theorem dX8_land_157 : decode cX8_land 157 = .ok (.ireturn, 1) := by decide +kernel
theorem dX8_land_158 : decode cX8_land 158 = .ok (.iconst 0, 1) := by decide +kernel
theorem dX8_land_159 : decode cX8_land 159 = .ok (.istore_n 2, 1) := by decide +kernel
theorem dX8_land_160 : decode cX8_land 160 = .ok (.iload_n 2, 1) := by decide +kernel
theorem dX8_land_161 : decode cX8_land 161 = .ok (.bipush 48, 2) := by decide +kernel
theorem dX8_land_163 : decode cX8_land 163 = .ok (.if_icmp .ge 21, 3) := by decide +kernel
theorem dX8_land_166 : decode cX8_land 166 = .ok (.aload_n 0, 1) := by decide +kernel
theorem dX8_land_167 : decode cX8_land 167 = .ok (.getfield 7, 3) := by decide +kernel
theorem dX8_land_170 : decode cX8_land 170 = .ok (.iload_n 2, 1) := by decide +kernel
theorem dX8_land_171 : decode cX8_land 171 = .ok (.aload_n 0, 1) := by decide +kernel
theorem dX8_land_172 : decode cX8_land 172 = .ok (.getfield 35, 3) := by decide +kernel
theorem dX8_land_175 : decode cX8_land 175 = .ok (.iload_n 2, 1) := by decide +kernel
theorem dX8_land_176 : decode cX8_land 176 = .ok (.iaload, 1) := by decide +kernel
theorem dX8_land_177 : decode cX8_land 177 = .ok (.iastore, 1) := by decide +kernel
theorem dX8_land_178 : decode cX8_land 178 = .ok (.iinc 2 1, 3) := by decide +kernel
theorem dX8_land_181 : decode cX8_land 181 = .ok (.goto (-21), 3) := by decide +kernel
theorem dX8_land_184 : decode cX8_land 184 = .ok (.aload_n 0, 1) := by decide +kernel
theorem dX8_land_185 : decode cX8_land 185 = .ok (.getfield 7, 3) := by decide +kernel
theorem dX8_land_188 : decode cX8_land 188 = .ok (.iconst 0, 1) := by decide +kernel
theorem dX8_land_189 : decode cX8_land 189 = .ok (.iconst 1, 1) := by decide +kernel
theorem dX8_land_190 : decode cX8_land 190 = .ok (.iastore, 1) := by decide +kernel
theorem dX8_land_191 : decode cX8_land 191 = .ok (.aload_n 0, 1) := by decide +kernel
theorem dX8_land_192 : decode cX8_land 192 = .ok (.getfield 7, 3) := by decide +kernel
theorem dX8_land_195 : decode cX8_land 195 = .ok (.bipush 42, 2) := by decide +kernel
theorem dX8_land_197 : decode cX8_land 197 = .ok (.iconst 1, 1) := by decide +kernel
theorem dX8_land_198 : decode cX8_land 198 = .ok (.aload_n 0, 1) := by decide +kernel
theorem dX8_land_199 : decode cX8_land 199 = .ok (.getfield 7, 3) := by decide +kernel
theorem dX8_land_202 : decode cX8_land 202 = .ok (.iconst 1, 1) := by decide +kernel
theorem dX8_land_203 : decode cX8_land 203 = .ok (.iaload, 1) := by decide +kernel
theorem dX8_land_204 : decode cX8_land 204 = .ok (.ishl, 1) := by decide +kernel
theorem dX8_land_205 : decode cX8_land 205 = .ok (.iconst 1, 1) := by decide +kernel
theorem dX8_land_206 : decode cX8_land 206 = .ok (.isub, 1) := by decide +kernel
theorem dX8_land_207 : decode cX8_land 207 = .ok (.iastore, 1) := by decide +kernel
theorem dX8_land_208 : decode cX8_land 208 = .ok (.aload_n 0, 1) := by decide +kernel
theorem dX8_land_209 : decode cX8_land 209 = .ok (.iconst 0, 1) := by decide +kernel
theorem dX8_land_210 : decode cX8_land 210 = .ok (.putfield 151, 3) := by decide +kernel
theorem dX8_land_213 : decode cX8_land 213 = .ok (.aload_n 0, 1) := by decide +kernel
theorem dX8_land_214 : decode cX8_land 214 = .ok (.getfield 7, 3) := by decide +kernel
theorem dX8_land_217 : decode cX8_land 217 = .ok (.iconst 1, 1) := by decide +kernel
theorem dX8_land_218 : decode cX8_land 218 = .ok (.iaload, 1) := by decide +kernel
theorem dX8_land_219 : decode cX8_land 219 = .ok (.ireturn, 1) := by decide +kernel
theorem dX8_fault_0 : decode cX8_fault 0 = .ok (.aload_n 0, 1) := by decide +kernel
theorem dX8_fault_1 : decode cX8_fault 1 = .ok (.getfield 147, 3) := by decide +kernel
theorem dX8_fault_4 : decode cX8_fault 4 = .ok (.ireturn, 1) := by decide +kernel
theorem dX8_isLand_0 : decode cX8_isLand 0 = .ok (.aload_n 0, 1) := by decide +kernel
theorem dX8_isLand_1 : decode cX8_isLand 1 = .ok (.getfield 7, 3) := by decide +kernel
theorem dX8_isLand_4 : decode cX8_isLand 4 = .ok (.iconst 0, 1) := by decide +kernel
theorem dX8_isLand_5 : decode cX8_isLand 5 = .ok (.iaload, 1) := by decide +kernel
theorem dX8_isLand_6 : decode cX8_isLand 6 = .ok (.iconst 1, 1) := by decide +kernel
theorem dX8_isLand_7 : decode cX8_isLand 7 = .ok (.if_icmp .ne 7, 3) := by decide +kernel
theorem dX8_isLand_10 : decode cX8_isLand 10 = .ok (.iconst 1, 1) := by decide +kernel
theorem dX8_isLand_11 : decode cX8_isLand 11 = .ok (.goto 4, 3) := by decide +kernel
theorem dX8_isLand_14 : decode cX8_isLand 14 = .ok (.iconst 0, 1) := by decide +kernel
theorem dX8_isLand_15 : decode cX8_isLand 15 = .ok (.ireturn, 1) := by decide +kernel
theorem dX8_isCrossing_0 : decode cX8_isCrossing 0 = .ok (.iload_n 1, 1) := by decide +kernel
theorem dX8_isCrossing_1 : decode cX8_isCrossing 1 = .ok (.iconst 0, 1) := by decide +kernel
theorem dX8_isCrossing_2 : decode cX8_isCrossing 2 = .ok (.aload_n 0, 1) := by decide +kernel
theorem dX8_isCrossing_3 : decode cX8_isCrossing 3 = .ok (.getfield 7, 3) := by decide +kernel
theorem dX8_isCrossing_6 : decode cX8_isCrossing 6 = .ok (.iconst 1, 1) := by decide +kernel
theorem dX8_isCrossing_7 : decode cX8_isCrossing 7 = .ok (.iaload, 1) := by decide +kernel
theorem dX8_isCrossing_8 : decode cX8_isCrossing 8 = .ok (.iconst 1, 1) := by decide +kernel
theorem dX8_isCrossing_9 : decode cX8_isCrossing 9 = .ok (.isub, 1) := by decide +kernel
theorem dX8_isCrossing_10 : decode cX8_isCrossing 10 = .ok (.invokestatic 50, 3) := by decide +kernel
theorem dX8_isCrossing_13 : decode cX8_isCrossing 13 = .ok (.ireturn, 1) := by decide +kernel
theorem dX8_isCarrier_0 : decode cX8_isCarrier 0 = .ok (.iload_n 1, 1) := by decide +kernel
theorem dX8_isCarrier_1 : decode cX8_isCarrier 1 = .ok (.iconst 0, 1) := by decide +kernel
theorem dX8_isCarrier_2 : decode cX8_isCarrier 2 = .ok (.aload_n 0, 1) := by decide +kernel
theorem dX8_isCarrier_3 : decode cX8_isCarrier 3 = .ok (.getfield 7, 3) := by decide +kernel
theorem dX8_isCarrier_6 : decode cX8_isCarrier 6 = .ok (.iconst 2, 1) := by decide +kernel
theorem dX8_isCarrier_7 : decode cX8_isCarrier 7 = .ok (.iaload, 1) := by decide +kernel
theorem dX8_isCarrier_8 : decode cX8_isCarrier 8 = .ok (.iconst 1, 1) := by decide +kernel
theorem dX8_isCarrier_9 : decode cX8_isCarrier 9 = .ok (.isub, 1) := by decide +kernel
theorem dX8_isCarrier_10 : decode cX8_isCarrier 10 = .ok (.invokestatic 50, 3) := by decide +kernel
theorem dX8_isCarrier_13 : decode cX8_isCarrier 13 = .ok (.ireturn, 1) := by decide +kernel
theorem dX8_isLoad_0 : decode cX8_isLoad 0 = .ok (.iload_n 1, 1) := by decide +kernel
theorem dX8_isLoad_1 : decode cX8_isLoad 1 = .ok (.iconst 0, 1) := by decide +kernel
theorem dX8_isLoad_2 : decode cX8_isLoad 2 = .ok (.aload_n 0, 1) := by decide +kernel
theorem dX8_isLoad_3 : decode cX8_isLoad 3 = .ok (.getfield 7, 3) := by decide +kernel
theorem dX8_isLoad_6 : decode cX8_isLoad 6 = .ok (.iconst 3, 1) := by decide +kernel
theorem dX8_isLoad_7 : decode cX8_isLoad 7 = .ok (.iaload, 1) := by decide +kernel
theorem dX8_isLoad_8 : decode cX8_isLoad 8 = .ok (.iconst 1, 1) := by decide +kernel
theorem dX8_isLoad_9 : decode cX8_isLoad 9 = .ok (.isub, 1) := by decide +kernel
theorem dX8_isLoad_10 : decode cX8_isLoad 10 = .ok (.invokestatic 50, 3) := by decide +kernel
theorem dX8_isLoad_13 : decode cX8_isLoad 13 = .ok (.ireturn, 1) := by decide +kernel
theorem dX8_of_0 : decode cX8_of 0 = .ok (.aload_n 0, 1) := by decide +kernel
theorem dX8_of_1 : decode cX8_of 1 = .ok (.getfield 7, 3) := by decide +kernel
theorem dX8_of_4 : decode cX8_of 4 = .ok (.iconst 4, 1) := by decide +kernel
theorem dX8_of_5 : decode cX8_of 5 = .ok (.iconst 4, 1) := by decide +kernel
theorem dX8_of_6 : decode cX8_of 6 = .ok (.iload_n 1, 1) := by decide +kernel
theorem dX8_of_7 : decode cX8_of 7 = .ok (.imul, 1) := by decide +kernel
theorem dX8_of_8 : decode cX8_of 8 = .ok (.iadd, 1) := by decide +kernel
theorem dX8_of_9 : decode cX8_of 9 = .ok (.iload_n 2, 1) := by decide +kernel
theorem dX8_of_10 : decode cX8_of 10 = .ok (.iadd, 1) := by decide +kernel
theorem dX8_of_11 : decode cX8_of 11 = .ok (.iaload, 1) := by decide +kernel
theorem dX8_of_12 : decode cX8_of 12 = .ok (.ireturn, 1) := by decide +kernel
theorem dX8_allOf_0 : decode cX8_allOf 0 = .ok (.iconst 0, 1) := by decide +kernel
theorem dX8_allOf_1 : decode cX8_allOf 1 = .ok (.istore_n 2, 1) := by decide +kernel
theorem dX8_allOf_2 : decode cX8_allOf 2 = .ok (.iconst 0, 1) := by decide +kernel
theorem dX8_allOf_3 : decode cX8_allOf 3 = .ok (.istore_n 3, 1) := by decide +kernel
theorem dX8_allOf_4 : decode cX8_allOf 4 = .ok (.iload_n 3, 1) := by decide +kernel
theorem dX8_allOf_5 : decode cX8_allOf 5 = .ok (.aload_n 0, 1) := by decide +kernel
theorem dX8_allOf_6 : decode cX8_allOf 6 = .ok (.getfield 7, 3) := by decide +kernel
theorem dX8_allOf_9 : decode cX8_allOf 9 = .ok (.iconst 1, 1) := by decide +kernel
theorem dX8_allOf_10 : decode cX8_allOf 10 = .ok (.iaload, 1) := by decide +kernel
theorem dX8_allOf_11 : decode cX8_allOf 11 = .ok (.if_icmp .ge 29, 3) := by decide +kernel
theorem dX8_allOf_14 : decode cX8_allOf 14 = .ok (.iload_n 2, 1) := by decide +kernel
theorem dX8_allOf_15 : decode cX8_allOf 15 = .ok (.aload_n 0, 1) := by decide +kernel
theorem dX8_allOf_16 : decode cX8_allOf 16 = .ok (.iload_n 3, 1) := by decide +kernel
theorem dX8_allOf_17 : decode cX8_allOf 17 = .ok (.iconst 0, 1) := by decide +kernel
theorem dX8_allOf_18 : decode cX8_allOf 18 = .ok (.invokevirtual 154, 3) := by decide +kernel
theorem dX8_allOf_21 : decode cX8_allOf 21 = .ok (.iload_n 1, 1) := by decide +kernel
theorem dX8_allOf_22 : decode cX8_allOf 22 = .ok (.if_icmp .ne 9, 3) := by decide +kernel
theorem dX8_allOf_25 : decode cX8_allOf 25 = .ok (.iconst 1, 1) := by decide +kernel
theorem dX8_allOf_26 : decode cX8_allOf 26 = .ok (.iload_n 3, 1) := by decide +kernel
theorem dX8_allOf_27 : decode cX8_allOf 27 = .ok (.ishl, 1) := by decide +kernel
theorem dX8_allOf_28 : decode cX8_allOf 28 = .ok (.goto 4, 3) := by decide +kernel
theorem dX8_allOf_31 : decode cX8_allOf 31 = .ok (.iconst 0, 1) := by decide +kernel
theorem dX8_allOf_32 : decode cX8_allOf 32 = .ok (.ior, 1) := by decide +kernel
theorem dX8_allOf_33 : decode cX8_allOf 33 = .ok (.istore_n 2, 1) := by decide +kernel
theorem dX8_allOf_34 : decode cX8_allOf 34 = .ok (.iinc 3 1, 3) := by decide +kernel
theorem dX8_allOf_37 : decode cX8_allOf 37 = .ok (.goto (-33), 3) := by decide +kernel
theorem dX8_allOf_40 : decode cX8_allOf 40 = .ok (.iload_n 2, 1) := by decide +kernel
theorem dX8_allOf_41 : decode cX8_allOf 41 = .ok (.ireturn, 1) := by decide +kernel
theorem dX8_over_0 : decode cX8_over 0 = .ok (.aload_n 0, 1) := by decide +kernel
theorem dX8_over_1 : decode cX8_over 1 = .ok (.iload_n 1, 1) := by decide +kernel
theorem dX8_over_2 : decode cX8_over 2 = .ok (.iconst 1, 1) := by decide +kernel
theorem dX8_over_3 : decode cX8_over 3 = .ok (.invokevirtual 154, 3) := by decide +kernel
theorem dX8_over_6 : decode cX8_over 6 = .ok (.istore_n 3, 1) := by decide +kernel
theorem dX8_over_7 : decode cX8_over 7 = .ok (.aload_n 0, 1) := by decide +kernel
theorem dX8_over_8 : decode cX8_over 8 = .ok (.iload_n 1, 1) := by decide +kernel
theorem dX8_over_9 : decode cX8_over 9 = .ok (.iconst 2, 1) := by decide +kernel
theorem dX8_over_10 : decode cX8_over 10 = .ok (.invokevirtual 154, 3) := by decide +kernel
theorem dX8_over_13 : decode cX8_over 13 = .ok (.istore 4, 2) := by decide +kernel
theorem dX8_over_15 : decode cX8_over 15 = .ok (.aload_n 0, 1) := by decide +kernel
theorem dX8_over_16 : decode cX8_over 16 = .ok (.getfield 7, 3) := by decide +kernel
theorem dX8_over_19 : decode cX8_over 19 = .ok (.bipush 42, 2) := by decide +kernel
theorem dX8_over_21 : decode cX8_over 21 = .ok (.iaload, 1) := by decide +kernel
theorem dX8_over_22 : decode cX8_over 22 = .ok (.iload_n 1, 1) := by decide +kernel
theorem dX8_over_23 : decode cX8_over 23 = .ok (.invokestatic 158, 3) := by decide +kernel
theorem dX8_over_26 : decode cX8_over 26 = .ok (.ifCond .ne 8, 3) := by decide +kernel
theorem dX8_over_29 : decode cX8_over 29 = .ok (.ldc 44, 2) := by decide +kernel
theorem dX8_over_31 : decode cX8_over 31 = .ok (.goto 25, 3) := by decide +kernel
theorem dX8_over_34 : decode cX8_over 34 = .ok (.iload_n 3, 1) := by decide +kernel
theorem dX8_over_35 : decode cX8_over 35 = .ok (.iload_n 2, 1) := by decide +kernel
theorem dX8_over_36 : decode cX8_over 36 = .ok (.if_icmp .ne 8, 3) := by decide +kernel
theorem dX8_over_39 : decode cX8_over 39 = .ok (.iload 4, 2) := by decide +kernel
theorem dX8_over_41 : decode cX8_over 41 = .ok (.goto 15, 3) := by decide +kernel
theorem dX8_over_44 : decode cX8_over 44 = .ok (.iload 4, 2) := by decide +kernel
theorem dX8_over_46 : decode cX8_over 46 = .ok (.iload_n 2, 1) := by decide +kernel
theorem dX8_over_47 : decode cX8_over 47 = .ok (.if_icmp .ne 7, 3) := by decide +kernel
theorem dX8_over_50 : decode cX8_over 50 = .ok (.iload_n 3, 1) := by decide +kernel
theorem dX8_over_51 : decode cX8_over 51 = .ok (.goto 5, 3) := by decide +kernel
theorem dX8_over_54 : decode cX8_over 54 = .ok (.ldc 44, 2) := by decide +kernel
theorem dX8_over_56 : decode cX8_over 56 = .ok (.ireturn, 1) := by decide +kernel
theorem dX8_nextOf_0 : decode cX8_nextOf 0 = .ok (.aload_n 0, 1) := by decide +kernel
theorem dX8_nextOf_1 : decode cX8_nextOf 1 = .ok (.getfield 7, 3) := by decide +kernel
theorem dX8_nextOf_4 : decode cX8_nextOf 4 = .ok (.bipush 38, 2) := by decide +kernel
theorem dX8_nextOf_6 : decode cX8_nextOf 6 = .ok (.iload_n 1, 1) := by decide +kernel
theorem dX8_nextOf_7 : decode cX8_nextOf 7 = .ok (.iadd, 1) := by decide +kernel
theorem dX8_nextOf_8 : decode cX8_nextOf 8 = .ok (.iaload, 1) := by decide +kernel
theorem dX8_nextOf_9 : decode cX8_nextOf 9 = .ok (.aload_n 0, 1) := by decide +kernel
theorem dX8_nextOf_10 : decode cX8_nextOf 10 = .ok (.iconst 1, 1) := by decide +kernel
theorem dX8_nextOf_11 : decode cX8_nextOf 11 = .ok (.invokevirtual 162, 3) := by decide +kernel
theorem dX8_nextOf_14 : decode cX8_nextOf 14 = .ok (.iand, 1) := by decide +kernel
theorem dX8_nextOf_15 : decode cX8_nextOf 15 = .ok (.aload_n 0, 1) := by decide +kernel
theorem dX8_nextOf_16 : decode cX8_nextOf 16 = .ok (.getfield 7, 3) := by decide +kernel
theorem dX8_nextOf_19 : decode cX8_nextOf 19 = .ok (.bipush 41, 2) := by decide +kernel
theorem dX8_nextOf_21 : decode cX8_nextOf 21 = .ok (.iaload, 1) := by decide +kernel
theorem dX8_nextOf_22 : decode cX8_nextOf 22 = .ok (.aload_n 0, 1) := by decide +kernel
theorem dX8_nextOf_23 : decode cX8_nextOf 23 = .ok (.iconst 2, 1) := by decide +kernel
theorem dX8_nextOf_24 : decode cX8_nextOf 24 = .ok (.invokevirtual 162, 3) := by decide +kernel
theorem dX8_nextOf_27 : decode cX8_nextOf 27 = .ok (.iand, 1) := by decide +kernel
theorem dX8_nextOf_28 : decode cX8_nextOf 28 = .ok (.ior, 1) := by decide +kernel
theorem dX8_nextOf_29 : decode cX8_nextOf 29 = .ok (.ireturn, 1) := by decide +kernel
theorem dX8_lets_0 : decode cX8_lets 0 = .ok (.aload_n 0, 1) := by decide +kernel
theorem dX8_lets_1 : decode cX8_lets 1 = .ok (.iload_n 1, 1) := by decide +kernel
theorem dX8_lets_2 : decode cX8_lets 2 = .ok (.iconst 0, 1) := by decide +kernel
theorem dX8_lets_3 : decode cX8_lets 3 = .ok (.invokevirtual 154, 3) := by decide +kernel
theorem dX8_lets_6 : decode cX8_lets 6 = .ok (.tableswitch 40 3 5 #[26, 28, 38], 26) := by decide +kernel
theorem dX8_lets_32 : decode cX8_lets 32 = .ok (.iconst 1, 1) := by decide +kernel
theorem dX8_lets_33 : decode cX8_lets 33 = .ok (.ireturn, 1) := by decide +kernel
theorem dX8_lets_34 : decode cX8_lets 34 = .ok (.iload_n 2, 1) := by decide +kernel
theorem dX8_lets_35 : decode cX8_lets 35 = .ok (.ifCond .ne 7, 3) := by decide +kernel
theorem dX8_lets_38 : decode cX8_lets 38 = .ok (.iconst 1, 1) := by decide +kernel
theorem dX8_lets_39 : decode cX8_lets 39 = .ok (.goto 4, 3) := by decide +kernel
theorem dX8_lets_42 : decode cX8_lets 42 = .ok (.iconst 0, 1) := by decide +kernel
theorem dX8_lets_43 : decode cX8_lets 43 = .ok (.ireturn, 1) := by decide +kernel
theorem dX8_lets_44 : decode cX8_lets 44 = .ok (.iload_n 2, 1) := by decide +kernel
theorem dX8_lets_45 : decode cX8_lets 45 = .ok (.ireturn, 1) := by decide +kernel
theorem dX8_lets_46 : decode cX8_lets 46 = .ok (.iload_n 3, 1) := by decide +kernel
theorem dX8_lets_47 : decode cX8_lets 47 = .ok (.iload_n 1, 1) := by decide +kernel
theorem dX8_lets_48 : decode cX8_lets 48 = .ok (.invokestatic 158, 3) := by decide +kernel
theorem dX8_lets_51 : decode cX8_lets 51 = .ok (.iload_n 2, 1) := by decide +kernel
theorem dX8_lets_52 : decode cX8_lets 52 = .ok (.if_icmp .ne 7, 3) := by decide +kernel
theorem dX8_lets_55 : decode cX8_lets 55 = .ok (.iconst 1, 1) := by decide +kernel
theorem dX8_lets_56 : decode cX8_lets 56 = .ok (.goto 4, 3) := by decide +kernel
theorem dX8_lets_59 : decode cX8_lets 59 = .ok (.iconst 0, 1) := by decide +kernel
theorem dX8_lets_60 : decode cX8_lets 60 = .ok (.ireturn, 1) := by decide +kernel
theorem dX8_mayGo_0 : decode cX8_mayGo 0 = .ok (.aload_n 0, 1) := by decide +kernel
theorem dX8_mayGo_1 : decode cX8_mayGo 1 = .ok (.iload_n 2, 1) := by decide +kernel
theorem dX8_mayGo_2 : decode cX8_mayGo 2 = .ok (.aload_n 0, 1) := by decide +kernel
theorem dX8_mayGo_3 : decode cX8_mayGo 3 = .ok (.getfield 7, 3) := by decide +kernel
theorem dX8_mayGo_6 : decode cX8_mayGo 6 = .ok (.bipush 32, 2) := by decide +kernel
theorem dX8_mayGo_8 : decode cX8_mayGo 8 = .ok (.iload_n 1, 1) := by decide +kernel
theorem dX8_mayGo_9 : decode cX8_mayGo 9 = .ok (.iadd, 1) := by decide +kernel
theorem dX8_mayGo_10 : decode cX8_mayGo 10 = .ok (.iaload, 1) := by decide +kernel
theorem dX8_mayGo_11 : decode cX8_mayGo 11 = .ok (.invokevirtual 165, 3) := by decide +kernel
theorem dX8_mayGo_14 : decode cX8_mayGo 14 = .ok (.ldc 44, 2) := by decide +kernel
theorem dX8_mayGo_16 : decode cX8_mayGo 16 = .ok (.if_icmp .eq 39, 3) := by decide +kernel
theorem dX8_mayGo_19 : decode cX8_mayGo 19 = .ok (.aload_n 0, 1) := by decide +kernel
theorem dX8_mayGo_20 : decode cX8_mayGo 20 = .ok (.iload_n 2, 1) := by decide +kernel
theorem dX8_mayGo_21 : decode cX8_mayGo 21 = .ok (.aload_n 0, 1) := by decide +kernel
theorem dX8_mayGo_22 : decode cX8_mayGo 22 = .ok (.getfield 7, 3) := by decide +kernel
theorem dX8_mayGo_25 : decode cX8_mayGo 25 = .ok (.bipush 35, 2) := by decide +kernel
theorem dX8_mayGo_27 : decode cX8_mayGo 27 = .ok (.iload_n 1, 1) := by decide +kernel
theorem dX8_mayGo_28 : decode cX8_mayGo 28 = .ok (.iadd, 1) := by decide +kernel
theorem dX8_mayGo_29 : decode cX8_mayGo 29 = .ok (.iaload, 1) := by decide +kernel
theorem dX8_mayGo_30 : decode cX8_mayGo 30 = .ok (.ldc 44, 2) := by decide +kernel
theorem dX8_mayGo_32 : decode cX8_mayGo 32 = .ok (.if_icmp .eq 7, 3) := by decide +kernel
theorem dX8_mayGo_35 : decode cX8_mayGo 35 = .ok (.iconst 1, 1) := by decide +kernel
theorem dX8_mayGo_36 : decode cX8_mayGo 36 = .ok (.goto 4, 3) := by decide +kernel
theorem dX8_mayGo_39 : decode cX8_mayGo 39 = .ok (.iconst 0, 1) := by decide +kernel
theorem dX8_mayGo_40 : decode cX8_mayGo 40 = .ok (.aload_n 0, 1) := by decide +kernel
theorem dX8_mayGo_41 : decode cX8_mayGo 41 = .ok (.iload_n 1, 1) := by decide +kernel
theorem dX8_mayGo_42 : decode cX8_mayGo 42 = .ok (.invokevirtual 168, 3) := by decide +kernel
theorem dX8_mayGo_45 : decode cX8_mayGo 45 = .ok (.invokevirtual 171, 3) := by decide +kernel
theorem dX8_mayGo_48 : decode cX8_mayGo 48 = .ok (.ifCond .eq 7, 3) := by decide +kernel
theorem dX8_mayGo_51 : decode cX8_mayGo 51 = .ok (.iconst 1, 1) := by decide +kernel
theorem dX8_mayGo_52 : decode cX8_mayGo 52 = .ok (.goto 4, 3) := by decide +kernel
theorem dX8_mayGo_55 : decode cX8_mayGo 55 = .ok (.iconst 0, 1) := by decide +kernel
theorem dX8_mayGo_56 : decode cX8_mayGo 56 = .ok (.ireturn, 1) := by decide +kernel
theorem dX8_remembers_0 : decode cX8_remembers 0 = .ok (.aload_n 0, 1) := by decide +kernel
theorem dX8_remembers_1 : decode cX8_remembers 1 = .ok (.getfield 151, 3) := by decide +kernel
theorem dX8_remembers_4 : decode cX8_remembers 4 = .ok (.bipush 24, 2) := by decide +kernel
theorem dX8_remembers_6 : decode cX8_remembers 6 = .ok (.if_icmp .ne 43, 3) := by decide +kernel
theorem dX8_remembers_9 : decode cX8_remembers 9 = .ok (.iconst 0, 1) := by decide +kernel
theorem dX8_remembers_10 : decode cX8_remembers 10 = .ok (.istore_n 1, 1) := by decide +kernel
theorem dX8_remembers_11 : decode cX8_remembers 11 = .ok (.iload_n 1, 1) := by decide +kernel
theorem dX8_remembers_12 : decode cX8_remembers 12 = .ok (.sipush 368, 3) := by decide +kernel
theorem dX8_remembers_15 : decode cX8_remembers 15 = .ok (.if_icmp .ge 24, 3) := by decide +kernel
theorem dX8_remembers_18 : decode cX8_remembers 18 = .ok (.aload_n 0, 1) := by decide +kernel
theorem dX8_remembers_19 : decode cX8_remembers 19 = .ok (.getfield 20, 3) := by decide +kernel
theorem dX8_remembers_22 : decode cX8_remembers 22 = .ok (.iload_n 1, 1) := by decide +kernel
theorem dX8_remembers_23 : decode cX8_remembers 23 = .ok (.aload_n 0, 1) := by decide +kernel
theorem dX8_remembers_24 : decode cX8_remembers 24 = .ok (.getfield 20, 3) := by decide +kernel
theorem dX8_remembers_27 : decode cX8_remembers 27 = .ok (.iload_n 1, 1) := by decide +kernel
theorem dX8_remembers_28 : decode cX8_remembers 28 = .ok (.bipush 16, 2) := by decide +kernel
theorem dX8_remembers_30 : decode cX8_remembers 30 = .ok (.iadd, 1) := by decide +kernel
theorem dX8_remembers_31 : decode cX8_remembers 31 = .ok (.iaload, 1) := by decide +kernel
theorem dX8_remembers_32 : decode cX8_remembers 32 = .ok (.iastore, 1) := by decide +kernel
theorem dX8_remembers_33 : decode cX8_remembers 33 = .ok (.iinc 1 1, 3) := by decide +kernel
theorem dX8_remembers_36 : decode cX8_remembers 36 = .ok (.goto (-25), 3) := by decide +kernel
theorem dX8_remembers_39 : decode cX8_remembers 39 = .ok (.aload_n 0, 1) := by decide +kernel
theorem dX8_remembers_40 : decode cX8_remembers 40 = .ok (.dup, 1) := by decide +kernel
theorem dX8_remembers_41 : decode cX8_remembers 41 = .ok (.getfield 151, 3) := by decide +kernel
theorem dX8_remembers_44 : decode cX8_remembers 44 = .ok (.iconst 1, 1) := by decide +kernel
theorem dX8_remembers_45 : decode cX8_remembers 45 = .ok (.isub, 1) := by decide +kernel
theorem dX8_remembers_46 : decode cX8_remembers 46 = .ok (.putfield 151, 3) := by decide +kernel
theorem dX8_remembers_49 : decode cX8_remembers 49 = .ok (.iconst 0, 1) := by decide +kernel
theorem dX8_remembers_50 : decode cX8_remembers 50 = .ok (.istore_n 1, 1) := by decide +kernel
theorem dX8_remembers_51 : decode cX8_remembers 51 = .ok (.iload_n 1, 1) := by decide +kernel
theorem dX8_remembers_52 : decode cX8_remembers 52 = .ok (.bipush 16, 2) := by decide +kernel
theorem dX8_remembers_54 : decode cX8_remembers 54 = .ok (.if_icmp .ge 32, 3) := by decide +kernel
theorem dX8_remembers_57 : decode cX8_remembers 57 = .ok (.aload_n 0, 1) := by decide +kernel
theorem dX8_remembers_58 : decode cX8_remembers 58 = .ok (.getfield 20, 3) := by decide +kernel
theorem dX8_remembers_61 : decode cX8_remembers 61 = .ok (.bipush 16, 2) := by decide +kernel
theorem dX8_remembers_63 : decode cX8_remembers 63 = .ok (.aload_n 0, 1) := by decide +kernel
theorem dX8_remembers_64 : decode cX8_remembers 64 = .ok (.getfield 151, 3) := by decide +kernel
theorem dX8_remembers_67 : decode cX8_remembers 67 = .ok (.imul, 1) := by decide +kernel
theorem dX8_remembers_68 : decode cX8_remembers 68 = .ok (.iload_n 1, 1) := by decide +kernel
theorem dX8_remembers_69 : decode cX8_remembers 69 = .ok (.iadd, 1) := by decide +kernel
theorem dX8_remembers_70 : decode cX8_remembers 70 = .ok (.aload_n 0, 1) := by decide +kernel
theorem dX8_remembers_71 : decode cX8_remembers 71 = .ok (.getfield 7, 3) := by decide +kernel
theorem dX8_remembers_74 : decode cX8_remembers 74 = .ok (.bipush 32, 2) := by decide +kernel
theorem dX8_remembers_76 : decode cX8_remembers 76 = .ok (.iload_n 1, 1) := by decide +kernel
theorem dX8_remembers_77 : decode cX8_remembers 77 = .ok (.iadd, 1) := by decide +kernel
theorem dX8_remembers_78 : decode cX8_remembers 78 = .ok (.iaload, 1) := by decide +kernel
theorem dX8_remembers_79 : decode cX8_remembers 79 = .ok (.iastore, 1) := by decide +kernel
theorem dX8_remembers_80 : decode cX8_remembers 80 = .ok (.iinc 1 1, 3) := by decide +kernel
theorem dX8_remembers_83 : decode cX8_remembers 83 = .ok (.goto (-32), 3) := by decide +kernel
theorem dX8_remembers_86 : decode cX8_remembers 86 = .ok (.aload_n 0, 1) := by decide +kernel
theorem dX8_remembers_87 : decode cX8_remembers 87 = .ok (.dup, 1) := by decide +kernel
theorem dX8_remembers_88 : decode cX8_remembers 88 = .ok (.getfield 151, 3) := by decide +kernel
theorem dX8_remembers_91 : decode cX8_remembers 91 = .ok (.iconst 1, 1) := by decide +kernel
theorem dX8_remembers_92 : decode cX8_remembers 92 = .ok (.iadd, 1) := by decide +kernel
theorem dX8_remembers_93 : decode cX8_remembers 93 = .ok (.putfield 151, 3) := by decide +kernel
theorem dX8_remembers_96 : decode cX8_remembers 96 = .ok (.return_, 1) := by decide +kernel
theorem dX8_go_0 : decode cX8_go 0 = .ok (.aload_n 0, 1) := by decide +kernel
theorem dX8_go_1 : decode cX8_go 1 = .ok (.iload_n 1, 1) := by decide +kernel
theorem dX8_go_2 : decode cX8_go 2 = .ok (.invokevirtual 175, 3) := by decide +kernel
theorem dX8_go_5 : decode cX8_go 5 = .ok (.ifCond .eq 11, 3) := by decide +kernel
theorem dX8_go_8 : decode cX8_go 8 = .ok (.aload_n 0, 1) := by decide +kernel
theorem dX8_go_9 : decode cX8_go 9 = .ok (.iload_n 2, 1) := by decide +kernel
theorem dX8_go_10 : decode cX8_go 10 = .ok (.invokevirtual 178, 3) := by decide +kernel
theorem dX8_go_13 : decode cX8_go 13 = .ok (.ifCond .ne 6, 3) := by decide +kernel
theorem dX8_go_16 : decode cX8_go 16 = .ok (.ldc 58, 2) := by decide +kernel
theorem dX8_go_18 : decode cX8_go 18 = .ok (.ireturn, 1) := by decide +kernel
theorem dX8_go_19 : decode cX8_go 19 = .ok (.aload_n 0, 1) := by decide +kernel
theorem dX8_go_20 : decode cX8_go 20 = .ok (.iload_n 1, 1) := by decide +kernel
theorem dX8_go_21 : decode cX8_go 21 = .ok (.iload_n 2, 1) := by decide +kernel
theorem dX8_go_22 : decode cX8_go 22 = .ok (.invokevirtual 181, 3) := by decide +kernel
theorem dX8_go_25 : decode cX8_go 25 = .ok (.ifCond .ne 6, 3) := by decide +kernel
theorem dX8_go_28 : decode cX8_go 28 = .ok (.ldc 184, 2) := by decide +kernel
theorem dX8_go_30 : decode cX8_go 30 = .ok (.ireturn, 1) := by decide +kernel
theorem dX8_go_31 : decode cX8_go 31 = .ok (.aload_n 0, 1) := by decide +kernel
theorem dX8_go_32 : decode cX8_go 32 = .ok (.invokevirtual 185, 3) := by decide +kernel
theorem dX8_go_35 : decode cX8_go 35 = .ok (.aload_n 0, 1) := by decide +kernel
theorem dX8_go_36 : decode cX8_go 36 = .ok (.getfield 7, 3) := by decide +kernel
theorem dX8_go_39 : decode cX8_go 39 = .ok (.bipush 32, 2) := by decide +kernel
theorem dX8_go_41 : decode cX8_go 41 = .ok (.iload_n 1, 1) := by decide +kernel
theorem dX8_go_42 : decode cX8_go 42 = .ok (.iadd, 1) := by decide +kernel
theorem dX8_go_43 : decode cX8_go 43 = .ok (.aload_n 0, 1) := by decide +kernel
theorem dX8_go_44 : decode cX8_go 44 = .ok (.iload_n 2, 1) := by decide +kernel
theorem dX8_go_45 : decode cX8_go 45 = .ok (.aload_n 0, 1) := by decide +kernel
theorem dX8_go_46 : decode cX8_go 46 = .ok (.getfield 7, 3) := by decide +kernel
theorem dX8_go_49 : decode cX8_go 49 = .ok (.bipush 32, 2) := by decide +kernel
theorem dX8_go_51 : decode cX8_go 51 = .ok (.iload_n 1, 1) := by decide +kernel
theorem dX8_go_52 : decode cX8_go 52 = .ok (.iadd, 1) := by decide +kernel
theorem dX8_go_53 : decode cX8_go 53 = .ok (.iaload, 1) := by decide +kernel
theorem dX8_go_54 : decode cX8_go 54 = .ok (.invokevirtual 165, 3) := by decide +kernel
theorem dX8_go_57 : decode cX8_go 57 = .ok (.iastore, 1) := by decide +kernel
theorem dX8_go_58 : decode cX8_go 58 = .ok (.aload_n 0, 1) := by decide +kernel
theorem dX8_go_59 : decode cX8_go 59 = .ok (.iload_n 2, 1) := by decide +kernel
theorem dX8_go_60 : decode cX8_go 60 = .ok (.iconst 0, 1) := by decide +kernel
theorem dX8_go_61 : decode cX8_go 61 = .ok (.invokevirtual 154, 3) := by decide +kernel
theorem dX8_go_64 : decode cX8_go 64 = .ok (.iconst 1, 1) := by decide +kernel
theorem dX8_go_65 : decode cX8_go 65 = .ok (.if_icmp .ne 18, 3) := by decide +kernel
theorem dX8_go_68 : decode cX8_go 68 = .ok (.aload_n 0, 1) := by decide +kernel
theorem dX8_go_69 : decode cX8_go 69 = .ok (.getfield 7, 3) := by decide +kernel
theorem dX8_go_72 : decode cX8_go 72 = .ok (.bipush 38, 2) := by decide +kernel
theorem dX8_go_74 : decode cX8_go 74 = .ok (.iload_n 1, 1) := by decide +kernel
theorem dX8_go_75 : decode cX8_go 75 = .ok (.iadd, 1) := by decide +kernel
theorem dX8_go_76 : decode cX8_go 76 = .ok (.dup2, 1) := by decide +kernel
theorem dX8_go_77 : decode cX8_go 77 = .ok (.iaload, 1) := by decide +kernel
theorem dX8_go_78 : decode cX8_go 78 = .ok (.iconst 1, 1) := by decide +kernel
theorem dX8_go_79 : decode cX8_go 79 = .ok (.iload_n 2, 1) := by decide +kernel
theorem dX8_go_80 : decode cX8_go 80 = .ok (.ishl, 1) := by decide +kernel
theorem dX8_go_81 : decode cX8_go 81 = .ok (.ixor, 1) := by decide +kernel
theorem dX8_go_82 : decode cX8_go 82 = .ok (.iastore, 1) := by decide +kernel
theorem dX8_go_83 : decode cX8_go 83 = .ok (.aload_n 0, 1) := by decide +kernel
theorem dX8_go_84 : decode cX8_go 84 = .ok (.iload_n 2, 1) := by decide +kernel
theorem dX8_go_85 : decode cX8_go 85 = .ok (.iconst 0, 1) := by decide +kernel
theorem dX8_go_86 : decode cX8_go 86 = .ok (.invokevirtual 154, 3) := by decide +kernel
theorem dX8_go_89 : decode cX8_go 89 = .ok (.iconst 2, 1) := by decide +kernel
theorem dX8_go_90 : decode cX8_go 90 = .ok (.if_icmp .ne 16, 3) := by decide +kernel
theorem dX8_go_93 : decode cX8_go 93 = .ok (.aload_n 0, 1) := by decide +kernel
theorem dX8_go_94 : decode cX8_go 94 = .ok (.getfield 7, 3) := by decide +kernel
theorem dX8_go_97 : decode cX8_go 97 = .ok (.bipush 41, 2) := by decide +kernel
theorem dX8_go_99 : decode cX8_go 99 = .ok (.dup2, 1) := by decide +kernel
theorem dX8_go_100 : decode cX8_go 100 = .ok (.iaload, 1) := by decide +kernel
theorem dX8_go_101 : decode cX8_go 101 = .ok (.iconst 1, 1) := by decide +kernel
theorem dX8_go_102 : decode cX8_go 102 = .ok (.iload_n 2, 1) := by decide +kernel
theorem dX8_go_103 : decode cX8_go 103 = .ok (.ishl, 1) := by decide +kernel
theorem dX8_go_104 : decode cX8_go 104 = .ok (.ixor, 1) := by decide +kernel
theorem dX8_go_105 : decode cX8_go 105 = .ok (.iastore, 1) := by decide +kernel
theorem dX8_go_106 : decode cX8_go 106 = .ok (.aload_n 0, 1) := by decide +kernel
theorem dX8_go_107 : decode cX8_go 107 = .ok (.getfield 7, 3) := by decide +kernel
theorem dX8_go_110 : decode cX8_go 110 = .ok (.bipush 47, 2) := by decide +kernel
theorem dX8_go_112 : decode cX8_go 112 = .ok (.dup2, 1) := by decide +kernel
theorem dX8_go_113 : decode cX8_go 113 = .ok (.iaload, 1) := by decide +kernel
theorem dX8_go_114 : decode cX8_go 114 = .ok (.aload_n 0, 1) := by decide +kernel
theorem dX8_go_115 : decode cX8_go 115 = .ok (.iload_n 2, 1) := by decide +kernel
theorem dX8_go_116 : decode cX8_go 116 = .ok (.iconst 3, 1) := by decide +kernel
theorem dX8_go_117 : decode cX8_go 117 = .ok (.invokevirtual 154, 3) := by decide +kernel
theorem dX8_go_120 : decode cX8_go 120 = .ok (.iadd, 1) := by decide +kernel
theorem dX8_go_121 : decode cX8_go 121 = .ok (.iastore, 1) := by decide +kernel
theorem dX8_go_122 : decode cX8_go 122 = .ok (.aload_n 0, 1) := by decide +kernel
theorem dX8_go_123 : decode cX8_go 123 = .ok (.getfield 7, 3) := by decide +kernel
theorem dX8_go_126 : decode cX8_go 126 = .ok (.bipush 32, 2) := by decide +kernel
theorem dX8_go_128 : decode cX8_go 128 = .ok (.iload_n 1, 1) := by decide +kernel
theorem dX8_go_129 : decode cX8_go 129 = .ok (.iadd, 1) := by decide +kernel
theorem dX8_go_130 : decode cX8_go 130 = .ok (.iaload, 1) := by decide +kernel
theorem dX8_go_131 : decode cX8_go 131 = .ok (.ireturn, 1) := by decide +kernel
theorem dX8_take_0 : decode cX8_take 0 = .ok (.aload_n 0, 1) := by decide +kernel
theorem dX8_take_1 : decode cX8_take 1 = .ok (.iload_n 1, 1) := by decide +kernel
theorem dX8_take_2 : decode cX8_take 2 = .ok (.invokevirtual 175, 3) := by decide +kernel
theorem dX8_take_5 : decode cX8_take 5 = .ok (.ifCond .eq 11, 3) := by decide +kernel
theorem dX8_take_8 : decode cX8_take 8 = .ok (.aload_n 0, 1) := by decide +kernel
theorem dX8_take_9 : decode cX8_take 9 = .ok (.iload_n 2, 1) := by decide +kernel
theorem dX8_take_10 : decode cX8_take 10 = .ok (.invokevirtual 188, 3) := by decide +kernel
theorem dX8_take_13 : decode cX8_take 13 = .ok (.ifCond .ne 6, 3) := by decide +kernel
theorem dX8_take_16 : decode cX8_take 16 = .ok (.ldc 58, 2) := by decide +kernel
theorem dX8_take_18 : decode cX8_take 18 = .ok (.ireturn, 1) := by decide +kernel
theorem dX8_take_19 : decode cX8_take 19 = .ok (.aload_n 0, 1) := by decide +kernel
theorem dX8_take_20 : decode cX8_take 20 = .ok (.getfield 7, 3) := by decide +kernel
theorem dX8_take_23 : decode cX8_take 23 = .ok (.bipush 35, 2) := by decide +kernel
theorem dX8_take_25 : decode cX8_take 25 = .ok (.iload_n 1, 1) := by decide +kernel
theorem dX8_take_26 : decode cX8_take 26 = .ok (.iadd, 1) := by decide +kernel
theorem dX8_take_27 : decode cX8_take 27 = .ok (.iaload, 1) := by decide +kernel
theorem dX8_take_28 : decode cX8_take 28 = .ok (.ldc 44, 2) := by decide +kernel
theorem dX8_take_30 : decode cX8_take 30 = .ok (.if_icmp .ne 24, 3) := by decide +kernel
theorem dX8_take_33 : decode cX8_take 33 = .ok (.aload_n 0, 1) := by decide +kernel
theorem dX8_take_34 : decode cX8_take 34 = .ok (.getfield 7, 3) := by decide +kernel
theorem dX8_take_37 : decode cX8_take 37 = .ok (.bipush 43, 2) := by decide +kernel
theorem dX8_take_39 : decode cX8_take 39 = .ok (.iload_n 2, 1) := by decide +kernel
theorem dX8_take_40 : decode cX8_take 40 = .ok (.iadd, 1) := by decide +kernel
theorem dX8_take_41 : decode cX8_take 41 = .ok (.iaload, 1) := by decide +kernel
theorem dX8_take_42 : decode cX8_take 42 = .ok (.aload_n 0, 1) := by decide +kernel
theorem dX8_take_43 : decode cX8_take 43 = .ok (.getfield 7, 3) := by decide +kernel
theorem dX8_take_46 : decode cX8_take 46 = .ok (.bipush 32, 2) := by decide +kernel
theorem dX8_take_48 : decode cX8_take 48 = .ok (.iload_n 1, 1) := by decide +kernel
theorem dX8_take_49 : decode cX8_take 49 = .ok (.iadd, 1) := by decide +kernel
theorem dX8_take_50 : decode cX8_take 50 = .ok (.iaload, 1) := by decide +kernel
theorem dX8_take_51 : decode cX8_take 51 = .ok (.if_icmp .eq 6, 3) := by decide +kernel
theorem dX8_take_54 : decode cX8_take 54 = .ok (.ldc 184, 2) := by decide +kernel
theorem dX8_take_56 : decode cX8_take 56 = .ok (.ireturn, 1) := by decide +kernel
theorem dX8_take_57 : decode cX8_take 57 = .ok (.aload_n 0, 1) := by decide +kernel
theorem dX8_take_58 : decode cX8_take 58 = .ok (.invokevirtual 185, 3) := by decide +kernel
theorem dX8_take_61 : decode cX8_take 61 = .ok (.aload_n 0, 1) := by decide +kernel
theorem dX8_take_62 : decode cX8_take 62 = .ok (.getfield 7, 3) := by decide +kernel
theorem dX8_take_65 : decode cX8_take 65 = .ok (.bipush 35, 2) := by decide +kernel
theorem dX8_take_67 : decode cX8_take 67 = .ok (.iload_n 1, 1) := by decide +kernel
theorem dX8_take_68 : decode cX8_take 68 = .ok (.iadd, 1) := by decide +kernel
theorem dX8_take_69 : decode cX8_take 69 = .ok (.iload_n 2, 1) := by decide +kernel
theorem dX8_take_70 : decode cX8_take 70 = .ok (.iastore, 1) := by decide +kernel
theorem dX8_take_71 : decode cX8_take 71 = .ok (.aload_n 0, 1) := by decide +kernel
theorem dX8_take_72 : decode cX8_take 72 = .ok (.getfield 7, 3) := by decide +kernel
theorem dX8_take_75 : decode cX8_take 75 = .ok (.bipush 43, 2) := by decide +kernel
theorem dX8_take_77 : decode cX8_take 77 = .ok (.iload_n 2, 1) := by decide +kernel
theorem dX8_take_78 : decode cX8_take 78 = .ok (.iadd, 1) := by decide +kernel
theorem dX8_take_79 : decode cX8_take 79 = .ok (.ldc 44, 2) := by decide +kernel
theorem dX8_take_81 : decode cX8_take 81 = .ok (.iastore, 1) := by decide +kernel
theorem dX8_take_82 : decode cX8_take 82 = .ok (.iload_n 2, 1) := by decide +kernel
theorem dX8_take_83 : decode cX8_take 83 = .ok (.ireturn, 1) := by decide +kernel
theorem dX8_lay_0 : decode cX8_lay 0 = .ok (.aload_n 0, 1) := by decide +kernel
theorem dX8_lay_1 : decode cX8_lay 1 = .ok (.iload_n 1, 1) := by decide +kernel
theorem dX8_lay_2 : decode cX8_lay 2 = .ok (.invokevirtual 175, 3) := by decide +kernel
theorem dX8_lay_5 : decode cX8_lay 5 = .ok (.ifCond .ne 6, 3) := by decide +kernel
theorem dX8_lay_8 : decode cX8_lay 8 = .ok (.ldc 58, 2) := by decide +kernel
theorem dX8_lay_10 : decode cX8_lay 10 = .ok (.ireturn, 1) := by decide +kernel
theorem dX8_lay_11 : decode cX8_lay 11 = .ok (.aload_n 0, 1) := by decide +kernel
theorem dX8_lay_12 : decode cX8_lay 12 = .ok (.getfield 7, 3) := by decide +kernel
theorem dX8_lay_15 : decode cX8_lay 15 = .ok (.bipush 35, 2) := by decide +kernel
theorem dX8_lay_17 : decode cX8_lay 17 = .ok (.iload_n 1, 1) := by decide +kernel
theorem dX8_lay_18 : decode cX8_lay 18 = .ok (.iadd, 1) := by decide +kernel
theorem dX8_lay_19 : decode cX8_lay 19 = .ok (.iaload, 1) := by decide +kernel
theorem dX8_lay_20 : decode cX8_lay 20 = .ok (.istore_n 2, 1) := by decide +kernel
theorem dX8_lay_21 : decode cX8_lay 21 = .ok (.iload_n 2, 1) := by decide +kernel
theorem dX8_lay_22 : decode cX8_lay 22 = .ok (.ldc 44, 2) := by decide +kernel
theorem dX8_lay_24 : decode cX8_lay 24 = .ok (.if_icmp .ne 6, 3) := by decide +kernel
theorem dX8_lay_27 : decode cX8_lay 27 = .ok (.ldc 184, 2) := by decide +kernel
theorem dX8_lay_29 : decode cX8_lay 29 = .ok (.ireturn, 1) := by decide +kernel
theorem dX8_lay_30 : decode cX8_lay 30 = .ok (.aload_n 0, 1) := by decide +kernel
theorem dX8_lay_31 : decode cX8_lay 31 = .ok (.invokevirtual 185, 3) := by decide +kernel
theorem dX8_lay_34 : decode cX8_lay 34 = .ok (.aload_n 0, 1) := by decide +kernel
theorem dX8_lay_35 : decode cX8_lay 35 = .ok (.getfield 7, 3) := by decide +kernel
theorem dX8_lay_38 : decode cX8_lay 38 = .ok (.bipush 35, 2) := by decide +kernel
theorem dX8_lay_40 : decode cX8_lay 40 = .ok (.iload_n 1, 1) := by decide +kernel
theorem dX8_lay_41 : decode cX8_lay 41 = .ok (.iadd, 1) := by decide +kernel
theorem dX8_lay_42 : decode cX8_lay 42 = .ok (.ldc 44, 2) := by decide +kernel
theorem dX8_lay_44 : decode cX8_lay 44 = .ok (.iastore, 1) := by decide +kernel
theorem dX8_lay_45 : decode cX8_lay 45 = .ok (.aload_n 0, 1) := by decide +kernel
theorem dX8_lay_46 : decode cX8_lay 46 = .ok (.getfield 7, 3) := by decide +kernel
theorem dX8_lay_49 : decode cX8_lay 49 = .ok (.bipush 43, 2) := by decide +kernel
theorem dX8_lay_51 : decode cX8_lay 51 = .ok (.iload_n 2, 1) := by decide +kernel
theorem dX8_lay_52 : decode cX8_lay 52 = .ok (.iadd, 1) := by decide +kernel
theorem dX8_lay_53 : decode cX8_lay 53 = .ok (.aload_n 0, 1) := by decide +kernel
theorem dX8_lay_54 : decode cX8_lay 54 = .ok (.getfield 7, 3) := by decide +kernel
theorem dX8_lay_57 : decode cX8_lay 57 = .ok (.bipush 32, 2) := by decide +kernel
theorem dX8_lay_59 : decode cX8_lay 59 = .ok (.iload_n 1, 1) := by decide +kernel
theorem dX8_lay_60 : decode cX8_lay 60 = .ok (.iadd, 1) := by decide +kernel
theorem dX8_lay_61 : decode cX8_lay 61 = .ok (.iaload, 1) := by decide +kernel
theorem dX8_lay_62 : decode cX8_lay 62 = .ok (.iastore, 1) := by decide +kernel
theorem dX8_lay_63 : decode cX8_lay 63 = .ok (.iload_n 2, 1) := by decide +kernel
theorem dX8_lay_64 : decode cX8_lay 64 = .ok (.ireturn, 1) := by decide +kernel
theorem dX8_hand_0 : decode cX8_hand 0 = .ok (.aload_n 0, 1) := by decide +kernel
theorem dX8_hand_1 : decode cX8_hand 1 = .ok (.iload_n 1, 1) := by decide +kernel
theorem dX8_hand_2 : decode cX8_hand 2 = .ok (.invokevirtual 175, 3) := by decide +kernel
theorem dX8_hand_5 : decode cX8_hand 5 = .ok (.ifCond .eq 16, 3) := by decide +kernel
theorem dX8_hand_8 : decode cX8_hand 8 = .ok (.aload_n 0, 1) := by decide +kernel
theorem dX8_hand_9 : decode cX8_hand 9 = .ok (.iload_n 2, 1) := by decide +kernel
theorem dX8_hand_10 : decode cX8_hand 10 = .ok (.invokevirtual 175, 3) := by decide +kernel
theorem dX8_hand_13 : decode cX8_hand 13 = .ok (.ifCond .eq 8, 3) := by decide +kernel
theorem dX8_hand_16 : decode cX8_hand 16 = .ok (.iload_n 1, 1) := by decide +kernel
theorem dX8_hand_17 : decode cX8_hand 17 = .ok (.iload_n 2, 1) := by decide +kernel
theorem dX8_hand_18 : decode cX8_hand 18 = .ok (.if_icmp .ne 6, 3) := by decide +kernel
theorem dX8_hand_21 : decode cX8_hand 21 = .ok (.ldc 58, 2) := by decide +kernel
theorem dX8_hand_23 : decode cX8_hand 23 = .ok (.ireturn, 1) := by decide +kernel
theorem dX8_hand_24 : decode cX8_hand 24 = .ok (.aload_n 0, 1) := by decide +kernel
theorem dX8_hand_25 : decode cX8_hand 25 = .ok (.getfield 7, 3) := by decide +kernel
theorem dX8_hand_28 : decode cX8_hand 28 = .ok (.bipush 35, 2) := by decide +kernel
theorem dX8_hand_30 : decode cX8_hand 30 = .ok (.iload_n 1, 1) := by decide +kernel
theorem dX8_hand_31 : decode cX8_hand 31 = .ok (.iadd, 1) := by decide +kernel
theorem dX8_hand_32 : decode cX8_hand 32 = .ok (.iaload, 1) := by decide +kernel
theorem dX8_hand_33 : decode cX8_hand 33 = .ok (.istore_n 3, 1) := by decide +kernel
theorem dX8_hand_34 : decode cX8_hand 34 = .ok (.iload_n 3, 1) := by decide +kernel
theorem dX8_hand_35 : decode cX8_hand 35 = .ok (.ldc 44, 2) := by decide +kernel
theorem dX8_hand_37 : decode cX8_hand 37 = .ok (.if_icmp .eq 38, 3) := by decide +kernel
theorem dX8_hand_40 : decode cX8_hand 40 = .ok (.aload_n 0, 1) := by decide +kernel
theorem dX8_hand_41 : decode cX8_hand 41 = .ok (.getfield 7, 3) := by decide +kernel
theorem dX8_hand_44 : decode cX8_hand 44 = .ok (.bipush 35, 2) := by decide +kernel
theorem dX8_hand_46 : decode cX8_hand 46 = .ok (.iload_n 2, 1) := by decide +kernel
theorem dX8_hand_47 : decode cX8_hand 47 = .ok (.iadd, 1) := by decide +kernel
theorem dX8_hand_48 : decode cX8_hand 48 = .ok (.iaload, 1) := by decide +kernel
theorem dX8_hand_49 : decode cX8_hand 49 = .ok (.ldc 44, 2) := by decide +kernel
theorem dX8_hand_51 : decode cX8_hand 51 = .ok (.if_icmp .ne 24, 3) := by decide +kernel
theorem dX8_hand_54 : decode cX8_hand 54 = .ok (.aload_n 0, 1) := by decide +kernel
theorem dX8_hand_55 : decode cX8_hand 55 = .ok (.getfield 7, 3) := by decide +kernel
theorem dX8_hand_58 : decode cX8_hand 58 = .ok (.bipush 32, 2) := by decide +kernel
theorem dX8_hand_60 : decode cX8_hand 60 = .ok (.iload_n 2, 1) := by decide +kernel
theorem dX8_hand_61 : decode cX8_hand 61 = .ok (.iadd, 1) := by decide +kernel
theorem dX8_hand_62 : decode cX8_hand 62 = .ok (.iaload, 1) := by decide +kernel
theorem dX8_hand_63 : decode cX8_hand 63 = .ok (.aload_n 0, 1) := by decide +kernel
theorem dX8_hand_64 : decode cX8_hand 64 = .ok (.getfield 7, 3) := by decide +kernel
theorem dX8_hand_67 : decode cX8_hand 67 = .ok (.bipush 32, 2) := by decide +kernel
theorem dX8_hand_69 : decode cX8_hand 69 = .ok (.iload_n 1, 1) := by decide +kernel
theorem dX8_hand_70 : decode cX8_hand 70 = .ok (.iadd, 1) := by decide +kernel
theorem dX8_hand_71 : decode cX8_hand 71 = .ok (.iaload, 1) := by decide +kernel
theorem dX8_hand_72 : decode cX8_hand 72 = .ok (.if_icmp .eq 6, 3) := by decide +kernel
theorem dX8_hand_75 : decode cX8_hand 75 = .ok (.ldc 184, 2) := by decide +kernel
theorem dX8_hand_77 : decode cX8_hand 77 = .ok (.ireturn, 1) := by decide +kernel
theorem dX8_hand_78 : decode cX8_hand 78 = .ok (.aload_n 0, 1) := by decide +kernel
theorem dX8_hand_79 : decode cX8_hand 79 = .ok (.invokevirtual 185, 3) := by decide +kernel
theorem dX8_hand_82 : decode cX8_hand 82 = .ok (.aload_n 0, 1) := by decide +kernel
theorem dX8_hand_83 : decode cX8_hand 83 = .ok (.getfield 7, 3) := by decide +kernel
theorem dX8_hand_86 : decode cX8_hand 86 = .ok (.bipush 35, 2) := by decide +kernel
theorem dX8_hand_88 : decode cX8_hand 88 = .ok (.iload_n 1, 1) := by decide +kernel
theorem dX8_hand_89 : decode cX8_hand 89 = .ok (.iadd, 1) := by decide +kernel
theorem dX8_hand_90 : decode cX8_hand 90 = .ok (.ldc 44, 2) := by decide +kernel
theorem dX8_hand_92 : decode cX8_hand 92 = .ok (.iastore, 1) := by decide +kernel
theorem dX8_hand_93 : decode cX8_hand 93 = .ok (.aload_n 0, 1) := by decide +kernel
theorem dX8_hand_94 : decode cX8_hand 94 = .ok (.getfield 7, 3) := by decide +kernel
theorem dX8_hand_97 : decode cX8_hand 97 = .ok (.bipush 35, 2) := by decide +kernel
theorem dX8_hand_99 : decode cX8_hand 99 = .ok (.iload_n 2, 1) := by decide +kernel
theorem dX8_hand_100 : decode cX8_hand 100 = .ok (.iadd, 1) := by decide +kernel
theorem dX8_hand_101 : decode cX8_hand 101 = .ok (.iload_n 3, 1) := by decide +kernel
theorem dX8_hand_102 : decode cX8_hand 102 = .ok (.iastore, 1) := by decide +kernel
theorem dX8_hand_103 : decode cX8_hand 103 = .ok (.iload_n 3, 1) := by decide +kernel
theorem dX8_hand_104 : decode cX8_hand 104 = .ok (.ireturn, 1) := by decide +kernel
theorem dX8_feast_0 : decode cX8_feast 0 = .ok (.aload_n 0, 1) := by decide +kernel
theorem dX8_feast_1 : decode cX8_feast 1 = .ok (.invokevirtual 191, 3) := by decide +kernel
theorem dX8_feast_4 : decode cX8_feast 4 = .ok (.ifCond .ne 6, 3) := by decide +kernel
theorem dX8_feast_7 : decode cX8_feast 7 = .ok (.ldc 184, 2) := by decide +kernel
theorem dX8_feast_9 : decode cX8_feast 9 = .ok (.ireturn, 1) := by decide +kernel
theorem dX8_feast_10 : decode cX8_feast 10 = .ok (.aload_n 0, 1) := by decide +kernel
theorem dX8_feast_11 : decode cX8_feast 11 = .ok (.invokevirtual 185, 3) := by decide +kernel
theorem dX8_feast_14 : decode cX8_feast 14 = .ok (.iconst 1, 1) := by decide +kernel
theorem dX8_feast_15 : decode cX8_feast 15 = .ok (.aload_n 0, 1) := by decide +kernel
theorem dX8_feast_16 : decode cX8_feast 16 = .ok (.getfield 7, 3) := by decide +kernel
theorem dX8_feast_19 : decode cX8_feast 19 = .ok (.iconst 1, 1) := by decide +kernel
theorem dX8_feast_20 : decode cX8_feast 20 = .ok (.iaload, 1) := by decide +kernel
theorem dX8_feast_21 : decode cX8_feast 21 = .ok (.ishl, 1) := by decide +kernel
theorem dX8_feast_22 : decode cX8_feast 22 = .ok (.iconst 1, 1) := by decide +kernel
theorem dX8_feast_23 : decode cX8_feast 23 = .ok (.isub, 1) := by decide +kernel
theorem dX8_feast_24 : decode cX8_feast 24 = .ok (.istore_n 1, 1) := by decide +kernel
theorem dX8_feast_25 : decode cX8_feast 25 = .ok (.iconst 0, 1) := by decide +kernel
theorem dX8_feast_26 : decode cX8_feast 26 = .ok (.istore_n 2, 1) := by decide +kernel
theorem dX8_feast_27 : decode cX8_feast 27 = .ok (.iload_n 2, 1) := by decide +kernel
theorem dX8_feast_28 : decode cX8_feast 28 = .ok (.aload_n 0, 1) := by decide +kernel
theorem dX8_feast_29 : decode cX8_feast 29 = .ok (.getfield 7, 3) := by decide +kernel
theorem dX8_feast_32 : decode cX8_feast 32 = .ok (.iconst 2, 1) := by decide +kernel
theorem dX8_feast_33 : decode cX8_feast 33 = .ok (.iaload, 1) := by decide +kernel
theorem dX8_feast_34 : decode cX8_feast 34 = .ok (.if_icmp .ge 22, 3) := by decide +kernel
theorem dX8_feast_37 : decode cX8_feast 37 = .ok (.aload_n 0, 1) := by decide +kernel
theorem dX8_feast_38 : decode cX8_feast 38 = .ok (.getfield 7, 3) := by decide +kernel
theorem dX8_feast_41 : decode cX8_feast 41 = .ok (.bipush 38, 2) := by decide +kernel
theorem dX8_feast_43 : decode cX8_feast 43 = .ok (.iload_n 2, 1) := by decide +kernel
theorem dX8_feast_44 : decode cX8_feast 44 = .ok (.iadd, 1) := by decide +kernel
theorem dX8_feast_45 : decode cX8_feast 45 = .ok (.dup2, 1) := by decide +kernel
theorem dX8_feast_46 : decode cX8_feast 46 = .ok (.iaload, 1) := by decide +kernel
theorem dX8_feast_47 : decode cX8_feast 47 = .ok (.iload_n 1, 1) := by decide +kernel
theorem dX8_feast_48 : decode cX8_feast 48 = .ok (.ixor, 1) := by decide +kernel
theorem dX8_feast_49 : decode cX8_feast 49 = .ok (.iastore, 1) := by decide +kernel
theorem dX8_feast_50 : decode cX8_feast 50 = .ok (.iinc 2 1, 3) := by decide +kernel
theorem dX8_feast_53 : decode cX8_feast 53 = .ok (.goto (-26), 3) := by decide +kernel
theorem dX8_feast_56 : decode cX8_feast 56 = .ok (.aload_n 0, 1) := by decide +kernel
theorem dX8_feast_57 : decode cX8_feast 57 = .ok (.getfield 7, 3) := by decide +kernel
theorem dX8_feast_60 : decode cX8_feast 60 = .ok (.bipush 41, 2) := by decide +kernel
theorem dX8_feast_62 : decode cX8_feast 62 = .ok (.dup2, 1) := by decide +kernel
theorem dX8_feast_63 : decode cX8_feast 63 = .ok (.iaload, 1) := by decide +kernel
theorem dX8_feast_64 : decode cX8_feast 64 = .ok (.iload_n 1, 1) := by decide +kernel
theorem dX8_feast_65 : decode cX8_feast 65 = .ok (.ixor, 1) := by decide +kernel
theorem dX8_feast_66 : decode cX8_feast 66 = .ok (.iastore, 1) := by decide +kernel
theorem dX8_feast_67 : decode cX8_feast 67 = .ok (.iconst 1, 1) := by decide +kernel
theorem dX8_feast_68 : decode cX8_feast 68 = .ok (.ireturn, 1) := by decide +kernel
theorem dX8_put_0 : decode cX8_put 0 = .ok (.aload_n 0, 1) := by decide +kernel
theorem dX8_put_1 : decode cX8_put 1 = .ok (.iload_n 1, 1) := by decide +kernel
theorem dX8_put_2 : decode cX8_put 2 = .ok (.invokevirtual 178, 3) := by decide +kernel
theorem dX8_put_5 : decode cX8_put 5 = .ok (.ifCond .eq 12, 3) := by decide +kernel
theorem dX8_put_8 : decode cX8_put 8 = .ok (.iload_n 2, 1) := by decide +kernel
theorem dX8_put_9 : decode cX8_put 9 = .ok (.iconst 0, 1) := by decide +kernel
theorem dX8_put_10 : decode cX8_put 10 = .ok (.iconst 1, 1) := by decide +kernel
theorem dX8_put_11 : decode cX8_put 11 = .ok (.invokestatic 50, 3) := by decide +kernel
theorem dX8_put_14 : decode cX8_put 14 = .ok (.ifCond .ne 6, 3) := by decide +kernel
theorem dX8_put_17 : decode cX8_put 17 = .ok (.ldc 58, 2) := by decide +kernel
theorem dX8_put_19 : decode cX8_put 19 = .ok (.ireturn, 1) := by decide +kernel
theorem dX8_put_20 : decode cX8_put 20 = .ok (.aload_n 0, 1) := by decide +kernel
theorem dX8_put_21 : decode cX8_put 21 = .ok (.invokevirtual 185, 3) := by decide +kernel
theorem dX8_put_24 : decode cX8_put 24 = .ok (.aload_n 0, 1) := by decide +kernel
theorem dX8_put_25 : decode cX8_put 25 = .ok (.getfield 7, 3) := by decide +kernel
theorem dX8_put_28 : decode cX8_put 28 = .ok (.bipush 42, 2) := by decide +kernel
theorem dX8_put_30 : decode cX8_put 30 = .ok (.iaload, 1) := by decide +kernel
theorem dX8_put_31 : decode cX8_put 31 = .ok (.iload_n 1, 1) := by decide +kernel
theorem dX8_put_32 : decode cX8_put 32 = .ok (.ishr, 1) := by decide +kernel
theorem dX8_put_33 : decode cX8_put 33 = .ok (.iconst 1, 1) := by decide +kernel
theorem dX8_put_34 : decode cX8_put 34 = .ok (.iand, 1) := by decide +kernel
theorem dX8_put_35 : decode cX8_put 35 = .ok (.istore_n 3, 1) := by decide +kernel
theorem dX8_put_36 : decode cX8_put 36 = .ok (.aload_n 0, 1) := by decide +kernel
theorem dX8_put_37 : decode cX8_put 37 = .ok (.getfield 7, 3) := by decide +kernel
theorem dX8_put_40 : decode cX8_put 40 = .ok (.bipush 42, 2) := by decide +kernel
theorem dX8_put_42 : decode cX8_put 42 = .ok (.aload_n 0, 1) := by decide +kernel
theorem dX8_put_43 : decode cX8_put 43 = .ok (.getfield 7, 3) := by decide +kernel
theorem dX8_put_46 : decode cX8_put 46 = .ok (.bipush 42, 2) := by decide +kernel
theorem dX8_put_48 : decode cX8_put 48 = .ok (.iaload, 1) := by decide +kernel
theorem dX8_put_49 : decode cX8_put 49 = .ok (.iconst 1, 1) := by decide +kernel
theorem dX8_put_50 : decode cX8_put 50 = .ok (.iload_n 1, 1) := by decide +kernel
theorem dX8_put_51 : decode cX8_put 51 = .ok (.ishl, 1) := by decide +kernel
theorem dX8_put_52 : decode cX8_put 52 = .ok (.iconst (-1), 1) := by decide +kernel
theorem dX8_put_53 : decode cX8_put 53 = .ok (.ixor, 1) := by decide +kernel
theorem dX8_put_54 : decode cX8_put 54 = .ok (.iand, 1) := by decide +kernel
theorem dX8_put_55 : decode cX8_put 55 = .ok (.iload_n 2, 1) := by decide +kernel
theorem dX8_put_56 : decode cX8_put 56 = .ok (.iload_n 1, 1) := by decide +kernel
theorem dX8_put_57 : decode cX8_put 57 = .ok (.ishl, 1) := by decide +kernel
theorem dX8_put_58 : decode cX8_put 58 = .ok (.ior, 1) := by decide +kernel
theorem dX8_put_59 : decode cX8_put 59 = .ok (.iastore, 1) := by decide +kernel
theorem dX8_put_60 : decode cX8_put 60 = .ok (.iload_n 3, 1) := by decide +kernel
theorem dX8_put_61 : decode cX8_put 61 = .ok (.ireturn, 1) := by decide +kernel
theorem dX8_undo_0 : decode cX8_undo 0 = .ok (.aload_n 0, 1) := by decide +kernel
theorem dX8_undo_1 : decode cX8_undo 1 = .ok (.getfield 151, 3) := by decide +kernel
theorem dX8_undo_4 : decode cX8_undo 4 = .ok (.ifCond .ne 6, 3) := by decide +kernel
theorem dX8_undo_7 : decode cX8_undo 7 = .ok (.ldc 184, 2) := by decide +kernel
theorem dX8_undo_9 : decode cX8_undo 9 = .ok (.ireturn, 1) := by decide +kernel
theorem dX8_undo_10 : decode cX8_undo 10 = .ok (.aload_n 0, 1) := by decide +kernel
theorem dX8_undo_11 : decode cX8_undo 11 = .ok (.dup, 1) := by decide +kernel
theorem dX8_undo_12 : decode cX8_undo 12 = .ok (.getfield 151, 3) := by decide +kernel
theorem dX8_undo_15 : decode cX8_undo 15 = .ok (.iconst 1, 1) := by decide +kernel
theorem dX8_undo_16 : decode cX8_undo 16 = .ok (.isub, 1) := by decide +kernel
theorem dX8_undo_17 : decode cX8_undo 17 = .ok (.putfield 151, 3) := by decide +kernel
theorem dX8_undo_20 : decode cX8_undo 20 = .ok (.iconst 0, 1) := by decide +kernel
theorem dX8_undo_21 : decode cX8_undo 21 = .ok (.istore_n 1, 1) := by decide +kernel
theorem dX8_undo_22 : decode cX8_undo 22 = .ok (.iload_n 1, 1) := by decide +kernel
theorem dX8_undo_23 : decode cX8_undo 23 = .ok (.bipush 16, 2) := by decide +kernel
theorem dX8_undo_25 : decode cX8_undo 25 = .ok (.if_icmp .ge 32, 3) := by decide +kernel
theorem dX8_undo_28 : decode cX8_undo 28 = .ok (.aload_n 0, 1) := by decide +kernel
theorem dX8_undo_29 : decode cX8_undo 29 = .ok (.getfield 7, 3) := by decide +kernel
theorem dX8_undo_32 : decode cX8_undo 32 = .ok (.bipush 32, 2) := by decide +kernel
theorem dX8_undo_34 : decode cX8_undo 34 = .ok (.iload_n 1, 1) := by decide +kernel
theorem dX8_undo_35 : decode cX8_undo 35 = .ok (.iadd, 1) := by decide +kernel
theorem dX8_undo_36 : decode cX8_undo 36 = .ok (.aload_n 0, 1) := by decide +kernel
theorem dX8_undo_37 : decode cX8_undo 37 = .ok (.getfield 20, 3) := by decide +kernel
theorem dX8_undo_40 : decode cX8_undo 40 = .ok (.bipush 16, 2) := by decide +kernel
theorem dX8_undo_42 : decode cX8_undo 42 = .ok (.aload_n 0, 1) := by decide +kernel
theorem dX8_undo_43 : decode cX8_undo 43 = .ok (.getfield 151, 3) := by decide +kernel
theorem dX8_undo_46 : decode cX8_undo 46 = .ok (.imul, 1) := by decide +kernel
theorem dX8_undo_47 : decode cX8_undo 47 = .ok (.iload_n 1, 1) := by decide +kernel
theorem dX8_undo_48 : decode cX8_undo 48 = .ok (.iadd, 1) := by decide +kernel
theorem dX8_undo_49 : decode cX8_undo 49 = .ok (.iaload, 1) := by decide +kernel
theorem dX8_undo_50 : decode cX8_undo 50 = .ok (.iastore, 1) := by decide +kernel
theorem dX8_undo_51 : decode cX8_undo 51 = .ok (.iinc 1 1, 3) := by decide +kernel
theorem dX8_undo_54 : decode cX8_undo 54 = .ok (.goto (-32), 3) := by decide +kernel
theorem dX8_undo_57 : decode cX8_undo 57 = .ok (.aload_n 0, 1) := by decide +kernel
theorem dX8_undo_58 : decode cX8_undo 58 = .ok (.getfield 151, 3) := by decide +kernel
theorem dX8_undo_61 : decode cX8_undo 61 = .ok (.ireturn, 1) := by decide +kernel
theorem dX8_mayBits_0 : decode cX8_mayBits 0 = .ok (.iconst 0, 1) := by decide +kernel
theorem dX8_mayBits_1 : decode cX8_mayBits 1 = .ok (.istore_n 2, 1) := by decide +kernel
theorem dX8_mayBits_2 : decode cX8_mayBits 2 = .ok (.iconst 0, 1) := by decide +kernel
theorem dX8_mayBits_3 : decode cX8_mayBits 3 = .ok (.istore_n 3, 1) := by decide +kernel
theorem dX8_mayBits_4 : decode cX8_mayBits 4 = .ok (.iload_n 3, 1) := by decide +kernel
theorem dX8_mayBits_5 : decode cX8_mayBits 5 = .ok (.aload_n 0, 1) := by decide +kernel
theorem dX8_mayBits_6 : decode cX8_mayBits 6 = .ok (.getfield 7, 3) := by decide +kernel
theorem dX8_mayBits_9 : decode cX8_mayBits 9 = .ok (.iconst 1, 1) := by decide +kernel
theorem dX8_mayBits_10 : decode cX8_mayBits 10 = .ok (.iaload, 1) := by decide +kernel
theorem dX8_mayBits_11 : decode cX8_mayBits 11 = .ok (.if_icmp .ge 28, 3) := by decide +kernel
theorem dX8_mayBits_14 : decode cX8_mayBits 14 = .ok (.iload_n 2, 1) := by decide +kernel
theorem dX8_mayBits_15 : decode cX8_mayBits 15 = .ok (.aload_n 0, 1) := by decide +kernel
theorem dX8_mayBits_16 : decode cX8_mayBits 16 = .ok (.iload_n 1, 1) := by decide +kernel
theorem dX8_mayBits_17 : decode cX8_mayBits 17 = .ok (.iload_n 3, 1) := by decide +kernel
theorem dX8_mayBits_18 : decode cX8_mayBits 18 = .ok (.invokevirtual 181, 3) := by decide +kernel
theorem dX8_mayBits_21 : decode cX8_mayBits 21 = .ok (.ifCond .eq 9, 3) := by decide +kernel
theorem dX8_mayBits_24 : decode cX8_mayBits 24 = .ok (.iconst 1, 1) := by decide +kernel
theorem dX8_mayBits_25 : decode cX8_mayBits 25 = .ok (.iload_n 3, 1) := by decide +kernel
theorem dX8_mayBits_26 : decode cX8_mayBits 26 = .ok (.ishl, 1) := by decide +kernel
theorem dX8_mayBits_27 : decode cX8_mayBits 27 = .ok (.goto 4, 3) := by decide +kernel
theorem dX8_mayBits_30 : decode cX8_mayBits 30 = .ok (.iconst 0, 1) := by decide +kernel
theorem dX8_mayBits_31 : decode cX8_mayBits 31 = .ok (.ior, 1) := by decide +kernel
theorem dX8_mayBits_32 : decode cX8_mayBits 32 = .ok (.istore_n 2, 1) := by decide +kernel
theorem dX8_mayBits_33 : decode cX8_mayBits 33 = .ok (.iinc 3 1, 3) := by decide +kernel
theorem dX8_mayBits_36 : decode cX8_mayBits 36 = .ok (.goto (-32), 3) := by decide +kernel
theorem dX8_mayBits_39 : decode cX8_mayBits 39 = .ok (.iload_n 2, 1) := by decide +kernel
theorem dX8_mayBits_40 : decode cX8_mayBits 40 = .ok (.ireturn, 1) := by decide +kernel
theorem dX8_carrier_0 : decode cX8_carrier 0 = .ok (.aload_n 0, 1) := by decide +kernel
theorem dX8_carrier_1 : decode cX8_carrier 1 = .ok (.iload_n 1, 1) := by decide +kernel
theorem dX8_carrier_2 : decode cX8_carrier 2 = .ok (.invokevirtual 175, 3) := by decide +kernel
theorem dX8_carrier_5 : decode cX8_carrier 5 = .ok (.ifCond .eq 12, 3) := by decide +kernel
theorem dX8_carrier_8 : decode cX8_carrier 8 = .ok (.iload_n 2, 1) := by decide +kernel
theorem dX8_carrier_9 : decode cX8_carrier 9 = .ok (.iconst 0, 1) := by decide +kernel
theorem dX8_carrier_10 : decode cX8_carrier 10 = .ok (.iconst 3, 1) := by decide +kernel
theorem dX8_carrier_11 : decode cX8_carrier 11 = .ok (.invokestatic 50, 3) := by decide +kernel
theorem dX8_carrier_14 : decode cX8_carrier 14 = .ok (.ifCond .ne 6, 3) := by decide +kernel
theorem dX8_carrier_17 : decode cX8_carrier 17 = .ok (.ldc 58, 2) := by decide +kernel
theorem dX8_carrier_19 : decode cX8_carrier 19 = .ok (.ireturn, 1) := by decide +kernel
theorem dX8_carrier_20 : decode cX8_carrier 20 = .ok (.iload_n 2, 1) := by decide +kernel
theorem dX8_carrier_21 : decode cX8_carrier 21 = .ok (.ifCond .ne 15, 3) := by decide +kernel
theorem dX8_carrier_24 : decode cX8_carrier 24 = .ok (.aload_n 0, 1) := by decide +kernel
theorem dX8_carrier_25 : decode cX8_carrier 25 = .ok (.getfield 7, 3) := by decide +kernel
theorem dX8_carrier_28 : decode cX8_carrier 28 = .ok (.bipush 32, 2) := by decide +kernel
theorem dX8_carrier_30 : decode cX8_carrier 30 = .ok (.iload_n 1, 1) := by decide +kernel
theorem dX8_carrier_31 : decode cX8_carrier 31 = .ok (.iadd, 1) := by decide +kernel
theorem dX8_carrier_32 : decode cX8_carrier 32 = .ok (.iaload, 1) := by decide +kernel
theorem dX8_carrier_33 : decode cX8_carrier 33 = .ok (.goto 48, 3) := by decide +kernel
theorem dX8_carrier_36 : decode cX8_carrier 36 = .ok (.iload_n 2, 1) := by decide +kernel
theorem dX8_carrier_37 : decode cX8_carrier 37 = .ok (.iconst 1, 1) := by decide +kernel
theorem dX8_carrier_38 : decode cX8_carrier 38 = .ok (.if_icmp .ne 15, 3) := by decide +kernel
theorem dX8_carrier_41 : decode cX8_carrier 41 = .ok (.aload_n 0, 1) := by decide +kernel
theorem dX8_carrier_42 : decode cX8_carrier 42 = .ok (.getfield 7, 3) := by decide +kernel
theorem dX8_carrier_45 : decode cX8_carrier 45 = .ok (.bipush 35, 2) := by decide +kernel
theorem dX8_carrier_47 : decode cX8_carrier 47 = .ok (.iload_n 1, 1) := by decide +kernel
theorem dX8_carrier_48 : decode cX8_carrier 48 = .ok (.iadd, 1) := by decide +kernel
theorem dX8_carrier_49 : decode cX8_carrier 49 = .ok (.iaload, 1) := by decide +kernel
theorem dX8_carrier_50 : decode cX8_carrier 50 = .ok (.goto 31, 3) := by decide +kernel
theorem dX8_carrier_53 : decode cX8_carrier 53 = .ok (.iload_n 2, 1) := by decide +kernel
theorem dX8_carrier_54 : decode cX8_carrier 54 = .ok (.iconst 2, 1) := by decide +kernel
theorem dX8_carrier_55 : decode cX8_carrier 55 = .ok (.if_icmp .ne 21, 3) := by decide +kernel
theorem dX8_carrier_58 : decode cX8_carrier 58 = .ok (.aload_n 0, 1) := by decide +kernel
theorem dX8_carrier_59 : decode cX8_carrier 59 = .ok (.getfield 7, 3) := by decide +kernel
theorem dX8_carrier_62 : decode cX8_carrier 62 = .ok (.bipush 38, 2) := by decide +kernel
theorem dX8_carrier_64 : decode cX8_carrier 64 = .ok (.iload_n 1, 1) := by decide +kernel
theorem dX8_carrier_65 : decode cX8_carrier 65 = .ok (.iadd, 1) := by decide +kernel
theorem dX8_carrier_66 : decode cX8_carrier 66 = .ok (.iaload, 1) := by decide +kernel
theorem dX8_carrier_67 : decode cX8_carrier 67 = .ok (.aload_n 0, 1) := by decide +kernel
theorem dX8_carrier_68 : decode cX8_carrier 68 = .ok (.iconst 1, 1) := by decide +kernel
theorem dX8_carrier_69 : decode cX8_carrier 69 = .ok (.invokevirtual 162, 3) := by decide +kernel
theorem dX8_carrier_72 : decode cX8_carrier 72 = .ok (.iand, 1) := by decide +kernel
theorem dX8_carrier_73 : decode cX8_carrier 73 = .ok (.goto 8, 3) := by decide +kernel
theorem dX8_carrier_76 : decode cX8_carrier 76 = .ok (.aload_n 0, 1) := by decide +kernel
theorem dX8_carrier_77 : decode cX8_carrier 77 = .ok (.iload_n 1, 1) := by decide +kernel
theorem dX8_carrier_78 : decode cX8_carrier 78 = .ok (.invokevirtual 195, 3) := by decide +kernel
theorem dX8_carrier_81 : decode cX8_carrier 81 = .ok (.ireturn, 1) := by decide +kernel
theorem dX8_whoHas_0 : decode cX8_whoHas 0 = .ok (.ldc 44, 2) := by decide +kernel
theorem dX8_whoHas_2 : decode cX8_whoHas 2 = .ok (.istore_n 2, 1) := by decide +kernel
theorem dX8_whoHas_3 : decode cX8_whoHas 3 = .ok (.iconst 0, 1) := by decide +kernel
theorem dX8_whoHas_4 : decode cX8_whoHas 4 = .ok (.istore_n 3, 1) := by decide +kernel
theorem dX8_whoHas_5 : decode cX8_whoHas 5 = .ok (.iload_n 3, 1) := by decide +kernel
theorem dX8_whoHas_6 : decode cX8_whoHas 6 = .ok (.aload_n 0, 1) := by decide +kernel
theorem dX8_whoHas_7 : decode cX8_whoHas 7 = .ok (.getfield 7, 3) := by decide +kernel
theorem dX8_whoHas_10 : decode cX8_whoHas 10 = .ok (.iconst 2, 1) := by decide +kernel
theorem dX8_whoHas_11 : decode cX8_whoHas 11 = .ok (.iaload, 1) := by decide +kernel
theorem dX8_whoHas_12 : decode cX8_whoHas 12 = .ok (.if_icmp .ge 28, 3) := by decide +kernel
theorem dX8_whoHas_15 : decode cX8_whoHas 15 = .ok (.aload_n 0, 1) := by decide +kernel
theorem dX8_whoHas_16 : decode cX8_whoHas 16 = .ok (.getfield 7, 3) := by decide +kernel
theorem dX8_whoHas_19 : decode cX8_whoHas 19 = .ok (.bipush 35, 2) := by decide +kernel
theorem dX8_whoHas_21 : decode cX8_whoHas 21 = .ok (.iload_n 3, 1) := by decide +kernel
theorem dX8_whoHas_22 : decode cX8_whoHas 22 = .ok (.iadd, 1) := by decide +kernel
theorem dX8_whoHas_23 : decode cX8_whoHas 23 = .ok (.iaload, 1) := by decide +kernel
theorem dX8_whoHas_24 : decode cX8_whoHas 24 = .ok (.iload_n 1, 1) := by decide +kernel
theorem dX8_whoHas_25 : decode cX8_whoHas 25 = .ok (.if_icmp .ne 7, 3) := by decide +kernel
theorem dX8_whoHas_28 : decode cX8_whoHas 28 = .ok (.iload_n 3, 1) := by decide +kernel
theorem dX8_whoHas_29 : decode cX8_whoHas 29 = .ok (.goto 4, 3) := by decide +kernel
theorem dX8_whoHas_32 : decode cX8_whoHas 32 = .ok (.iload_n 2, 1) := by decide +kernel
theorem dX8_whoHas_33 : decode cX8_whoHas 33 = .ok (.istore_n 2, 1) := by decide +kernel
theorem dX8_whoHas_34 : decode cX8_whoHas 34 = .ok (.iinc 3 1, 3) := by decide +kernel
theorem dX8_whoHas_37 : decode cX8_whoHas 37 = .ok (.goto (-32), 3) := by decide +kernel
theorem dX8_whoHas_40 : decode cX8_whoHas 40 = .ok (.iload_n 2, 1) := by decide +kernel
theorem dX8_whoHas_41 : decode cX8_whoHas 41 = .ok (.ireturn, 1) := by decide +kernel
theorem dX8_load_0 : decode cX8_load 0 = .ok (.aload_n 0, 1) := by decide +kernel
theorem dX8_load_1 : decode cX8_load 1 = .ok (.iload_n 1, 1) := by decide +kernel
theorem dX8_load_2 : decode cX8_load 2 = .ok (.invokevirtual 188, 3) := by decide +kernel
theorem dX8_load_5 : decode cX8_load 5 = .ok (.ifCond .eq 12, 3) := by decide +kernel
theorem dX8_load_8 : decode cX8_load 8 = .ok (.iload_n 2, 1) := by decide +kernel
theorem dX8_load_9 : decode cX8_load 9 = .ok (.iconst 0, 1) := by decide +kernel
theorem dX8_load_10 : decode cX8_load 10 = .ok (.iconst 2, 1) := by decide +kernel
theorem dX8_load_11 : decode cX8_load 11 = .ok (.invokestatic 50, 3) := by decide +kernel
theorem dX8_load_14 : decode cX8_load 14 = .ok (.ifCond .ne 6, 3) := by decide +kernel
theorem dX8_load_17 : decode cX8_load 17 = .ok (.ldc 58, 2) := by decide +kernel
theorem dX8_load_19 : decode cX8_load 19 = .ok (.ireturn, 1) := by decide +kernel
theorem dX8_load_20 : decode cX8_load 20 = .ok (.iload_n 2, 1) := by decide +kernel
theorem dX8_load_21 : decode cX8_load 21 = .ok (.ifCond .ne 15, 3) := by decide +kernel
theorem dX8_load_24 : decode cX8_load 24 = .ok (.aload_n 0, 1) := by decide +kernel
theorem dX8_load_25 : decode cX8_load 25 = .ok (.getfield 7, 3) := by decide +kernel
theorem dX8_load_28 : decode cX8_load 28 = .ok (.bipush 43, 2) := by decide +kernel
theorem dX8_load_30 : decode cX8_load 30 = .ok (.iload_n 1, 1) := by decide +kernel
theorem dX8_load_31 : decode cX8_load 31 = .ok (.iadd, 1) := by decide +kernel
theorem dX8_load_32 : decode cX8_load 32 = .ok (.iaload, 1) := by decide +kernel
theorem dX8_load_33 : decode cX8_load 33 = .ok (.goto 25, 3) := by decide +kernel
theorem dX8_load_36 : decode cX8_load 36 = .ok (.iload_n 2, 1) := by decide +kernel
theorem dX8_load_37 : decode cX8_load 37 = .ok (.iconst 1, 1) := by decide +kernel
theorem dX8_load_38 : decode cX8_load 38 = .ok (.if_icmp .ne 15, 3) := by decide +kernel
theorem dX8_load_41 : decode cX8_load 41 = .ok (.aload_n 0, 1) := by decide +kernel
theorem dX8_load_42 : decode cX8_load 42 = .ok (.getfield 7, 3) := by decide +kernel
theorem dX8_load_45 : decode cX8_load 45 = .ok (.bipush 28, 2) := by decide +kernel
theorem dX8_load_47 : decode cX8_load 47 = .ok (.iload_n 1, 1) := by decide +kernel
theorem dX8_load_48 : decode cX8_load 48 = .ok (.iadd, 1) := by decide +kernel
theorem dX8_load_49 : decode cX8_load 49 = .ok (.iaload, 1) := by decide +kernel
theorem dX8_load_50 : decode cX8_load 50 = .ok (.goto 8, 3) := by decide +kernel
theorem dX8_load_53 : decode cX8_load 53 = .ok (.aload_n 0, 1) := by decide +kernel
theorem dX8_load_54 : decode cX8_load 54 = .ok (.iload_n 1, 1) := by decide +kernel
theorem dX8_load_55 : decode cX8_load 55 = .ok (.invokevirtual 198, 3) := by decide +kernel
theorem dX8_load_58 : decode cX8_load 58 = .ok (.ireturn, 1) := by decide +kernel
theorem dX8_state_0 : decode cX8_state 0 = .ok (.bipush 7, 2) := by decide +kernel
theorem dX8_state_2 : decode cX8_state 2 = .ok (.bipush 64, 2) := by decide +kernel
theorem dX8_state_4 : decode cX8_state 4 = .ok (.iload_n 0, 1) := by decide +kernel
theorem dX8_state_5 : decode cX8_state 5 = .ok (.imul, 1) := by decide +kernel
theorem dX8_state_6 : decode cX8_state 6 = .ok (.iload_n 1, 1) := by decide +kernel
theorem dX8_state_7 : decode cX8_state 7 = .ok (.iadd, 1) := by decide +kernel
theorem dX8_state_8 : decode cX8_state 8 = .ok (.imul, 1) := by decide +kernel
theorem dX8_state_9 : decode cX8_state 9 = .ok (.iload_n 2, 1) := by decide +kernel
theorem dX8_state_10 : decode cX8_state 10 = .ok (.iadd, 1) := by decide +kernel
theorem dX8_state_11 : decode cX8_state 11 = .ok (.ireturn, 1) := by decide +kernel
theorem dX8_comes_0 : decode cX8_comes 0 = .ok (.aload_n 0, 1) := by decide +kernel
theorem dX8_comes_1 : decode cX8_comes 1 = .ok (.getfield 38, 3) := by decide +kernel
theorem dX8_comes_4 : decode cX8_comes 4 = .ok (.iload_n 1, 1) := by decide +kernel
theorem dX8_comes_5 : decode cX8_comes 5 = .ok (.iaload, 1) := by decide +kernel
theorem dX8_comes_6 : decode cX8_comes 6 = .ok (.ldc 44, 2) := by decide +kernel
theorem dX8_comes_8 : decode cX8_comes 8 = .ok (.if_icmp .eq 13, 3) := by decide +kernel
theorem dX8_comes_11 : decode cX8_comes 11 = .ok (.iload_n 2, 1) := by decide +kernel
theorem dX8_comes_12 : decode cX8_comes 12 = .ok (.aload_n 0, 1) := by decide +kernel
theorem dX8_comes_13 : decode cX8_comes 13 = .ok (.getfield 38, 3) := by decide +kernel
theorem dX8_comes_16 : decode cX8_comes 16 = .ok (.iload_n 1, 1) := by decide +kernel
theorem dX8_comes_17 : decode cX8_comes 17 = .ok (.iaload, 1) := by decide +kernel
theorem dX8_comes_18 : decode cX8_comes 18 = .ok (.if_icmp .ge 15, 3) := by decide +kernel
theorem dX8_comes_21 : decode cX8_comes 21 = .ok (.aload_n 0, 1) := by decide +kernel
theorem dX8_comes_22 : decode cX8_comes 22 = .ok (.getfield 38, 3) := by decide +kernel
theorem dX8_comes_25 : decode cX8_comes 25 = .ok (.iload_n 1, 1) := by decide +kernel
theorem dX8_comes_26 : decode cX8_comes 26 = .ok (.iload_n 2, 1) := by decide +kernel
theorem dX8_comes_27 : decode cX8_comes 27 = .ok (.iastore, 1) := by decide +kernel
theorem dX8_comes_28 : decode cX8_comes 28 = .ok (.aload_n 0, 1) := by decide +kernel
theorem dX8_comes_29 : decode cX8_comes 29 = .ok (.iconst 1, 1) := by decide +kernel
theorem dX8_comes_30 : decode cX8_comes 30 = .ok (.putfield 201, 3) := by decide +kernel
theorem dX8_comes_33 : decode cX8_comes 33 = .ok (.return_, 1) := by decide +kernel
theorem dX8_letsBy_0 : decode cX8_letsBy 0 = .ok (.iload_n 1, 1) := by decide +kernel
theorem dX8_letsBy_1 : decode cX8_letsBy 1 = .ok (.iconst 2, 1) := by decide +kernel
theorem dX8_letsBy_2 : decode cX8_letsBy 2 = .ok (.if_icmp .ne 21, 3) := by decide +kernel
theorem dX8_letsBy_5 : decode cX8_letsBy 5 = .ok (.aload_n 0, 1) := by decide +kernel
theorem dX8_letsBy_6 : decode cX8_letsBy 6 = .ok (.iload_n 2, 1) := by decide +kernel
theorem dX8_letsBy_7 : decode cX8_letsBy 7 = .ok (.iconst 0, 1) := by decide +kernel
theorem dX8_letsBy_8 : decode cX8_letsBy 8 = .ok (.invokevirtual 154, 3) := by decide +kernel
theorem dX8_letsBy_11 : decode cX8_letsBy 11 = .ok (.iconst 2, 1) := by decide +kernel
theorem dX8_letsBy_12 : decode cX8_letsBy 12 = .ok (.if_icmp .eq 7, 3) := by decide +kernel
theorem dX8_letsBy_15 : decode cX8_letsBy 15 = .ok (.iconst 1, 1) := by decide +kernel
theorem dX8_letsBy_16 : decode cX8_letsBy 16 = .ok (.goto 15, 3) := by decide +kernel
theorem dX8_letsBy_19 : decode cX8_letsBy 19 = .ok (.iconst 0, 1) := by decide +kernel
theorem dX8_letsBy_20 : decode cX8_letsBy 20 = .ok (.goto 11, 3) := by decide +kernel
theorem dX8_letsBy_23 : decode cX8_letsBy 23 = .ok (.aload_n 0, 1) := by decide +kernel
theorem dX8_letsBy_24 : decode cX8_letsBy 24 = .ok (.iload_n 2, 1) := by decide +kernel
theorem dX8_letsBy_25 : decode cX8_letsBy 25 = .ok (.iload_n 3, 1) := by decide +kernel
theorem dX8_letsBy_26 : decode cX8_letsBy 26 = .ok (.iload 4, 2) := by decide +kernel
theorem dX8_letsBy_28 : decode cX8_letsBy 28 = .ok (.invokevirtual 171, 3) := by decide +kernel
theorem dX8_letsBy_31 : decode cX8_letsBy 31 = .ok (.ireturn, 1) := by decide +kernel
theorem dX8_spreads_0 : decode cX8_spreads 0 = .ok (.iload_n 2, 1) := by decide +kernel
theorem dX8_spreads_1 : decode cX8_spreads 1 = .ok (.bipush 7, 2) := by decide +kernel
theorem dX8_spreads_3 : decode cX8_spreads 3 = .ok (.irem, 1) := by decide +kernel
theorem dX8_spreads_4 : decode cX8_spreads 4 = .ok (.istore 4, 2) := by decide +kernel
theorem dX8_spreads_6 : decode cX8_spreads 6 = .ok (.iload_n 2, 1) := by decide +kernel
theorem dX8_spreads_7 : decode cX8_spreads 7 = .ok (.bipush 7, 2) := by decide +kernel
theorem dX8_spreads_9 : decode cX8_spreads 9 = .ok (.idiv, 1) := by decide +kernel
theorem dX8_spreads_10 : decode cX8_spreads 10 = .ok (.bipush 64, 2) := by decide +kernel
theorem dX8_spreads_12 : decode cX8_spreads 12 = .ok (.irem, 1) := by decide +kernel
theorem dX8_spreads_13 : decode cX8_spreads 13 = .ok (.istore 5, 2) := by decide +kernel
theorem dX8_spreads_15 : decode cX8_spreads 15 = .ok (.iload_n 2, 1) := by decide +kernel
theorem dX8_spreads_16 : decode cX8_spreads 16 = .ok (.sipush 448, 3) := by decide +kernel
theorem dX8_spreads_19 : decode cX8_spreads 19 = .ok (.idiv, 1) := by decide +kernel
theorem dX8_spreads_20 : decode cX8_spreads 20 = .ok (.istore 6, 2) := by decide +kernel
theorem dX8_spreads_22 : decode cX8_spreads 22 = .ok (.iload_n 1, 1) := by decide +kernel
theorem dX8_spreads_23 : decode cX8_spreads 23 = .ok (.ifCond .ne 18, 3) := by decide +kernel
theorem dX8_spreads_26 : decode cX8_spreads 26 = .ok (.iload 4, 2) := by decide +kernel
theorem dX8_spreads_28 : decode cX8_spreads 28 = .ok (.bipush 6, 2) := by decide +kernel
theorem dX8_spreads_30 : decode cX8_spreads 30 = .ok (.if_icmp .ne 7, 3) := by decide +kernel
theorem dX8_spreads_33 : decode cX8_spreads 33 = .ok (.iconst 1, 1) := by decide +kernel
theorem dX8_spreads_34 : decode cX8_spreads 34 = .ok (.goto 8, 3) := by decide +kernel
theorem dX8_spreads_37 : decode cX8_spreads 37 = .ok (.iconst 0, 1) := by decide +kernel
theorem dX8_spreads_38 : decode cX8_spreads 38 = .ok (.goto 4, 3) := by decide +kernel
theorem dX8_spreads_41 : decode cX8_spreads 41 = .ok (.iload_n 3, 1) := by decide +kernel
theorem dX8_spreads_42 : decode cX8_spreads 42 = .ok (.istore 7, 2) := by decide +kernel
theorem dX8_spreads_44 : decode cX8_spreads 44 = .ok (.iconst 0, 1) := by decide +kernel
theorem dX8_spreads_45 : decode cX8_spreads 45 = .ok (.istore 8, 2) := by decide +kernel
theorem dX8_spreads_47 : decode cX8_spreads 47 = .ok (.iload 8, 2) := by decide +kernel
theorem dX8_spreads_49 : decode cX8_spreads 49 = .ok (.aload_n 0, 1) := by decide +kernel
theorem dX8_spreads_50 : decode cX8_spreads 50 = .ok (.getfield 7, 3) := by decide +kernel
theorem dX8_spreads_53 : decode cX8_spreads 53 = .ok (.iconst 1, 1) := by decide +kernel
theorem dX8_spreads_54 : decode cX8_spreads 54 = .ok (.iaload, 1) := by decide +kernel
theorem dX8_spreads_55 : decode cX8_spreads 55 = .ok (.if_icmp .ge 96, 3) := by decide +kernel
theorem dX8_spreads_58 : decode cX8_spreads 58 = .ok (.aload_n 0, 1) := by decide +kernel
theorem dX8_spreads_59 : decode cX8_spreads 59 = .ok (.iload 8, 2) := by decide +kernel
theorem dX8_spreads_61 : decode cX8_spreads 61 = .ok (.iload 6, 2) := by decide +kernel
theorem dX8_spreads_63 : decode cX8_spreads 63 = .ok (.invokevirtual 165, 3) := by decide +kernel
theorem dX8_spreads_66 : decode cX8_spreads 66 = .ok (.istore 9, 2) := by decide +kernel
theorem dX8_spreads_68 : decode cX8_spreads 68 = .ok (.iload 9, 2) := by decide +kernel
