theorem dX5_round_12 : decode cX5_round 12 = .ok (.dup, 1) := by decide +kernel
theorem dX5_round_13 : decode cX5_round 13 = .ok (.ldc_w 271, 3) := by decide +kernel
theorem dX5_round_16 : decode cX5_round 16 = .ok (.invokespecial 55, 3) := by decide +kernel
theorem dX5_round_19 : decode cX5_round 19 = .ok (.athrow, 1) := by decide +kernel
theorem dX5_round_20 : decode cX5_round 20 = .ok (.iload_n 1, 1) := by decide +kernel
theorem dX5_round_21 : decode cX5_round 21 = .ok (.ifCond .ne 10, 3) := by decide +kernel
theorem dX5_round_24 : decode cX5_round 24 = .ok (.aload_n 0, 1) := by decide +kernel
theorem dX5_round_25 : decode cX5_round 25 = .ok (.invokevirtual 273, 3) := by decide +kernel
theorem dX5_round_28 : decode cX5_round 28 = .ok (.goto 13, 3) := by decide +kernel
theorem dX5_round_31 : decode cX5_round 31 = .ok (.aload_n 0, 1) := by decide +kernel
theorem dX5_round_32 : decode cX5_round 32 = .ok (.getfield 10, 3) := by decide +kernel
theorem dX5_round_35 : decode cX5_round 35 = .ok (.getfield 62, 3) := by decide +kernel
theorem dX5_round_38 : decode cX5_round 38 = .ok (.invokevirtual 276, 3) := by decide +kernel
theorem dX5_round_41 : decode cX5_round 41 = .ok (.ireturn, 1) := by decide +kernel
theorem dX5_jamsIn_0 : decode cX5_jamsIn 0 = .ok (.iload_n 1, 1) := by decide +kernel
theorem dX5_jamsIn_1 : decode cX5_jamsIn 1 = .ok (.invokestatic 263, 3) := by decide +kernel
theorem dX5_jamsIn_4 : decode cX5_jamsIn 4 = .ok (.ifCond .ne 14, 3) := by decide +kernel
theorem dX5_jamsIn_7 : decode cX5_jamsIn 7 = .ok (.new 51, 3) := by decide +kernel
theorem dX5_jamsIn_10 : decode cX5_jamsIn 10 = .ok (.dup, 1) := by decide +kernel
theorem dX5_jamsIn_11 : decode cX5_jamsIn 11 = .ok (.ldc_w 266, 3) := by decide +kernel
theorem dX5_jamsIn_14 : decode cX5_jamsIn 14 = .ok (.invokespecial 55, 3) := by decide +kernel
theorem dX5_jamsIn_17 : decode cX5_jamsIn 17 = .ok (.athrow, 1) := by decide +kernel
theorem dX5_jamsIn_18 : decode cX5_jamsIn 18 = .ok (.iload_n 1, 1) := by decide +kernel
theorem dX5_jamsIn_19 : decode cX5_jamsIn 19 = .ok (.invokestatic 268, 3) := by decide +kernel
theorem dX5_jamsIn_22 : decode cX5_jamsIn 22 = .ok (.istore_n 2, 1) := by decide +kernel
theorem dX5_jamsIn_23 : decode cX5_jamsIn 23 = .ok (.aload_n 0, 1) := by decide +kernel
theorem dX5_jamsIn_24 : decode cX5_jamsIn 24 = .ok (.getfield 10, 3) := by decide +kernel
theorem dX5_jamsIn_27 : decode cX5_jamsIn 27 = .ok (.getfield 62, 3) := by decide +kernel
theorem dX5_jamsIn_30 : decode cX5_jamsIn 30 = .ok (.invokevirtual 276, 3) := by decide +kernel
theorem dX5_jamsIn_33 : decode cX5_jamsIn 33 = .ok (.istore_n 3, 1) := by decide +kernel
theorem dX5_jamsIn_34 : decode cX5_jamsIn 34 = .ok (.iconst 1, 1) := by decide +kernel
theorem dX5_jamsIn_35 : decode cX5_jamsIn 35 = .ok (.istore 4, 2) := by decide +kernel
theorem dX5_jamsIn_37 : decode cX5_jamsIn 37 = .ok (.iload 4, 2) := by decide +kernel
theorem dX5_jamsIn_39 : decode cX5_jamsIn 39 = .ok (.iload_n 3, 1) := by decide +kernel
theorem dX5_jamsIn_40 : decode cX5_jamsIn 40 = .ok (.if_icmp .gt 38, 3) := by decide +kernel
theorem dX5_jamsIn_43 : decode cX5_jamsIn 43 = .ok (.aload_n 0, 1) := by decide +kernel
theorem dX5_jamsIn_44 : decode cX5_jamsIn 44 = .ok (.getfield 10, 3) := by decide +kernel
theorem dX5_jamsIn_47 : decode cX5_jamsIn 47 = .ok (.getfield 62, 3) := by decide +kernel
theorem dX5_jamsIn_50 : decode cX5_jamsIn 50 = .ok (.iload_n 2, 1) := by decide +kernel
theorem dX5_jamsIn_51 : decode cX5_jamsIn 51 = .ok (.iload 4, 2) := by decide +kernel
theorem dX5_jamsIn_53 : decode cX5_jamsIn 53 = .ok (.imul, 1) := by decide +kernel
theorem dX5_jamsIn_54 : decode cX5_jamsIn 54 = .ok (.aload_n 0, 1) := by decide +kernel
theorem dX5_jamsIn_55 : decode cX5_jamsIn 55 = .ok (.getfield 10, 3) := by decide +kernel
theorem dX5_jamsIn_58 : decode cX5_jamsIn 58 = .ok (.getfield 124, 3) := by decide +kernel
theorem dX5_jamsIn_61 : decode cX5_jamsIn 61 = .ok (.invokevirtual 128, 3) := by decide +kernel
theorem dX5_jamsIn_64 : decode cX5_jamsIn 64 = .ok (.ifCond .eq 8, 3) := by decide +kernel
theorem dX5_jamsIn_67 : decode cX5_jamsIn 67 = .ok (.iload 4, 2) := by decide +kernel
theorem dX5_jamsIn_69 : decode cX5_jamsIn 69 = .ok (.iconst 1, 1) := by decide +kernel
theorem dX5_jamsIn_70 : decode cX5_jamsIn 70 = .ok (.isub, 1) := by decide +kernel
theorem dX5_jamsIn_71 : decode cX5_jamsIn 71 = .ok (.ireturn, 1) := by decide +kernel
theorem dX5_jamsIn_72 : decode cX5_jamsIn 72 = .ok (.iinc 4 1, 3) := by decide +kernel
theorem dX5_jamsIn_75 : decode cX5_jamsIn 75 = .ok (.goto (-38), 3) := by decide +kernel
theorem dX5_jamsIn_78 : decode cX5_jamsIn 78 = .ok (.iconst (-1), 1) := by decide +kernel
theorem dX5_jamsIn_79 : decode cX5_jamsIn 79 = .ok (.ireturn, 1) := by decide +kernel
theorem dX5_ahead_0 : decode cX5_ahead 0 = .ok (.iload_n 2, 1) := by decide +kernel
theorem dX5_ahead_1 : decode cX5_ahead 1 = .ok (.invokestatic 97, 3) := by decide +kernel
theorem dX5_ahead_4 : decode cX5_ahead 4 = .ok (.ifCond .ne 13, 3) := by decide +kernel
theorem dX5_ahead_7 : decode cX5_ahead 7 = .ok (.new 84, 3) := by decide +kernel
theorem dX5_ahead_10 : decode cX5_ahead 10 = .ok (.dup, 1) := by decide +kernel
theorem dX5_ahead_11 : decode cX5_ahead 11 = .ok (.ldc 101, 2) := by decide +kernel
theorem dX5_ahead_13 : decode cX5_ahead 13 = .ok (.invokespecial 88, 3) := by decide +kernel
theorem dX5_ahead_16 : decode cX5_ahead 16 = .ok (.athrow, 1) := by decide +kernel
theorem dX5_ahead_17 : decode cX5_ahead 17 = .ok (.iload_n 1, 1) := by decide +kernel
theorem dX5_ahead_18 : decode cX5_ahead 18 = .ok (.sipush (-9999), 3) := by decide +kernel
theorem dX5_ahead_21 : decode cX5_ahead 21 = .ok (.if_icmp .lt 10, 3) := by decide +kernel
theorem dX5_ahead_24 : decode cX5_ahead 24 = .ok (.iload_n 1, 1) := by decide +kernel
theorem dX5_ahead_25 : decode cX5_ahead 25 = .ok (.sipush 9999, 3) := by decide +kernel
theorem dX5_ahead_28 : decode cX5_ahead 28 = .ok (.if_icmp .le 14, 3) := by decide +kernel
theorem dX5_ahead_31 : decode cX5_ahead 31 = .ok (.new 51, 3) := by decide +kernel
theorem dX5_ahead_34 : decode cX5_ahead 34 = .ok (.dup, 1) := by decide +kernel
theorem dX5_ahead_35 : decode cX5_ahead 35 = .ok (.ldc_w 279, 3) := by decide +kernel
theorem dX5_ahead_38 : decode cX5_ahead 38 = .ok (.invokespecial 55, 3) := by decide +kernel
theorem dX5_ahead_41 : decode cX5_ahead 41 = .ok (.athrow, 1) := by decide +kernel
theorem dX5_ahead_42 : decode cX5_ahead 42 = .ok (.aload_n 0, 1) := by decide +kernel
theorem dX5_ahead_43 : decode cX5_ahead 43 = .ok (.getfield 10, 3) := by decide +kernel
theorem dX5_ahead_46 : decode cX5_ahead 46 = .ok (.getfield 62, 3) := by decide +kernel
theorem dX5_ahead_49 : decode cX5_ahead 49 = .ok (.iload_n 2, 1) := by decide +kernel
theorem dX5_ahead_50 : decode cX5_ahead 50 = .ok (.iload_n 1, 1) := by decide +kernel
theorem dX5_ahead_51 : decode cX5_ahead 51 = .ok (.invokevirtual 220, 3) := by decide +kernel
theorem dX5_ahead_54 : decode cX5_ahead 54 = .ok (.ireturn, 1) := by decide +kernel
theorem dX5_frees_0 : decode cX5_frees 0 = .ok (.iload_n 1, 1) := by decide +kernel
theorem dX5_frees_1 : decode cX5_frees 1 = .ok (.invokestatic 263, 3) := by decide +kernel
theorem dX5_frees_4 : decode cX5_frees 4 = .ok (.ifCond .ne 14, 3) := by decide +kernel
theorem dX5_frees_7 : decode cX5_frees 7 = .ok (.new 51, 3) := by decide +kernel
theorem dX5_frees_10 : decode cX5_frees 10 = .ok (.dup, 1) := by decide +kernel
theorem dX5_frees_11 : decode cX5_frees 11 = .ok (.ldc_w 266, 3) := by decide +kernel
theorem dX5_frees_14 : decode cX5_frees 14 = .ok (.invokespecial 55, 3) := by decide +kernel
theorem dX5_frees_17 : decode cX5_frees 17 = .ok (.athrow, 1) := by decide +kernel
theorem dX5_frees_18 : decode cX5_frees 18 = .ok (.iload_n 1, 1) := by decide +kernel
theorem dX5_frees_19 : decode cX5_frees 19 = .ok (.invokestatic 268, 3) := by decide +kernel
theorem dX5_frees_22 : decode cX5_frees 22 = .ok (.istore_n 2, 1) := by decide +kernel
theorem dX5_frees_23 : decode cX5_frees 23 = .ok (.aload_n 0, 1) := by decide +kernel
theorem dX5_frees_24 : decode cX5_frees 24 = .ok (.getfield 10, 3) := by decide +kernel
theorem dX5_frees_27 : decode cX5_frees 27 = .ok (.aload_n 0, 1) := by decide +kernel
theorem dX5_frees_28 : decode cX5_frees 28 = .ok (.getfield 10, 3) := by decide +kernel
theorem dX5_frees_31 : decode cX5_frees 31 = .ok (.getfield 62, 3) := by decide +kernel
theorem dX5_frees_34 : decode cX5_frees 34 = .ok (.iload_n 2, 1) := by decide +kernel
theorem dX5_frees_35 : decode cX5_frees 35 = .ok (.invokevirtual 65, 3) := by decide +kernel
theorem dX5_frees_38 : decode cX5_frees 38 = .ok (.ifCond .ne 5, 3) := by decide +kernel
theorem dX5_frees_41 : decode cX5_frees 41 = .ok (.iconst (-1), 1) := by decide +kernel
theorem dX5_frees_42 : decode cX5_frees 42 = .ok (.ireturn, 1) := by decide +kernel
theorem dX5_frees_43 : decode cX5_frees 43 = .ok (.iconst 0, 1) := by decide +kernel
theorem dX5_frees_44 : decode cX5_frees 44 = .ok (.istore_n 3, 1) := by decide +kernel
theorem dX5_frees_45 : decode cX5_frees 45 = .ok (.iload_n 3, 1) := by decide +kernel
theorem dX5_frees_46 : decode cX5_frees 46 = .ok (.iconst 5, 1) := by decide +kernel
theorem dX5_frees_47 : decode cX5_frees 47 = .ok (.if_icmp .ge 66, 3) := by decide +kernel
theorem dX5_frees_50 : decode cX5_frees 50 = .ok (.aload_n 0, 1) := by decide +kernel
theorem dX5_frees_51 : decode cX5_frees 51 = .ok (.getfield 10, 3) := by decide +kernel
theorem dX5_frees_54 : decode cX5_frees 54 = .ok (.getfield 62, 3) := by decide +kernel
theorem dX5_frees_57 : decode cX5_frees 57 = .ok (.getfield 106, 3) := by decide +kernel
theorem dX5_frees_60 : decode cX5_frees 60 = .ok (.iload_n 3, 1) := by decide +kernel
theorem dX5_frees_61 : decode cX5_frees 61 = .ok (.baload, 1) := by decide +kernel
theorem dX5_frees_62 : decode cX5_frees 62 = .ok (.ifCond .ne 6, 3) := by decide +kernel
theorem dX5_frees_65 : decode cX5_frees 65 = .ok (.goto 42, 3) := by decide +kernel
theorem dX5_frees_68 : decode cX5_frees 68 = .ok (.aload_n 0, 1) := by decide +kernel
theorem dX5_frees_69 : decode cX5_frees 69 = .ok (.getfield 47, 3) := by decide +kernel
theorem dX5_frees_72 : decode cX5_frees 72 = .ok (.aload_n 0, 1) := by decide +kernel
theorem dX5_frees_73 : decode cX5_frees 73 = .ok (.getfield 10, 3) := by decide +kernel
theorem dX5_frees_76 : decode cX5_frees 76 = .ok (.getfield 62, 3) := by decide +kernel
theorem dX5_frees_79 : decode cX5_frees 79 = .ok (.invokevirtual 116, 3) := by decide +kernel
theorem dX5_frees_82 : decode cX5_frees 82 = .ok (.aload_n 0, 1) := by decide +kernel
theorem dX5_frees_83 : decode cX5_frees 83 = .ok (.getfield 47, 3) := by decide +kernel
theorem dX5_frees_86 : decode cX5_frees 86 = .ok (.iload_n 3, 1) := by decide +kernel
theorem dX5_frees_87 : decode cX5_frees 87 = .ok (.invokevirtual 103, 3) := by decide +kernel
theorem dX5_frees_90 : decode cX5_frees 90 = .ok (.aload_n 0, 1) := by decide +kernel
theorem dX5_frees_91 : decode cX5_frees 91 = .ok (.getfield 10, 3) := by decide +kernel
theorem dX5_frees_94 : decode cX5_frees 94 = .ok (.aload_n 0, 1) := by decide +kernel
theorem dX5_frees_95 : decode cX5_frees 95 = .ok (.getfield 47, 3) := by decide +kernel
theorem dX5_frees_98 : decode cX5_frees 98 = .ok (.iload_n 2, 1) := by decide +kernel
theorem dX5_frees_99 : decode cX5_frees 99 = .ok (.invokevirtual 65, 3) := by decide +kernel
theorem dX5_frees_102 : decode cX5_frees 102 = .ok (.ifCond .ne 5, 3) := by decide +kernel
theorem dX5_frees_105 : decode cX5_frees 105 = .ok (.iload_n 3, 1) := by decide +kernel
theorem dX5_frees_106 : decode cX5_frees 106 = .ok (.ireturn, 1) := by decide +kernel
theorem dX5_frees_107 : decode cX5_frees 107 = .ok (.iinc 3 1, 3) := by decide +kernel
theorem dX5_frees_110 : decode cX5_frees 110 = .ok (.goto (-65), 3) := by decide +kernel
theorem dX5_frees_113 : decode cX5_frees 113 = .ok (.iconst (-1), 1) := by decide +kernel
theorem dX5_frees_114 : decode cX5_frees 114 = .ok (.ireturn, 1) := by decide +kernel
theorem dX5_allowedShare_0 : decode cX5_allowedShare 0 = .ok (.aload_n 0, 1) := by decide +kernel
theorem dX5_allowedShare_1 : decode cX5_allowedShare 1 = .ok (.getfield 10, 3) := by decide +kernel
theorem dX5_allowedShare_4 : decode cX5_allowedShare 4 = .ok (.getfield 62, 3) := by decide +kernel
theorem dX5_allowedShare_7 : decode cX5_allowedShare 7 = .ok (.invokevirtual 276, 3) := by decide +kernel
theorem dX5_allowedShare_10 : decode cX5_allowedShare 10 = .ok (.istore_n 1, 1) := by decide +kernel
theorem dX5_allowedShare_11 : decode cX5_allowedShare 11 = .ok (.iload_n 1, 1) := by decide +kernel
theorem dX5_allowedShare_12 : decode cX5_allowedShare 12 = .ok (.iconst 1, 1) := by decide +kernel
theorem dX5_allowedShare_13 : decode cX5_allowedShare 13 = .ok (.if_icmp .ge 5, 3) := by decide +kernel
theorem dX5_allowedShare_16 : decode cX5_allowedShare 16 = .ok (.dconst 0, 1) := by decide +kernel
theorem dX5_allowedShare_17 : decode cX5_allowedShare 17 = .ok (.dreturn, 1) := by decide +kernel
theorem dX5_allowedShare_18 : decode cX5_allowedShare 18 = .ok (.iconst 0, 1) := by decide +kernel
theorem dX5_allowedShare_19 : decode cX5_allowedShare 19 = .ok (.istore_n 2, 1) := by decide +kernel
theorem dX5_allowedShare_20 : decode cX5_allowedShare 20 = .ok (.iconst 0, 1) := by decide +kernel
theorem dX5_allowedShare_21 : decode cX5_allowedShare 21 = .ok (.istore_n 3, 1) := by decide +kernel
theorem dX5_allowedShare_22 : decode cX5_allowedShare 22 = .ok (.iload_n 3, 1) := by decide +kernel
theorem dX5_allowedShare_23 : decode cX5_allowedShare 23 = .ok (.iload_n 1, 1) := by decide +kernel
theorem dX5_allowedShare_24 : decode cX5_allowedShare 24 = .ok (.if_icmp .ge 33, 3) := by decide +kernel
theorem dX5_allowedShare_27 : decode cX5_allowedShare 27 = .ok (.aload_n 0, 1) := by decide +kernel
theorem dX5_allowedShare_28 : decode cX5_allowedShare 28 = .ok (.getfield 10, 3) := by decide +kernel
theorem dX5_allowedShare_31 : decode cX5_allowedShare 31 = .ok (.getfield 62, 3) := by decide +kernel
theorem dX5_allowedShare_34 : decode cX5_allowedShare 34 = .ok (.iload_n 3, 1) := by decide +kernel
theorem dX5_allowedShare_35 : decode cX5_allowedShare 35 = .ok (.aload_n 0, 1) := by decide +kernel
theorem dX5_allowedShare_36 : decode cX5_allowedShare 36 = .ok (.getfield 10, 3) := by decide +kernel
theorem dX5_allowedShare_39 : decode cX5_allowedShare 39 = .ok (.getfield 124, 3) := by decide +kernel
theorem dX5_allowedShare_42 : decode cX5_allowedShare 42 = .ok (.invokevirtual 128, 3) := by decide +kernel
theorem dX5_allowedShare_45 : decode cX5_allowedShare 45 = .ok (.ifCond .ne 6, 3) := by decide +kernel
theorem dX5_allowedShare_48 : decode cX5_allowedShare 48 = .ok (.iinc 2 1, 3) := by decide +kernel
theorem dX5_allowedShare_51 : decode cX5_allowedShare 51 = .ok (.iinc 3 1, 3) := by decide +kernel
theorem dX5_allowedShare_54 : decode cX5_allowedShare 54 = .ok (.goto (-32), 3) := by decide +kernel
theorem dX5_allowedShare_57 : decode cX5_allowedShare 57 = .ok (.iload_n 2, 1) := by decide +kernel
theorem dX5_allowedShare_58 : decode cX5_allowedShare 58 = .ok (.i2d, 1) := by decide +kernel
theorem dX5_allowedShare_59 : decode cX5_allowedShare 59 = .ok (.iload_n 1, 1) := by decide +kernel
theorem dX5_allowedShare_60 : decode cX5_allowedShare 60 = .ok (.i2d, 1) := by decide +kernel
theorem dX5_allowedShare_61 : decode cX5_allowedShare 61 = .ok (.ddiv, 1) := by decide +kernel
theorem dX5_allowedShare_62 : decode cX5_allowedShare 62 = .ok (.dreturn, 1) := by decide +kernel
theorem dX5_meanHeight_0 : decode cX5_meanHeight 0 = .ok (.iconst 0, 1) := by decide +kernel
theorem dX5_meanHeight_1 : decode cX5_meanHeight 1 = .ok (.istore_n 1, 1) := by decide +kernel
theorem dX5_meanHeight_2 : decode cX5_meanHeight 2 = .ok (.iconst 0, 1) := by decide +kernel
theorem dX5_meanHeight_3 : decode cX5_meanHeight 3 = .ok (.istore_n 2, 1) := by decide +kernel
theorem dX5_meanHeight_4 : decode cX5_meanHeight 4 = .ok (.iload_n 2, 1) := by decide +kernel
theorem dX5_meanHeight_5 : decode cX5_meanHeight 5 = .ok (.iconst 5, 1) := by decide +kernel
theorem dX5_meanHeight_6 : decode cX5_meanHeight 6 = .ok (.if_icmp .ge 24, 3) := by decide +kernel
theorem dX5_meanHeight_9 : decode cX5_meanHeight 9 = .ok (.iload_n 1, 1) := by decide +kernel
theorem dX5_meanHeight_10 : decode cX5_meanHeight 10 = .ok (.aload_n 0, 1) := by decide +kernel
theorem dX5_meanHeight_11 : decode cX5_meanHeight 11 = .ok (.getfield 10, 3) := by decide +kernel
theorem dX5_meanHeight_14 : decode cX5_meanHeight 14 = .ok (.getfield 62, 3) := by decide +kernel
theorem dX5_meanHeight_17 : decode cX5_meanHeight 17 = .ok (.iload_n 2, 1) := by decide +kernel
theorem dX5_meanHeight_18 : decode cX5_meanHeight 18 = .ok (.iconst 0, 1) := by decide +kernel
theorem dX5_meanHeight_19 : decode cX5_meanHeight 19 = .ok (.invokevirtual 220, 3) := by decide +kernel
theorem dX5_meanHeight_22 : decode cX5_meanHeight 22 = .ok (.iadd, 1) := by decide +kernel
theorem dX5_meanHeight_23 : decode cX5_meanHeight 23 = .ok (.istore_n 1, 1) := by decide +kernel
theorem dX5_meanHeight_24 : decode cX5_meanHeight 24 = .ok (.iinc 2 1, 3) := by decide +kernel
theorem dX5_meanHeight_27 : decode cX5_meanHeight 27 = .ok (.goto (-23), 3) := by decide +kernel
theorem dX5_meanHeight_30 : decode cX5_meanHeight 30 = .ok (.iload_n 1, 1) := by decide +kernel
theorem dX5_meanHeight_31 : decode cX5_meanHeight 31 = .ok (.i2f, 1) := by decide +kernel
theorem dX5_meanHeight_32 : decode cX5_meanHeight 32 = .ok (.ldc_w 281, 3) := by decide +kernel
theorem dX5_meanHeight_35 : decode cX5_meanHeight 35 = .ok (.fdiv, 1) := by decide +kernel
theorem dX5_meanHeight_36 : decode cX5_meanHeight 36 = .ok (.freturn, 1) := by decide +kernel
theorem dX5_digest_0 : decode cX5_digest 0 = .ok (.ldc2_w 282, 3) := by decide +kernel
theorem dX5_digest_3 : decode cX5_digest 3 = .ok (.lstore_n 1, 1) := by decide +kernel
theorem dX5_digest_4 : decode cX5_digest 4 = .ok (.iconst 0, 1) := by decide +kernel
theorem dX5_digest_5 : decode cX5_digest 5 = .ok (.istore_n 3, 1) := by decide +kernel
theorem dX5_digest_6 : decode cX5_digest 6 = .ok (.iload_n 3, 1) := by decide +kernel
theorem dX5_digest_7 : decode cX5_digest 7 = .ok (.bipush 12, 2) := by decide +kernel
theorem dX5_digest_9 : decode cX5_digest 9 = .ok (.if_icmp .gt 20, 3) := by decide +kernel
theorem dX5_digest_12 : decode cX5_digest 12 = .ok (.lload_n 1, 1) := by decide +kernel
theorem dX5_digest_13 : decode cX5_digest 13 = .ok (.aload_n 0, 1) := by decide +kernel
theorem dX5_digest_14 : decode cX5_digest 14 = .ok (.iload_n 3, 1) := by decide +kernel
theorem dX5_digest_15 : decode cX5_digest 15 = .ok (.invokevirtual 284, 3) := by decide +kernel
theorem dX5_digest_18 : decode cX5_digest 18 = .ok (.i2l, 1) := by decide +kernel
theorem dX5_digest_19 : decode cX5_digest 19 = .ok (.invokestatic 287, 3) := by decide +kernel
theorem dX5_digest_22 : decode cX5_digest 22 = .ok (.lstore_n 1, 1) := by decide +kernel
theorem dX5_digest_23 : decode cX5_digest 23 = .ok (.iinc 3 1, 3) := by decide +kernel
theorem dX5_digest_26 : decode cX5_digest 26 = .ok (.goto (-20), 3) := by decide +kernel
theorem dX5_digest_29 : decode cX5_digest 29 = .ok (.aload_n 0, 1) := by decide +kernel
theorem dX5_digest_30 : decode cX5_digest 30 = .ok (.lload_n 1, 1) := by decide +kernel
theorem dX5_digest_31 : decode cX5_digest 31 = .ok (.invokevirtual 291, 3) := by decide +kernel
theorem dX5_digest_34 : decode cX5_digest 34 = .ok (.lstore_n 1, 1) := by decide +kernel
theorem dX5_digest_35 : decode cX5_digest 35 = .ok (.iconst 0, 1) := by decide +kernel
theorem dX5_digest_36 : decode cX5_digest 36 = .ok (.istore_n 3, 1) := by decide +kernel
theorem dX5_digest_37 : decode cX5_digest 37 = .ok (.iload_n 3, 1) := by decide +kernel
theorem dX5_digest_38 : decode cX5_digest 38 = .ok (.bipush 60, 2) := by decide +kernel
theorem dX5_digest_40 : decode cX5_digest 40 = .ok (.if_icmp .ge 27, 3) := by decide +kernel
theorem dX5_digest_43 : decode cX5_digest 43 = .ok (.lload_n 1, 1) := by decide +kernel
theorem dX5_digest_44 : decode cX5_digest 44 = .ok (.aload_n 0, 1) := by decide +kernel
theorem dX5_digest_45 : decode cX5_digest 45 = .ok (.getfield 10, 3) := by decide +kernel
theorem dX5_digest_48 : decode cX5_digest 48 = .ok (.getfield 89, 3) := by decide +kernel
theorem dX5_digest_51 : decode cX5_digest 51 = .ok (.iload_n 3, 1) := by decide +kernel
theorem dX5_digest_52 : decode cX5_digest 52 = .ok (.baload, 1) := by decide +kernel
theorem dX5_digest_53 : decode cX5_digest 53 = .ok (.invokestatic 77, 3) := by decide +kernel
theorem dX5_digest_56 : decode cX5_digest 56 = .ok (.i2l, 1) := by decide +kernel
theorem dX5_digest_57 : decode cX5_digest 57 = .ok (.invokestatic 287, 3) := by decide +kernel
theorem dX5_digest_60 : decode cX5_digest 60 = .ok (.lstore_n 1, 1) := by decide +kernel
theorem dX5_digest_61 : decode cX5_digest 61 = .ok (.iinc 3 1, 3) := by decide +kernel
theorem dX5_digest_64 : decode cX5_digest 64 = .ok (.goto (-27), 3) := by decide +kernel
theorem dX5_digest_67 : decode cX5_digest 67 = .ok (.aload_n 0, 1) := by decide +kernel
theorem dX5_digest_68 : decode cX5_digest 68 = .ok (.lload_n 1, 1) := by decide +kernel
theorem dX5_digest_69 : decode cX5_digest 69 = .ok (.invokevirtual 295, 3) := by decide +kernel
theorem dX5_digest_72 : decode cX5_digest 72 = .ok (.lstore_n 1, 1) := by decide +kernel
theorem dX5_digest_73 : decode cX5_digest 73 = .ok (.aload_n 0, 1) := by decide +kernel
theorem dX5_digest_74 : decode cX5_digest 74 = .ok (.lload_n 1, 1) := by decide +kernel
theorem dX5_digest_75 : decode cX5_digest 75 = .ok (.invokevirtual 298, 3) := by decide +kernel
theorem dX5_digest_78 : decode cX5_digest 78 = .ok (.lstore_n 1, 1) := by decide +kernel
theorem dX5_digest_79 : decode cX5_digest 79 = .ok (.lload_n 1, 1) := by decide +kernel
theorem dX5_digest_80 : decode cX5_digest 80 = .ok (.aload_n 0, 1) := by decide +kernel
theorem dX5_digest_81 : decode cX5_digest 81 = .ok (.getfield 19, 3) := by decide +kernel
theorem dX5_digest_84 : decode cX5_digest 84 = .ok (.invokestatic 77, 3) := by decide +kernel
theorem dX5_digest_87 : decode cX5_digest 87 = .ok (.i2l, 1) := by decide +kernel
theorem dX5_digest_88 : decode cX5_digest 88 = .ok (.invokestatic 287, 3) := by decide +kernel
theorem dX5_digest_91 : decode cX5_digest 91 = .ok (.lstore_n 1, 1) := by decide +kernel
theorem dX5_digest_92 : decode cX5_digest 92 = .ok (.lload_n 1, 1) := by decide +kernel
theorem dX5_digest_93 : decode cX5_digest 93 = .ok (.aload_n 0, 1) := by decide +kernel
theorem dX5_digest_94 : decode cX5_digest 94 = .ok (.getfield 33, 3) := by decide +kernel
theorem dX5_digest_97 : decode cX5_digest 97 = .ok (.getfield 182, 3) := by decide +kernel
theorem dX5_digest_100 : decode cX5_digest 100 = .ok (.i2l, 1) := by decide +kernel
theorem dX5_digest_101 : decode cX5_digest 101 = .ok (.invokestatic 287, 3) := by decide +kernel
theorem dX5_digest_104 : decode cX5_digest 104 = .ok (.lstore_n 1, 1) := by decide +kernel
theorem dX5_digest_105 : decode cX5_digest 105 = .ok (.iconst 0, 1) := by decide +kernel
theorem dX5_digest_106 : decode cX5_digest 106 = .ok (.istore_n 3, 1) := by decide +kernel
theorem dX5_digest_107 : decode cX5_digest 107 = .ok (.iload_n 3, 1) := by decide +kernel
theorem dX5_digest_108 : decode cX5_digest 108 = .ok (.aload_n 0, 1) := by decide +kernel
theorem dX5_digest_109 : decode cX5_digest 109 = .ok (.getfield 33, 3) := by decide +kernel
theorem dX5_digest_112 : decode cX5_digest 112 = .ok (.getfield 182, 3) := by decide +kernel
theorem dX5_digest_115 : decode cX5_digest 115 = .ok (.if_icmp .ge 23, 3) := by decide +kernel
theorem dX5_digest_118 : decode cX5_digest 118 = .ok (.lload_n 1, 1) := by decide +kernel
theorem dX5_digest_119 : decode cX5_digest 119 = .ok (.aload_n 0, 1) := by decide +kernel
theorem dX5_digest_120 : decode cX5_digest 120 = .ok (.getfield 33, 3) := by decide +kernel
theorem dX5_digest_123 : decode cX5_digest 123 = .ok (.iload_n 3, 1) := by decide +kernel
theorem dX5_digest_124 : decode cX5_digest 124 = .ok (.invokevirtual 301, 3) := by decide +kernel
theorem dX5_digest_127 : decode cX5_digest 127 = .ok (.i2l, 1) := by decide +kernel
theorem dX5_digest_128 : decode cX5_digest 128 = .ok (.invokestatic 287, 3) := by decide +kernel
theorem dX5_digest_131 : decode cX5_digest 131 = .ok (.lstore_n 1, 1) := by decide +kernel
theorem dX5_digest_132 : decode cX5_digest 132 = .ok (.iinc 3 1, 3) := by decide +kernel
theorem dX5_digest_135 : decode cX5_digest 135 = .ok (.goto (-28), 3) := by decide +kernel
theorem dX5_digest_138 : decode cX5_digest 138 = .ok (.lload_n 1, 1) := by decide +kernel
theorem dX5_digest_139 : decode cX5_digest 139 = .ok (.lreturn, 1) := by decide +kernel
theorem dX5_isWheel_0 : decode cX5_isWheel 0 = .ok (.iload_n 0, 1) := by decide +kernel
theorem dX5_isWheel_1 : decode cX5_isWheel 1 = .ok (.ifCond .lt 12, 3) := by decide +kernel
theorem dX5_isWheel_4 : decode cX5_isWheel 4 = .ok (.iload_n 0, 1) := by decide +kernel
theorem dX5_isWheel_5 : decode cX5_isWheel 5 = .ok (.iconst 5, 1) := by decide +kernel
theorem dX5_isWheel_6 : decode cX5_isWheel 6 = .ok (.if_icmp .ge 7, 3) := by decide +kernel
theorem dX5_isWheel_9 : decode cX5_isWheel 9 = .ok (.iconst 1, 1) := by decide +kernel
theorem dX5_isWheel_10 : decode cX5_isWheel 10 = .ok (.goto 4, 3) := by decide +kernel
theorem dX5_isWheel_13 : decode cX5_isWheel 13 = .ok (.iconst 0, 1) := by decide +kernel
theorem dX5_isWheel_14 : decode cX5_isWheel 14 = .ok (.ireturn, 1) := by decide +kernel
theorem dX5_isHeight_0 : decode cX5_isHeight 0 = .ok (.iload_n 0, 1) := by decide +kernel
theorem dX5_isHeight_1 : decode cX5_isHeight 1 = .ok (.ifCond .lt 13, 3) := by decide +kernel
theorem dX5_isHeight_4 : decode cX5_isHeight 4 = .ok (.iload_n 0, 1) := by decide +kernel
theorem dX5_isHeight_5 : decode cX5_isHeight 5 = .ok (.bipush 9, 2) := by decide +kernel
theorem dX5_isHeight_7 : decode cX5_isHeight 7 = .ok (.if_icmp .gt 7, 3) := by decide +kernel
theorem dX5_isHeight_10 : decode cX5_isHeight 10 = .ok (.iconst 1, 1) := by decide +kernel
theorem dX5_isHeight_11 : decode cX5_isHeight 11 = .ok (.goto 4, 3) := by decide +kernel
theorem dX5_isHeight_14 : decode cX5_isHeight 14 = .ok (.iconst 0, 1) := by decide +kernel
theorem dX5_isHeight_15 : decode cX5_isHeight 15 = .ok (.ireturn, 1) := by decide +kernel
theorem dX5_isDirection_0 : decode cX5_isDirection 0 = .ok (.iload_n 0, 1) := by decide +kernel
theorem dX5_isDirection_1 : decode cX5_isDirection 1 = .ok (.ifCond .eq 8, 3) := by decide +kernel
theorem dX5_isDirection_4 : decode cX5_isDirection 4 = .ok (.iload_n 0, 1) := by decide +kernel
theorem dX5_isDirection_5 : decode cX5_isDirection 5 = .ok (.iconst 1, 1) := by decide +kernel
theorem dX5_isDirection_6 : decode cX5_isDirection 6 = .ok (.if_icmp .ne 7, 3) := by decide +kernel
theorem dX5_isDirection_9 : decode cX5_isDirection 9 = .ok (.iconst 1, 1) := by decide +kernel
theorem dX5_isDirection_10 : decode cX5_isDirection 10 = .ok (.goto 4, 3) := by decide +kernel
theorem dX5_isDirection_13 : decode cX5_isDirection 13 = .ok (.iconst 0, 1) := by decide +kernel
theorem dX5_isDirection_14 : decode cX5_isDirection 14 = .ok (.ireturn, 1) := by decide +kernel
theorem dX5_isTooth_0 : decode cX5_isTooth 0 = .ok (.iload_n 1, 1) := by decide +kernel
theorem dX5_isTooth_1 : decode cX5_isTooth 1 = .ok (.invokestatic 97, 3) := by decide +kernel
theorem dX5_isTooth_4 : decode cX5_isTooth 4 = .ok (.ifCond .eq 27, 3) := by decide +kernel
theorem dX5_isTooth_7 : decode cX5_isTooth 7 = .ok (.iload_n 2, 1) := by decide +kernel
theorem dX5_isTooth_8 : decode cX5_isTooth 8 = .ok (.ifCond .lt 23, 3) := by decide +kernel
theorem dX5_isTooth_11 : decode cX5_isTooth 11 = .ok (.iload_n 2, 1) := by decide +kernel
theorem dX5_isTooth_12 : decode cX5_isTooth 12 = .ok (.aload_n 0, 1) := by decide +kernel
theorem dX5_isTooth_13 : decode cX5_isTooth 13 = .ok (.getfield 10, 3) := by decide +kernel
theorem dX5_isTooth_16 : decode cX5_isTooth 16 = .ok (.getfield 62, 3) := by decide +kernel
theorem dX5_isTooth_19 : decode cX5_isTooth 19 = .ok (.getfield 158, 3) := by decide +kernel
theorem dX5_isTooth_22 : decode cX5_isTooth 22 = .ok (.iload_n 1, 1) := by decide +kernel
theorem dX5_isTooth_23 : decode cX5_isTooth 23 = .ok (.iaload, 1) := by decide +kernel
theorem dX5_isTooth_24 : decode cX5_isTooth 24 = .ok (.if_icmp .ge 7, 3) := by decide +kernel
theorem dX5_isTooth_27 : decode cX5_isTooth 27 = .ok (.iconst 1, 1) := by decide +kernel
theorem dX5_isTooth_28 : decode cX5_isTooth 28 = .ok (.goto 4, 3) := by decide +kernel
theorem dX5_isTooth_31 : decode cX5_isTooth 31 = .ok (.iconst 0, 1) := by decide +kernel
theorem dX5_isTooth_32 : decode cX5_isTooth 32 = .ok (.ireturn, 1) := by decide +kernel
theorem dX5_isScene_0 : decode cX5_isScene 0 = .ok (.iload_n 1, 1) := by decide +kernel
theorem dX5_isScene_1 : decode cX5_isScene 1 = .ok (.ifCond .lt 18, 3) := by decide +kernel
theorem dX5_isScene_4 : decode cX5_isScene 4 = .ok (.iload_n 1, 1) := by decide +kernel
theorem dX5_isScene_5 : decode cX5_isScene 5 = .ok (.aload_n 0, 1) := by decide +kernel
theorem dX5_isScene_6 : decode cX5_isScene 6 = .ok (.getfield 10, 3) := by decide +kernel
theorem dX5_isScene_9 : decode cX5_isScene 9 = .ok (.getfield 164, 3) := by decide +kernel
theorem dX5_isScene_12 : decode cX5_isScene 12 = .ok (.if_icmp .ge 7, 3) := by decide +kernel
theorem dX5_isScene_15 : decode cX5_isScene 15 = .ok (.iconst 1, 1) := by decide +kernel
theorem dX5_isScene_16 : decode cX5_isScene 16 = .ok (.goto 4, 3) := by decide +kernel
theorem dX5_isScene_19 : decode cX5_isScene 19 = .ok (.iconst 0, 1) := by decide +kernel
theorem dX5_isScene_20 : decode cX5_isScene 20 = .ok (.ireturn, 1) := by decide +kernel
theorem dX5_toDirection_0 : decode cX5_toDirection 0 = .ok (.iload_n 0, 1) := by decide +kernel
theorem dX5_toDirection_1 : decode cX5_toDirection 1 = .ok (.ifCond .ne 7, 3) := by decide +kernel
theorem dX5_toDirection_4 : decode cX5_toDirection 4 = .ok (.iconst 1, 1) := by decide +kernel
theorem dX5_toDirection_5 : decode cX5_toDirection 5 = .ok (.goto 4, 3) := by decide +kernel
theorem dX5_toDirection_8 : decode cX5_toDirection 8 = .ok (.iconst (-1), 1) := by decide +kernel
theorem dX5_toDirection_9 : decode cX5_toDirection 9 = .ok (.ireturn, 1) := by decide +kernel
theorem dX5_toNumber_0 : decode cX5_toNumber 0 = .ok (.iload_n 0, 1) := by decide +kernel
theorem dX5_toNumber_1 : decode cX5_toNumber 1 = .ok (.ifCond .eq 7, 3) := by decide +kernel
theorem dX5_toNumber_4 : decode cX5_toNumber 4 = .ok (.iconst 1, 1) := by decide +kernel
theorem dX5_toNumber_5 : decode cX5_toNumber 5 = .ok (.goto 4, 3) := by decide +kernel
theorem dX5_toNumber_8 : decode cX5_toNumber 8 = .ok (.iconst 0, 1) := by decide +kernel
theorem dX5_toNumber_9 : decode cX5_toNumber 9 = .ok (.ireturn, 1) := by decide +kernel
theorem dX5_modulo_0 : decode cX5_modulo 0 = .ok (.iload_n 1, 1) := by decide +kernel
theorem dX5_modulo_1 : decode cX5_modulo 1 = .ok (.iconst 1, 1) := by decide +kernel
theorem dX5_modulo_2 : decode cX5_modulo 2 = .ok (.if_icmp .ge 5, 3) := by decide +kernel
theorem dX5_modulo_5 : decode cX5_modulo 5 = .ok (.iconst 0, 1) := by decide +kernel
theorem dX5_modulo_6 : decode cX5_modulo 6 = .ok (.ireturn, 1) := by decide +kernel
theorem dX5_modulo_7 : decode cX5_modulo 7 = .ok (.iload_n 0, 1) := by decide +kernel
theorem dX5_modulo_8 : decode cX5_modulo 8 = .ok (.iload_n 1, 1) := by decide +kernel
theorem dX5_modulo_9 : decode cX5_modulo 9 = .ok (.irem, 1) := by decide +kernel
theorem dX5_modulo_10 : decode cX5_modulo 10 = .ok (.istore_n 2, 1) := by decide +kernel
theorem dX5_modulo_11 : decode cX5_modulo 11 = .ok (.iload_n 2, 1) := by decide +kernel
theorem dX5_modulo_12 : decode cX5_modulo 12 = .ok (.ifCond .ge 9, 3) := by decide +kernel
theorem dX5_modulo_15 : decode cX5_modulo 15 = .ok (.iload_n 2, 1) := by decide +kernel
theorem dX5_modulo_16 : decode cX5_modulo 16 = .ok (.iload_n 1, 1) := by decide +kernel
theorem dX5_modulo_17 : decode cX5_modulo 17 = .ok (.iadd, 1) := by decide +kernel
theorem dX5_modulo_18 : decode cX5_modulo 18 = .ok (.goto 4, 3) := by decide +kernel
theorem dX5_modulo_21 : decode cX5_modulo 21 = .ok (.iload_n 2, 1) := by decide +kernel
theorem dX5_modulo_22 : decode cX5_modulo 22 = .ok (.ireturn, 1) := by decide +kernel
theorem dX5_stepsToScene_0 : decode cX5_stepsToScene 0 = .ok (.aload_n 0, 1) := by decide +kernel
theorem dX5_stepsToScene_1 : decode cX5_stepsToScene 1 = .ok (.getfield 10, 3) := by decide +kernel
theorem dX5_stepsToScene_4 : decode cX5_stepsToScene 4 = .ok (.getfield 62, 3) := by decide +kernel
theorem dX5_stepsToScene_7 : decode cX5_stepsToScene 7 = .ok (.invokevirtual 276, 3) := by decide +kernel
theorem dX5_stepsToScene_10 : decode cX5_stepsToScene 10 = .ok (.istore_n 2, 1) := by decide +kernel
theorem dX5_stepsToScene_11 : decode cX5_stepsToScene 11 = .ok (.iconst 0, 1) := by decide +kernel
theorem dX5_stepsToScene_12 : decode cX5_stepsToScene 12 = .ok (.istore_n 3, 1) := by decide +kernel
theorem dX5_stepsToScene_13 : decode cX5_stepsToScene 13 = .ok (.iload_n 3, 1) := by decide +kernel
theorem dX5_stepsToScene_14 : decode cX5_stepsToScene 14 = .ok (.iload_n 2, 1) := by decide +kernel
theorem dX5_stepsToScene_15 : decode cX5_stepsToScene 15 = .ok (.if_icmp .ge 23, 3) := by decide +kernel
theorem dX5_stepsToScene_18 : decode cX5_stepsToScene 18 = .ok (.aload_n 0, 1) := by decide +kernel
theorem dX5_stepsToScene_19 : decode cX5_stepsToScene 19 = .ok (.getfield 10, 3) := by decide +kernel
theorem dX5_stepsToScene_22 : decode cX5_stepsToScene 22 = .ok (.iload_n 1, 1) := by decide +kernel
theorem dX5_stepsToScene_23 : decode cX5_stepsToScene 23 = .ok (.iload_n 3, 1) := by decide +kernel
theorem dX5_stepsToScene_24 : decode cX5_stepsToScene 24 = .ok (.invokevirtual 228, 3) := by decide +kernel
theorem dX5_stepsToScene_27 : decode cX5_stepsToScene 27 = .ok (.ifCond .eq 5, 3) := by decide +kernel
theorem dX5_stepsToScene_30 : decode cX5_stepsToScene 30 = .ok (.iload_n 3, 1) := by decide +kernel
theorem dX5_stepsToScene_31 : decode cX5_stepsToScene 31 = .ok (.ireturn, 1) := by decide +kernel
theorem dX5_stepsToScene_32 : decode cX5_stepsToScene 32 = .ok (.iinc 3 1, 3) := by decide +kernel
theorem dX5_stepsToScene_35 : decode cX5_stepsToScene 35 = .ok (.goto (-22), 3) := by decide +kernel
theorem dX5_stepsToScene_38 : decode cX5_stepsToScene 38 = .ok (.iconst (-1), 1) := by decide +kernel
theorem dX5_stepsToScene_39 : decode cX5_stepsToScene 39 = .ok (.ireturn, 1) := by decide +kernel
theorem dX5_roundBySteps_0 : decode cX5_roundBySteps 0 = .ok (.aload_n 0, 1) := by decide +kernel
theorem dX5_roundBySteps_1 : decode cX5_roundBySteps 1 = .ok (.getfield 47, 3) := by decide +kernel
theorem dX5_roundBySteps_4 : decode cX5_roundBySteps 4 = .ok (.aload_n 0, 1) := by decide +kernel
theorem dX5_roundBySteps_5 : decode cX5_roundBySteps 5 = .ok (.getfield 10, 3) := by decide +kernel
theorem dX5_roundBySteps_8 : decode cX5_roundBySteps 8 = .ok (.getfield 62, 3) := by decide +kernel
theorem dX5_roundBySteps_11 : decode cX5_roundBySteps 11 = .ok (.invokevirtual 116, 3) := by decide +kernel
theorem dX5_roundBySteps_14 : decode cX5_roundBySteps 14 = .ok (.iconst 1, 1) := by decide +kernel
theorem dX5_roundBySteps_15 : decode cX5_roundBySteps 15 = .ok (.istore_n 1, 1) := by decide +kernel
theorem dX5_roundBySteps_16 : decode cX5_roundBySteps 16 = .ok (.iload_n 1, 1) := by decide +kernel
theorem dX5_roundBySteps_17 : decode cX5_roundBySteps 17 = .ok (.ldc_w 304, 3) := by decide +kernel
theorem dX5_roundBySteps_20 : decode cX5_roundBySteps 20 = .ok (.if_icmp .ge 36, 3) := by decide +kernel
theorem dX5_roundBySteps_23 : decode cX5_roundBySteps 23 = .ok (.aload_n 0, 1) := by decide +kernel
theorem dX5_roundBySteps_24 : decode cX5_roundBySteps 24 = .ok (.getfield 47, 3) := by decide +kernel
theorem dX5_roundBySteps_27 : decode cX5_roundBySteps 27 = .ok (.iconst 1, 1) := by decide +kernel
theorem dX5_roundBySteps_28 : decode cX5_roundBySteps 28 = .ok (.invokevirtual 305, 3) := by decide +kernel
theorem dX5_roundBySteps_31 : decode cX5_roundBySteps 31 = .ok (.aload_n 0, 1) := by decide +kernel
theorem dX5_roundBySteps_32 : decode cX5_roundBySteps 32 = .ok (.getfield 47, 3) := by decide +kernel
theorem dX5_roundBySteps_35 : decode cX5_roundBySteps 35 = .ok (.aload_n 0, 1) := by decide +kernel
theorem dX5_roundBySteps_36 : decode cX5_roundBySteps 36 = .ok (.getfield 10, 3) := by decide +kernel
theorem dX5_roundBySteps_39 : decode cX5_roundBySteps 39 = .ok (.getfield 62, 3) := by decide +kernel
theorem dX5_roundBySteps_42 : decode cX5_roundBySteps 42 = .ok (.invokevirtual 308, 3) := by decide +kernel
theorem dX5_roundBySteps_45 : decode cX5_roundBySteps 45 = .ok (.ifCond .eq 5, 3) := by decide +kernel
theorem dX5_roundBySteps_48 : decode cX5_roundBySteps 48 = .ok (.iload_n 1, 1) := by decide +kernel
theorem dX5_roundBySteps_49 : decode cX5_roundBySteps 49 = .ok (.ireturn, 1) := by decide +kernel
theorem dX5_roundBySteps_50 : decode cX5_roundBySteps 50 = .ok (.iinc 1 1, 3) := by decide +kernel
theorem dX5_roundBySteps_53 : decode cX5_roundBySteps 53 = .ok (.goto (-37), 3) := by decide +kernel
theorem dX5_roundBySteps_56 : decode cX5_roundBySteps 56 = .ok (.iconst (-1), 1) := by decide +kernel
theorem dX5_roundBySteps_57 : decode cX5_roundBySteps 57 = .ok (.ireturn, 1) := by decide +kernel
theorem dX5_mix_0 : decode cX5_mix 0 = .ok (.ldc2_w 312, 3) := by decide +kernel
theorem dX5_mix_3 : decode cX5_mix 3 = .ok (.lload_n 0, 1) := by decide +kernel
theorem dX5_mix_4 : decode cX5_mix 4 = .ok (.lmul, 1) := by decide +kernel
theorem dX5_mix_5 : decode cX5_mix 5 = .ok (.lload_n 2, 1) := by decide +kernel
theorem dX5_mix_6 : decode cX5_mix 6 = .ok (.ladd, 1) := by decide +kernel
theorem dX5_mix_7 : decode cX5_mix 7 = .ok (.lreturn, 1) := by decide +kernel
theorem dX5_mixWheels_0 : decode cX5_mixWheels 0 = .ok (.lload_n 1, 1) := by decide +kernel
theorem dX5_mixWheels_1 : decode cX5_mixWheels 1 = .ok (.lstore_n 3, 1) := by decide +kernel
theorem dX5_mixWheels_2 : decode cX5_mixWheels 2 = .ok (.iconst 0, 1) := by decide +kernel
theorem dX5_mixWheels_3 : decode cX5_mixWheels 3 = .ok (.istore 5, 2) := by decide +kernel
theorem dX5_mixWheels_5 : decode cX5_mixWheels 5 = .ok (.iload 5, 2) := by decide +kernel
theorem dX5_mixWheels_7 : decode cX5_mixWheels 7 = .ok (.iconst 5, 1) := by decide +kernel
theorem dX5_mixWheels_8 : decode cX5_mixWheels 8 = .ok (.if_icmp .ge 86, 3) := by decide +kernel
theorem dX5_mixWheels_11 : decode cX5_mixWheels 11 = .ok (.iconst 0, 1) := by decide +kernel
theorem dX5_mixWheels_12 : decode cX5_mixWheels 12 = .ok (.istore 6, 2) := by decide +kernel
theorem dX5_mixWheels_14 : decode cX5_mixWheels 14 = .ok (.iload 6, 2) := by decide +kernel
theorem dX5_mixWheels_16 : decode cX5_mixWheels 16 = .ok (.bipush 6, 2) := by decide +kernel
theorem dX5_mixWheels_18 : decode cX5_mixWheels 18 = .ok (.if_icmp .gt 23, 3) := by decide +kernel
theorem dX5_mixWheels_21 : decode cX5_mixWheels 21 = .ok (.lload_n 3, 1) := by decide +kernel
theorem dX5_mixWheels_22 : decode cX5_mixWheels 22 = .ok (.aload_n 0, 1) := by decide +kernel
theorem dX5_mixWheels_23 : decode cX5_mixWheels 23 = .ok (.iload 5, 2) := by decide +kernel
theorem dX5_mixWheels_25 : decode cX5_mixWheels 25 = .ok (.iload 6, 2) := by decide +kernel
theorem dX5_mixWheels_27 : decode cX5_mixWheels 27 = .ok (.invokevirtual 314, 3) := by decide +kernel
theorem dX5_mixWheels_30 : decode cX5_mixWheels 30 = .ok (.i2l, 1) := by decide +kernel
theorem dX5_mixWheels_31 : decode cX5_mixWheels 31 = .ok (.invokestatic 287, 3) := by decide +kernel
theorem dX5_mixWheels_34 : decode cX5_mixWheels 34 = .ok (.lstore_n 3, 1) := by decide +kernel
theorem dX5_mixWheels_35 : decode cX5_mixWheels 35 = .ok (.iinc 6 1, 3) := by decide +kernel
theorem dX5_mixWheels_38 : decode cX5_mixWheels 38 = .ok (.goto (-24), 3) := by decide +kernel
theorem dX5_mixWheels_41 : decode cX5_mixWheels 41 = .ok (.iconst 0, 1) := by decide +kernel
theorem dX5_mixWheels_42 : decode cX5_mixWheels 42 = .ok (.istore 6, 2) := by decide +kernel
theorem dX5_mixWheels_44 : decode cX5_mixWheels 44 = .ok (.iload 6, 2) := by decide +kernel
theorem dX5_mixWheels_46 : decode cX5_mixWheels 46 = .ok (.aload_n 0, 1) := by decide +kernel
theorem dX5_mixWheels_47 : decode cX5_mixWheels 47 = .ok (.getfield 10, 3) := by decide +kernel
theorem dX5_mixWheels_50 : decode cX5_mixWheels 50 = .ok (.getfield 62, 3) := by decide +kernel
theorem dX5_mixWheels_53 : decode cX5_mixWheels 53 = .ok (.getfield 158, 3) := by decide +kernel
theorem dX5_mixWheels_56 : decode cX5_mixWheels 56 = .ok (.iload 5, 2) := by decide +kernel
theorem dX5_mixWheels_58 : decode cX5_mixWheels 58 = .ok (.iaload, 1) := by decide +kernel
theorem dX5_mixWheels_59 : decode cX5_mixWheels 59 = .ok (.if_icmp .ge 29, 3) := by decide +kernel
theorem dX5_mixWheels_62 : decode cX5_mixWheels 62 = .ok (.lload_n 3, 1) := by decide +kernel
theorem dX5_mixWheels_63 : decode cX5_mixWheels 63 = .ok (.aload_n 0, 1) := by decide +kernel
theorem dX5_mixWheels_64 : decode cX5_mixWheels 64 = .ok (.getfield 10, 3) := by decide +kernel
theorem dX5_mixWheels_67 : decode cX5_mixWheels 67 = .ok (.getfield 62, 3) := by decide +kernel
theorem dX5_mixWheels_70 : decode cX5_mixWheels 70 = .ok (.iload 5, 2) := by decide +kernel
theorem dX5_mixWheels_72 : decode cX5_mixWheels 72 = .ok (.iload 6, 2) := by decide +kernel
theorem dX5_mixWheels_74 : decode cX5_mixWheels 74 = .ok (.invokevirtual 153, 3) := by decide +kernel
theorem dX5_mixWheels_77 : decode cX5_mixWheels 77 = .ok (.i2l, 1) := by decide +kernel
theorem dX5_mixWheels_78 : decode cX5_mixWheels 78 = .ok (.invokestatic 287, 3) := by decide +kernel
theorem dX5_mixWheels_81 : decode cX5_mixWheels 81 = .ok (.lstore_n 3, 1) := by decide +kernel
theorem dX5_mixWheels_82 : decode cX5_mixWheels 82 = .ok (.iinc 6 1, 3) := by decide +kernel
theorem dX5_mixWheels_85 : decode cX5_mixWheels 85 = .ok (.goto (-41), 3) := by decide +kernel
theorem dX5_mixWheels_88 : decode cX5_mixWheels 88 = .ok (.iinc 5 1, 3) := by decide +kernel
theorem dX5_mixWheels_91 : decode cX5_mixWheels 91 = .ok (.goto (-86), 3) := by decide +kernel
theorem dX5_mixWheels_94 : decode cX5_mixWheels 94 = .ok (.lload_n 3, 1) := by decide +kernel
theorem dX5_mixWheels_95 : decode cX5_mixWheels 95 = .ok (.lreturn, 1) := by decide +kernel
theorem dX5_mixScenes_0 : decode cX5_mixScenes 0 = .ok (.lload_n 1, 1) := by decide +kernel
theorem dX5_mixScenes_1 : decode cX5_mixScenes 1 = .ok (.lstore_n 3, 1) := by decide +kernel
theorem dX5_mixScenes_2 : decode cX5_mixScenes 2 = .ok (.iconst 0, 1) := by decide +kernel
theorem dX5_mixScenes_3 : decode cX5_mixScenes 3 = .ok (.istore 5, 2) := by decide +kernel
theorem dX5_mixScenes_5 : decode cX5_mixScenes 5 = .ok (.iload 5, 2) := by decide +kernel
theorem dX5_mixScenes_7 : decode cX5_mixScenes 7 = .ok (.aload_n 0, 1) := by decide +kernel
theorem dX5_mixScenes_8 : decode cX5_mixScenes 8 = .ok (.getfield 10, 3) := by decide +kernel
theorem dX5_mixScenes_11 : decode cX5_mixScenes 11 = .ok (.getfield 164, 3) := by decide +kernel
theorem dX5_mixScenes_14 : decode cX5_mixScenes 14 = .ok (.if_icmp .ge 39, 3) := by decide +kernel
theorem dX5_mixScenes_17 : decode cX5_mixScenes 17 = .ok (.iconst 0, 1) := by decide +kernel
theorem dX5_mixScenes_18 : decode cX5_mixScenes 18 = .ok (.istore 6, 2) := by decide +kernel
theorem dX5_mixScenes_20 : decode cX5_mixScenes 20 = .ok (.iload 6, 2) := by decide +kernel
theorem dX5_mixScenes_22 : decode cX5_mixScenes 22 = .ok (.bipush 7, 2) := by decide +kernel
theorem dX5_mixScenes_24 : decode cX5_mixScenes 24 = .ok (.if_icmp .gt 23, 3) := by decide +kernel
theorem dX5_mixScenes_27 : decode cX5_mixScenes 27 = .ok (.lload_n 3, 1) := by decide +kernel
theorem dX5_mixScenes_28 : decode cX5_mixScenes 28 = .ok (.aload_n 0, 1) := by decide +kernel
theorem dX5_mixScenes_29 : decode cX5_mixScenes 29 = .ok (.iload 5, 2) := by decide +kernel
theorem dX5_mixScenes_31 : decode cX5_mixScenes 31 = .ok (.iload 6, 2) := by decide +kernel
theorem dX5_mixScenes_33 : decode cX5_mixScenes 33 = .ok (.invokevirtual 317, 3) := by decide +kernel
theorem dX5_mixScenes_36 : decode cX5_mixScenes 36 = .ok (.i2l, 1) := by decide +kernel
theorem dX5_mixScenes_37 : decode cX5_mixScenes 37 = .ok (.invokestatic 287, 3) := by decide +kernel
theorem dX5_mixScenes_40 : decode cX5_mixScenes 40 = .ok (.lstore_n 3, 1) := by decide +kernel
theorem dX5_mixScenes_41 : decode cX5_mixScenes 41 = .ok (.iinc 6 1, 3) := by decide +kernel
theorem dX5_mixScenes_44 : decode cX5_mixScenes 44 = .ok (.goto (-24), 3) := by decide +kernel
theorem dX5_mixScenes_47 : decode cX5_mixScenes 47 = .ok (.iinc 5 1, 3) := by decide +kernel
theorem dX5_mixScenes_50 : decode cX5_mixScenes 50 = .ok (.goto (-45), 3) := by decide +kernel
theorem dX5_mixScenes_53 : decode cX5_mixScenes 53 = .ok (.lload_n 3, 1) := by decide +kernel
theorem dX5_mixScenes_54 : decode cX5_mixScenes 54 = .ok (.lreturn, 1) := by decide +kernel
theorem dX5_mixWhatWouldBe_0 : decode cX5_mixWhatWouldBe 0 = .ok (.lload_n 1, 1) := by decide +kernel
theorem dX5_mixWhatWouldBe_1 : decode cX5_mixWhatWouldBe 1 = .ok (.aload_n 0, 1) := by decide +kernel
theorem dX5_mixWhatWouldBe_2 : decode cX5_mixWhatWouldBe 2 = .ok (.iconst 0, 1) := by decide +kernel
theorem dX5_mixWhatWouldBe_3 : decode cX5_mixWhatWouldBe 3 = .ok (.invokevirtual 320, 3) := by decide +kernel
theorem dX5_mixWhatWouldBe_6 : decode cX5_mixWhatWouldBe 6 = .ok (.i2l, 1) := by decide +kernel
theorem dX5_mixWhatWouldBe_7 : decode cX5_mixWhatWouldBe 7 = .ok (.invokestatic 287, 3) := by decide +kernel
theorem dX5_mixWhatWouldBe_10 : decode cX5_mixWhatWouldBe 10 = .ok (.aload_n 0, 1) := by decide +kernel
theorem dX5_mixWhatWouldBe_11 : decode cX5_mixWhatWouldBe 11 = .ok (.iconst 1, 1) := by decide +kernel
theorem dX5_mixWhatWouldBe_12 : decode cX5_mixWhatWouldBe 12 = .ok (.invokevirtual 320, 3) := by decide +kernel
theorem dX5_mixWhatWouldBe_15 : decode cX5_mixWhatWouldBe 15 = .ok (.i2l, 1) := by decide +kernel
theorem dX5_mixWhatWouldBe_16 : decode cX5_mixWhatWouldBe 16 = .ok (.invokestatic 287, 3) := by decide +kernel
theorem dX5_mixWhatWouldBe_19 : decode cX5_mixWhatWouldBe 19 = .ok (.lstore_n 3, 1) := by decide +kernel
theorem dX5_mixWhatWouldBe_20 : decode cX5_mixWhatWouldBe 20 = .ok (.lload_n 3, 1) := by decide +kernel
theorem dX5_mixWhatWouldBe_21 : decode cX5_mixWhatWouldBe 21 = .ok (.aload_n 0, 1) := by decide +kernel
theorem dX5_mixWhatWouldBe_22 : decode cX5_mixWhatWouldBe 22 = .ok (.iconst 0, 1) := by decide +kernel
theorem dX5_mixWhatWouldBe_23 : decode cX5_mixWhatWouldBe 23 = .ok (.invokevirtual 323, 3) := by decide +kernel
theorem dX5_mixWhatWouldBe_26 : decode cX5_mixWhatWouldBe 26 = .ok (.i2l, 1) := by decide +kernel
theorem dX5_mixWhatWouldBe_27 : decode cX5_mixWhatWouldBe 27 = .ok (.invokestatic 287, 3) := by decide +kernel
theorem dX5_mixWhatWouldBe_30 : decode cX5_mixWhatWouldBe 30 = .ok (.aload_n 0, 1) := by decide +kernel
theorem dX5_mixWhatWouldBe_31 : decode cX5_mixWhatWouldBe 31 = .ok (.iconst 1, 1) := by decide +kernel
theorem dX5_mixWhatWouldBe_32 : decode cX5_mixWhatWouldBe 32 = .ok (.invokevirtual 323, 3) := by decide +kernel
theorem dX5_mixWhatWouldBe_35 : decode cX5_mixWhatWouldBe 35 = .ok (.i2l, 1) := by decide +kernel
theorem dX5_mixWhatWouldBe_36 : decode cX5_mixWhatWouldBe 36 = .ok (.invokestatic 287, 3) := by decide +kernel
theorem dX5_mixWhatWouldBe_39 : decode cX5_mixWhatWouldBe 39 = .ok (.lstore_n 3, 1) := by decide +kernel
theorem dX5_mixWhatWouldBe_40 : decode cX5_mixWhatWouldBe 40 = .ok (.lload_n 3, 1) := by decide +kernel
theorem dX5_mixWhatWouldBe_41 : decode cX5_mixWhatWouldBe 41 = .ok (.aload_n 0, 1) := by decide +kernel
theorem dX5_mixWhatWouldBe_42 : decode cX5_mixWhatWouldBe 42 = .ok (.iconst 0, 1) := by decide +kernel
theorem dX5_mixWhatWouldBe_43 : decode cX5_mixWhatWouldBe 43 = .ok (.invokevirtual 326, 3) := by decide +kernel
theorem dX5_mixWhatWouldBe_46 : decode cX5_mixWhatWouldBe 46 = .ok (.i2l, 1) := by decide +kernel
theorem dX5_mixWhatWouldBe_47 : decode cX5_mixWhatWouldBe 47 = .ok (.invokestatic 287, 3) := by decide +kernel
theorem dX5_mixWhatWouldBe_50 : decode cX5_mixWhatWouldBe 50 = .ok (.aload_n 0, 1) := by decide +kernel
theorem dX5_mixWhatWouldBe_51 : decode cX5_mixWhatWouldBe 51 = .ok (.iconst 1, 1) := by decide +kernel
theorem dX5_mixWhatWouldBe_52 : decode cX5_mixWhatWouldBe 52 = .ok (.invokevirtual 326, 3) := by decide +kernel
theorem dX5_mixWhatWouldBe_55 : decode cX5_mixWhatWouldBe 55 = .ok (.i2l, 1) := by decide +kernel
theorem dX5_mixWhatWouldBe_56 : decode cX5_mixWhatWouldBe 56 = .ok (.invokestatic 287, 3) := by decide +kernel
theorem dX5_mixWhatWouldBe_59 : decode cX5_mixWhatWouldBe 59 = .ok (.lstore_n 3, 1) := by decide +kernel
theorem dX5_mixWhatWouldBe_60 : decode cX5_mixWhatWouldBe 60 = .ok (.lload_n 3, 1) := by decide +kernel
theorem dX5_mixWhatWouldBe_61 : decode cX5_mixWhatWouldBe 61 = .ok (.aload_n 0, 1) := by decide +kernel
theorem dX5_mixWhatWouldBe_62 : decode cX5_mixWhatWouldBe 62 = .ok (.iconst 0, 1) := by decide +kernel
theorem dX5_mixWhatWouldBe_63 : decode cX5_mixWhatWouldBe 63 = .ok (.invokevirtual 329, 3) := by decide +kernel
theorem dX5_mixWhatWouldBe_66 : decode cX5_mixWhatWouldBe 66 = .ok (.i2l, 1) := by decide +kernel
theorem dX5_mixWhatWouldBe_67 : decode cX5_mixWhatWouldBe 67 = .ok (.invokestatic 287, 3) := by decide +kernel
theorem dX5_mixWhatWouldBe_70 : decode cX5_mixWhatWouldBe 70 = .ok (.aload_n 0, 1) := by decide +kernel
theorem dX5_mixWhatWouldBe_71 : decode cX5_mixWhatWouldBe 71 = .ok (.iconst 1, 1) := by decide +kernel
theorem dX5_mixWhatWouldBe_72 : decode cX5_mixWhatWouldBe 72 = .ok (.invokevirtual 329, 3) := by decide +kernel
theorem dX5_mixWhatWouldBe_75 : decode cX5_mixWhatWouldBe 75 = .ok (.i2l, 1) := by decide +kernel
theorem dX5_mixWhatWouldBe_76 : decode cX5_mixWhatWouldBe 76 = .ok (.invokestatic 287, 3) := by decide +kernel
theorem dX5_mixWhatWouldBe_79 : decode cX5_mixWhatWouldBe 79 = .ok (.lstore_n 3, 1) := by decide +kernel
theorem dX5_mixWhatWouldBe_80 : decode cX5_mixWhatWouldBe 80 = .ok (.iconst 0, 1) := by decide +kernel
theorem dX5_mixWhatWouldBe_81 : decode cX5_mixWhatWouldBe 81 = .ok (.istore 5, 2) := by decide +kernel
theorem dX5_mixWhatWouldBe_83 : decode cX5_mixWhatWouldBe 83 = .ok (.iload 5, 2) := by decide +kernel
theorem dX5_mixWhatWouldBe_85 : decode cX5_mixWhatWouldBe 85 = .ok (.iconst 5, 1) := by decide +kernel
theorem dX5_mixWhatWouldBe_86 : decode cX5_mixWhatWouldBe 86 = .ok (.if_icmp .ge 23, 3) := by decide +kernel
theorem dX5_mixWhatWouldBe_89 : decode cX5_mixWhatWouldBe 89 = .ok (.lload_n 3, 1) := by decide +kernel
theorem dX5_mixWhatWouldBe_90 : decode cX5_mixWhatWouldBe 90 = .ok (.aload_n 0, 1) := by decide +kernel
theorem dX5_mixWhatWouldBe_91 : decode cX5_mixWhatWouldBe 91 = .ok (.bipush 7, 2) := by decide +kernel
theorem dX5_mixWhatWouldBe_93 : decode cX5_mixWhatWouldBe 93 = .ok (.iload 5, 2) := by decide +kernel
theorem dX5_mixWhatWouldBe_95 : decode cX5_mixWhatWouldBe 95 = .ok (.invokevirtual 332, 3) := by decide +kernel
theorem dX5_mixWhatWouldBe_98 : decode cX5_mixWhatWouldBe 98 = .ok (.i2l, 1) := by decide +kernel
theorem dX5_mixWhatWouldBe_99 : decode cX5_mixWhatWouldBe 99 = .ok (.invokestatic 287, 3) := by decide +kernel
theorem dX5_mixWhatWouldBe_102 : decode cX5_mixWhatWouldBe 102 = .ok (.lstore_n 3, 1) := by decide +kernel
theorem dX5_mixWhatWouldBe_103 : decode cX5_mixWhatWouldBe 103 = .ok (.iinc 5 1, 3) := by decide +kernel
theorem dX5_mixWhatWouldBe_106 : decode cX5_mixWhatWouldBe 106 = .ok (.goto (-23), 3) := by decide +kernel
theorem dX5_mixWhatWouldBe_109 : decode cX5_mixWhatWouldBe 109 = .ok (.lload_n 3, 1) := by decide +kernel
theorem dX5_mixWhatWouldBe_110 : decode cX5_mixWhatWouldBe 110 = .ok (.aload_n 0, 1) := by decide +kernel
theorem dX5_mixWhatWouldBe_111 : decode cX5_mixWhatWouldBe 111 = .ok (.invokevirtual 335, 3) := by decide +kernel
theorem dX5_mixWhatWouldBe_114 : decode cX5_mixWhatWouldBe 114 = .ok (.bipush 52, 2) := by decide +kernel
theorem dX5_mixWhatWouldBe_116 : decode cX5_mixWhatWouldBe 116 = .ok (.sipush 1023, 3) := by decide +kernel
theorem dX5_mixWhatWouldBe_119 : decode cX5_mixWhatWouldBe 119 = .ok (.invokestatic 339, 3) := by decide +kernel
theorem dX5_mixWhatWouldBe_122 : decode cX5_mixWhatWouldBe 122 = .ok (.invokestatic 287, 3) := by decide +kernel
theorem dX5_mixWhatWouldBe_125 : decode cX5_mixWhatWouldBe 125 = .ok (.lstore_n 3, 1) := by decide +kernel
theorem dX5_mixWhatWouldBe_126 : decode cX5_mixWhatWouldBe 126 = .ok (.lload_n 3, 1) := by decide +kernel
theorem dX5_mixWhatWouldBe_127 : decode cX5_mixWhatWouldBe 127 = .ok (.aload_n 0, 1) := by decide +kernel
theorem dX5_mixWhatWouldBe_128 : decode cX5_mixWhatWouldBe 128 = .ok (.invokevirtual 343, 3) := by decide +kernel
theorem dX5_mixWhatWouldBe_131 : decode cX5_mixWhatWouldBe 131 = .ok (.f2d, 1) := by decide +kernel
theorem dX5_mixWhatWouldBe_132 : decode cX5_mixWhatWouldBe 132 = .ok (.bipush 23, 2) := by decide +kernel
theorem dX5_mixWhatWouldBe_134 : decode cX5_mixWhatWouldBe 134 = .ok (.bipush 127, 2) := by decide +kernel
theorem dX5_mixWhatWouldBe_136 : decode cX5_mixWhatWouldBe 136 = .ok (.invokestatic 339, 3) := by decide +kernel
theorem dX5_mixWhatWouldBe_139 : decode cX5_mixWhatWouldBe 139 = .ok (.invokestatic 287, 3) := by decide +kernel
theorem dX5_mixWhatWouldBe_142 : decode cX5_mixWhatWouldBe 142 = .ok (.lreturn, 1) := by decide +kernel
theorem dX5_bitsOf_0 : decode cX5_bitsOf 0 = .ok (.dload_n 0, 1) := by decide +kernel
theorem dX5_bitsOf_1 : decode cX5_bitsOf 1 = .ok (.dconst 0, 1) := by decide +kernel
theorem dX5_bitsOf_2 : decode cX5_bitsOf 2 = .ok (.dcmp .g, 1) := by decide +kernel
theorem dX5_bitsOf_3 : decode cX5_bitsOf 3 = .ok (.ifCond .gt 5, 3) := by decide +kernel
theorem dX5_bitsOf_6 : decode cX5_bitsOf 6 = .ok (.lconst 0, 1) := by decide +kernel
theorem dX5_bitsOf_7 : decode cX5_bitsOf 7 = .ok (.lreturn, 1) := by decide +kernel
theorem dX5_bitsOf_8 : decode cX5_bitsOf 8 = .ok (.dload_n 0, 1) := by decide +kernel
theorem dX5_bitsOf_9 : decode cX5_bitsOf 9 = .ok (.dstore 4, 2) := by decide +kernel
theorem dX5_bitsOf_11 : decode cX5_bitsOf 11 = .ok (.iload_n 3, 1) := by decide +kernel
theorem dX5_bitsOf_12 : decode cX5_bitsOf 12 = .ok (.istore 6, 2) := by decide +kernel
theorem dX5_bitsOf_14 : decode cX5_bitsOf 14 = .ok (.iconst 0, 1) := by decide +kernel
theorem dX5_bitsOf_15 : decode cX5_bitsOf 15 = .ok (.istore 7, 2) := by decide +kernel
theorem dX5_bitsOf_17 : decode cX5_bitsOf 17 = .ok (.iload 7, 2) := by decide +kernel
theorem dX5_bitsOf_19 : decode cX5_bitsOf 19 = .ok (.iload_n 3, 1) := by decide +kernel
theorem dX5_bitsOf_20 : decode cX5_bitsOf 20 = .ok (.if_icmp .ge 27, 3) := by decide +kernel
theorem dX5_bitsOf_23 : decode cX5_bitsOf 23 = .ok (.dload 4, 2) := by decide +kernel
theorem dX5_bitsOf_25 : decode cX5_bitsOf 25 = .ok (.dconst 1, 1) := by decide +kernel
theorem dX5_bitsOf_26 : decode cX5_bitsOf 26 = .ok (.dcmp .g, 1) := by decide +kernel
theorem dX5_bitsOf_27 : decode cX5_bitsOf 27 = .ok (.ifCond .ge 20, 3) := by decide +kernel
theorem dX5_bitsOf_30 : decode cX5_bitsOf 30 = .ok (.dload 4, 2) := by decide +kernel
theorem dX5_bitsOf_32 : decode cX5_bitsOf 32 = .ok (.ldc2_w 347, 3) := by decide +kernel
theorem dX5_bitsOf_35 : decode cX5_bitsOf 35 = .ok (.dmul, 1) := by decide +kernel
theorem dX5_bitsOf_36 : decode cX5_bitsOf 36 = .ok (.dstore 4, 2) := by decide +kernel
theorem dX5_bitsOf_38 : decode cX5_bitsOf 38 = .ok (.iinc 6 (-1), 3) := by decide +kernel
theorem dX5_bitsOf_41 : decode cX5_bitsOf 41 = .ok (.iinc 7 1, 3) := by decide +kernel
theorem dX5_bitsOf_44 : decode cX5_bitsOf 44 = .ok (.goto (-27), 3) := by decide +kernel
theorem dX5_bitsOf_47 : decode cX5_bitsOf 47 = .ok (.iconst 0, 1) := by decide +kernel
theorem dX5_bitsOf_48 : decode cX5_bitsOf 48 = .ok (.istore 7, 2) := by decide +kernel
theorem dX5_bitsOf_50 : decode cX5_bitsOf 50 = .ok (.iload 7, 2) := by decide +kernel
theorem dX5_bitsOf_52 : decode cX5_bitsOf 52 = .ok (.iload_n 3, 1) := by decide +kernel
theorem dX5_bitsOf_53 : decode cX5_bitsOf 53 = .ok (.if_icmp .ge 29, 3) := by decide +kernel
theorem dX5_bitsOf_56 : decode cX5_bitsOf 56 = .ok (.dload 4, 2) := by decide +kernel
theorem dX5_bitsOf_58 : decode cX5_bitsOf 58 = .ok (.ldc2_w 347, 3) := by decide +kernel
theorem dX5_bitsOf_61 : decode cX5_bitsOf 61 = .ok (.dcmp .l, 1) := by decide +kernel
theorem dX5_bitsOf_62 : decode cX5_bitsOf 62 = .ok (.ifCond .lt 20, 3) := by decide +kernel
theorem dX5_bitsOf_65 : decode cX5_bitsOf 65 = .ok (.dload 4, 2) := by decide +kernel
theorem dX5_bitsOf_67 : decode cX5_bitsOf 67 = .ok (.ldc2_w 347, 3) := by decide +kernel
theorem dX5_bitsOf_70 : decode cX5_bitsOf 70 = .ok (.ddiv, 1) := by decide +kernel
theorem dX5_bitsOf_71 : decode cX5_bitsOf 71 = .ok (.dstore 4, 2) := by decide +kernel
theorem dX5_bitsOf_73 : decode cX5_bitsOf 73 = .ok (.iinc 6 1, 3) := by decide +kernel
theorem dX5_bitsOf_76 : decode cX5_bitsOf 76 = .ok (.iinc 7 1, 3) := by decide +kernel
theorem dX5_bitsOf_79 : decode cX5_bitsOf 79 = .ok (.goto (-29), 3) := by decide +kernel
theorem dX5_bitsOf_82 : decode cX5_bitsOf 82 = .ok (.lconst 1, 1) := by decide +kernel
theorem dX5_bitsOf_83 : decode cX5_bitsOf 83 = .ok (.iload_n 2, 1) := by decide +kernel
theorem dX5_bitsOf_84 : decode cX5_bitsOf 84 = .ok (.lshl, 1) := by decide +kernel
theorem dX5_bitsOf_85 : decode cX5_bitsOf 85 = .ok (.lstore 7, 2) := by decide +kernel
theorem dX5_bitsOf_87 : decode cX5_bitsOf 87 = .ok (.iload 6, 2) := by decide +kernel
theorem dX5_bitsOf_89 : decode cX5_bitsOf 89 = .ok (.i2l, 1) := by decide +kernel
theorem dX5_bitsOf_90 : decode cX5_bitsOf 90 = .ok (.lload 7, 2) := by decide +kernel
theorem dX5_bitsOf_92 : decode cX5_bitsOf 92 = .ok (.lmul, 1) := by decide +kernel
theorem dX5_bitsOf_93 : decode cX5_bitsOf 93 = .ok (.dload 4, 2) := by decide +kernel
theorem dX5_bitsOf_95 : decode cX5_bitsOf 95 = .ok (.dconst 1, 1) := by decide +kernel
theorem dX5_bitsOf_96 : decode cX5_bitsOf 96 = .ok (.dsub, 1) := by decide +kernel
theorem dX5_bitsOf_97 : decode cX5_bitsOf 97 = .ok (.lload 7, 2) := by decide +kernel
theorem dX5_bitsOf_99 : decode cX5_bitsOf 99 = .ok (.l2d, 1) := by decide +kernel
theorem dX5_bitsOf_100 : decode cX5_bitsOf 100 = .ok (.dmul, 1) := by decide +kernel
theorem dX5_bitsOf_101 : decode cX5_bitsOf 101 = .ok (.d2l, 1) := by decide +kernel
theorem dX5_bitsOf_102 : decode cX5_bitsOf 102 = .ok (.ladd, 1) := by decide +kernel
theorem dX5_bitsOf_103 : decode cX5_bitsOf 103 = .ok (.lreturn, 1) := by decide +kernel
theorem dX5_faultOf_0 : decode cX5_faultOf 0 = .ok (.iload_n 2, 1) := by decide +kernel
theorem dX5_faultOf_1 : decode cX5_faultOf 1 = .ok (.iconst 5, 1) := by decide +kernel
theorem dX5_faultOf_2 : decode cX5_faultOf 2 = .ok (.if_icmp .ge 8, 3) := by decide +kernel
theorem dX5_faultOf_5 : decode cX5_faultOf 5 = .ok (.iload_n 3, 1) := by decide +kernel
theorem dX5_faultOf_6 : decode cX5_faultOf 6 = .ok (.iconst 5, 1) := by decide +kernel
theorem dX5_faultOf_7 : decode cX5_faultOf 7 = .ok (.if_icmp .lt 7, 3) := by decide +kernel
theorem dX5_faultOf_10 : decode cX5_faultOf 10 = .ok (.iconst 1, 1) := by decide +kernel
theorem dX5_faultOf_11 : decode cX5_faultOf 11 = .ok (.goto 4, 3) := by decide +kernel
theorem dX5_faultOf_14 : decode cX5_faultOf 14 = .ok (.iconst 0, 1) := by decide +kernel
theorem dX5_faultOf_15 : decode cX5_faultOf 15 = .ok (.istore 6, 2) := by decide +kernel
theorem dX5_faultOf_17 : decode cX5_faultOf 17 = .ok (.iload_n 2, 1) := by decide +kernel
theorem dX5_faultOf_18 : decode cX5_faultOf 18 = .ok (.iconst 5, 1) := by decide +kernel
theorem dX5_faultOf_19 : decode cX5_faultOf 19 = .ok (.if_icmp .lt 12, 3) := by decide +kernel
theorem dX5_faultOf_22 : decode cX5_faultOf 22 = .ok (.iload_n 3, 1) := by decide +kernel
theorem dX5_faultOf_23 : decode cX5_faultOf 23 = .ok (.iconst 5, 1) := by decide +kernel
theorem dX5_faultOf_24 : decode cX5_faultOf 24 = .ok (.if_icmp .lt 7, 3) := by decide +kernel
theorem dX5_faultOf_27 : decode cX5_faultOf 27 = .ok (.iconst 1, 1) := by decide +kernel
theorem dX5_faultOf_28 : decode cX5_faultOf 28 = .ok (.goto 4, 3) := by decide +kernel
theorem dX5_faultOf_31 : decode cX5_faultOf 31 = .ok (.iconst 0, 1) := by decide +kernel
theorem dX5_faultOf_32 : decode cX5_faultOf 32 = .ok (.istore 7, 2) := by decide +kernel
theorem dX5_faultOf_34 : decode cX5_faultOf 34 = .ok (.iload_n 0, 1) := by decide +kernel
theorem dX5_faultOf_35 : decode cX5_faultOf 35 = .ok (.iconst 5, 1) := by decide +kernel
theorem dX5_faultOf_36 : decode cX5_faultOf 36 = .ok (.if_icmp .lt 12, 3) := by decide +kernel
theorem dX5_faultOf_39 : decode cX5_faultOf 39 = .ok (.iload_n 1, 1) := by decide +kernel
theorem dX5_faultOf_40 : decode cX5_faultOf 40 = .ok (.iconst 5, 1) := by decide +kernel
theorem dX5_faultOf_41 : decode cX5_faultOf 41 = .ok (.if_icmp .lt 7, 3) := by decide +kernel
theorem dX5_faultOf_44 : decode cX5_faultOf 44 = .ok (.iconst 1, 1) := by decide +kernel
theorem dX5_faultOf_45 : decode cX5_faultOf 45 = .ok (.goto 4, 3) := by decide +kernel
theorem dX5_faultOf_48 : decode cX5_faultOf 48 = .ok (.iconst 0, 1) := by decide +kernel
theorem dX5_faultOf_49 : decode cX5_faultOf 49 = .ok (.istore 8, 2) := by decide +kernel
theorem dX5_faultOf_51 : decode cX5_faultOf 51 = .ok (.iload 6, 2) := by decide +kernel
theorem dX5_faultOf_53 : decode cX5_faultOf 53 = .ok (.ifCond .eq 10, 3) := by decide +kernel
theorem dX5_faultOf_56 : decode cX5_faultOf 56 = .ok (.iload 8, 2) := by decide +kernel
theorem dX5_faultOf_58 : decode cX5_faultOf 58 = .ok (.ifCond .ne 5, 3) := by decide +kernel
theorem dX5_faultOf_61 : decode cX5_faultOf 61 = .ok (.iconst 1, 1) := by decide +kernel
theorem dX5_faultOf_62 : decode cX5_faultOf 62 = .ok (.ireturn, 1) := by decide +kernel
theorem dX5_faultOf_63 : decode cX5_faultOf 63 = .ok (.iload 7, 2) := by decide +kernel
theorem dX5_faultOf_65 : decode cX5_faultOf 65 = .ok (.ifCond .eq 14, 3) := by decide +kernel
theorem dX5_faultOf_68 : decode cX5_faultOf 68 = .ok (.iload 4, 2) := by decide +kernel
theorem dX5_faultOf_70 : decode cX5_faultOf 70 = .ok (.iload 5, 2) := by decide +kernel
theorem dX5_faultOf_72 : decode cX5_faultOf 72 = .ok (.if_icmp .le 7, 3) := by decide +kernel
theorem dX5_faultOf_75 : decode cX5_faultOf 75 = .ok (.iconst 2, 1) := by decide +kernel
theorem dX5_faultOf_76 : decode cX5_faultOf 76 = .ok (.goto 4, 3) := by decide +kernel
theorem dX5_faultOf_79 : decode cX5_faultOf 79 = .ok (.iconst 0, 1) := by decide +kernel
theorem dX5_faultOf_80 : decode cX5_faultOf 80 = .ok (.ireturn, 1) := by decide +kernel
theorem dX6_init_0 : decode cX6_init 0 = .ok (.aload_n 0, 1) := by decide +kernel
theorem dX6_init_1 : decode cX6_init 1 = .ok (.invokespecial 1, 3) := by decide +kernel
theorem dX6_init_4 : decode cX6_init 4 = .ok (.aload_n 0, 1) := by decide +kernel
theorem dX6_init_5 : decode cX6_init 5 = .ok (.sipush 1376, 3) := by decide +kernel
theorem dX6_init_8 : decode cX6_init 8 = .ok (.newarray .int, 2) := by decide +kernel
theorem dX6_init_10 : decode cX6_init 10 = .ok (.putfield 7, 3) := by decide +kernel
theorem dX6_init_13 : decode cX6_init 13 = .ok (.aload_n 0, 1) := by decide +kernel
theorem dX6_init_14 : decode cX6_init 14 = .ok (.bipush 60, 2) := by decide +kernel
theorem dX6_init_16 : decode cX6_init 16 = .ok (.newarray .int, 2) := by decide +kernel
theorem dX6_init_18 : decode cX6_init 18 = .ok (.putfield 13, 3) := by decide +kernel
theorem dX6_init_21 : decode cX6_init 21 = .ok (.aload_n 0, 1) := by decide +kernel
theorem dX6_init_22 : decode cX6_init 22 = .ok (.iconst 4, 1) := by decide +kernel
theorem dX6_init_23 : decode cX6_init 23 = .ok (.newarray .int, 2) := by decide +kernel
theorem dX6_init_25 : decode cX6_init 25 = .ok (.putfield 16, 3) := by decide +kernel
theorem dX6_init_28 : decode cX6_init 28 = .ok (.aload_n 0, 1) := by decide +kernel
theorem dX6_init_29 : decode cX6_init 29 = .ok (.iconst 4, 1) := by decide +kernel
theorem dX6_init_30 : decode cX6_init 30 = .ok (.newarray .int, 2) := by decide +kernel
theorem dX6_init_32 : decode cX6_init 32 = .ok (.putfield 19, 3) := by decide +kernel
theorem dX6_init_35 : decode cX6_init 35 = .ok (.aload_n 0, 1) := by decide +kernel
theorem dX6_init_36 : decode cX6_init 36 = .ok (.getfield 7, 3) := by decide +kernel
theorem dX6_init_39 : decode cX6_init 39 = .ok (.iconst 0, 1) := by decide +kernel
theorem dX6_init_40 : decode cX6_init 40 = .ok (.iconst 4, 1) := by decide +kernel
theorem dX6_init_41 : decode cX6_init 41 = .ok (.iastore, 1) := by decide +kernel
theorem dX6_init_42 : decode cX6_init 42 = .ok (.aload_n 0, 1) := by decide +kernel
theorem dX6_init_43 : decode cX6_init 43 = .ok (.getfield 7, 3) := by decide +kernel
theorem dX6_init_46 : decode cX6_init 46 = .ok (.iconst 1, 1) := by decide +kernel
theorem dX6_init_47 : decode cX6_init 47 = .ok (.bipush 6, 2) := by decide +kernel
theorem dX6_init_49 : decode cX6_init 49 = .ok (.iastore, 1) := by decide +kernel
theorem dX6_init_50 : decode cX6_init 50 = .ok (.aload_n 0, 1) := by decide +kernel
theorem dX6_init_51 : decode cX6_init 51 = .ok (.getfield 7, 3) := by decide +kernel
theorem dX6_init_54 : decode cX6_init 54 = .ok (.iconst 2, 1) := by decide +kernel
theorem dX6_init_55 : decode cX6_init 55 = .ok (.bipush 8, 2) := by decide +kernel
theorem dX6_init_57 : decode cX6_init 57 = .ok (.iastore, 1) := by decide +kernel
theorem dX6_init_58 : decode cX6_init 58 = .ok (.aload_n 0, 1) := by decide +kernel
theorem dX6_init_59 : decode cX6_init 59 = .ok (.getfield 7, 3) := by decide +kernel
theorem dX6_init_62 : decode cX6_init 62 = .ok (.iconst 3, 1) := by decide +kernel
theorem dX6_init_63 : decode cX6_init 63 = .ok (.bipush 9, 2) := by decide +kernel
theorem dX6_init_65 : decode cX6_init 65 = .ok (.iastore, 1) := by decide +kernel
theorem dX6_init_66 : decode cX6_init 66 = .ok (.aload_n 0, 1) := by decide +kernel
theorem dX6_init_67 : decode cX6_init 67 = .ok (.getfield 7, 3) := by decide +kernel
theorem dX6_init_70 : decode cX6_init 70 = .ok (.iconst 4, 1) := by decide +kernel
theorem dX6_init_71 : decode cX6_init 71 = .ok (.bipush 12, 2) := by decide +kernel
theorem dX6_init_73 : decode cX6_init 73 = .ok (.iastore, 1) := by decide +kernel
theorem dX6_init_74 : decode cX6_init 74 = .ok (.iconst 0, 1) := by decide +kernel
theorem dX6_init_75 : decode cX6_init 75 = .ok (.istore_n 1, 1) := by decide +kernel
theorem dX6_init_76 : decode cX6_init 76 = .ok (.iload_n 1, 1) := by decide +kernel
theorem dX6_init_77 : decode cX6_init 77 = .ok (.bipush 12, 2) := by decide +kernel
theorem dX6_init_79 : decode cX6_init 79 = .ok (.if_icmp .ge 54, 3) := by decide +kernel
theorem dX6_init_82 : decode cX6_init 82 = .ok (.aload_n 0, 1) := by decide +kernel
theorem dX6_init_83 : decode cX6_init 83 = .ok (.getfield 7, 3) := by decide +kernel
theorem dX6_init_86 : decode cX6_init 86 = .ok (.bipush 15, 2) := by decide +kernel
theorem dX6_init_88 : decode cX6_init 88 = .ok (.iload_n 1, 1) := by decide +kernel
theorem dX6_init_89 : decode cX6_init 89 = .ok (.iadd, 1) := by decide +kernel
theorem dX6_init_90 : decode cX6_init 90 = .ok (.bipush 9, 2) := by decide +kernel
theorem dX6_init_92 : decode cX6_init 92 = .ok (.iastore, 1) := by decide +kernel
theorem dX6_init_93 : decode cX6_init 93 = .ok (.aload_n 0, 1) := by decide +kernel
theorem dX6_init_94 : decode cX6_init 94 = .ok (.getfield 7, 3) := by decide +kernel
theorem dX6_init_97 : decode cX6_init 97 = .ok (.bipush 27, 2) := by decide +kernel
theorem dX6_init_99 : decode cX6_init 99 = .ok (.iload_n 1, 1) := by decide +kernel
theorem dX6_init_100 : decode cX6_init 100 = .ok (.iadd, 1) := by decide +kernel
theorem dX6_init_101 : decode cX6_init 101 = .ok (.bipush 9, 2) := by decide +kernel
theorem dX6_init_103 : decode cX6_init 103 = .ok (.iastore, 1) := by decide +kernel
theorem dX6_init_104 : decode cX6_init 104 = .ok (.aload_n 0, 1) := by decide +kernel
theorem dX6_init_105 : decode cX6_init 105 = .ok (.getfield 7, 3) := by decide +kernel
theorem dX6_init_108 : decode cX6_init 108 = .ok (.bipush 63, 2) := by decide +kernel
theorem dX6_init_110 : decode cX6_init 110 = .ok (.iload_n 1, 1) := by decide +kernel
theorem dX6_init_111 : decode cX6_init 111 = .ok (.iadd, 1) := by decide +kernel
theorem dX6_init_112 : decode cX6_init 112 = .ok (.iload_n 1, 1) := by decide +kernel
theorem dX6_init_113 : decode cX6_init 113 = .ok (.bipush 7, 2) := by decide +kernel
theorem dX6_init_115 : decode cX6_init 115 = .ok (.if_icmp .ge 7, 3) := by decide +kernel
theorem dX6_init_118 : decode cX6_init 118 = .ok (.iload_n 1, 1) := by decide +kernel
theorem dX6_init_119 : decode cX6_init 119 = .ok (.goto 7, 3) := by decide +kernel
theorem dX6_init_122 : decode cX6_init 122 = .ok (.bipush 12, 2) := by decide +kernel
theorem dX6_init_124 : decode cX6_init 124 = .ok (.iload_n 1, 1) := by decide +kernel
theorem dX6_init_125 : decode cX6_init 125 = .ok (.isub, 1) := by decide +kernel
theorem dX6_init_126 : decode cX6_init 126 = .ok (.iastore, 1) := by decide +kernel
theorem dX6_init_127 : decode cX6_init 127 = .ok (.iinc 1 1, 3) := by decide +kernel
theorem dX6_init_130 : decode cX6_init 130 = .ok (.goto (-54), 3) := by decide +kernel
theorem dX6_init_133 : decode cX6_init 133 = .ok (.iconst 0, 1) := by decide +kernel
theorem dX6_init_134 : decode cX6_init 134 = .ok (.istore_n 1, 1) := by decide +kernel
theorem dX6_init_135 : decode cX6_init 135 = .ok (.iload_n 1, 1) := by decide +kernel
theorem dX6_init_136 : decode cX6_init 136 = .ok (.iconst 5, 1) := by decide +kernel
theorem dX6_init_137 : decode cX6_init 137 = .ok (.if_icmp .ge 19, 3) := by decide +kernel
theorem dX6_init_140 : decode cX6_init 140 = .ok (.aload_n 0, 1) := by decide +kernel
theorem dX6_init_141 : decode cX6_init 141 = .ok (.getfield 7, 3) := by decide +kernel
theorem dX6_init_144 : decode cX6_init 144 = .ok (.bipush 10, 2) := by decide +kernel
theorem dX6_init_146 : decode cX6_init 146 = .ok (.iload_n 1, 1) := by decide +kernel
theorem dX6_init_147 : decode cX6_init 147 = .ok (.iadd, 1) := by decide +kernel
theorem dX6_init_148 : decode cX6_init 148 = .ok (.iconst 1, 1) := by decide +kernel
theorem dX6_init_149 : decode cX6_init 149 = .ok (.iastore, 1) := by decide +kernel
theorem dX6_init_150 : decode cX6_init 150 = .ok (.iinc 1 1, 3) := by decide +kernel
theorem dX6_init_153 : decode cX6_init 153 = .ok (.goto (-18), 3) := by decide +kernel
theorem dX6_init_156 : decode cX6_init 156 = .ok (.aload_n 0, 1) := by decide +kernel
theorem dX6_init_157 : decode cX6_init 157 = .ok (.getfield 7, 3) := by decide +kernel
theorem dX6_init_160 : decode cX6_init 160 = .ok (.bipush 75, 2) := by decide +kernel
theorem dX6_init_162 : decode cX6_init 162 = .ok (.iconst 4, 1) := by decide +kernel
theorem dX6_init_163 : decode cX6_init 163 = .ok (.iastore, 1) := by decide +kernel
theorem dX6_init_164 : decode cX6_init 164 = .ok (.return_, 1) := by decide +kernel
theorem dX6_thrown_0 : decode cX6_thrown 0 = .ok (.aload_n 0, 1) := by decide +kernel
theorem dX6_thrown_1 : decode cX6_thrown 1 = .ok (.getfield 22, 3) := by decide +kernel
theorem dX6_thrown_4 : decode cX6_thrown 4 = .ok (.ireturn, 1) := by decide +kernel
theorem dX6_in_0 : decode cX6_in 0 = .ok (.iload_n 0, 1) := by decide +kernel
theorem dX6_in_1 : decode cX6_in 1 = .ok (.iload_n 1, 1) := by decide +kernel
theorem dX6_in_2 : decode cX6_in 2 = .ok (.if_icmp .lt 12, 3) := by decide +kernel
theorem dX6_in_5 : decode cX6_in 5 = .ok (.iload_n 0, 1) := by decide +kernel
theorem dX6_in_6 : decode cX6_in 6 = .ok (.iload_n 2, 1) := by decide +kernel
theorem dX6_in_7 : decode cX6_in 7 = .ok (.if_icmp .gt 7, 3) := by decide +kernel
theorem dX6_in_10 : decode cX6_in 10 = .ok (.iconst 1, 1) := by decide +kernel
theorem dX6_in_11 : decode cX6_in 11 = .ok (.goto 4, 3) := by decide +kernel
theorem dX6_in_14 : decode cX6_in 14 = .ok (.iconst 0, 1) := by decide +kernel
theorem dX6_in_15 : decode cX6_in 15 = .ok (.ireturn, 1) := by decide +kernel
theorem dX6_holds_0 : decode cX6_holds 0 = .ok (.aload_n 0, 1) := by decide +kernel
theorem dX6_holds_1 : decode cX6_holds 1 = .ok (.iload_n 1, 1) := by decide +kernel
theorem dX6_holds_2 : decode cX6_holds 2 = .ok (.putfield 22, 3) := by decide +kernel
theorem dX6_holds_5 : decode cX6_holds 5 = .ok (.iload_n 1, 1) := by decide +kernel
theorem dX6_holds_6 : decode cX6_holds 6 = .ok (.ifCond .ne 7, 3) := by decide +kernel
theorem dX6_holds_9 : decode cX6_holds 9 = .ok (.iconst 1, 1) := by decide +kernel
theorem dX6_holds_10 : decode cX6_holds 10 = .ok (.goto 4, 3) := by decide +kernel
theorem dX6_holds_13 : decode cX6_holds 13 = .ok (.iconst 0, 1) := by decide +kernel
theorem dX6_holds_14 : decode cX6_holds 14 = .ok (.ireturn, 1) := by decide +kernel
theorem dX6_isWheel_0 : decode cX6_isWheel 0 = .ok (.iload_n 0, 1) := by decide +kernel
theorem dX6_isWheel_1 : decode cX6_isWheel 1 = .ok (.iconst 0, 1) := by decide +kernel
theorem dX6_isWheel_2 : decode cX6_isWheel 2 = .ok (.iconst 4, 1) := by decide +kernel
theorem dX6_isWheel_3 : decode cX6_isWheel 3 = .ok (.invokestatic 26, 3) := by decide +kernel
theorem dX6_isWheel_6 : decode cX6_isWheel 6 = .ok (.ireturn, 1) := by decide +kernel
theorem dX6_leftOver_0 : decode cX6_leftOver 0 = .ok (.iload_n 0, 1) := by decide +kernel
theorem dX6_leftOver_1 : decode cX6_leftOver 1 = .ok (.iload_n 1, 1) := by decide +kernel
theorem dX6_leftOver_2 : decode cX6_leftOver 2 = .ok (.irem, 1) := by decide +kernel
theorem dX6_leftOver_3 : decode cX6_leftOver 3 = .ok (.istore_n 2, 1) := by decide +kernel
theorem dX6_leftOver_4 : decode cX6_leftOver 4 = .ok (.iload_n 2, 1) := by decide +kernel
theorem dX6_leftOver_5 : decode cX6_leftOver 5 = .ok (.ifCond .ge 9, 3) := by decide +kernel
theorem dX6_leftOver_8 : decode cX6_leftOver 8 = .ok (.iload_n 2, 1) := by decide +kernel
theorem dX6_leftOver_9 : decode cX6_leftOver 9 = .ok (.iload_n 1, 1) := by decide +kernel
theorem dX6_leftOver_10 : decode cX6_leftOver 10 = .ok (.iadd, 1) := by decide +kernel
theorem dX6_leftOver_11 : decode cX6_leftOver 11 = .ok (.goto 4, 3) := by decide +kernel
theorem dX6_leftOver_14 : decode cX6_leftOver 14 = .ok (.iload_n 2, 1) := by decide +kernel
theorem dX6_leftOver_15 : decode cX6_leftOver 15 = .ok (.ireturn, 1) := by decide +kernel
theorem dX6_heightAt_0 : decode cX6_heightAt 0 = .ok (.aload_n 0, 1) := by decide +kernel
theorem dX6_heightAt_1 : decode cX6_heightAt 1 = .ok (.getfield 7, 3) := by decide +kernel
theorem dX6_heightAt_4 : decode cX6_heightAt 4 = .ok (.bipush 10, 2) := by decide +kernel
theorem dX6_heightAt_6 : decode cX6_heightAt 6 = .ok (.iload_n 1, 1) := by decide +kernel
theorem dX6_heightAt_7 : decode cX6_heightAt 7 = .ok (.iadd, 1) := by decide +kernel
theorem dX6_heightAt_8 : decode cX6_heightAt 8 = .ok (.iaload, 1) := by decide +kernel
theorem dX6_heightAt_9 : decode cX6_heightAt 9 = .ok (.iconst 1, 1) := by decide +kernel
theorem dX6_heightAt_10 : decode cX6_heightAt 10 = .ok (.if_icmp .ne 12, 3) := by decide +kernel
theorem dX6_heightAt_13 : decode cX6_heightAt 13 = .ok (.iload_n 1, 1) := by decide +kernel
theorem dX6_heightAt_14 : decode cX6_heightAt 14 = .ok (.iload_n 3, 1) := by decide +kernel
theorem dX6_heightAt_15 : decode cX6_heightAt 15 = .ok (.if_icmp .eq 7, 3) := by decide +kernel
theorem dX6_heightAt_18 : decode cX6_heightAt 18 = .ok (.iload_n 2, 1) := by decide +kernel
theorem dX6_heightAt_19 : decode cX6_heightAt 19 = .ok (.goto 4, 3) := by decide +kernel
theorem dX6_heightAt_22 : decode cX6_heightAt 22 = .ok (.iconst 0, 1) := by decide +kernel
theorem dX6_heightAt_23 : decode cX6_heightAt 23 = .ok (.istore 4, 2) := by decide +kernel
theorem dX6_heightAt_25 : decode cX6_heightAt 25 = .ok (.aload_n 0, 1) := by decide +kernel
theorem dX6_heightAt_26 : decode cX6_heightAt 26 = .ok (.getfield 7, 3) := by decide +kernel
theorem dX6_heightAt_29 : decode cX6_heightAt 29 = .ok (.bipush 15, 2) := by decide +kernel
theorem dX6_heightAt_31 : decode cX6_heightAt 31 = .ok (.bipush 12, 2) := by decide +kernel
theorem dX6_heightAt_33 : decode cX6_heightAt 33 = .ok (.iload_n 1, 1) := by decide +kernel
theorem dX6_heightAt_34 : decode cX6_heightAt 34 = .ok (.imul, 1) := by decide +kernel
theorem dX6_heightAt_35 : decode cX6_heightAt 35 = .ok (.iadd, 1) := by decide +kernel
theorem dX6_heightAt_36 : decode cX6_heightAt 36 = .ok (.aload_n 0, 1) := by decide +kernel
theorem dX6_heightAt_37 : decode cX6_heightAt 37 = .ok (.getfield 7, 3) := by decide +kernel
theorem dX6_heightAt_40 : decode cX6_heightAt 40 = .ok (.iconst 5, 1) := by decide +kernel
theorem dX6_heightAt_41 : decode cX6_heightAt 41 = .ok (.iload_n 1, 1) := by decide +kernel
theorem dX6_heightAt_42 : decode cX6_heightAt 42 = .ok (.iadd, 1) := by decide +kernel
theorem dX6_heightAt_43 : decode cX6_heightAt 43 = .ok (.iaload, 1) := by decide +kernel
theorem dX6_heightAt_44 : decode cX6_heightAt 44 = .ok (.iload 4, 2) := by decide +kernel
theorem dX6_heightAt_46 : decode cX6_heightAt 46 = .ok (.iadd, 1) := by decide +kernel
theorem dX6_heightAt_47 : decode cX6_heightAt 47 = .ok (.aload_n 0, 1) := by decide +kernel
theorem dX6_heightAt_48 : decode cX6_heightAt 48 = .ok (.getfield 7, 3) := by decide +kernel
theorem dX6_heightAt_51 : decode cX6_heightAt 51 = .ok (.iconst 0, 1) := by decide +kernel
theorem dX6_heightAt_52 : decode cX6_heightAt 52 = .ok (.iload_n 1, 1) := by decide +kernel
theorem dX6_heightAt_53 : decode cX6_heightAt 53 = .ok (.iadd, 1) := by decide +kernel
theorem dX6_heightAt_54 : decode cX6_heightAt 54 = .ok (.iaload, 1) := by decide +kernel
theorem dX6_heightAt_55 : decode cX6_heightAt 55 = .ok (.invokestatic 30, 3) := by decide +kernel
theorem dX6_heightAt_58 : decode cX6_heightAt 58 = .ok (.iadd, 1) := by decide +kernel
theorem dX6_heightAt_59 : decode cX6_heightAt 59 = .ok (.iaload, 1) := by decide +kernel
theorem dX6_heightAt_60 : decode cX6_heightAt 60 = .ok (.ireturn, 1) := by decide +kernel
theorem dX6_height_0 : decode cX6_height 0 = .ok (.aload_n 0, 1) := by decide +kernel
theorem dX6_height_1 : decode cX6_height 1 = .ok (.iload_n 1, 1) := by decide +kernel
theorem dX6_height_2 : decode cX6_height 2 = .ok (.iconst 0, 1) := by decide +kernel
theorem dX6_height_3 : decode cX6_height 3 = .ok (.iconst (-1), 1) := by decide +kernel
theorem dX6_height_4 : decode cX6_height 4 = .ok (.invokevirtual 34, 3) := by decide +kernel
theorem dX6_height_7 : decode cX6_height 7 = .ok (.ireturn, 1) := by decide +kernel
theorem dX6_reason_0 : decode cX6_reason 0 = .ok (.aload_n 0, 1) := by decide +kernel
theorem dX6_reason_1 : decode cX6_reason 1 = .ok (.iconst 2, 1) := by decide +kernel
theorem dX6_reason_2 : decode cX6_reason 2 = .ok (.iload_n 1, 1) := by decide +kernel
theorem dX6_reason_3 : decode cX6_reason 3 = .ok (.iload_n 2, 1) := by decide +kernel
theorem dX6_reason_4 : decode cX6_reason 4 = .ok (.invokevirtual 34, 3) := by decide +kernel
theorem dX6_reason_7 : decode cX6_reason 7 = .ok (.iconst 5, 1) := by decide +kernel
theorem dX6_reason_8 : decode cX6_reason 8 = .ok (.if_icmp .lt 7, 3) := by decide +kernel
theorem dX6_reason_11 : decode cX6_reason 11 = .ok (.iconst 1, 1) := by decide +kernel
theorem dX6_reason_12 : decode cX6_reason 12 = .ok (.goto 4, 3) := by decide +kernel
theorem dX6_reason_15 : decode cX6_reason 15 = .ok (.iconst 0, 1) := by decide +kernel
theorem dX6_reason_16 : decode cX6_reason 16 = .ok (.istore_n 3, 1) := by decide +kernel
theorem dX6_reason_17 : decode cX6_reason 17 = .ok (.aload_n 0, 1) := by decide +kernel
theorem dX6_reason_18 : decode cX6_reason 18 = .ok (.iconst 3, 1) := by decide +kernel
theorem dX6_reason_19 : decode cX6_reason 19 = .ok (.iload_n 1, 1) := by decide +kernel
theorem dX6_reason_20 : decode cX6_reason 20 = .ok (.iload_n 2, 1) := by decide +kernel
theorem dX6_reason_21 : decode cX6_reason 21 = .ok (.invokevirtual 34, 3) := by decide +kernel
theorem dX6_reason_24 : decode cX6_reason 24 = .ok (.iconst 5, 1) := by decide +kernel
theorem dX6_reason_25 : decode cX6_reason 25 = .ok (.if_icmp .lt 7, 3) := by decide +kernel
theorem dX6_reason_28 : decode cX6_reason 28 = .ok (.iconst 1, 1) := by decide +kernel
theorem dX6_reason_29 : decode cX6_reason 29 = .ok (.goto 4, 3) := by decide +kernel
theorem dX6_reason_32 : decode cX6_reason 32 = .ok (.iconst 0, 1) := by decide +kernel
theorem dX6_reason_33 : decode cX6_reason 33 = .ok (.istore 4, 2) := by decide +kernel
theorem dX6_reason_35 : decode cX6_reason 35 = .ok (.aload_n 0, 1) := by decide +kernel
theorem dX6_reason_36 : decode cX6_reason 36 = .ok (.iconst 0, 1) := by decide +kernel
theorem dX6_reason_37 : decode cX6_reason 37 = .ok (.iload_n 1, 1) := by decide +kernel
theorem dX6_reason_38 : decode cX6_reason 38 = .ok (.iload_n 2, 1) := by decide +kernel
theorem dX6_reason_39 : decode cX6_reason 39 = .ok (.invokevirtual 34, 3) := by decide +kernel
theorem dX6_reason_42 : decode cX6_reason 42 = .ok (.iconst 5, 1) := by decide +kernel
theorem dX6_reason_43 : decode cX6_reason 43 = .ok (.if_icmp .lt 18, 3) := by decide +kernel
theorem dX6_reason_46 : decode cX6_reason 46 = .ok (.aload_n 0, 1) := by decide +kernel
theorem dX6_reason_47 : decode cX6_reason 47 = .ok (.iconst 1, 1) := by decide +kernel
theorem dX6_reason_48 : decode cX6_reason 48 = .ok (.iload_n 1, 1) := by decide +kernel
theorem dX6_reason_49 : decode cX6_reason 49 = .ok (.iload_n 2, 1) := by decide +kernel
theorem dX6_reason_50 : decode cX6_reason 50 = .ok (.invokevirtual 34, 3) := by decide +kernel
theorem dX6_reason_53 : decode cX6_reason 53 = .ok (.iconst 5, 1) := by decide +kernel
theorem dX6_reason_54 : decode cX6_reason 54 = .ok (.if_icmp .lt 7, 3) := by decide +kernel
theorem dX6_reason_57 : decode cX6_reason 57 = .ok (.iconst 1, 1) := by decide +kernel
theorem dX6_reason_58 : decode cX6_reason 58 = .ok (.goto 4, 3) := by decide +kernel
theorem dX6_reason_61 : decode cX6_reason 61 = .ok (.iconst 0, 1) := by decide +kernel
theorem dX6_reason_62 : decode cX6_reason 62 = .ok (.istore 5, 2) := by decide +kernel
theorem dX6_reason_64 : decode cX6_reason 64 = .ok (.iload_n 3, 1) := by decide +kernel
theorem dX6_reason_65 : decode cX6_reason 65 = .ok (.ifCond .ne 8, 3) := by decide +kernel
theorem dX6_reason_68 : decode cX6_reason 68 = .ok (.iload 4, 2) := by decide +kernel
theorem dX6_reason_70 : decode cX6_reason 70 = .ok (.ifCond .eq 10, 3) := by decide +kernel
theorem dX6_reason_73 : decode cX6_reason 73 = .ok (.iload 5, 2) := by decide +kernel
theorem dX6_reason_75 : decode cX6_reason 75 = .ok (.ifCond .ne 5, 3) := by decide +kernel
theorem dX6_reason_78 : decode cX6_reason 78 = .ok (.iconst 1, 1) := by decide +kernel
theorem dX6_reason_79 : decode cX6_reason 79 = .ok (.ireturn, 1) := by decide +kernel
theorem dX6_reason_80 : decode cX6_reason 80 = .ok (.iload_n 3, 1) := by decide +kernel
theorem dX6_reason_81 : decode cX6_reason 81 = .ok (.ifCond .eq 29, 3) := by decide +kernel
theorem dX6_reason_84 : decode cX6_reason 84 = .ok (.iload 4, 2) := by decide +kernel
theorem dX6_reason_86 : decode cX6_reason 86 = .ok (.ifCond .eq 24, 3) := by decide +kernel
theorem dX6_reason_89 : decode cX6_reason 89 = .ok (.aload_n 0, 1) := by decide +kernel
theorem dX6_reason_90 : decode cX6_reason 90 = .ok (.iconst 4, 1) := by decide +kernel
theorem dX6_reason_91 : decode cX6_reason 91 = .ok (.iload_n 1, 1) := by decide +kernel
theorem dX6_reason_92 : decode cX6_reason 92 = .ok (.iload_n 2, 1) := by decide +kernel
theorem dX6_reason_93 : decode cX6_reason 93 = .ok (.invokevirtual 34, 3) := by decide +kernel
theorem dX6_reason_96 : decode cX6_reason 96 = .ok (.aload_n 0, 1) := by decide +kernel
theorem dX6_reason_97 : decode cX6_reason 97 = .ok (.getfield 7, 3) := by decide +kernel
theorem dX6_reason_100 : decode cX6_reason 100 = .ok (.bipush 75, 2) := by decide +kernel
theorem dX6_reason_102 : decode cX6_reason 102 = .ok (.iaload, 1) := by decide +kernel
theorem dX6_reason_103 : decode cX6_reason 103 = .ok (.if_icmp .le 7, 3) := by decide +kernel
theorem dX6_reason_106 : decode cX6_reason 106 = .ok (.iconst 2, 1) := by decide +kernel
theorem dX6_reason_107 : decode cX6_reason 107 = .ok (.goto 4, 3) := by decide +kernel
theorem dX6_reason_110 : decode cX6_reason 110 = .ok (.iconst 0, 1) := by decide +kernel
theorem dX6_reason_111 : decode cX6_reason 111 = .ok (.ireturn, 1) := by decide +kernel
theorem dX6_isAllowed_0 : decode cX6_isAllowed 0 = .ok (.aload_n 0, 1) := by decide +kernel
theorem dX6_isAllowed_1 : decode cX6_isAllowed 1 = .ok (.iconst 0, 1) := by decide +kernel
theorem dX6_isAllowed_2 : decode cX6_isAllowed 2 = .ok (.iconst (-1), 1) := by decide +kernel
theorem dX6_isAllowed_3 : decode cX6_isAllowed 3 = .ok (.invokevirtual 38, 3) := by decide +kernel
theorem dX6_isAllowed_6 : decode cX6_isAllowed 6 = .ok (.ifCond .ne 7, 3) := by decide +kernel
theorem dX6_isAllowed_9 : decode cX6_isAllowed 9 = .ok (.iconst 1, 1) := by decide +kernel
theorem dX6_isAllowed_10 : decode cX6_isAllowed 10 = .ok (.goto 4, 3) := by decide +kernel
theorem dX6_isAllowed_13 : decode cX6_isAllowed 13 = .ok (.iconst 0, 1) := by decide +kernel
theorem dX6_isAllowed_14 : decode cX6_isAllowed 14 = .ok (.ireturn, 1) := by decide +kernel
theorem dX6_place_0 : decode cX6_place 0 = .ok (.aload_n 0, 1) := by decide +kernel
theorem dX6_place_1 : decode cX6_place 1 = .ok (.getfield 7, 3) := by decide +kernel
theorem dX6_place_4 : decode cX6_place 4 = .ok (.bipush 76, 2) := by decide +kernel
theorem dX6_place_6 : decode cX6_place 6 = .ok (.iaload, 1) := by decide +kernel
theorem dX6_place_7 : decode cX6_place 7 = .ok (.bipush 60, 2) := by decide +kernel
theorem dX6_place_9 : decode cX6_place 9 = .ok (.invokestatic 30, 3) := by decide +kernel
theorem dX6_place_12 : decode cX6_place 12 = .ok (.ireturn, 1) := by decide +kernel
theorem dX6_isCaught_0 : decode cX6_isCaught 0 = .ok (.aload_n 0, 1) := by decide +kernel
theorem dX6_isCaught_1 : decode cX6_isCaught 1 = .ok (.getfield 7, 3) := by decide +kernel
theorem dX6_isCaught_4 : decode cX6_isCaught 4 = .ok (.bipush 112, 2) := by decide +kernel
theorem dX6_isCaught_6 : decode cX6_isCaught 6 = .ok (.aload_n 0, 1) := by decide +kernel
theorem dX6_isCaught_7 : decode cX6_isCaught 7 = .ok (.invokevirtual 41, 3) := by decide +kernel
theorem dX6_isCaught_10 : decode cX6_isCaught 10 = .ok (.iadd, 1) := by decide +kernel
theorem dX6_isCaught_11 : decode cX6_isCaught 11 = .ok (.iaload, 1) := by decide +kernel
theorem dX6_isCaught_12 : decode cX6_isCaught 12 = .ok (.iconst 1, 1) := by decide +kernel
theorem dX6_isCaught_13 : decode cX6_isCaught 13 = .ok (.if_icmp .ne 17, 3) := by decide +kernel
theorem dX6_isCaught_16 : decode cX6_isCaught 16 = .ok (.aload_n 0, 1) := by decide +kernel
theorem dX6_isCaught_17 : decode cX6_isCaught 17 = .ok (.getfield 7, 3) := by decide +kernel
theorem dX6_isCaught_20 : decode cX6_isCaught 20 = .ok (.bipush 77, 2) := by decide +kernel
theorem dX6_isCaught_22 : decode cX6_isCaught 22 = .ok (.iaload, 1) := by decide +kernel
theorem dX6_isCaught_23 : decode cX6_isCaught 23 = .ok (.ifCond .ne 7, 3) := by decide +kernel
theorem dX6_isCaught_26 : decode cX6_isCaught 26 = .ok (.iconst 1, 1) := by decide +kernel
theorem dX6_isCaught_27 : decode cX6_isCaught 27 = .ok (.goto 4, 3) := by decide +kernel
theorem dX6_isCaught_30 : decode cX6_isCaught 30 = .ok (.iconst 0, 1) := by decide +kernel
theorem dX6_isCaught_31 : decode cX6_isCaught 31 = .ok (.ireturn, 1) := by decide +kernel
theorem dX6_whyNot_0 : decode cX6_whyNot 0 = .ok (.aload_n 0, 1) := by decide +kernel
theorem dX6_whyNot_1 : decode cX6_whyNot 1 = .ok (.iload_n 1, 1) := by decide +kernel
theorem dX6_whyNot_2 : decode cX6_whyNot 2 = .ok (.iload_n 2, 1) := by decide +kernel
theorem dX6_whyNot_3 : decode cX6_whyNot 3 = .ok (.invokevirtual 38, 3) := by decide +kernel
theorem dX6_whyNot_6 : decode cX6_whyNot 6 = .ok (.istore_n 3, 1) := by decide +kernel
theorem dX6_whyNot_7 : decode cX6_whyNot 7 = .ok (.iload_n 3, 1) := by decide +kernel
theorem dX6_whyNot_8 : decode cX6_whyNot 8 = .ok (.ifCond .le 5, 3) := by decide +kernel
theorem dX6_whyNot_11 : decode cX6_whyNot 11 = .ok (.iload_n 3, 1) := by decide +kernel
theorem dX6_whyNot_12 : decode cX6_whyNot 12 = .ok (.ireturn, 1) := by decide +kernel
theorem dX6_whyNot_13 : decode cX6_whyNot 13 = .ok (.aload_n 0, 1) := by decide +kernel
theorem dX6_whyNot_14 : decode cX6_whyNot 14 = .ok (.invokevirtual 45, 3) := by decide +kernel
theorem dX6_whyNot_17 : decode cX6_whyNot 17 = .ok (.ifCond .eq 7, 3) := by decide +kernel
theorem dX6_whyNot_20 : decode cX6_whyNot 20 = .ok (.iconst 3, 1) := by decide +kernel
theorem dX6_whyNot_21 : decode cX6_whyNot 21 = .ok (.goto 29, 3) := by decide +kernel
theorem dX6_whyNot_24 : decode cX6_whyNot 24 = .ok (.aload_n 0, 1) := by decide +kernel
theorem dX6_whyNot_25 : decode cX6_whyNot 25 = .ok (.getfield 7, 3) := by decide +kernel
theorem dX6_whyNot_28 : decode cX6_whyNot 28 = .ok (.bipush 76, 2) := by decide +kernel
theorem dX6_whyNot_30 : decode cX6_whyNot 30 = .ok (.iaload, 1) := by decide +kernel
theorem dX6_whyNot_31 : decode cX6_whyNot 31 = .ok (.iload_n 1, 1) := by decide +kernel
theorem dX6_whyNot_32 : decode cX6_whyNot 32 = .ok (.iadd, 1) := by decide +kernel
theorem dX6_whyNot_33 : decode cX6_whyNot 33 = .ok (.sipush (-9999), 3) := by decide +kernel
theorem dX6_whyNot_36 : decode cX6_whyNot 36 = .ok (.sipush 9999, 3) := by decide +kernel
theorem dX6_whyNot_39 : decode cX6_whyNot 39 = .ok (.invokestatic 26, 3) := by decide +kernel
theorem dX6_whyNot_42 : decode cX6_whyNot 42 = .ok (.ifCond .eq 7, 3) := by decide +kernel
theorem dX6_whyNot_45 : decode cX6_whyNot 45 = .ok (.iconst 0, 1) := by decide +kernel
theorem dX6_whyNot_46 : decode cX6_whyNot 46 = .ok (.goto 4, 3) := by decide +kernel
theorem dX6_whyNot_49 : decode cX6_whyNot 49 = .ok (.iconst 4, 1) := by decide +kernel
theorem dX6_whyNot_50 : decode cX6_whyNot 50 = .ok (.ireturn, 1) := by decide +kernel
theorem dX6_steps_0 : decode cX6_steps 0 = .ok (.aload_n 0, 1) := by decide +kernel
theorem dX6_steps_1 : decode cX6_steps 1 = .ok (.getfield 7, 3) := by decide +kernel
theorem dX6_steps_4 : decode cX6_steps 4 = .ok (.bipush 76, 2) := by decide +kernel
theorem dX6_steps_6 : decode cX6_steps 6 = .ok (.dup2, 1) := by decide +kernel
theorem dX6_steps_7 : decode cX6_steps 7 = .ok (.iaload, 1) := by decide +kernel
theorem dX6_steps_8 : decode cX6_steps 8 = .ok (.iload_n 1, 1) := by decide +kernel
theorem dX6_steps_9 : decode cX6_steps 9 = .ok (.iadd, 1) := by decide +kernel
theorem dX6_steps_10 : decode cX6_steps 10 = .ok (.iastore, 1) := by decide +kernel
theorem dX6_steps_11 : decode cX6_steps 11 = .ok (.aload_n 0, 1) := by decide +kernel
theorem dX6_steps_12 : decode cX6_steps 12 = .ok (.getfield 7, 3) := by decide +kernel
theorem dX6_steps_15 : decode cX6_steps 15 = .ok (.bipush 77, 2) := by decide +kernel
theorem dX6_steps_17 : decode cX6_steps 17 = .ok (.iconst 0, 1) := by decide +kernel
theorem dX6_steps_18 : decode cX6_steps 18 = .ok (.iastore, 1) := by decide +kernel
theorem dX6_steps_19 : decode cX6_steps 19 = .ok (.aload_n 0, 1) := by decide +kernel
theorem dX6_steps_20 : decode cX6_steps 20 = .ok (.getfield 7, 3) := by decide +kernel
theorem dX6_steps_23 : decode cX6_steps 23 = .ok (.iload_n 1, 1) := by decide +kernel
theorem dX6_steps_24 : decode cX6_steps 24 = .ok (.ifCond .le 8, 3) := by decide +kernel
theorem dX6_steps_27 : decode cX6_steps 27 = .ok (.bipush 78, 2) := by decide +kernel
theorem dX6_steps_29 : decode cX6_steps 29 = .ok (.goto 5, 3) := by decide +kernel
theorem dX6_steps_32 : decode cX6_steps 32 = .ok (.bipush 79, 2) := by decide +kernel
theorem dX6_steps_34 : decode cX6_steps 34 = .ok (.dup2, 1) := by decide +kernel
theorem dX6_steps_35 : decode cX6_steps 35 = .ok (.iaload, 1) := by decide +kernel
theorem dX6_steps_36 : decode cX6_steps 36 = .ok (.iconst 1, 1) := by decide +kernel
theorem dX6_steps_37 : decode cX6_steps 37 = .ok (.iadd, 1) := by decide +kernel
theorem dX6_steps_38 : decode cX6_steps 38 = .ok (.iastore, 1) := by decide +kernel
theorem dX6_steps_39 : decode cX6_steps 39 = .ok (.iconst 0, 1) := by decide +kernel
theorem dX6_steps_40 : decode cX6_steps 40 = .ok (.istore_n 2, 1) := by decide +kernel
theorem dX6_steps_41 : decode cX6_steps 41 = .ok (.iload_n 2, 1) := by decide +kernel
theorem dX6_steps_42 : decode cX6_steps 42 = .ok (.iconst 5, 1) := by decide +kernel
theorem dX6_steps_43 : decode cX6_steps 43 = .ok (.if_icmp .ge 51, 3) := by decide +kernel
theorem dX6_steps_46 : decode cX6_steps 46 = .ok (.aload_n 0, 1) := by decide +kernel
theorem dX6_steps_47 : decode cX6_steps 47 = .ok (.getfield 7, 3) := by decide +kernel
theorem dX6_steps_50 : decode cX6_steps 50 = .ok (.bipush 10, 2) := by decide +kernel
theorem dX6_steps_52 : decode cX6_steps 52 = .ok (.iload_n 2, 1) := by decide +kernel
theorem dX6_steps_53 : decode cX6_steps 53 = .ok (.iadd, 1) := by decide +kernel
theorem dX6_steps_54 : decode cX6_steps 54 = .ok (.iaload, 1) := by decide +kernel
theorem dX6_steps_55 : decode cX6_steps 55 = .ok (.iconst 1, 1) := by decide +kernel
theorem dX6_steps_56 : decode cX6_steps 56 = .ok (.if_icmp .ne 32, 3) := by decide +kernel
theorem dX6_steps_59 : decode cX6_steps 59 = .ok (.aload_n 0, 1) := by decide +kernel
theorem dX6_steps_60 : decode cX6_steps 60 = .ok (.getfield 7, 3) := by decide +kernel
theorem dX6_steps_63 : decode cX6_steps 63 = .ok (.iconst 5, 1) := by decide +kernel
theorem dX6_steps_64 : decode cX6_steps 64 = .ok (.iload_n 2, 1) := by decide +kernel
theorem dX6_steps_65 : decode cX6_steps 65 = .ok (.iadd, 1) := by decide +kernel
theorem dX6_steps_66 : decode cX6_steps 66 = .ok (.aload_n 0, 1) := by decide +kernel
theorem dX6_steps_67 : decode cX6_steps 67 = .ok (.getfield 7, 3) := by decide +kernel
theorem dX6_steps_70 : decode cX6_steps 70 = .ok (.iconst 5, 1) := by decide +kernel
theorem dX6_steps_71 : decode cX6_steps 71 = .ok (.iload_n 2, 1) := by decide +kernel
theorem dX6_steps_72 : decode cX6_steps 72 = .ok (.iadd, 1) := by decide +kernel
theorem dX6_steps_73 : decode cX6_steps 73 = .ok (.iaload, 1) := by decide +kernel
theorem dX6_steps_74 : decode cX6_steps 74 = .ok (.iload_n 1, 1) := by decide +kernel
theorem dX6_steps_75 : decode cX6_steps 75 = .ok (.iadd, 1) := by decide +kernel
theorem dX6_steps_76 : decode cX6_steps 76 = .ok (.aload_n 0, 1) := by decide +kernel
theorem dX6_steps_77 : decode cX6_steps 77 = .ok (.getfield 7, 3) := by decide +kernel
theorem dX6_steps_80 : decode cX6_steps 80 = .ok (.iconst 0, 1) := by decide +kernel
theorem dX6_steps_81 : decode cX6_steps 81 = .ok (.iload_n 2, 1) := by decide +kernel
theorem dX6_steps_82 : decode cX6_steps 82 = .ok (.iadd, 1) := by decide +kernel
theorem dX6_steps_83 : decode cX6_steps 83 = .ok (.iaload, 1) := by decide +kernel
theorem dX6_steps_84 : decode cX6_steps 84 = .ok (.invokestatic 30, 3) := by decide +kernel
theorem dX6_steps_87 : decode cX6_steps 87 = .ok (.iastore, 1) := by decide +kernel
theorem dX6_steps_88 : decode cX6_steps 88 = .ok (.iinc 2 1, 3) := by decide +kernel
theorem dX6_steps_91 : decode cX6_steps 91 = .ok (.goto (-50), 3) := by decide +kernel
theorem dX6_steps_94 : decode cX6_steps 94 = .ok (.return_, 1) := by decide +kernel
theorem dX6_turns_0 : decode cX6_turns 0 = .ok (.iconst 0, 1) := by decide +kernel
theorem dX6_turns_1 : decode cX6_turns 1 = .ok (.istore_n 3, 1) := by decide +kernel
theorem dX6_turns_2 : decode cX6_turns 2 = .ok (.iload_n 3, 1) := by decide +kernel
theorem dX6_turns_3 : decode cX6_turns 3 = .ok (.iload_n 2, 1) := by decide +kernel
theorem dX6_turns_4 : decode cX6_turns 4 = .ok (.if_icmp .ge 23, 3) := by decide +kernel
theorem dX6_turns_7 : decode cX6_turns 7 = .ok (.aload_n 0, 1) := by decide +kernel
theorem dX6_turns_8 : decode cX6_turns 8 = .ok (.iload_n 1, 1) := by decide +kernel
theorem dX6_turns_9 : decode cX6_turns 9 = .ok (.iconst (-1), 1) := by decide +kernel
theorem dX6_turns_10 : decode cX6_turns 10 = .ok (.invokevirtual 49, 3) := by decide +kernel
theorem dX6_turns_13 : decode cX6_turns 13 = .ok (.ifCond .ne 14, 3) := by decide +kernel
theorem dX6_turns_16 : decode cX6_turns 16 = .ok (.aload_n 0, 1) := by decide +kernel
theorem dX6_turns_17 : decode cX6_turns 17 = .ok (.iload_n 1, 1) := by decide +kernel
theorem dX6_turns_18 : decode cX6_turns 18 = .ok (.invokevirtual 52, 3) := by decide +kernel
theorem dX6_turns_21 : decode cX6_turns 21 = .ok (.iinc 3 1, 3) := by decide +kernel
theorem dX6_turns_24 : decode cX6_turns 24 = .ok (.goto (-22), 3) := by decide +kernel
theorem dX6_turns_27 : decode cX6_turns 27 = .ok (.iload_n 3, 1) := by decide +kernel
theorem dX6_turns_28 : decode cX6_turns 28 = .ok (.ireturn, 1) := by decide +kernel
theorem dX6_copies_0 : decode cX6_copies 0 = .ok (.iconst 0, 1) := by decide +kernel
theorem dX6_copies_1 : decode cX6_copies 1 = .ok (.istore_n 3, 1) := by decide +kernel
theorem dX6_copies_2 : decode cX6_copies 2 = .ok (.iload_n 3, 1) := by decide +kernel
theorem dX6_copies_3 : decode cX6_copies 3 = .ok (.sipush 172, 3) := by decide +kernel
theorem dX6_copies_6 : decode cX6_copies 6 = .ok (.if_icmp .ge 33, 3) := by decide +kernel
theorem dX6_copies_9 : decode cX6_copies 9 = .ok (.aload_n 0, 1) := by decide +kernel
theorem dX6_copies_10 : decode cX6_copies 10 = .ok (.getfield 7, 3) := by decide +kernel
theorem dX6_copies_13 : decode cX6_copies 13 = .ok (.sipush 172, 3) := by decide +kernel
theorem dX6_copies_16 : decode cX6_copies 16 = .ok (.iload_n 2, 1) := by decide +kernel
theorem dX6_copies_17 : decode cX6_copies 17 = .ok (.imul, 1) := by decide +kernel
theorem dX6_copies_18 : decode cX6_copies 18 = .ok (.iload_n 3, 1) := by decide +kernel
theorem dX6_copies_19 : decode cX6_copies 19 = .ok (.iadd, 1) := by decide +kernel
theorem dX6_copies_20 : decode cX6_copies 20 = .ok (.aload_n 0, 1) := by decide +kernel
theorem dX6_copies_21 : decode cX6_copies 21 = .ok (.getfield 7, 3) := by decide +kernel
theorem dX6_copies_24 : decode cX6_copies 24 = .ok (.sipush 172, 3) := by decide +kernel
theorem dX6_copies_27 : decode cX6_copies 27 = .ok (.iload_n 1, 1) := by decide +kernel
theorem dX6_copies_28 : decode cX6_copies 28 = .ok (.imul, 1) := by decide +kernel
theorem dX6_copies_29 : decode cX6_copies 29 = .ok (.iload_n 3, 1) := by decide +kernel
theorem dX6_copies_30 : decode cX6_copies 30 = .ok (.iadd, 1) := by decide +kernel
theorem dX6_copies_31 : decode cX6_copies 31 = .ok (.iaload, 1) := by decide +kernel
theorem dX6_copies_32 : decode cX6_copies 32 = .ok (.iastore, 1) := by decide +kernel
theorem dX6_copies_33 : decode cX6_copies 33 = .ok (.iinc 3 1, 3) := by decide +kernel
theorem dX6_copies_36 : decode cX6_copies 36 = .ok (.goto (-34), 3) := by decide +kernel
theorem dX6_copies_39 : decode cX6_copies 39 = .ok (.return_, 1) := by decide +kernel
theorem dX6_save_0 : decode cX6_save 0 = .ok (.iconst 1, 1) := by decide +kernel
theorem dX6_save_1 : decode cX6_save 1 = .ok (.istore_n 1, 1) := by decide +kernel
theorem dX6_save_2 : decode cX6_save 2 = .ok (.iload_n 1, 1) := by decide +kernel
theorem dX6_save_3 : decode cX6_save 3 = .ok (.bipush 6, 2) := by decide +kernel
theorem dX6_save_5 : decode cX6_save 5 = .ok (.if_icmp .ge 26, 3) := by decide +kernel
theorem dX6_save_8 : decode cX6_save 8 = .ok (.aload_n 0, 1) := by decide +kernel
theorem dX6_save_9 : decode cX6_save 9 = .ok (.getfield 56, 3) := by decide +kernel
theorem dX6_save_12 : decode cX6_save 12 = .ok (.bipush 6, 2) := by decide +kernel
theorem dX6_save_14 : decode cX6_save 14 = .ok (.if_icmp .ne 17, 3) := by decide +kernel
theorem dX6_save_17 : decode cX6_save 17 = .ok (.aload_n 0, 1) := by decide +kernel
theorem dX6_save_18 : decode cX6_save 18 = .ok (.iload_n 1, 1) := by decide +kernel
theorem dX6_save_19 : decode cX6_save 19 = .ok (.iconst 1, 1) := by decide +kernel
theorem dX6_save_20 : decode cX6_save 20 = .ok (.iadd, 1) := by decide +kernel
theorem dX6_save_21 : decode cX6_save 21 = .ok (.iload_n 1, 1) := by decide +kernel
theorem dX6_save_22 : decode cX6_save 22 = .ok (.invokevirtual 59, 3) := by decide +kernel
theorem dX6_save_25 : decode cX6_save 25 = .ok (.iinc 1 1, 3) := by decide +kernel
theorem dX6_save_28 : decode cX6_save 28 = .ok (.goto (-26), 3) := by decide +kernel
theorem dX6_save_31 : decode cX6_save 31 = .ok (.aload_n 0, 1) := by decide +kernel
theorem dX6_save_32 : decode cX6_save 32 = .ok (.dup, 1) := by decide +kernel
theorem dX6_save_33 : decode cX6_save 33 = .ok (.getfield 56, 3) := by decide +kernel
theorem dX6_save_36 : decode cX6_save 36 = .ok (.aload_n 0, 1) := by decide +kernel
theorem dX6_save_37 : decode cX6_save 37 = .ok (.getfield 56, 3) := by decide +kernel
theorem dX6_save_40 : decode cX6_save 40 = .ok (.bipush 6, 2) := by decide +kernel
theorem dX6_save_42 : decode cX6_save 42 = .ok (.if_icmp .ge 7, 3) := by decide +kernel
theorem dX6_save_45 : decode cX6_save 45 = .ok (.iconst 1, 1) := by decide +kernel
theorem dX6_save_46 : decode cX6_save 46 = .ok (.goto 4, 3) := by decide +kernel
theorem dX6_save_49 : decode cX6_save 49 = .ok (.iconst 0, 1) := by decide +kernel
theorem dX6_save_50 : decode cX6_save 50 = .ok (.iadd, 1) := by decide +kernel
theorem dX6_save_51 : decode cX6_save 51 = .ok (.putfield 56, 3) := by decide +kernel
theorem dX6_save_54 : decode cX6_save 54 = .ok (.aload_n 0, 1) := by decide +kernel
theorem dX6_save_55 : decode cX6_save 55 = .ok (.iconst 0, 1) := by decide +kernel
theorem dX6_save_56 : decode cX6_save 56 = .ok (.aload_n 0, 1) := by decide +kernel
theorem dX6_save_57 : decode cX6_save 57 = .ok (.getfield 56, 3) := by decide +kernel
theorem dX6_save_60 : decode cX6_save 60 = .ok (.invokevirtual 59, 3) := by decide +kernel
theorem dX6_save_63 : decode cX6_save 63 = .ok (.return_, 1) := by decide +kernel
theorem dX6_turn_0 : decode cX6_turn 0 = .ok (.aload_n 0, 1) := by decide +kernel
theorem dX6_turn_1 : decode cX6_turn 1 = .ok (.iload_n 1, 1) := by decide +kernel
theorem dX6_turn_2 : decode cX6_turn 2 = .ok (.bipush (-60), 2) := by decide +kernel
theorem dX6_turn_4 : decode cX6_turn 4 = .ok (.bipush 60, 2) := by decide +kernel
theorem dX6_turn_6 : decode cX6_turn 6 = .ok (.invokestatic 26, 3) := by decide +kernel
theorem dX6_turn_9 : decode cX6_turn 9 = .ok (.ifCond .eq 11, 3) := by decide +kernel
theorem dX6_turn_12 : decode cX6_turn 12 = .ok (.iload_n 1, 1) := by decide +kernel
theorem dX6_turn_13 : decode cX6_turn 13 = .ok (.ifCond .eq 7, 3) := by decide +kernel
theorem dX6_turn_16 : decode cX6_turn 16 = .ok (.iconst 0, 1) := by decide +kernel
theorem dX6_turn_17 : decode cX6_turn 17 = .ok (.goto 4, 3) := by decide +kernel
theorem dX6_turn_20 : decode cX6_turn 20 = .ok (.iconst 1, 1) := by decide +kernel
theorem dX6_turn_21 : decode cX6_turn 21 = .ok (.invokevirtual 63, 3) := by decide +kernel
theorem dX6_turn_24 : decode cX6_turn 24 = .ok (.ifCond .ne 5, 3) := by decide +kernel
theorem dX6_turn_27 : decode cX6_turn 27 = .ok (.iconst 0, 1) := by decide +kernel
theorem dX6_turn_28 : decode cX6_turn 28 = .ok (.ireturn, 1) := by decide +kernel
theorem dX6_turn_29 : decode cX6_turn 29 = .ok (.aload_n 0, 1) := by decide +kernel
theorem dX6_turn_30 : decode cX6_turn 30 = .ok (.invokevirtual 67, 3) := by decide +kernel
theorem dX6_turn_33 : decode cX6_turn 33 = .ok (.iload_n 1, 1) := by decide +kernel
theorem dX6_turn_34 : decode cX6_turn 34 = .ok (.ifCond .le 12, 3) := by decide +kernel
theorem dX6_turn_37 : decode cX6_turn 37 = .ok (.aload_n 0, 1) := by decide +kernel
theorem dX6_turn_38 : decode cX6_turn 38 = .ok (.iconst 1, 1) := by decide +kernel
theorem dX6_turn_39 : decode cX6_turn 39 = .ok (.iload_n 1, 1) := by decide +kernel
theorem dX6_turn_40 : decode cX6_turn 40 = .ok (.invokevirtual 70, 3) := by decide +kernel
theorem dX6_turn_43 : decode cX6_turn 43 = .ok (.goto 10, 3) := by decide +kernel
theorem dX6_turn_46 : decode cX6_turn 46 = .ok (.aload_n 0, 1) := by decide +kernel
theorem dX6_turn_47 : decode cX6_turn 47 = .ok (.iconst (-1), 1) := by decide +kernel
theorem dX6_turn_48 : decode cX6_turn 48 = .ok (.iload_n 1, 1) := by decide +kernel
theorem dX6_turn_49 : decode cX6_turn 49 = .ok (.ineg, 1) := by decide +kernel
theorem dX6_turn_50 : decode cX6_turn 50 = .ok (.invokevirtual 70, 3) := by decide +kernel
theorem dX6_turn_53 : decode cX6_turn 53 = .ok (.ireturn, 1) := by decide +kernel
theorem dX6_lift_0 : decode cX6_lift 0 = .ok (.aload_n 0, 1) := by decide +kernel
theorem dX6_lift_1 : decode cX6_lift 1 = .ok (.iconst 0, 1) := by decide +kernel
theorem dX6_lift_2 : decode cX6_lift 2 = .ok (.putfield 22, 3) := by decide +kernel
theorem dX6_lift_5 : decode cX6_lift 5 = .ok (.aload_n 0, 1) := by decide +kernel
theorem dX6_lift_6 : decode cX6_lift 6 = .ok (.invokevirtual 67, 3) := by decide +kernel
theorem dX6_lift_9 : decode cX6_lift 9 = .ok (.aload_n 0, 1) := by decide +kernel
theorem dX6_lift_10 : decode cX6_lift 10 = .ok (.invokevirtual 45, 3) := by decide +kernel
theorem dX6_lift_13 : decode cX6_lift 13 = .ok (.ifCond .eq 7, 3) := by decide +kernel
theorem dX6_lift_16 : decode cX6_lift 16 = .ok (.iconst 1, 1) := by decide +kernel
theorem dX6_lift_17 : decode cX6_lift 17 = .ok (.goto 4, 3) := by decide +kernel
theorem dX6_lift_20 : decode cX6_lift 20 = .ok (.iconst 0, 1) := by decide +kernel
theorem dX6_lift_21 : decode cX6_lift 21 = .ok (.istore_n 1, 1) := by decide +kernel
theorem dX6_lift_22 : decode cX6_lift 22 = .ok (.aload_n 0, 1) := by decide +kernel
theorem dX6_lift_23 : decode cX6_lift 23 = .ok (.getfield 7, 3) := by decide +kernel
theorem dX6_lift_26 : decode cX6_lift 26 = .ok (.bipush 77, 2) := by decide +kernel
theorem dX6_lift_28 : decode cX6_lift 28 = .ok (.iconst 1, 1) := by decide +kernel
theorem dX6_lift_29 : decode cX6_lift 29 = .ok (.iastore, 1) := by decide +kernel
theorem dX6_lift_30 : decode cX6_lift 30 = .ok (.iload_n 1, 1) := by decide +kernel
theorem dX6_lift_31 : decode cX6_lift 31 = .ok (.ireturn, 1) := by decide +kernel
theorem dX6_stops_0 : decode cX6_stops 0 = .ok (.iconst 0, 1) := by decide +kernel
theorem dX6_stops_1 : decode cX6_stops 1 = .ok (.istore_n 1, 1) := by decide +kernel
theorem dX6_stops_2 : decode cX6_stops 2 = .ok (.iconst 0, 1) := by decide +kernel
theorem dX6_stops_3 : decode cX6_stops 3 = .ok (.istore_n 2, 1) := by decide +kernel
theorem dX6_stops_4 : decode cX6_stops 4 = .ok (.iload_n 2, 1) := by decide +kernel
theorem dX6_stops_5 : decode cX6_stops 5 = .ok (.bipush 60, 2) := by decide +kernel
theorem dX6_stops_7 : decode cX6_stops 7 = .ok (.if_icmp .ge 21, 3) := by decide +kernel
theorem dX6_stops_10 : decode cX6_stops 10 = .ok (.iload_n 1, 1) := by decide +kernel
theorem dX6_stops_11 : decode cX6_stops 11 = .ok (.aload_n 0, 1) := by decide +kernel
theorem dX6_stops_12 : decode cX6_stops 12 = .ok (.getfield 7, 3) := by decide +kernel
theorem dX6_stops_15 : decode cX6_stops 15 = .ok (.bipush 112, 2) := by decide +kernel
theorem dX6_stops_17 : decode cX6_stops 17 = .ok (.iload_n 2, 1) := by decide +kernel
theorem dX6_stops_18 : decode cX6_stops 18 = .ok (.iadd, 1) := by decide +kernel
theorem dX6_stops_19 : decode cX6_stops 19 = .ok (.iaload, 1) := by decide +kernel
theorem dX6_stops_20 : decode cX6_stops 20 = .ok (.iadd, 1) := by decide +kernel
theorem dX6_stops_21 : decode cX6_stops 21 = .ok (.istore_n 1, 1) := by decide +kernel
theorem dX6_stops_22 : decode cX6_stops 22 = .ok (.iinc 2 1, 3) := by decide +kernel
theorem dX6_stops_25 : decode cX6_stops 25 = .ok (.goto (-21), 3) := by decide +kernel
theorem dX6_stops_28 : decode cX6_stops 28 = .ok (.iload_n 1, 1) := by decide +kernel
theorem dX6_stops_29 : decode cX6_stops 29 = .ok (.ireturn, 1) := by decide +kernel
theorem dX6_stop_0 : decode cX6_stop 0 = .ok (.aload_n 0, 1) := by decide +kernel
theorem dX6_stop_1 : decode cX6_stop 1 = .ok (.iload_n 1, 1) := by decide +kernel
theorem dX6_stop_2 : decode cX6_stop 2 = .ok (.iconst 0, 1) := by decide +kernel
theorem dX6_stop_3 : decode cX6_stop 3 = .ok (.bipush 59, 2) := by decide +kernel
theorem dX6_stop_5 : decode cX6_stop 5 = .ok (.invokestatic 26, 3) := by decide +kernel
theorem dX6_stop_8 : decode cX6_stop 8 = .ok (.ifCond .eq 7, 3) := by decide +kernel
theorem dX6_stop_11 : decode cX6_stop 11 = .ok (.iconst 0, 1) := by decide +kernel
theorem dX6_stop_12 : decode cX6_stop 12 = .ok (.goto 4, 3) := by decide +kernel
theorem dX6_stop_15 : decode cX6_stop 15 = .ok (.iconst 1, 1) := by decide +kernel
theorem dX6_stop_16 : decode cX6_stop 16 = .ok (.invokevirtual 63, 3) := by decide +kernel
theorem dX6_stop_19 : decode cX6_stop 19 = .ok (.ifCond .ne 5, 3) := by decide +kernel
theorem dX6_stop_22 : decode cX6_stop 22 = .ok (.iconst 0, 1) := by decide +kernel
theorem dX6_stop_23 : decode cX6_stop 23 = .ok (.ireturn, 1) := by decide +kernel
theorem dX6_stop_24 : decode cX6_stop 24 = .ok (.aload_n 0, 1) := by decide +kernel
theorem dX6_stop_25 : decode cX6_stop 25 = .ok (.invokevirtual 67, 3) := by decide +kernel
theorem dX6_stop_28 : decode cX6_stop 28 = .ok (.aload_n 0, 1) := by decide +kernel
theorem dX6_stop_29 : decode cX6_stop 29 = .ok (.getfield 7, 3) := by decide +kernel
theorem dX6_stop_32 : decode cX6_stop 32 = .ok (.bipush 112, 2) := by decide +kernel
theorem dX6_stop_34 : decode cX6_stop 34 = .ok (.iload_n 1, 1) := by decide +kernel
theorem dX6_stop_35 : decode cX6_stop 35 = .ok (.iadd, 1) := by decide +kernel
theorem dX6_stop_36 : decode cX6_stop 36 = .ok (.iconst 1, 1) := by decide +kernel
theorem dX6_stop_37 : decode cX6_stop 37 = .ok (.aload_n 0, 1) := by decide +kernel
theorem dX6_stop_38 : decode cX6_stop 38 = .ok (.getfield 7, 3) := by decide +kernel
theorem dX6_stop_41 : decode cX6_stop 41 = .ok (.bipush 112, 2) := by decide +kernel
theorem dX6_stop_43 : decode cX6_stop 43 = .ok (.iload_n 1, 1) := by decide +kernel
theorem dX6_stop_44 : decode cX6_stop 44 = .ok (.iadd, 1) := by decide +kernel
theorem dX6_stop_45 : decode cX6_stop 45 = .ok (.iaload, 1) := by decide +kernel
theorem dX6_stop_46 : decode cX6_stop 46 = .ok (.isub, 1) := by decide +kernel
theorem dX6_stop_47 : decode cX6_stop 47 = .ok (.iastore, 1) := by decide +kernel
theorem dX6_stop_48 : decode cX6_stop 48 = .ok (.aload_n 0, 1) := by decide +kernel
theorem dX6_stop_49 : decode cX6_stop 49 = .ok (.invokevirtual 73, 3) := by decide +kernel
theorem dX6_stop_52 : decode cX6_stop 52 = .ok (.ireturn, 1) := by decide +kernel
theorem dX6_clutch_0 : decode cX6_clutch 0 = .ok (.aload_n 0, 1) := by decide +kernel
theorem dX6_clutch_1 : decode cX6_clutch 1 = .ok (.iload_n 1, 1) := by decide +kernel
theorem dX6_clutch_2 : decode cX6_clutch 2 = .ok (.invokestatic 76, 3) := by decide +kernel
theorem dX6_clutch_5 : decode cX6_clutch 5 = .ok (.ifCond .eq 7, 3) := by decide +kernel
theorem dX6_clutch_8 : decode cX6_clutch 8 = .ok (.iconst 0, 1) := by decide +kernel
theorem dX6_clutch_9 : decode cX6_clutch 9 = .ok (.goto 4, 3) := by decide +kernel
theorem dX6_clutch_12 : decode cX6_clutch 12 = .ok (.iconst 1, 1) := by decide +kernel
theorem dX6_clutch_13 : decode cX6_clutch 13 = .ok (.invokevirtual 63, 3) := by decide +kernel
theorem dX6_clutch_16 : decode cX6_clutch 16 = .ok (.ifCond .ne 5, 3) := by decide +kernel
theorem dX6_clutch_19 : decode cX6_clutch 19 = .ok (.iconst 0, 1) := by decide +kernel
theorem dX6_clutch_20 : decode cX6_clutch 20 = .ok (.ireturn, 1) := by decide +kernel
theorem dX6_clutch_21 : decode cX6_clutch 21 = .ok (.aload_n 0, 1) := by decide +kernel
theorem dX6_clutch_22 : decode cX6_clutch 22 = .ok (.invokevirtual 67, 3) := by decide +kernel
theorem dX6_clutch_25 : decode cX6_clutch 25 = .ok (.aload_n 0, 1) := by decide +kernel
theorem dX6_clutch_26 : decode cX6_clutch 26 = .ok (.getfield 7, 3) := by decide +kernel
theorem dX6_clutch_29 : decode cX6_clutch 29 = .ok (.bipush 10, 2) := by decide +kernel
theorem dX6_clutch_31 : decode cX6_clutch 31 = .ok (.iload_n 1, 1) := by decide +kernel
theorem dX6_clutch_32 : decode cX6_clutch 32 = .ok (.iadd, 1) := by decide +kernel
theorem dX6_clutch_33 : decode cX6_clutch 33 = .ok (.iconst 1, 1) := by decide +kernel
theorem dX6_clutch_34 : decode cX6_clutch 34 = .ok (.aload_n 0, 1) := by decide +kernel
theorem dX6_clutch_35 : decode cX6_clutch 35 = .ok (.getfield 7, 3) := by decide +kernel
theorem dX6_clutch_38 : decode cX6_clutch 38 = .ok (.bipush 10, 2) := by decide +kernel
theorem dX6_clutch_40 : decode cX6_clutch 40 = .ok (.iload_n 1, 1) := by decide +kernel
theorem dX6_clutch_41 : decode cX6_clutch 41 = .ok (.iadd, 1) := by decide +kernel
theorem dX6_clutch_42 : decode cX6_clutch 42 = .ok (.iaload, 1) := by decide +kernel
theorem dX6_clutch_43 : decode cX6_clutch 43 = .ok (.isub, 1) := by decide +kernel
theorem dX6_clutch_44 : decode cX6_clutch 44 = .ok (.iastore, 1) := by decide +kernel
theorem dX6_clutch_45 : decode cX6_clutch 45 = .ok (.aload_n 0, 1) := by decide +kernel
theorem dX6_clutch_46 : decode cX6_clutch 46 = .ok (.getfield 7, 3) := by decide +kernel
theorem dX6_clutch_49 : decode cX6_clutch 49 = .ok (.bipush 10, 2) := by decide +kernel
theorem dX6_clutch_51 : decode cX6_clutch 51 = .ok (.iload_n 1, 1) := by decide +kernel
theorem dX6_clutch_52 : decode cX6_clutch 52 = .ok (.iadd, 1) := by decide +kernel
theorem dX6_clutch_53 : decode cX6_clutch 53 = .ok (.iaload, 1) := by decide +kernel
theorem dX6_clutch_54 : decode cX6_clutch 54 = .ok (.ireturn, 1) := by decide +kernel
theorem dX6_wouldBe_0 : decode cX6_wouldBe 0 = .ok (.aload_n 0, 1) := by decide +kernel
theorem dX6_wouldBe_1 : decode cX6_wouldBe 1 = .ok (.getfield 7, 3) := by decide +kernel
theorem dX6_wouldBe_4 : decode cX6_wouldBe 4 = .ok (.iload_n 1, 1) := by decide +kernel
theorem dX6_wouldBe_5 : decode cX6_wouldBe 5 = .ok (.iaload, 1) := by decide +kernel
theorem dX6_wouldBe_6 : decode cX6_wouldBe 6 = .ok (.istore_n 3, 1) := by decide +kernel
theorem dX6_wouldBe_7 : decode cX6_wouldBe 7 = .ok (.aload_n 0, 1) := by decide +kernel
theorem dX6_wouldBe_8 : decode cX6_wouldBe 8 = .ok (.getfield 7, 3) := by decide +kernel
theorem dX6_wouldBe_11 : decode cX6_wouldBe 11 = .ok (.iload_n 1, 1) := by decide +kernel
theorem dX6_wouldBe_12 : decode cX6_wouldBe 12 = .ok (.iload_n 2, 1) := by decide +kernel
theorem dX6_wouldBe_13 : decode cX6_wouldBe 13 = .ok (.iastore, 1) := by decide +kernel
theorem dX6_wouldBe_14 : decode cX6_wouldBe 14 = .ok (.aload_n 0, 1) := by decide +kernel
theorem dX6_wouldBe_15 : decode cX6_wouldBe 15 = .ok (.invokevirtual 79, 3) := by decide +kernel
theorem dX6_wouldBe_18 : decode cX6_wouldBe 18 = .ok (.istore 4, 2) := by decide +kernel
theorem dX6_wouldBe_20 : decode cX6_wouldBe 20 = .ok (.aload_n 0, 1) := by decide +kernel
theorem dX6_wouldBe_21 : decode cX6_wouldBe 21 = .ok (.getfield 7, 3) := by decide +kernel
theorem dX6_wouldBe_24 : decode cX6_wouldBe 24 = .ok (.iload_n 1, 1) := by decide +kernel
theorem dX6_wouldBe_25 : decode cX6_wouldBe 25 = .ok (.iload_n 3, 1) := by decide +kernel
theorem dX6_wouldBe_26 : decode cX6_wouldBe 26 = .ok (.iastore, 1) := by decide +kernel
theorem dX6_wouldBe_27 : decode cX6_wouldBe 27 = .ok (.iload 4, 2) := by decide +kernel
theorem dX6_wouldBe_29 : decode cX6_wouldBe 29 = .ok (.ireturn, 1) := by decide +kernel
theorem dX6_changed_0 : decode cX6_changed 0 = .ok (.aload_n 0, 1) := by decide +kernel
theorem dX6_changed_1 : decode cX6_changed 1 = .ok (.invokevirtual 67, 3) := by decide +kernel
theorem dX6_changed_4 : decode cX6_changed 4 = .ok (.aload_n 0, 1) := by decide +kernel
theorem dX6_changed_5 : decode cX6_changed 5 = .ok (.getfield 7, 3) := by decide +kernel
theorem dX6_changed_8 : decode cX6_changed 8 = .ok (.iload_n 1, 1) := by decide +kernel
theorem dX6_changed_9 : decode cX6_changed 9 = .ok (.iaload, 1) := by decide +kernel
theorem dX6_changed_10 : decode cX6_changed 10 = .ok (.istore_n 3, 1) := by decide +kernel
theorem dX6_changed_11 : decode cX6_changed 11 = .ok (.aload_n 0, 1) := by decide +kernel
theorem dX6_changed_12 : decode cX6_changed 12 = .ok (.getfield 7, 3) := by decide +kernel
theorem dX6_changed_15 : decode cX6_changed 15 = .ok (.iload_n 1, 1) := by decide +kernel
theorem dX6_changed_16 : decode cX6_changed 16 = .ok (.iload_n 2, 1) := by decide +kernel
theorem dX6_changed_17 : decode cX6_changed 17 = .ok (.iastore, 1) := by decide +kernel
theorem dX6_changed_18 : decode cX6_changed 18 = .ok (.iload_n 3, 1) := by decide +kernel
theorem dX6_changed_19 : decode cX6_changed 19 = .ok (.ireturn, 1) := by decide +kernel
theorem dX6_hand_0 : decode cX6_hand 0 = .ok (.aload_n 0, 1) := by decide +kernel
theorem dX6_hand_1 : decode cX6_hand 1 = .ok (.iload_n 1, 1) := by decide +kernel
theorem dX6_hand_2 : decode cX6_hand 2 = .ok (.invokestatic 76, 3) := by decide +kernel
theorem dX6_hand_5 : decode cX6_hand 5 = .ok (.ifCond .ne 7, 3) := by decide +kernel
theorem dX6_hand_8 : decode cX6_hand 8 = .ok (.iconst 1, 1) := by decide +kernel
theorem dX6_hand_9 : decode cX6_hand 9 = .ok (.goto 18, 3) := by decide +kernel
theorem dX6_hand_12 : decode cX6_hand 12 = .ok (.iload_n 2, 1) := by decide +kernel
theorem dX6_hand_13 : decode cX6_hand 13 = .ok (.iconst 1, 1) := by decide +kernel
theorem dX6_hand_14 : decode cX6_hand 14 = .ok (.bipush 11, 2) := by decide +kernel
theorem dX6_hand_16 : decode cX6_hand 16 = .ok (.invokestatic 26, 3) := by decide +kernel
theorem dX6_hand_19 : decode cX6_hand 19 = .ok (.ifCond .ne 7, 3) := by decide +kernel
theorem dX6_hand_22 : decode cX6_hand 22 = .ok (.iconst 2, 1) := by decide +kernel
theorem dX6_hand_23 : decode cX6_hand 23 = .ok (.goto 4, 3) := by decide +kernel
theorem dX6_hand_26 : decode cX6_hand 26 = .ok (.iconst 0, 1) := by decide +kernel
theorem dX6_hand_27 : decode cX6_hand 27 = .ok (.invokevirtual 63, 3) := by decide +kernel
theorem dX6_hand_30 : decode cX6_hand 30 = .ok (.ifCond .ne 5, 3) := by decide +kernel
theorem dX6_hand_33 : decode cX6_hand 33 = .ok (.iconst 0, 1) := by decide +kernel
theorem dX6_hand_34 : decode cX6_hand 34 = .ok (.ireturn, 1) := by decide +kernel
theorem dX6_hand_35 : decode cX6_hand 35 = .ok (.aload_n 0, 1) := by decide +kernel
theorem dX6_hand_36 : decode cX6_hand 36 = .ok (.getfield 7, 3) := by decide +kernel
theorem dX6_hand_39 : decode cX6_hand 39 = .ok (.iconst 5, 1) := by decide +kernel
theorem dX6_hand_40 : decode cX6_hand 40 = .ok (.iload_n 1, 1) := by decide +kernel
theorem dX6_hand_41 : decode cX6_hand 41 = .ok (.iadd, 1) := by decide +kernel
theorem dX6_hand_42 : decode cX6_hand 42 = .ok (.iaload, 1) := by decide +kernel
theorem dX6_hand_43 : decode cX6_hand 43 = .ok (.iload_n 2, 1) := by decide +kernel
theorem dX6_hand_44 : decode cX6_hand 44 = .ok (.iadd, 1) := by decide +kernel
theorem dX6_hand_45 : decode cX6_hand 45 = .ok (.aload_n 0, 1) := by decide +kernel
theorem dX6_hand_46 : decode cX6_hand 46 = .ok (.getfield 7, 3) := by decide +kernel
theorem dX6_hand_49 : decode cX6_hand 49 = .ok (.iconst 0, 1) := by decide +kernel
theorem dX6_hand_50 : decode cX6_hand 50 = .ok (.iload_n 1, 1) := by decide +kernel
theorem dX6_hand_51 : decode cX6_hand 51 = .ok (.iadd, 1) := by decide +kernel
theorem dX6_hand_52 : decode cX6_hand 52 = .ok (.iaload, 1) := by decide +kernel
theorem dX6_hand_53 : decode cX6_hand 53 = .ok (.invokestatic 30, 3) := by decide +kernel
theorem dX6_hand_56 : decode cX6_hand 56 = .ok (.istore_n 3, 1) := by decide +kernel
theorem dX6_hand_57 : decode cX6_hand 57 = .ok (.aload_n 0, 1) := by decide +kernel
theorem dX6_hand_58 : decode cX6_hand 58 = .ok (.aload_n 0, 1) := by decide +kernel
theorem dX6_hand_59 : decode cX6_hand 59 = .ok (.getfield 7, 3) := by decide +kernel
theorem dX6_hand_62 : decode cX6_hand 62 = .ok (.bipush 10, 2) := by decide +kernel
theorem dX6_hand_64 : decode cX6_hand 64 = .ok (.iload_n 1, 1) := by decide +kernel
theorem dX6_hand_65 : decode cX6_hand 65 = .ok (.iadd, 1) := by decide +kernel
theorem dX6_hand_66 : decode cX6_hand 66 = .ok (.iaload, 1) := by decide +kernel
theorem dX6_hand_67 : decode cX6_hand 67 = .ok (.iconst 1, 1) := by decide +kernel
theorem dX6_hand_68 : decode cX6_hand 68 = .ok (.if_icmp .eq 14, 3) := by decide +kernel
theorem dX6_hand_71 : decode cX6_hand 71 = .ok (.aload_n 0, 1) := by decide +kernel
theorem dX6_hand_72 : decode cX6_hand 72 = .ok (.iconst 5, 1) := by decide +kernel
theorem dX6_hand_73 : decode cX6_hand 73 = .ok (.iload_n 1, 1) := by decide +kernel
theorem dX6_hand_74 : decode cX6_hand 74 = .ok (.iadd, 1) := by decide +kernel
theorem dX6_hand_75 : decode cX6_hand 75 = .ok (.iload_n 3, 1) := by decide +kernel
theorem dX6_hand_76 : decode cX6_hand 76 = .ok (.invokevirtual 82, 3) := by decide +kernel
theorem dX6_hand_79 : decode cX6_hand 79 = .ok (.ifCond .ne 7, 3) := by decide +kernel
theorem dX6_hand_82 : decode cX6_hand 82 = .ok (.iconst 3, 1) := by decide +kernel
theorem dX6_hand_83 : decode cX6_hand 83 = .ok (.goto 4, 3) := by decide +kernel
theorem dX6_hand_86 : decode cX6_hand 86 = .ok (.iconst 0, 1) := by decide +kernel
theorem dX6_hand_87 : decode cX6_hand 87 = .ok (.invokevirtual 63, 3) := by decide +kernel
theorem dX6_hand_90 : decode cX6_hand 90 = .ok (.ifCond .ne 5, 3) := by decide +kernel
theorem dX6_hand_93 : decode cX6_hand 93 = .ok (.iconst 0, 1) := by decide +kernel
theorem dX6_hand_94 : decode cX6_hand 94 = .ok (.ireturn, 1) := by decide +kernel
theorem dX6_hand_95 : decode cX6_hand 95 = .ok (.aload_n 0, 1) := by decide +kernel
theorem dX6_hand_96 : decode cX6_hand 96 = .ok (.iconst 5, 1) := by decide +kernel
theorem dX6_hand_97 : decode cX6_hand 97 = .ok (.iload_n 1, 1) := by decide +kernel
theorem dX6_hand_98 : decode cX6_hand 98 = .ok (.iadd, 1) := by decide +kernel
theorem dX6_hand_99 : decode cX6_hand 99 = .ok (.iload_n 3, 1) := by decide +kernel
theorem dX6_hand_100 : decode cX6_hand 100 = .ok (.invokevirtual 86, 3) := by decide +kernel
theorem dX6_hand_103 : decode cX6_hand 103 = .ok (.pop, 1) := by decide +kernel
theorem dX6_hand_104 : decode cX6_hand 104 = .ok (.iload_n 3, 1) := by decide +kernel
theorem dX6_hand_105 : decode cX6_hand 105 = .ok (.ireturn, 1) := by decide +kernel
theorem dX6_isTooth_0 : decode cX6_isTooth 0 = .ok (.iload_n 1, 1) := by decide +kernel
theorem dX6_isTooth_1 : decode cX6_isTooth 1 = .ok (.invokestatic 76, 3) := by decide +kernel
theorem dX6_isTooth_4 : decode cX6_isTooth 4 = .ok (.ifCond .eq 25, 3) := by decide +kernel
theorem dX6_isTooth_7 : decode cX6_isTooth 7 = .ok (.iload_n 2, 1) := by decide +kernel
theorem dX6_isTooth_8 : decode cX6_isTooth 8 = .ok (.iconst 0, 1) := by decide +kernel
theorem dX6_isTooth_9 : decode cX6_isTooth 9 = .ok (.aload_n 0, 1) := by decide +kernel
theorem dX6_isTooth_10 : decode cX6_isTooth 10 = .ok (.getfield 7, 3) := by decide +kernel
theorem dX6_isTooth_13 : decode cX6_isTooth 13 = .ok (.iconst 0, 1) := by decide +kernel
theorem dX6_isTooth_14 : decode cX6_isTooth 14 = .ok (.iload_n 1, 1) := by decide +kernel
theorem dX6_isTooth_15 : decode cX6_isTooth 15 = .ok (.iadd, 1) := by decide +kernel
theorem dX6_isTooth_16 : decode cX6_isTooth 16 = .ok (.iaload, 1) := by decide +kernel
theorem dX6_isTooth_17 : decode cX6_isTooth 17 = .ok (.iconst 1, 1) := by decide +kernel
theorem dX6_isTooth_18 : decode cX6_isTooth 18 = .ok (.isub, 1) := by decide +kernel
theorem dX6_isTooth_19 : decode cX6_isTooth 19 = .ok (.invokestatic 26, 3) := by decide +kernel
theorem dX6_isTooth_22 : decode cX6_isTooth 22 = .ok (.ifCond .eq 7, 3) := by decide +kernel
theorem dX6_isTooth_25 : decode cX6_isTooth 25 = .ok (.iconst 1, 1) := by decide +kernel
theorem dX6_isTooth_26 : decode cX6_isTooth 26 = .ok (.goto 4, 3) := by decide +kernel
theorem dX6_isTooth_29 : decode cX6_isTooth 29 = .ok (.iconst 0, 1) := by decide +kernel
theorem dX6_isTooth_30 : decode cX6_isTooth 30 = .ok (.ireturn, 1) := by decide +kernel
theorem dX6_file_0 : decode cX6_file 0 = .ok (.aload_n 0, 1) := by decide +kernel
theorem dX6_file_1 : decode cX6_file 1 = .ok (.aload_n 0, 1) := by decide +kernel
theorem dX6_file_2 : decode cX6_file 2 = .ok (.iload_n 1, 1) := by decide +kernel
theorem dX6_file_3 : decode cX6_file 3 = .ok (.iload_n 2, 1) := by decide +kernel
theorem dX6_file_4 : decode cX6_file 4 = .ok (.invokevirtual 89, 3) := by decide +kernel
theorem dX6_file_7 : decode cX6_file 7 = .ok (.ifCond .ne 7, 3) := by decide +kernel
theorem dX6_file_10 : decode cX6_file 10 = .ok (.iconst 1, 1) := by decide +kernel
theorem dX6_file_11 : decode cX6_file 11 = .ok (.goto 18, 3) := by decide +kernel
theorem dX6_file_14 : decode cX6_file 14 = .ok (.iload_n 3, 1) := by decide +kernel
theorem dX6_file_15 : decode cX6_file 15 = .ok (.iconst 0, 1) := by decide +kernel
theorem dX6_file_16 : decode cX6_file 16 = .ok (.bipush 9, 2) := by decide +kernel
theorem dX6_file_18 : decode cX6_file 18 = .ok (.invokestatic 26, 3) := by decide +kernel
theorem dX6_file_21 : decode cX6_file 21 = .ok (.ifCond .ne 7, 3) := by decide +kernel
theorem dX6_file_24 : decode cX6_file 24 = .ok (.iconst 2, 1) := by decide +kernel
theorem dX6_file_25 : decode cX6_file 25 = .ok (.goto 4, 3) := by decide +kernel
theorem dX6_file_28 : decode cX6_file 28 = .ok (.iconst 0, 1) := by decide +kernel
theorem dX6_file_29 : decode cX6_file 29 = .ok (.invokevirtual 63, 3) := by decide +kernel
theorem dX6_file_32 : decode cX6_file 32 = .ok (.ifCond .ne 5, 3) := by decide +kernel
theorem dX6_file_35 : decode cX6_file 35 = .ok (.iconst 0, 1) := by decide +kernel
theorem dX6_file_36 : decode cX6_file 36 = .ok (.ireturn, 1) := by decide +kernel
theorem dX6_file_37 : decode cX6_file 37 = .ok (.bipush 15, 2) := by decide +kernel
theorem dX6_file_39 : decode cX6_file 39 = .ok (.bipush 12, 2) := by decide +kernel
theorem dX6_file_41 : decode cX6_file 41 = .ok (.iload_n 1, 1) := by decide +kernel
theorem dX6_file_42 : decode cX6_file 42 = .ok (.imul, 1) := by decide +kernel
theorem dX6_file_43 : decode cX6_file 43 = .ok (.iadd, 1) := by decide +kernel
theorem dX6_file_44 : decode cX6_file 44 = .ok (.iload_n 2, 1) := by decide +kernel
theorem dX6_file_45 : decode cX6_file 45 = .ok (.iadd, 1) := by decide +kernel
theorem dX6_file_46 : decode cX6_file 46 = .ok (.istore 4, 2) := by decide +kernel
theorem dX6_file_48 : decode cX6_file 48 = .ok (.aload_n 0, 1) := by decide +kernel
theorem dX6_file_49 : decode cX6_file 49 = .ok (.aload_n 0, 1) := by decide +kernel
theorem dX6_file_50 : decode cX6_file 50 = .ok (.iload 4, 2) := by decide +kernel
theorem dX6_file_52 : decode cX6_file 52 = .ok (.iload_n 3, 1) := by decide +kernel
theorem dX6_file_53 : decode cX6_file 53 = .ok (.invokevirtual 82, 3) := by decide +kernel
theorem dX6_file_56 : decode cX6_file 56 = .ok (.ifCond .eq 7, 3) := by decide +kernel
theorem dX6_file_59 : decode cX6_file 59 = .ok (.iconst 0, 1) := by decide +kernel
theorem dX6_file_60 : decode cX6_file 60 = .ok (.goto 4, 3) := by decide +kernel
theorem dX6_file_63 : decode cX6_file 63 = .ok (.iconst 3, 1) := by decide +kernel
theorem dX6_file_64 : decode cX6_file 64 = .ok (.invokevirtual 63, 3) := by decide +kernel
theorem dX6_file_67 : decode cX6_file 67 = .ok (.ifCond .eq 13, 3) := by decide +kernel
theorem dX6_file_70 : decode cX6_file 70 = .ok (.aload_n 0, 1) := by decide +kernel
theorem dX6_file_71 : decode cX6_file 71 = .ok (.iload 4, 2) := by decide +kernel
theorem dX6_file_73 : decode cX6_file 73 = .ok (.iload_n 3, 1) := by decide +kernel
theorem dX6_file_74 : decode cX6_file 74 = .ok (.invokevirtual 86, 3) := by decide +kernel
theorem dX6_file_77 : decode cX6_file 77 = .ok (.goto 4, 3) := by decide +kernel
theorem dX6_file_80 : decode cX6_file 80 = .ok (.iconst 0, 1) := by decide +kernel
theorem dX6_file_81 : decode cX6_file 81 = .ok (.ireturn, 1) := by decide +kernel
theorem dX6_change_0 : decode cX6_change 0 = .ok (.aload_n 0, 1) := by decide +kernel
theorem dX6_change_1 : decode cX6_change 1 = .ok (.iload_n 1, 1) := by decide +kernel
theorem dX6_change_2 : decode cX6_change 2 = .ok (.invokestatic 76, 3) := by decide +kernel
theorem dX6_change_5 : decode cX6_change 5 = .ok (.ifCond .ne 7, 3) := by decide +kernel
theorem dX6_change_8 : decode cX6_change 8 = .ok (.iconst 1, 1) := by decide +kernel
theorem dX6_change_9 : decode cX6_change 9 = .ok (.goto 18, 3) := by decide +kernel
theorem dX6_change_12 : decode cX6_change 12 = .ok (.iload_n 2, 1) := by decide +kernel
theorem dX6_change_13 : decode cX6_change 13 = .ok (.iconst 2, 1) := by decide +kernel
theorem dX6_change_14 : decode cX6_change 14 = .ok (.bipush 12, 2) := by decide +kernel
theorem dX6_change_16 : decode cX6_change 16 = .ok (.invokestatic 26, 3) := by decide +kernel
theorem dX6_change_19 : decode cX6_change 19 = .ok (.ifCond .ne 7, 3) := by decide +kernel
theorem dX6_change_22 : decode cX6_change 22 = .ok (.iconst 2, 1) := by decide +kernel
theorem dX6_change_23 : decode cX6_change 23 = .ok (.goto 4, 3) := by decide +kernel
theorem dX6_change_26 : decode cX6_change 26 = .ok (.iconst 0, 1) := by decide +kernel
theorem dX6_change_27 : decode cX6_change 27 = .ok (.invokevirtual 63, 3) := by decide +kernel
theorem dX6_change_30 : decode cX6_change 30 = .ok (.ifCond .ne 5, 3) := by decide +kernel
theorem dX6_change_33 : decode cX6_change 33 = .ok (.iconst 0, 1) := by decide +kernel
theorem dX6_change_34 : decode cX6_change 34 = .ok (.ireturn, 1) := by decide +kernel
theorem dX6_change_35 : decode cX6_change 35 = .ok (.aload_n 0, 1) := by decide +kernel
theorem dX6_change_36 : decode cX6_change 36 = .ok (.iload_n 1, 1) := by decide +kernel
theorem dX6_change_37 : decode cX6_change 37 = .ok (.invokevirtual 92, 3) := by decide +kernel
theorem dX6_change_40 : decode cX6_change 40 = .ok (.istore_n 3, 1) := by decide +kernel
theorem dX6_change_41 : decode cX6_change 41 = .ok (.aload_n 0, 1) := by decide +kernel
theorem dX6_change_42 : decode cX6_change 42 = .ok (.iconst 0, 1) := by decide +kernel
theorem dX6_change_43 : decode cX6_change 43 = .ok (.iload_n 1, 1) := by decide +kernel
theorem dX6_change_44 : decode cX6_change 44 = .ok (.iadd, 1) := by decide +kernel
theorem dX6_change_45 : decode cX6_change 45 = .ok (.iload_n 2, 1) := by decide +kernel
theorem dX6_change_46 : decode cX6_change 46 = .ok (.invokevirtual 86, 3) := by decide +kernel
theorem dX6_change_49 : decode cX6_change 49 = .ok (.istore 4, 2) := by decide +kernel
theorem dX6_change_51 : decode cX6_change 51 = .ok (.aload_n 0, 1) := by decide +kernel
theorem dX6_change_52 : decode cX6_change 52 = .ok (.getfield 7, 3) := by decide +kernel
theorem dX6_change_55 : decode cX6_change 55 = .ok (.iconst 5, 1) := by decide +kernel
theorem dX6_change_56 : decode cX6_change 56 = .ok (.iload_n 1, 1) := by decide +kernel
theorem dX6_change_57 : decode cX6_change 57 = .ok (.iadd, 1) := by decide +kernel
theorem dX6_change_58 : decode cX6_change 58 = .ok (.iconst 0, 1) := by decide +kernel
theorem dX6_change_59 : decode cX6_change 59 = .ok (.iastore, 1) := by decide +kernel
theorem dX6_change_60 : decode cX6_change 60 = .ok (.iconst 0, 1) := by decide +kernel
theorem dX6_change_61 : decode cX6_change 61 = .ok (.istore 5, 2) := by decide +kernel
theorem dX6_change_63 : decode cX6_change 63 = .ok (.iload 5, 2) := by decide +kernel
theorem dX6_change_65 : decode cX6_change 65 = .ok (.bipush 12, 2) := by decide +kernel
theorem dX6_change_67 : decode cX6_change 67 = .ok (.if_icmp .ge 25, 3) := by decide +kernel
theorem dX6_change_70 : decode cX6_change 70 = .ok (.aload_n 0, 1) := by decide +kernel
theorem dX6_change_71 : decode cX6_change 71 = .ok (.getfield 7, 3) := by decide +kernel
theorem dX6_change_74 : decode cX6_change 74 = .ok (.bipush 15, 2) := by decide +kernel
theorem dX6_change_76 : decode cX6_change 76 = .ok (.bipush 12, 2) := by decide +kernel
theorem dX6_change_78 : decode cX6_change 78 = .ok (.iload_n 1, 1) := by decide +kernel
theorem dX6_change_79 : decode cX6_change 79 = .ok (.imul, 1) := by decide +kernel
theorem dX6_change_80 : decode cX6_change 80 = .ok (.iadd, 1) := by decide +kernel
theorem dX6_change_81 : decode cX6_change 81 = .ok (.iload 5, 2) := by decide +kernel
theorem dX6_change_83 : decode cX6_change 83 = .ok (.iadd, 1) := by decide +kernel
theorem dX6_change_84 : decode cX6_change 84 = .ok (.iload_n 3, 1) := by decide +kernel
theorem dX6_change_85 : decode cX6_change 85 = .ok (.iastore, 1) := by decide +kernel
theorem dX6_change_86 : decode cX6_change 86 = .ok (.iinc 5 1, 3) := by decide +kernel
theorem dX6_change_89 : decode cX6_change 89 = .ok (.goto (-26), 3) := by decide +kernel
theorem dX6_change_92 : decode cX6_change 92 = .ok (.iload 4, 2) := by decide +kernel
theorem dX6_change_94 : decode cX6_change 94 = .ok (.ireturn, 1) := by decide +kernel
theorem dX6_set_0 : decode cX6_set 0 = .ok (.iload_n 1, 1) := by decide +kernel
theorem dX6_set_1 : decode cX6_set 1 = .ok (.iconst 0, 1) := by decide +kernel
theorem dX6_set_2 : decode cX6_set 2 = .ok (.bipush 9, 2) := by decide +kernel
theorem dX6_set_4 : decode cX6_set 4 = .ok (.invokestatic 26, 3) := by decide +kernel
theorem dX6_set_7 : decode cX6_set 7 = .ok (.istore_n 2, 1) := by decide +kernel
theorem dX6_set_8 : decode cX6_set 8 = .ok (.aload_n 0, 1) := by decide +kernel
theorem dX6_set_9 : decode cX6_set 9 = .ok (.iload_n 2, 1) := by decide +kernel
theorem dX6_set_10 : decode cX6_set 10 = .ok (.ifCond .ne 7, 3) := by decide +kernel
theorem dX6_set_13 : decode cX6_set 13 = .ok (.iconst 1, 1) := by decide +kernel
theorem dX6_set_14 : decode cX6_set 14 = .ok (.goto 18, 3) := by decide +kernel
theorem dX6_set_17 : decode cX6_set 17 = .ok (.aload_n 0, 1) := by decide +kernel
theorem dX6_set_18 : decode cX6_set 18 = .ok (.bipush 75, 2) := by decide +kernel
theorem dX6_set_20 : decode cX6_set 20 = .ok (.iload_n 1, 1) := by decide +kernel
theorem dX6_set_21 : decode cX6_set 21 = .ok (.invokevirtual 82, 3) := by decide +kernel
theorem dX6_set_24 : decode cX6_set 24 = .ok (.ifCond .ne 7, 3) := by decide +kernel
theorem dX6_set_27 : decode cX6_set 27 = .ok (.iconst 2, 1) := by decide +kernel
theorem dX6_set_28 : decode cX6_set 28 = .ok (.goto 4, 3) := by decide +kernel
theorem dX6_set_31 : decode cX6_set 31 = .ok (.iconst 0, 1) := by decide +kernel
theorem dX6_set_32 : decode cX6_set 32 = .ok (.invokevirtual 63, 3) := by decide +kernel
theorem dX6_set_35 : decode cX6_set 35 = .ok (.ifCond .eq 13, 3) := by decide +kernel
theorem dX6_set_38 : decode cX6_set 38 = .ok (.aload_n 0, 1) := by decide +kernel
theorem dX6_set_39 : decode cX6_set 39 = .ok (.bipush 75, 2) := by decide +kernel
theorem dX6_set_41 : decode cX6_set 41 = .ok (.iload_n 1, 1) := by decide +kernel
theorem dX6_set_42 : decode cX6_set 42 = .ok (.invokevirtual 86, 3) := by decide +kernel
theorem dX6_set_45 : decode cX6_set 45 = .ok (.goto 4, 3) := by decide +kernel
theorem dX6_set_48 : decode cX6_set 48 = .ok (.iconst 0, 1) := by decide +kernel
theorem dX6_set_49 : decode cX6_set 49 = .ok (.ireturn, 1) := by decide +kernel
theorem dX6_remember_0 : decode cX6_remember 0 = .ok (.aload_n 0, 1) := by decide +kernel
theorem dX6_remember_1 : decode cX6_remember 1 = .ok (.aload_n 0, 1) := by decide +kernel
theorem dX6_remember_2 : decode cX6_remember 2 = .ok (.getfield 7, 3) := by decide +kernel
theorem dX6_remember_5 : decode cX6_remember 5 = .ok (.bipush 81, 2) := by decide +kernel
theorem dX6_remember_7 : decode cX6_remember 7 = .ok (.iaload, 1) := by decide +kernel
theorem dX6_remember_8 : decode cX6_remember 8 = .ok (.bipush 6, 2) := by decide +kernel
theorem dX6_remember_10 : decode cX6_remember 10 = .ok (.if_icmp .ne 7, 3) := by decide +kernel
theorem dX6_remember_13 : decode cX6_remember 13 = .ok (.iconst 1, 1) := by decide +kernel
theorem dX6_remember_14 : decode cX6_remember 14 = .ok (.goto 4, 3) := by decide +kernel
theorem dX6_remember_17 : decode cX6_remember 17 = .ok (.iconst 0, 1) := by decide +kernel
theorem dX6_remember_18 : decode cX6_remember 18 = .ok (.invokevirtual 63, 3) := by decide +kernel
theorem dX6_remember_21 : decode cX6_remember 21 = .ok (.ifCond .ne 5, 3) := by decide +kernel
theorem dX6_remember_24 : decode cX6_remember 24 = .ok (.iconst 0, 1) := by decide +kernel
theorem dX6_remember_25 : decode cX6_remember 25 = .ok (.ireturn, 1) := by decide +kernel
theorem dX6_remember_26 : decode cX6_remember 26 = .ok (.aload_n 0, 1) := by decide +kernel
theorem dX6_remember_27 : decode cX6_remember 27 = .ok (.invokevirtual 67, 3) := by decide +kernel
theorem dX6_remember_30 : decode cX6_remember 30 = .ok (.iconst 0, 1) := by decide +kernel
theorem dX6_remember_31 : decode cX6_remember 31 = .ok (.istore_n 1, 1) := by decide +kernel
theorem dX6_remember_32 : decode cX6_remember 32 = .ok (.iload_n 1, 1) := by decide +kernel
theorem dX6_remember_33 : decode cX6_remember 33 = .ok (.iconst 5, 1) := by decide +kernel
theorem dX6_remember_34 : decode cX6_remember 34 = .ok (.if_icmp .ge 33, 3) := by decide +kernel
theorem dX6_remember_37 : decode cX6_remember 37 = .ok (.aload_n 0, 1) := by decide +kernel
theorem dX6_remember_38 : decode cX6_remember 38 = .ok (.getfield 7, 3) := by decide +kernel
theorem dX6_remember_41 : decode cX6_remember 41 = .ok (.bipush 82, 2) := by decide +kernel
theorem dX6_remember_43 : decode cX6_remember 43 = .ok (.iconst 5, 1) := by decide +kernel
theorem dX6_remember_44 : decode cX6_remember 44 = .ok (.aload_n 0, 1) := by decide +kernel
theorem dX6_remember_45 : decode cX6_remember 45 = .ok (.getfield 7, 3) := by decide +kernel
theorem dX6_remember_48 : decode cX6_remember 48 = .ok (.bipush 81, 2) := by decide +kernel
theorem dX6_remember_50 : decode cX6_remember 50 = .ok (.iaload, 1) := by decide +kernel
theorem dX6_remember_51 : decode cX6_remember 51 = .ok (.imul, 1) := by decide +kernel
theorem dX6_remember_52 : decode cX6_remember 52 = .ok (.iadd, 1) := by decide +kernel
theorem dX6_remember_53 : decode cX6_remember 53 = .ok (.iload_n 1, 1) := by decide +kernel
theorem dX6_remember_54 : decode cX6_remember 54 = .ok (.iadd, 1) := by decide +kernel
theorem dX6_remember_55 : decode cX6_remember 55 = .ok (.aload_n 0, 1) := by decide +kernel
theorem dX6_remember_56 : decode cX6_remember 56 = .ok (.iload_n 1, 1) := by decide +kernel
theorem dX6_remember_57 : decode cX6_remember 57 = .ok (.invokevirtual 92, 3) := by decide +kernel
theorem dX6_remember_60 : decode cX6_remember 60 = .ok (.iastore, 1) := by decide +kernel
theorem dX6_remember_61 : decode cX6_remember 61 = .ok (.iinc 1 1, 3) := by decide +kernel
theorem dX6_remember_64 : decode cX6_remember 64 = .ok (.goto (-32), 3) := by decide +kernel
theorem dX6_remember_67 : decode cX6_remember 67 = .ok (.aload_n 0, 1) := by decide +kernel
theorem dX6_remember_68 : decode cX6_remember 68 = .ok (.getfield 7, 3) := by decide +kernel
theorem dX6_remember_71 : decode cX6_remember 71 = .ok (.bipush 81, 2) := by decide +kernel
theorem dX6_remember_73 : decode cX6_remember 73 = .ok (.dup2, 1) := by decide +kernel
theorem dX6_remember_74 : decode cX6_remember 74 = .ok (.iaload, 1) := by decide +kernel
theorem dX6_remember_75 : decode cX6_remember 75 = .ok (.iconst 1, 1) := by decide +kernel
theorem dX6_remember_76 : decode cX6_remember 76 = .ok (.iadd, 1) := by decide +kernel
theorem dX6_remember_77 : decode cX6_remember 77 = .ok (.iastore, 1) := by decide +kernel
theorem dX6_remember_78 : decode cX6_remember 78 = .ok (.aload_n 0, 1) := by decide +kernel
theorem dX6_remember_79 : decode cX6_remember 79 = .ok (.getfield 7, 3) := by decide +kernel
theorem dX6_remember_82 : decode cX6_remember 82 = .ok (.bipush 81, 2) := by decide +kernel
theorem dX6_remember_84 : decode cX6_remember 84 = .ok (.iaload, 1) := by decide +kernel
theorem dX6_remember_85 : decode cX6_remember 85 = .ok (.iconst 1, 1) := by decide +kernel
theorem dX6_remember_86 : decode cX6_remember 86 = .ok (.isub, 1) := by decide +kernel
theorem dX6_remember_87 : decode cX6_remember 87 = .ok (.ireturn, 1) := by decide +kernel
theorem dX6_isScene_0 : decode cX6_isScene 0 = .ok (.iload_n 1, 1) := by decide +kernel
theorem dX6_isScene_1 : decode cX6_isScene 1 = .ok (.iconst 0, 1) := by decide +kernel
theorem dX6_isScene_2 : decode cX6_isScene 2 = .ok (.aload_n 0, 1) := by decide +kernel
theorem dX6_isScene_3 : decode cX6_isScene 3 = .ok (.getfield 7, 3) := by decide +kernel
theorem dX6_isScene_6 : decode cX6_isScene 6 = .ok (.bipush 81, 2) := by decide +kernel
theorem dX6_isScene_8 : decode cX6_isScene 8 = .ok (.iaload, 1) := by decide +kernel
theorem dX6_isScene_9 : decode cX6_isScene 9 = .ok (.iconst 1, 1) := by decide +kernel
theorem dX6_isScene_10 : decode cX6_isScene 10 = .ok (.isub, 1) := by decide +kernel
theorem dX6_isScene_11 : decode cX6_isScene 11 = .ok (.invokestatic 26, 3) := by decide +kernel
theorem dX6_isScene_14 : decode cX6_isScene 14 = .ok (.ireturn, 1) := by decide +kernel
theorem dX6_forget_0 : decode cX6_forget 0 = .ok (.aload_n 0, 1) := by decide +kernel
theorem dX6_forget_1 : decode cX6_forget 1 = .ok (.aload_n 0, 1) := by decide +kernel
theorem dX6_forget_2 : decode cX6_forget 2 = .ok (.iload_n 1, 1) := by decide +kernel
theorem dX6_forget_3 : decode cX6_forget 3 = .ok (.invokevirtual 96, 3) := by decide +kernel
theorem dX6_forget_6 : decode cX6_forget 6 = .ok (.ifCond .eq 7, 3) := by decide +kernel
theorem dX6_forget_9 : decode cX6_forget 9 = .ok (.iconst 0, 1) := by decide +kernel
theorem dX6_forget_10 : decode cX6_forget 10 = .ok (.goto 4, 3) := by decide +kernel
theorem dX6_forget_13 : decode cX6_forget 13 = .ok (.iconst 1, 1) := by decide +kernel
theorem dX6_forget_14 : decode cX6_forget 14 = .ok (.invokevirtual 63, 3) := by decide +kernel
theorem dX6_forget_17 : decode cX6_forget 17 = .ok (.ifCond .ne 5, 3) := by decide +kernel
theorem dX6_forget_20 : decode cX6_forget 20 = .ok (.iconst 0, 1) := by decide +kernel
theorem dX6_forget_21 : decode cX6_forget 21 = .ok (.ireturn, 1) := by decide +kernel
theorem dX6_forget_22 : decode cX6_forget 22 = .ok (.aload_n 0, 1) := by decide +kernel
theorem dX6_forget_23 : decode cX6_forget 23 = .ok (.invokevirtual 67, 3) := by decide +kernel
theorem dX6_forget_26 : decode cX6_forget 26 = .ok (.aload_n 0, 1) := by decide +kernel
theorem dX6_forget_27 : decode cX6_forget 27 = .ok (.getfield 7, 3) := by decide +kernel
theorem dX6_forget_30 : decode cX6_forget 30 = .ok (.bipush 81, 2) := by decide +kernel
theorem dX6_forget_32 : decode cX6_forget 32 = .ok (.dup2, 1) := by decide +kernel
theorem dX6_forget_33 : decode cX6_forget 33 = .ok (.iaload, 1) := by decide +kernel
theorem dX6_forget_34 : decode cX6_forget 34 = .ok (.iconst 1, 1) := by decide +kernel
theorem dX6_forget_35 : decode cX6_forget 35 = .ok (.isub, 1) := by decide +kernel
theorem dX6_forget_36 : decode cX6_forget 36 = .ok (.iastore, 1) := by decide +kernel
theorem dX6_forget_37 : decode cX6_forget 37 = .ok (.iconst 5, 1) := by decide +kernel
theorem dX6_forget_38 : decode cX6_forget 38 = .ok (.iload_n 1, 1) := by decide +kernel
theorem dX6_forget_39 : decode cX6_forget 39 = .ok (.imul, 1) := by decide +kernel
theorem dX6_forget_40 : decode cX6_forget 40 = .ok (.istore_n 2, 1) := by decide +kernel
theorem dX6_forget_41 : decode cX6_forget 41 = .ok (.iload_n 2, 1) := by decide +kernel
theorem dX6_forget_42 : decode cX6_forget 42 = .ok (.iconst 5, 1) := by decide +kernel
theorem dX6_forget_43 : decode cX6_forget 43 = .ok (.aload_n 0, 1) := by decide +kernel
theorem dX6_forget_44 : decode cX6_forget 44 = .ok (.getfield 7, 3) := by decide +kernel
theorem dX6_forget_47 : decode cX6_forget 47 = .ok (.bipush 81, 2) := by decide +kernel
theorem dX6_forget_49 : decode cX6_forget 49 = .ok (.iaload, 1) := by decide +kernel
theorem dX6_forget_50 : decode cX6_forget 50 = .ok (.imul, 1) := by decide +kernel
theorem dX6_forget_51 : decode cX6_forget 51 = .ok (.if_icmp .ge 29, 3) := by decide +kernel
theorem dX6_forget_54 : decode cX6_forget 54 = .ok (.aload_n 0, 1) := by decide +kernel
theorem dX6_forget_55 : decode cX6_forget 55 = .ok (.getfield 7, 3) := by decide +kernel
theorem dX6_forget_58 : decode cX6_forget 58 = .ok (.bipush 82, 2) := by decide +kernel
theorem dX6_forget_60 : decode cX6_forget 60 = .ok (.iload_n 2, 1) := by decide +kernel
theorem dX6_forget_61 : decode cX6_forget 61 = .ok (.iadd, 1) := by decide +kernel
theorem dX6_forget_62 : decode cX6_forget 62 = .ok (.aload_n 0, 1) := by decide +kernel
theorem dX6_forget_63 : decode cX6_forget 63 = .ok (.getfield 7, 3) := by decide +kernel
theorem dX6_forget_66 : decode cX6_forget 66 = .ok (.bipush 82, 2) := by decide +kernel
theorem dX6_forget_68 : decode cX6_forget 68 = .ok (.iload_n 2, 1) := by decide +kernel
theorem dX6_forget_69 : decode cX6_forget 69 = .ok (.iadd, 1) := by decide +kernel
theorem dX6_forget_70 : decode cX6_forget 70 = .ok (.iconst 5, 1) := by decide +kernel
theorem dX6_forget_71 : decode cX6_forget 71 = .ok (.iadd, 1) := by decide +kernel
theorem dX6_forget_72 : decode cX6_forget 72 = .ok (.iaload, 1) := by decide +kernel
theorem dX6_forget_73 : decode cX6_forget 73 = .ok (.iastore, 1) := by decide +kernel
theorem dX6_forget_74 : decode cX6_forget 74 = .ok (.iinc 2 1, 3) := by decide +kernel
theorem dX6_forget_77 : decode cX6_forget 77 = .ok (.goto (-36), 3) := by decide +kernel
theorem dX6_forget_80 : decode cX6_forget 80 = .ok (.aload_n 0, 1) := by decide +kernel
theorem dX6_forget_81 : decode cX6_forget 81 = .ok (.getfield 7, 3) := by decide +kernel
theorem dX6_forget_84 : decode cX6_forget 84 = .ok (.bipush 81, 2) := by decide +kernel
theorem dX6_forget_86 : decode cX6_forget 86 = .ok (.iaload, 1) := by decide +kernel
theorem dX6_forget_87 : decode cX6_forget 87 = .ok (.ireturn, 1) := by decide +kernel
theorem dX6_append_0 : decode cX6_append 0 = .ok (.aload_n 0, 1) := by decide +kernel
theorem dX6_append_1 : decode cX6_append 1 = .ok (.iload_n 1, 1) := by decide +kernel
theorem dX6_append_2 : decode cX6_append 2 = .ok (.bipush 33, 2) := by decide +kernel
theorem dX6_append_4 : decode cX6_append 4 = .ok (.bipush 126, 2) := by decide +kernel
theorem dX6_append_6 : decode cX6_append 6 = .ok (.invokestatic 26, 3) := by decide +kernel
theorem dX6_append_9 : decode cX6_append 9 = .ok (.ifCond .ne 7, 3) := by decide +kernel
theorem dX6_append_12 : decode cX6_append 12 = .ok (.iconst 1, 1) := by decide +kernel
theorem dX6_append_13 : decode cX6_append 13 = .ok (.goto 17, 3) := by decide +kernel
theorem dX6_append_16 : decode cX6_append 16 = .ok (.aload_n 0, 1) := by decide +kernel
theorem dX6_append_17 : decode cX6_append 17 = .ok (.getfield 99, 3) := by decide +kernel
theorem dX6_append_20 : decode cX6_append 20 = .ok (.bipush 60, 2) := by decide +kernel
theorem dX6_append_22 : decode cX6_append 22 = .ok (.if_icmp .ne 7, 3) := by decide +kernel
theorem dX6_append_25 : decode cX6_append 25 = .ok (.iconst 2, 1) := by decide +kernel
theorem dX6_append_26 : decode cX6_append 26 = .ok (.goto 4, 3) := by decide +kernel
theorem dX6_append_29 : decode cX6_append 29 = .ok (.iconst 0, 1) := by decide +kernel
theorem dX6_append_30 : decode cX6_append 30 = .ok (.invokevirtual 63, 3) := by decide +kernel
theorem dX6_append_33 : decode cX6_append 33 = .ok (.ifCond .ne 5, 3) := by decide +kernel
theorem dX6_append_36 : decode cX6_append 36 = .ok (.iconst 0, 1) := by decide +kernel
theorem dX6_append_37 : decode cX6_append 37 = .ok (.ireturn, 1) := by decide +kernel
theorem dX6_append_38 : decode cX6_append 38 = .ok (.aload_n 0, 1) := by decide +kernel
theorem dX6_append_39 : decode cX6_append 39 = .ok (.getfield 13, 3) := by decide +kernel
theorem dX6_append_42 : decode cX6_append 42 = .ok (.aload_n 0, 1) := by decide +kernel
theorem dX6_append_43 : decode cX6_append 43 = .ok (.getfield 99, 3) := by decide +kernel
theorem dX6_append_46 : decode cX6_append 46 = .ok (.iload_n 1, 1) := by decide +kernel
theorem dX6_append_47 : decode cX6_append 47 = .ok (.iastore, 1) := by decide +kernel
theorem dX6_append_48 : decode cX6_append 48 = .ok (.aload_n 0, 1) := by decide +kernel
theorem dX6_append_49 : decode cX6_append 49 = .ok (.dup, 1) := by decide +kernel
theorem dX6_append_50 : decode cX6_append 50 = .ok (.getfield 99, 3) := by decide +kernel
theorem dX6_append_53 : decode cX6_append 53 = .ok (.iconst 1, 1) := by decide +kernel
theorem dX6_append_54 : decode cX6_append 54 = .ok (.iadd, 1) := by decide +kernel
theorem dX6_append_55 : decode cX6_append 55 = .ok (.putfield 99, 3) := by decide +kernel
theorem dX6_append_58 : decode cX6_append 58 = .ok (.aload_n 0, 1) := by decide +kernel
theorem dX6_append_59 : decode cX6_append 59 = .ok (.getfield 99, 3) := by decide +kernel
theorem dX6_append_62 : decode cX6_append 62 = .ok (.ireturn, 1) := by decide +kernel
theorem dX6_clearBuffer_0 : decode cX6_clearBuffer 0 = .ok (.aload_n 0, 1) := by decide +kernel
theorem dX6_clearBuffer_1 : decode cX6_clearBuffer 1 = .ok (.iconst 0, 1) := by decide +kernel
theorem dX6_clearBuffer_2 : decode cX6_clearBuffer 2 = .ok (.putfield 22, 3) := by decide +kernel
theorem dX6_clearBuffer_5 : decode cX6_clearBuffer 5 = .ok (.aload_n 0, 1) := by decide +kernel
theorem dX6_clearBuffer_6 : decode cX6_clearBuffer 6 = .ok (.getfield 99, 3) := by decide +kernel
theorem dX6_clearBuffer_9 : decode cX6_clearBuffer 9 = .ok (.istore_n 1, 1) := by decide +kernel
theorem dX6_clearBuffer_10 : decode cX6_clearBuffer 10 = .ok (.aload_n 0, 1) := by decide +kernel
theorem dX6_clearBuffer_11 : decode cX6_clearBuffer 11 = .ok (.iconst 0, 1) := by decide +kernel
theorem dX6_clearBuffer_12 : decode cX6_clearBuffer 12 = .ok (.putfield 99, 3) := by decide +kernel
theorem dX6_clearBuffer_15 : decode cX6_clearBuffer 15 = .ok (.iload_n 1, 1) := by decide +kernel
theorem dX6_clearBuffer_16 : decode cX6_clearBuffer 16 = .ok (.ireturn, 1) := by decide +kernel
theorem dX6_sign_0 : decode cX6_sign 0 = .ok (.aload_n 0, 1) := by decide +kernel
theorem dX6_sign_1 : decode cX6_sign 1 = .ok (.getfield 102, 3) := by decide +kernel
theorem dX6_sign_4 : decode cX6_sign 4 = .ok (.aload_n 0, 1) := by decide +kernel
theorem dX6_sign_5 : decode cX6_sign 5 = .ok (.getfield 99, 3) := by decide +kernel
theorem dX6_sign_8 : decode cX6_sign 8 = .ok (.if_icmp .ge 15, 3) := by decide +kernel
theorem dX6_sign_11 : decode cX6_sign 11 = .ok (.aload_n 0, 1) := by decide +kernel
theorem dX6_sign_12 : decode cX6_sign 12 = .ok (.getfield 13, 3) := by decide +kernel
theorem dX6_sign_15 : decode cX6_sign 15 = .ok (.aload_n 0, 1) := by decide +kernel
theorem dX6_sign_16 : decode cX6_sign 16 = .ok (.getfield 102, 3) := by decide +kernel
theorem dX6_sign_19 : decode cX6_sign 19 = .ok (.iaload, 1) := by decide +kernel
theorem dX6_sign_20 : decode cX6_sign 20 = .ok (.goto 4, 3) := by decide +kernel
theorem dX6_sign_23 : decode cX6_sign 23 = .ok (.iconst 0, 1) := by decide +kernel
theorem dX6_sign_24 : decode cX6_sign 24 = .ok (.ireturn, 1) := by decide +kernel
theorem dX6_takes_0 : decode cX6_takes 0 = .ok (.aload_n 0, 1) := by decide +kernel
theorem dX6_takes_1 : decode cX6_takes 1 = .ok (.invokevirtual 105, 3) := by decide +kernel
theorem dX6_takes_4 : decode cX6_takes 4 = .ok (.iload_n 1, 1) := by decide +kernel
theorem dX6_takes_5 : decode cX6_takes 5 = .ok (.if_icmp .ne 7, 3) := by decide +kernel
theorem dX6_takes_8 : decode cX6_takes 8 = .ok (.iconst 1, 1) := by decide +kernel
theorem dX6_takes_9 : decode cX6_takes 9 = .ok (.goto 4, 3) := by decide +kernel
theorem dX6_takes_12 : decode cX6_takes 12 = .ok (.iconst 0, 1) := by decide +kernel
theorem dX6_takes_13 : decode cX6_takes 13 = .ok (.istore_n 2, 1) := by decide +kernel
theorem dX6_takes_14 : decode cX6_takes 14 = .ok (.aload_n 0, 1) := by decide +kernel
theorem dX6_takes_15 : decode cX6_takes 15 = .ok (.dup, 1) := by decide +kernel
theorem dX6_takes_16 : decode cX6_takes 16 = .ok (.getfield 102, 3) := by decide +kernel
theorem dX6_takes_19 : decode cX6_takes 19 = .ok (.iload_n 2, 1) := by decide +kernel
theorem dX6_takes_20 : decode cX6_takes 20 = .ok (.ifCond .eq 7, 3) := by decide +kernel
theorem dX6_takes_23 : decode cX6_takes 23 = .ok (.iconst 1, 1) := by decide +kernel
theorem dX6_takes_24 : decode cX6_takes 24 = .ok (.goto 4, 3) := by decide +kernel
theorem dX6_takes_27 : decode cX6_takes 27 = .ok (.iconst 0, 1) := by decide +kernel
theorem dX6_takes_28 : decode cX6_takes 28 = .ok (.iadd, 1) := by decide +kernel
theorem dX6_takes_29 : decode cX6_takes 29 = .ok (.putfield 102, 3) := by decide +kernel
theorem dX6_takes_32 : decode cX6_takes 32 = .ok (.iload_n 2, 1) := by decide +kernel
theorem dX6_takes_33 : decode cX6_takes 33 = .ok (.ireturn, 1) := by decide +kernel
theorem dX6_figure_0 : decode cX6_figure 0 = .ok (.aload_n 0, 1) := by decide +kernel
theorem dX6_figure_1 : decode cX6_figure 1 = .ok (.invokevirtual 105, 3) := by decide +kernel
theorem dX6_figure_4 : decode cX6_figure 4 = .ok (.bipush 48, 2) := by decide +kernel
theorem dX6_figure_6 : decode cX6_figure 6 = .ok (.iload_n 1, 1) := by decide +kernel
theorem dX6_figure_7 : decode cX6_figure 7 = .ok (.iadd, 1) := by decide +kernel
theorem dX6_figure_8 : decode cX6_figure 8 = .ok (.bipush 48, 2) := by decide +kernel
theorem dX6_figure_10 : decode cX6_figure 10 = .ok (.iload_n 2, 1) := by decide +kernel
theorem dX6_figure_11 : decode cX6_figure 11 = .ok (.iadd, 1) := by decide +kernel
theorem dX6_figure_12 : decode cX6_figure 12 = .ok (.invokestatic 26, 3) := by decide +kernel
theorem dX6_figure_15 : decode cX6_figure 15 = .ok (.ifCond .eq 13, 3) := by decide +kernel
theorem dX6_figure_18 : decode cX6_figure 18 = .ok (.aload_n 0, 1) := by decide +kernel
theorem dX6_figure_19 : decode cX6_figure 19 = .ok (.invokevirtual 105, 3) := by decide +kernel
theorem dX6_figure_22 : decode cX6_figure 22 = .ok (.bipush 48, 2) := by decide +kernel
theorem dX6_figure_24 : decode cX6_figure 24 = .ok (.isub, 1) := by decide +kernel
theorem dX6_figure_25 : decode cX6_figure 25 = .ok (.goto 4, 3) := by decide +kernel
theorem dX6_figure_28 : decode cX6_figure 28 = .ok (.iconst (-1), 1) := by decide +kernel
theorem dX6_figure_29 : decode cX6_figure 29 = .ok (.istore_n 3, 1) := by decide +kernel
theorem dX6_figure_30 : decode cX6_figure 30 = .ok (.aload_n 0, 1) := by decide +kernel
theorem dX6_figure_31 : decode cX6_figure 31 = .ok (.dup, 1) := by decide +kernel
theorem dX6_figure_32 : decode cX6_figure 32 = .ok (.getfield 102, 3) := by decide +kernel
theorem dX6_figure_35 : decode cX6_figure 35 = .ok (.iload_n 3, 1) := by decide +kernel
theorem dX6_figure_36 : decode cX6_figure 36 = .ok (.iconst (-1), 1) := by decide +kernel
theorem dX6_figure_37 : decode cX6_figure 37 = .ok (.if_icmp .ne 7, 3) := by decide +kernel
theorem dX6_figure_40 : decode cX6_figure 40 = .ok (.iconst 0, 1) := by decide +kernel
theorem dX6_figure_41 : decode cX6_figure 41 = .ok (.goto 4, 3) := by decide +kernel
theorem dX6_figure_44 : decode cX6_figure 44 = .ok (.iconst 1, 1) := by decide +kernel
theorem dX6_figure_45 : decode cX6_figure 45 = .ok (.iadd, 1) := by decide +kernel
theorem dX6_figure_46 : decode cX6_figure 46 = .ok (.putfield 102, 3) := by decide +kernel
theorem dX6_figure_49 : decode cX6_figure 49 = .ok (.iload_n 3, 1) := by decide +kernel
theorem dX6_figure_50 : decode cX6_figure 50 = .ok (.ireturn, 1) := by decide +kernel
theorem dX6_readsPart_0 : decode cX6_readsPart 0 = .ok (.aload_n 0, 1) := by decide +kernel
theorem dX6_readsPart_1 : decode cX6_readsPart 1 = .ok (.aload_n 0, 1) := by decide +kernel
theorem dX6_readsPart_2 : decode cX6_readsPart 2 = .ok (.invokevirtual 105, 3) := by decide +kernel
theorem dX6_readsPart_5 : decode cX6_readsPart 5 = .ok (.putfield 108, 3) := by decide +kernel
theorem dX6_readsPart_8 : decode cX6_readsPart 8 = .ok (.aload_n 0, 1) := by decide +kernel
theorem dX6_readsPart_9 : decode cX6_readsPart 9 = .ok (.bipush 108, 2) := by decide +kernel
theorem dX6_readsPart_11 : decode cX6_readsPart 11 = .ok (.invokevirtual 111, 3) := by decide +kernel
theorem dX6_readsPart_14 : decode cX6_readsPart 14 = .ok (.ifCond .eq 5, 3) := by decide +kernel
theorem dX6_readsPart_17 : decode cX6_readsPart 17 = .ok (.iconst 1, 1) := by decide +kernel
theorem dX6_readsPart_18 : decode cX6_readsPart 18 = .ok (.ireturn, 1) := by decide +kernel
theorem dX6_readsPart_19 : decode cX6_readsPart 19 = .ok (.aload_n 0, 1) := by decide +kernel
theorem dX6_readsPart_20 : decode cX6_readsPart 20 = .ok (.bipush 107, 2) := by decide +kernel
theorem dX6_readsPart_22 : decode cX6_readsPart 22 = .ok (.invokevirtual 111, 3) := by decide +kernel
theorem dX6_readsPart_25 : decode cX6_readsPart 25 = .ok (.ifCond .eq 27, 3) := by decide +kernel
theorem dX6_readsPart_28 : decode cX6_readsPart 28 = .ok (.aload_n 0, 1) := by decide +kernel
theorem dX6_readsPart_29 : decode cX6_readsPart 29 = .ok (.aload_n 0, 1) := by decide +kernel
theorem dX6_readsPart_30 : decode cX6_readsPart 30 = .ok (.iconst 0, 1) := by decide +kernel
theorem dX6_readsPart_31 : decode cX6_readsPart 31 = .ok (.iconst 4, 1) := by decide +kernel
theorem dX6_readsPart_32 : decode cX6_readsPart 32 = .ok (.invokevirtual 114, 3) := by decide +kernel
theorem dX6_readsPart_35 : decode cX6_readsPart 35 = .ok (.putfield 117, 3) := by decide +kernel
theorem dX6_readsPart_38 : decode cX6_readsPart 38 = .ok (.aload_n 0, 1) := by decide +kernel
theorem dX6_readsPart_39 : decode cX6_readsPart 39 = .ok (.getfield 117, 3) := by decide +kernel
theorem dX6_readsPart_42 : decode cX6_readsPart 42 = .ok (.iconst (-1), 1) := by decide +kernel
theorem dX6_readsPart_43 : decode cX6_readsPart 43 = .ok (.if_icmp .eq 7, 3) := by decide +kernel
theorem dX6_readsPart_46 : decode cX6_readsPart 46 = .ok (.iconst 1, 1) := by decide +kernel
theorem dX6_readsPart_47 : decode cX6_readsPart 47 = .ok (.goto 4, 3) := by decide +kernel
theorem dX6_readsPart_50 : decode cX6_readsPart 50 = .ok (.iconst 0, 1) := by decide +kernel
theorem dX6_readsPart_51 : decode cX6_readsPart 51 = .ok (.ireturn, 1) := by decide +kernel
theorem dX6_readsPart_52 : decode cX6_readsPart 52 = .ok (.aload_n 0, 1) := by decide +kernel
theorem dX6_readsPart_53 : decode cX6_readsPart 53 = .ok (.aload_n 0, 1) := by decide +kernel
theorem dX6_readsPart_54 : decode cX6_readsPart 54 = .ok (.bipush 43, 2) := by decide +kernel
theorem dX6_readsPart_56 : decode cX6_readsPart 56 = .ok (.invokevirtual 111, 3) := by decide +kernel
theorem dX6_readsPart_59 : decode cX6_readsPart 59 = .ok (.ifCond .ne 12, 3) := by decide +kernel
theorem dX6_readsPart_62 : decode cX6_readsPart 62 = .ok (.aload_n 0, 1) := by decide +kernel
theorem dX6_readsPart_63 : decode cX6_readsPart 63 = .ok (.bipush 45, 2) := by decide +kernel
theorem dX6_readsPart_65 : decode cX6_readsPart 65 = .ok (.invokevirtual 111, 3) := by decide +kernel
theorem dX6_readsPart_68 : decode cX6_readsPart 68 = .ok (.ifCond .eq 13, 3) := by decide +kernel
theorem dX6_readsPart_71 : decode cX6_readsPart 71 = .ok (.aload_n 0, 1) := by decide +kernel
theorem dX6_readsPart_72 : decode cX6_readsPart 72 = .ok (.iconst 1, 1) := by decide +kernel
theorem dX6_readsPart_73 : decode cX6_readsPart 73 = .ok (.bipush 9, 2) := by decide +kernel
theorem dX6_readsPart_75 : decode cX6_readsPart 75 = .ok (.invokevirtual 114, 3) := by decide +kernel
theorem dX6_readsPart_78 : decode cX6_readsPart 78 = .ok (.goto 4, 3) := by decide +kernel
theorem dX6_readsPart_81 : decode cX6_readsPart 81 = .ok (.iconst (-1), 1) := by decide +kernel
theorem dX6_readsPart_82 : decode cX6_readsPart 82 = .ok (.putfield 117, 3) := by decide +kernel
theorem dX6_readsPart_85 : decode cX6_readsPart 85 = .ok (.aload_n 0, 1) := by decide +kernel
theorem dX6_readsPart_86 : decode cX6_readsPart 86 = .ok (.getfield 117, 3) := by decide +kernel
theorem dX6_readsPart_89 : decode cX6_readsPart 89 = .ok (.iconst (-1), 1) := by decide +kernel
theorem dX6_readsPart_90 : decode cX6_readsPart 90 = .ok (.if_icmp .eq 12, 3) := by decide +kernel
theorem dX6_readsPart_93 : decode cX6_readsPart 93 = .ok (.aload_n 0, 1) := by decide +kernel
theorem dX6_readsPart_94 : decode cX6_readsPart 94 = .ok (.getfield 117, 3) := by decide +kernel
theorem dX6_readsPart_97 : decode cX6_readsPart 97 = .ok (.bipush 6, 2) := by decide +kernel
theorem dX6_readsPart_99 : decode cX6_readsPart 99 = .ok (.if_icmp .le 7, 3) := by decide +kernel
theorem dX6_readsPart_102 : decode cX6_readsPart 102 = .ok (.iconst (-1), 1) := by decide +kernel
theorem dX6_readsPart_103 : decode cX6_readsPart 103 = .ok (.goto 23, 3) := by decide +kernel
theorem dX6_readsPart_106 : decode cX6_readsPart 106 = .ok (.aload_n 0, 1) := by decide +kernel
theorem dX6_readsPart_107 : decode cX6_readsPart 107 = .ok (.iconst 0, 1) := by decide +kernel
theorem dX6_readsPart_108 : decode cX6_readsPart 108 = .ok (.aload_n 0, 1) := by decide +kernel
theorem dX6_readsPart_109 : decode cX6_readsPart 109 = .ok (.getfield 117, 3) := by decide +kernel
theorem dX6_readsPart_112 : decode cX6_readsPart 112 = .ok (.bipush 6, 2) := by decide +kernel
theorem dX6_readsPart_114 : decode cX6_readsPart 114 = .ok (.if_icmp .ne 7, 3) := by decide +kernel
theorem dX6_readsPart_117 : decode cX6_readsPart 117 = .ok (.iconst 0, 1) := by decide +kernel
theorem dX6_readsPart_118 : decode cX6_readsPart 118 = .ok (.goto 5, 3) := by decide +kernel
theorem dX6_readsPart_121 : decode cX6_readsPart 121 = .ok (.bipush 9, 2) := by decide +kernel
theorem dX6_readsPart_123 : decode cX6_readsPart 123 = .ok (.invokevirtual 114, 3) := by decide +kernel
theorem dX6_readsPart_126 : decode cX6_readsPart 126 = .ok (.istore_n 1, 1) := by decide +kernel
theorem dX6_readsPart_127 : decode cX6_readsPart 127 = .ok (.aload_n 0, 1) := by decide +kernel
theorem dX6_readsPart_128 : decode cX6_readsPart 128 = .ok (.iload_n 1, 1) := by decide +kernel
theorem dX6_readsPart_129 : decode cX6_readsPart 129 = .ok (.iconst (-1), 1) := by decide +kernel
theorem dX6_readsPart_130 : decode cX6_readsPart 130 = .ok (.if_icmp .ne 10, 3) := by decide +kernel
theorem dX6_readsPart_133 : decode cX6_readsPart 133 = .ok (.aload_n 0, 1) := by decide +kernel
theorem dX6_readsPart_134 : decode cX6_readsPart 134 = .ok (.getfield 117, 3) := by decide +kernel
theorem dX6_readsPart_137 : decode cX6_readsPart 137 = .ok (.goto 12, 3) := by decide +kernel
theorem dX6_readsPart_140 : decode cX6_readsPart 140 = .ok (.bipush 10, 2) := by decide +kernel
theorem dX6_readsPart_142 : decode cX6_readsPart 142 = .ok (.aload_n 0, 1) := by decide +kernel
theorem dX6_readsPart_143 : decode cX6_readsPart 143 = .ok (.getfield 117, 3) := by decide +kernel
theorem dX6_readsPart_146 : decode cX6_readsPart 146 = .ok (.imul, 1) := by decide +kernel
theorem dX6_readsPart_147 : decode cX6_readsPart 147 = .ok (.iload_n 1, 1) := by decide +kernel
theorem dX6_readsPart_148 : decode cX6_readsPart 148 = .ok (.iadd, 1) := by decide +kernel
theorem dX6_readsPart_149 : decode cX6_readsPart 149 = .ok (.putfield 117, 3) := by decide +kernel
theorem dX6_readsPart_152 : decode cX6_readsPart 152 = .ok (.aload_n 0, 1) := by decide +kernel
theorem dX6_readsPart_153 : decode cX6_readsPart 153 = .ok (.getfield 117, 3) := by decide +kernel
theorem dX6_readsPart_156 : decode cX6_readsPart 156 = .ok (.iconst (-1), 1) := by decide +kernel
theorem dX6_readsPart_157 : decode cX6_readsPart 157 = .ok (.if_icmp .eq 7, 3) := by decide +kernel
theorem dX6_readsPart_160 : decode cX6_readsPart 160 = .ok (.iconst 1, 1) := by decide +kernel
theorem dX6_readsPart_161 : decode cX6_readsPart 161 = .ok (.goto 4, 3) := by decide +kernel
theorem dX6_readsPart_164 : decode cX6_readsPart 164 = .ok (.iconst 0, 1) := by decide +kernel
theorem dX6_readsPart_165 : decode cX6_readsPart 165 = .ok (.ireturn, 1) := by decide +kernel
theorem dX6_isWork_0 : decode cX6_isWork 0 = .ok (.aload_n 0, 1) := by decide +kernel
theorem dX6_isWork_1 : decode cX6_isWork 1 = .ok (.iconst 0, 1) := by decide +kernel
theorem dX6_isWork_2 : decode cX6_isWork 2 = .ok (.putfield 102, 3) := by decide +kernel
theorem dX6_isWork_5 : decode cX6_isWork 5 = .ok (.aload_n 0, 1) := by decide +kernel
theorem dX6_isWork_6 : decode cX6_isWork 6 = .ok (.iconst 0, 1) := by decide +kernel
theorem dX6_isWork_7 : decode cX6_isWork 7 = .ok (.putfield 120, 3) := by decide +kernel
theorem dX6_isWork_10 : decode cX6_isWork 10 = .ok (.iconst 1, 1) := by decide +kernel
theorem dX6_isWork_11 : decode cX6_isWork 11 = .ok (.istore_n 1, 1) := by decide +kernel
theorem dX6_isWork_12 : decode cX6_isWork 12 = .ok (.aload_n 0, 1) := by decide +kernel
theorem dX6_isWork_13 : decode cX6_isWork 13 = .ok (.getfield 120, 3) := by decide +kernel
theorem dX6_isWork_16 : decode cX6_isWork 16 = .ok (.iconst 3, 1) := by decide +kernel
theorem dX6_isWork_17 : decode cX6_isWork 17 = .ok (.if_icmp .ge 37, 3) := by decide +kernel
theorem dX6_isWork_20 : decode cX6_isWork 20 = .ok (.aload_n 0, 1) := by decide +kernel
theorem dX6_isWork_21 : decode cX6_isWork 21 = .ok (.invokevirtual 105, 3) := by decide +kernel
theorem dX6_isWork_24 : decode cX6_isWork 24 = .ok (.bipush 40, 2) := by decide +kernel
theorem dX6_isWork_26 : decode cX6_isWork 26 = .ok (.if_icmp .ne 28, 3) := by decide +kernel
theorem dX6_isWork_29 : decode cX6_isWork 29 = .ok (.aload_n 0, 1) := by decide +kernel
theorem dX6_isWork_30 : decode cX6_isWork 30 = .ok (.dup, 1) := by decide +kernel
theorem dX6_isWork_31 : decode cX6_isWork 31 = .ok (.getfield 102, 3) := by decide +kernel
theorem dX6_isWork_34 : decode cX6_isWork 34 = .ok (.iconst 1, 1) := by decide +kernel
theorem dX6_isWork_35 : decode cX6_isWork 35 = .ok (.iadd, 1) := by decide +kernel
theorem dX6_isWork_36 : decode cX6_isWork 36 = .ok (.putfield 102, 3) := by decide +kernel
theorem dX6_isWork_39 : decode cX6_isWork 39 = .ok (.aload_n 0, 1) := by decide +kernel
theorem dX6_isWork_40 : decode cX6_isWork 40 = .ok (.dup, 1) := by decide +kernel
theorem dX6_isWork_41 : decode cX6_isWork 41 = .ok (.getfield 120, 3) := by decide +kernel
theorem dX6_isWork_44 : decode cX6_isWork 44 = .ok (.iconst 1, 1) := by decide +kernel
theorem dX6_isWork_45 : decode cX6_isWork 45 = .ok (.iadd, 1) := by decide +kernel
theorem dX6_isWork_46 : decode cX6_isWork 46 = .ok (.putfield 120, 3) := by decide +kernel
theorem dX6_isWork_49 : decode cX6_isWork 49 = .ok (.iconst 1, 1) := by decide +kernel
theorem dX6_isWork_50 : decode cX6_isWork 50 = .ok (.istore_n 1, 1) := by decide +kernel
theorem dX6_isWork_51 : decode cX6_isWork 51 = .ok (.goto (-39), 3) := by decide +kernel
theorem dX6_isWork_54 : decode cX6_isWork 54 = .ok (.aload_n 0, 1) := by decide +kernel
theorem dX6_isWork_55 : decode cX6_isWork 55 = .ok (.getfield 120, 3) := by decide +kernel
theorem dX6_isWork_58 : decode cX6_isWork 58 = .ok (.ifCond .le 49, 3) := by decide +kernel
theorem dX6_isWork_61 : decode cX6_isWork 61 = .ok (.iload_n 1, 1) := by decide +kernel
theorem dX6_isWork_62 : decode cX6_isWork 62 = .ok (.ifCond .ne 45, 3) := by decide +kernel
theorem dX6_isWork_65 : decode cX6_isWork 65 = .ok (.aload_n 0, 1) := by decide +kernel
theorem dX6_isWork_66 : decode cX6_isWork 66 = .ok (.invokevirtual 105, 3) := by decide +kernel
theorem dX6_isWork_69 : decode cX6_isWork 69 = .ok (.bipush 41, 2) := by decide +kernel
theorem dX6_isWork_71 : decode cX6_isWork 71 = .ok (.if_icmp .ne 36, 3) := by decide +kernel
theorem dX6_isWork_74 : decode cX6_isWork 74 = .ok (.aload_n 0, 1) := by decide +kernel
theorem dX6_isWork_75 : decode cX6_isWork 75 = .ok (.dup, 1) := by decide +kernel
theorem dX6_isWork_76 : decode cX6_isWork 76 = .ok (.getfield 102, 3) := by decide +kernel
theorem dX6_isWork_79 : decode cX6_isWork 79 = .ok (.iconst 1, 1) := by decide +kernel
theorem dX6_isWork_80 : decode cX6_isWork 80 = .ok (.iadd, 1) := by decide +kernel
theorem dX6_isWork_81 : decode cX6_isWork 81 = .ok (.putfield 102, 3) := by decide +kernel
theorem dX6_isWork_84 : decode cX6_isWork 84 = .ok (.aload_n 0, 1) := by decide +kernel
theorem dX6_isWork_85 : decode cX6_isWork 85 = .ok (.dup, 1) := by decide +kernel
theorem dX6_isWork_86 : decode cX6_isWork 86 = .ok (.getfield 120, 3) := by decide +kernel
theorem dX6_isWork_89 : decode cX6_isWork 89 = .ok (.iconst 1, 1) := by decide +kernel
theorem dX6_isWork_90 : decode cX6_isWork 90 = .ok (.isub, 1) := by decide +kernel
theorem dX6_isWork_91 : decode cX6_isWork 91 = .ok (.putfield 120, 3) := by decide +kernel
theorem dX6_isWork_94 : decode cX6_isWork 94 = .ok (.aload_n 0, 1) := by decide +kernel
theorem dX6_isWork_95 : decode cX6_isWork 95 = .ok (.iconst 2, 1) := by decide +kernel
theorem dX6_isWork_96 : decode cX6_isWork 96 = .ok (.bipush 9, 2) := by decide +kernel
theorem dX6_isWork_98 : decode cX6_isWork 98 = .ok (.invokevirtual 114, 3) := by decide +kernel
theorem dX6_isWork_101 : decode cX6_isWork 101 = .ok (.iconst (-1), 1) := by decide +kernel
theorem dX6_isWork_102 : decode cX6_isWork 102 = .ok (.if_icmp .ne (-90), 3) := by decide +kernel
theorem dX6_isWork_105 : decode cX6_isWork 105 = .ok (.iconst 0, 1) := by decide +kernel
theorem dX6_isWork_106 : decode cX6_isWork 106 = .ok (.ireturn, 1) := by decide +kernel
theorem dX6_isWork_107 : decode cX6_isWork 107 = .ok (.aload_n 0, 1) := by decide +kernel
theorem dX6_isWork_108 : decode cX6_isWork 108 = .ok (.invokevirtual 105, 3) := by decide +kernel
theorem dX6_isWork_111 : decode cX6_isWork 111 = .ok (.ifCond .ne 20, 3) := by decide +kernel
theorem dX6_isWork_114 : decode cX6_isWork 114 = .ok (.iload_n 1, 1) := by decide +kernel
theorem dX6_isWork_115 : decode cX6_isWork 115 = .ok (.ifCond .ne 14, 3) := by decide +kernel
theorem dX6_isWork_118 : decode cX6_isWork 118 = .ok (.aload_n 0, 1) := by decide +kernel
theorem dX6_isWork_119 : decode cX6_isWork 119 = .ok (.getfield 120, 3) := by decide +kernel
theorem dX6_isWork_122 : decode cX6_isWork 122 = .ok (.ifCond .ne 7, 3) := by decide +kernel
theorem dX6_isWork_125 : decode cX6_isWork 125 = .ok (.iconst 1, 1) := by decide +kernel
theorem dX6_isWork_126 : decode cX6_isWork 126 = .ok (.goto 4, 3) := by decide +kernel
theorem dX6_isWork_129 : decode cX6_isWork 129 = .ok (.iconst 0, 1) := by decide +kernel
theorem dX6_isWork_130 : decode cX6_isWork 130 = .ok (.ireturn, 1) := by decide +kernel
theorem dX6_isWork_131 : decode cX6_isWork 131 = .ok (.aload_n 0, 1) := by decide +kernel
theorem dX6_isWork_132 : decode cX6_isWork 132 = .ok (.invokevirtual 123, 3) := by decide +kernel
theorem dX6_isWork_135 : decode cX6_isWork 135 = .ok (.ifCond .eq 8, 3) := by decide +kernel
theorem dX6_isWork_138 : decode cX6_isWork 138 = .ok (.iconst 0, 1) := by decide +kernel
theorem dX6_isWork_139 : decode cX6_isWork 139 = .ok (.istore_n 1, 1) := by decide +kernel
theorem dX6_isWork_140 : decode cX6_isWork 140 = .ok (.goto (-128), 3) := by decide +kernel
theorem dX6_isWork_143 : decode cX6_isWork 143 = .ok (.iconst 0, 1) := by decide +kernel
theorem dX6_isWork_144 : decode cX6_isWork 144 = .ok (.ireturn, 1) := by decide +kernel
theorem dX6_firstError_0 : decode cX6_firstError 0 = .ok (.aload_n 0, 1) := by decide +kernel
theorem dX6_firstError_1 : decode cX6_firstError 1 = .ok (.iconst 0, 1) := by decide +kernel
theorem dX6_firstError_2 : decode cX6_firstError 2 = .ok (.putfield 22, 3) := by decide +kernel
theorem dX6_firstError_5 : decode cX6_firstError 5 = .ok (.aload_n 0, 1) := by decide +kernel
theorem dX6_firstError_6 : decode cX6_firstError 6 = .ok (.invokevirtual 126, 3) := by decide +kernel
theorem dX6_firstError_9 : decode cX6_firstError 9 = .ok (.pop, 1) := by decide +kernel
theorem dX6_firstError_10 : decode cX6_firstError 10 = .ok (.aload_n 0, 1) := by decide +kernel
theorem dX6_firstError_11 : decode cX6_firstError 11 = .ok (.getfield 102, 3) := by decide +kernel
theorem dX6_firstError_14 : decode cX6_firstError 14 = .ok (.ireturn, 1) := by decide +kernel
theorem dX6_does_0 : decode cX6_does 0 = .ok (.aload_n 0, 1) := by decide +kernel
theorem dX6_does_1 : decode cX6_does 1 = .ok (.getfield 108, 3) := by decide +kernel
theorem dX6_does_4 : decode cX6_does 4 = .ok (.bipush 108, 2) := by decide +kernel
theorem dX6_does_6 : decode cX6_does 6 = .ok (.if_icmp .ne 13, 3) := by decide +kernel
theorem dX6_does_9 : decode cX6_does 9 = .ok (.aload_n 0, 1) := by decide +kernel
theorem dX6_does_10 : decode cX6_does 10 = .ok (.getfield 7, 3) := by decide +kernel
theorem dX6_does_13 : decode cX6_does 13 = .ok (.bipush 77, 2) := by decide +kernel
theorem dX6_does_15 : decode cX6_does 15 = .ok (.iconst 1, 1) := by decide +kernel
theorem dX6_does_16 : decode cX6_does 16 = .ok (.iastore, 1) := by decide +kernel
theorem dX6_does_17 : decode cX6_does 17 = .ok (.iconst 0, 1) := by decide +kernel
theorem dX6_does_18 : decode cX6_does 18 = .ok (.ireturn, 1) := by decide +kernel
theorem dX6_does_19 : decode cX6_does 19 = .ok (.aload_n 0, 1) := by decide +kernel
theorem dX6_does_20 : decode cX6_does 20 = .ok (.getfield 108, 3) := by decide +kernel
theorem dX6_does_23 : decode cX6_does 23 = .ok (.bipush 107, 2) := by decide +kernel
theorem dX6_does_25 : decode cX6_does 25 = .ok (.if_icmp .ne 31, 3) := by decide +kernel
theorem dX6_does_28 : decode cX6_does 28 = .ok (.aload_n 0, 1) := by decide +kernel
theorem dX6_does_29 : decode cX6_does 29 = .ok (.getfield 7, 3) := by decide +kernel
theorem dX6_does_32 : decode cX6_does 32 = .ok (.bipush 10, 2) := by decide +kernel
theorem dX6_does_34 : decode cX6_does 34 = .ok (.aload_n 0, 1) := by decide +kernel
theorem dX6_does_35 : decode cX6_does 35 = .ok (.getfield 117, 3) := by decide +kernel
theorem dX6_does_38 : decode cX6_does 38 = .ok (.iadd, 1) := by decide +kernel
theorem dX6_does_39 : decode cX6_does 39 = .ok (.iconst 1, 1) := by decide +kernel
theorem dX6_does_40 : decode cX6_does 40 = .ok (.aload_n 0, 1) := by decide +kernel
theorem dX6_does_41 : decode cX6_does 41 = .ok (.getfield 7, 3) := by decide +kernel
theorem dX6_does_44 : decode cX6_does 44 = .ok (.bipush 10, 2) := by decide +kernel
theorem dX6_does_46 : decode cX6_does 46 = .ok (.aload_n 0, 1) := by decide +kernel
theorem dX6_does_47 : decode cX6_does 47 = .ok (.getfield 117, 3) := by decide +kernel
theorem dX6_does_50 : decode cX6_does 50 = .ok (.iadd, 1) := by decide +kernel
theorem dX6_does_51 : decode cX6_does 51 = .ok (.iaload, 1) := by decide +kernel
theorem dX6_does_52 : decode cX6_does 52 = .ok (.isub, 1) := by decide +kernel
theorem dX6_does_53 : decode cX6_does 53 = .ok (.iastore, 1) := by decide +kernel
theorem dX6_does_54 : decode cX6_does 54 = .ok (.iconst 0, 1) := by decide +kernel
theorem dX6_does_55 : decode cX6_does 55 = .ok (.ireturn, 1) := by decide +kernel
theorem dX6_does_56 : decode cX6_does 56 = .ok (.aload_n 0, 1) := by decide +kernel
theorem dX6_does_57 : decode cX6_does 57 = .ok (.getfield 108, 3) := by decide +kernel
theorem dX6_does_60 : decode cX6_does 60 = .ok (.bipush 43, 2) := by decide +kernel
theorem dX6_does_62 : decode cX6_does 62 = .ok (.if_icmp .ne 7, 3) := by decide +kernel
theorem dX6_does_65 : decode cX6_does 65 = .ok (.iconst 1, 1) := by decide +kernel
theorem dX6_does_66 : decode cX6_does 66 = .ok (.goto 4, 3) := by decide +kernel
theorem dX6_does_69 : decode cX6_does 69 = .ok (.iconst (-1), 1) := by decide +kernel
theorem dX6_does_70 : decode cX6_does 70 = .ok (.istore_n 2, 1) := by decide +kernel
theorem dX6_does_71 : decode cX6_does 71 = .ok (.sipush 2000, 3) := by decide +kernel
theorem dX6_does_74 : decode cX6_does 74 = .ok (.iload_n 1, 1) := by decide +kernel
theorem dX6_does_75 : decode cX6_does 75 = .ok (.isub, 1) := by decide +kernel
theorem dX6_does_76 : decode cX6_does 76 = .ok (.istore_n 3, 1) := by decide +kernel
theorem dX6_does_77 : decode cX6_does 77 = .ok (.aload_n 0, 1) := by decide +kernel
theorem dX6_does_78 : decode cX6_does 78 = .ok (.iload_n 2, 1) := by decide +kernel
theorem dX6_does_79 : decode cX6_does 79 = .ok (.aload_n 0, 1) := by decide +kernel
theorem dX6_does_80 : decode cX6_does 80 = .ok (.getfield 117, 3) := by decide +kernel
theorem dX6_does_83 : decode cX6_does 83 = .ok (.iload_n 3, 1) := by decide +kernel
theorem dX6_does_84 : decode cX6_does 84 = .ok (.if_icmp .ge 10, 3) := by decide +kernel
theorem dX6_does_87 : decode cX6_does 87 = .ok (.aload_n 0, 1) := by decide +kernel
theorem dX6_does_88 : decode cX6_does 88 = .ok (.getfield 117, 3) := by decide +kernel
theorem dX6_does_91 : decode cX6_does 91 = .ok (.goto 4, 3) := by decide +kernel
theorem dX6_does_94 : decode cX6_does 94 = .ok (.iload_n 3, 1) := by decide +kernel
theorem dX6_does_95 : decode cX6_does 95 = .ok (.invokevirtual 70, 3) := by decide +kernel
theorem dX6_does_98 : decode cX6_does 98 = .ok (.istore 4, 2) := by decide +kernel
theorem dX6_does_100 : decode cX6_does 100 = .ok (.aload_n 0, 1) := by decide +kernel
theorem dX6_does_101 : decode cX6_does 101 = .ok (.getfield 7, 3) := by decide +kernel
theorem dX6_does_104 : decode cX6_does 104 = .ok (.bipush 80, 2) := by decide +kernel
theorem dX6_does_106 : decode cX6_does 106 = .ok (.iload 4, 2) := by decide +kernel
theorem dX6_does_108 : decode cX6_does 108 = .ok (.aload_n 0, 1) := by decide +kernel
theorem dX6_does_109 : decode cX6_does 109 = .ok (.getfield 117, 3) := by decide +kernel
theorem dX6_does_112 : decode cX6_does 112 = .ok (.if_icmp .ne 7, 3) := by decide +kernel
theorem dX6_does_115 : decode cX6_does 115 = .ok (.iconst 0, 1) := by decide +kernel
theorem dX6_does_116 : decode cX6_does 116 = .ok (.goto 19, 3) := by decide +kernel
theorem dX6_does_119 : decode cX6_does 119 = .ok (.iload 4, 2) := by decide +kernel
theorem dX6_does_121 : decode cX6_does 121 = .ok (.iload_n 3, 1) := by decide +kernel
theorem dX6_does_122 : decode cX6_does 122 = .ok (.if_icmp .ne 7, 3) := by decide +kernel
theorem dX6_does_125 : decode cX6_does 125 = .ok (.iconst 5, 1) := by decide +kernel
theorem dX6_does_126 : decode cX6_does 126 = .ok (.goto 9, 3) := by decide +kernel
theorem dX6_does_129 : decode cX6_does 129 = .ok (.aload_n 0, 1) := by decide +kernel
theorem dX6_does_130 : decode cX6_does 130 = .ok (.iload_n 2, 1) := by decide +kernel
theorem dX6_does_131 : decode cX6_does 131 = .ok (.iconst (-1), 1) := by decide +kernel
theorem dX6_does_132 : decode cX6_does 132 = .ok (.invokevirtual 49, 3) := by decide +kernel
theorem dX6_does_135 : decode cX6_does 135 = .ok (.iastore, 1) := by decide +kernel
theorem dX6_does_136 : decode cX6_does 136 = .ok (.iload 4, 2) := by decide +kernel
theorem dX6_does_138 : decode cX6_does 138 = .ok (.ireturn, 1) := by decide +kernel
theorem dX6_work_0 : decode cX6_work 0 = .ok (.aload_n 0, 1) := by decide +kernel
theorem dX6_work_1 : decode cX6_work 1 = .ok (.aload_n 0, 1) := by decide +kernel
theorem dX6_work_2 : decode cX6_work 2 = .ok (.invokevirtual 126, 3) := by decide +kernel
theorem dX6_work_5 : decode cX6_work 5 = .ok (.ifCond .eq 7, 3) := by decide +kernel
theorem dX6_work_8 : decode cX6_work 8 = .ok (.iconst 0, 1) := by decide +kernel
theorem dX6_work_9 : decode cX6_work 9 = .ok (.goto 4, 3) := by decide +kernel
theorem dX6_work_12 : decode cX6_work 12 = .ok (.iconst 1, 1) := by decide +kernel
theorem dX6_work_13 : decode cX6_work 13 = .ok (.invokevirtual 63, 3) := by decide +kernel
theorem dX6_work_16 : decode cX6_work 16 = .ok (.ifCond .ne 5, 3) := by decide +kernel
theorem dX6_work_19 : decode cX6_work 19 = .ok (.iconst 0, 1) := by decide +kernel
theorem dX6_work_20 : decode cX6_work 20 = .ok (.ireturn, 1) := by decide +kernel
theorem dX6_work_21 : decode cX6_work 21 = .ok (.aload_n 0, 1) := by decide +kernel
theorem dX6_work_22 : decode cX6_work 22 = .ok (.invokevirtual 67, 3) := by decide +kernel
theorem dX6_work_25 : decode cX6_work 25 = .ok (.aload_n 0, 1) := by decide +kernel
theorem dX6_work_26 : decode cX6_work 26 = .ok (.getfield 7, 3) := by decide +kernel
theorem dX6_work_29 : decode cX6_work 29 = .ok (.bipush 80, 2) := by decide +kernel
theorem dX6_work_31 : decode cX6_work 31 = .ok (.iconst 0, 1) := by decide +kernel
theorem dX6_work_32 : decode cX6_work 32 = .ok (.iastore, 1) := by decide +kernel
theorem dX6_work_33 : decode cX6_work 33 = .ok (.aload_n 0, 1) := by decide +kernel
theorem dX6_work_34 : decode cX6_work 34 = .ok (.iconst 0, 1) := by decide +kernel
theorem dX6_work_35 : decode cX6_work 35 = .ok (.putfield 102, 3) := by decide +kernel
theorem dX6_work_38 : decode cX6_work 38 = .ok (.aload_n 0, 1) := by decide +kernel
theorem dX6_work_39 : decode cX6_work 39 = .ok (.iconst 0, 1) := by decide +kernel
theorem dX6_work_40 : decode cX6_work 40 = .ok (.putfield 120, 3) := by decide +kernel
theorem dX6_work_43 : decode cX6_work 43 = .ok (.iconst 0, 1) := by decide +kernel
theorem dX6_work_44 : decode cX6_work 44 = .ok (.istore_n 1, 1) := by decide +kernel
theorem dX6_work_45 : decode cX6_work 45 = .ok (.aload_n 0, 1) := by decide +kernel
theorem dX6_work_46 : decode cX6_work 46 = .ok (.getfield 102, 3) := by decide +kernel
theorem dX6_work_49 : decode cX6_work 49 = .ok (.aload_n 0, 1) := by decide +kernel
theorem dX6_work_50 : decode cX6_work 50 = .ok (.getfield 99, 3) := by decide +kernel
theorem dX6_work_53 : decode cX6_work 53 = .ok (.if_icmp .ge 178, 3) := by decide +kernel
theorem dX6_work_56 : decode cX6_work 56 = .ok (.aload_n 0, 1) := by decide +kernel
theorem dX6_work_57 : decode cX6_work 57 = .ok (.getfield 7, 3) := by decide +kernel
theorem dX6_work_60 : decode cX6_work 60 = .ok (.bipush 80, 2) := by decide +kernel
theorem dX6_work_62 : decode cX6_work 62 = .ok (.iaload, 1) := by decide +kernel
theorem dX6_work_63 : decode cX6_work 63 = .ok (.ifCond .ne 168, 3) := by decide +kernel
theorem dX6_work_66 : decode cX6_work 66 = .ok (.aload_n 0, 1) := by decide +kernel
theorem dX6_work_67 : decode cX6_work 67 = .ok (.bipush 40, 2) := by decide +kernel
theorem dX6_work_69 : decode cX6_work 69 = .ok (.invokevirtual 111, 3) := by decide +kernel
theorem dX6_work_72 : decode cX6_work 72 = .ok (.ifCond .eq 39, 3) := by decide +kernel
theorem dX6_work_75 : decode cX6_work 75 = .ok (.aload_n 0, 1) := by decide +kernel
theorem dX6_work_76 : decode cX6_work 76 = .ok (.getfield 16, 3) := by decide +kernel
theorem dX6_work_79 : decode cX6_work 79 = .ok (.aload_n 0, 1) := by decide +kernel
theorem dX6_work_80 : decode cX6_work 80 = .ok (.getfield 120, 3) := by decide +kernel
theorem dX6_work_83 : decode cX6_work 83 = .ok (.aload_n 0, 1) := by decide +kernel
theorem dX6_work_84 : decode cX6_work 84 = .ok (.getfield 102, 3) := by decide +kernel
theorem dX6_work_87 : decode cX6_work 87 = .ok (.iastore, 1) := by decide +kernel
theorem dX6_work_88 : decode cX6_work 88 = .ok (.aload_n 0, 1) := by decide +kernel
theorem dX6_work_89 : decode cX6_work 89 = .ok (.getfield 19, 3) := by decide +kernel
theorem dX6_work_92 : decode cX6_work 92 = .ok (.aload_n 0, 1) := by decide +kernel
theorem dX6_work_93 : decode cX6_work 93 = .ok (.getfield 120, 3) := by decide +kernel
theorem dX6_work_96 : decode cX6_work 96 = .ok (.iconst 0, 1) := by decide +kernel
theorem dX6_work_97 : decode cX6_work 97 = .ok (.iastore, 1) := by decide +kernel
theorem dX6_work_98 : decode cX6_work 98 = .ok (.aload_n 0, 1) := by decide +kernel
theorem dX6_work_99 : decode cX6_work 99 = .ok (.dup, 1) := by decide +kernel
theorem dX6_work_100 : decode cX6_work 100 = .ok (.getfield 120, 3) := by decide +kernel
theorem dX6_work_103 : decode cX6_work 103 = .ok (.iconst 1, 1) := by decide +kernel
theorem dX6_work_104 : decode cX6_work 104 = .ok (.iadd, 1) := by decide +kernel
theorem dX6_work_105 : decode cX6_work 105 = .ok (.putfield 120, 3) := by decide +kernel
theorem dX6_work_108 : decode cX6_work 108 = .ok (.goto (-63), 3) := by decide +kernel
theorem dX6_work_111 : decode cX6_work 111 = .ok (.aload_n 0, 1) := by decide +kernel
theorem dX6_work_112 : decode cX6_work 112 = .ok (.bipush 41, 2) := by decide +kernel
theorem dX6_work_114 : decode cX6_work 114 = .ok (.invokevirtual 111, 3) := by decide +kernel
theorem dX6_work_117 : decode cX6_work 117 = .ok (.ifCond .eq 98, 3) := by decide +kernel
theorem dX6_work_120 : decode cX6_work 120 = .ok (.aload_n 0, 1) := by decide +kernel
theorem dX6_work_121 : decode cX6_work 121 = .ok (.iconst 2, 1) := by decide +kernel
theorem dX6_work_122 : decode cX6_work 122 = .ok (.bipush 9, 2) := by decide +kernel
theorem dX6_work_124 : decode cX6_work 124 = .ok (.invokevirtual 114, 3) := by decide +kernel
theorem dX6_work_127 : decode cX6_work 127 = .ok (.istore_n 2, 1) := by decide +kernel
theorem dX6_work_128 : decode cX6_work 128 = .ok (.aload_n 0, 1) := by decide +kernel
theorem dX6_work_129 : decode cX6_work 129 = .ok (.getfield 19, 3) := by decide +kernel
theorem dX6_work_132 : decode cX6_work 132 = .ok (.aload_n 0, 1) := by decide +kernel
theorem dX6_work_133 : decode cX6_work 133 = .ok (.getfield 120, 3) := by decide +kernel
theorem dX6_work_136 : decode cX6_work 136 = .ok (.iconst 1, 1) := by decide +kernel
theorem dX6_work_137 : decode cX6_work 137 = .ok (.isub, 1) := by decide +kernel
theorem dX6_work_138 : decode cX6_work 138 = .ok (.dup2, 1) := by decide +kernel
theorem dX6_work_139 : decode cX6_work 139 = .ok (.iaload, 1) := by decide +kernel
theorem dX6_work_140 : decode cX6_work 140 = .ok (.iconst 1, 1) := by decide +kernel
theorem dX6_work_141 : decode cX6_work 141 = .ok (.iadd, 1) := by decide +kernel
theorem dX6_work_142 : decode cX6_work 142 = .ok (.iastore, 1) := by decide +kernel
theorem dX6_work_143 : decode cX6_work 143 = .ok (.aload_n 0, 1) := by decide +kernel
theorem dX6_work_144 : decode cX6_work 144 = .ok (.aload_n 0, 1) := by decide +kernel
theorem dX6_work_145 : decode cX6_work 145 = .ok (.getfield 19, 3) := by decide +kernel
theorem dX6_work_148 : decode cX6_work 148 = .ok (.aload_n 0, 1) := by decide +kernel
theorem dX6_work_149 : decode cX6_work 149 = .ok (.getfield 120, 3) := by decide +kernel
theorem dX6_work_152 : decode cX6_work 152 = .ok (.iconst 1, 1) := by decide +kernel
theorem dX6_work_153 : decode cX6_work 153 = .ok (.isub, 1) := by decide +kernel
theorem dX6_work_154 : decode cX6_work 154 = .ok (.iaload, 1) := by decide +kernel
theorem dX6_work_155 : decode cX6_work 155 = .ok (.iload_n 2, 1) := by decide +kernel
theorem dX6_work_156 : decode cX6_work 156 = .ok (.if_icmp .ge 17, 3) := by decide +kernel
theorem dX6_work_159 : decode cX6_work 159 = .ok (.aload_n 0, 1) := by decide +kernel
theorem dX6_work_160 : decode cX6_work 160 = .ok (.getfield 16, 3) := by decide +kernel
theorem dX6_work_163 : decode cX6_work 163 = .ok (.aload_n 0, 1) := by decide +kernel
theorem dX6_work_164 : decode cX6_work 164 = .ok (.getfield 120, 3) := by decide +kernel
theorem dX6_work_167 : decode cX6_work 167 = .ok (.iconst 1, 1) := by decide +kernel
theorem dX6_work_168 : decode cX6_work 168 = .ok (.isub, 1) := by decide +kernel
theorem dX6_work_169 : decode cX6_work 169 = .ok (.iaload, 1) := by decide +kernel
theorem dX6_work_170 : decode cX6_work 170 = .ok (.goto 7, 3) := by decide +kernel
theorem dX6_work_173 : decode cX6_work 173 = .ok (.aload_n 0, 1) := by decide +kernel
theorem dX6_work_174 : decode cX6_work 174 = .ok (.getfield 102, 3) := by decide +kernel
theorem dX6_work_177 : decode cX6_work 177 = .ok (.putfield 102, 3) := by decide +kernel
theorem dX6_work_180 : decode cX6_work 180 = .ok (.aload_n 0, 1) := by decide +kernel
theorem dX6_work_181 : decode cX6_work 181 = .ok (.dup, 1) := by decide +kernel
theorem dX6_work_182 : decode cX6_work 182 = .ok (.getfield 120, 3) := by decide +kernel
theorem dX6_work_185 : decode cX6_work 185 = .ok (.aload_n 0, 1) := by decide +kernel
theorem dX6_work_186 : decode cX6_work 186 = .ok (.getfield 102, 3) := by decide +kernel
theorem dX6_work_189 : decode cX6_work 189 = .ok (.aload_n 0, 1) := by decide +kernel
theorem dX6_work_190 : decode cX6_work 190 = .ok (.getfield 16, 3) := by decide +kernel
theorem dX6_work_193 : decode cX6_work 193 = .ok (.aload_n 0, 1) := by decide +kernel
theorem dX6_work_194 : decode cX6_work 194 = .ok (.getfield 120, 3) := by decide +kernel
theorem dX6_work_197 : decode cX6_work 197 = .ok (.iconst 1, 1) := by decide +kernel
theorem dX6_work_198 : decode cX6_work 198 = .ok (.isub, 1) := by decide +kernel
theorem dX6_work_199 : decode cX6_work 199 = .ok (.iaload, 1) := by decide +kernel
theorem dX6_work_200 : decode cX6_work 200 = .ok (.if_icmp .ne 7, 3) := by decide +kernel
theorem dX6_work_203 : decode cX6_work 203 = .ok (.iconst 0, 1) := by decide +kernel
theorem dX6_work_204 : decode cX6_work 204 = .ok (.goto 4, 3) := by decide +kernel
theorem dX6_work_207 : decode cX6_work 207 = .ok (.iconst 1, 1) := by decide +kernel
theorem dX6_work_208 : decode cX6_work 208 = .ok (.isub, 1) := by decide +kernel
theorem dX6_work_209 : decode cX6_work 209 = .ok (.putfield 120, 3) := by decide +kernel
theorem dX6_work_212 : decode cX6_work 212 = .ok (.goto (-167), 3) := by decide +kernel
theorem dX6_work_215 : decode cX6_work 215 = .ok (.aload_n 0, 1) := by decide +kernel
theorem dX6_work_216 : decode cX6_work 216 = .ok (.invokevirtual 123, 3) := by decide +kernel
theorem dX6_work_219 : decode cX6_work 219 = .ok (.pop, 1) := by decide +kernel
theorem dX6_work_220 : decode cX6_work 220 = .ok (.iload_n 1, 1) := by decide +kernel
theorem dX6_work_221 : decode cX6_work 221 = .ok (.aload_n 0, 1) := by decide +kernel
theorem dX6_work_222 : decode cX6_work 222 = .ok (.iload_n 1, 1) := by decide +kernel
theorem dX6_work_223 : decode cX6_work 223 = .ok (.invokevirtual 129, 3) := by decide +kernel
theorem dX6_work_226 : decode cX6_work 226 = .ok (.iadd, 1) := by decide +kernel
theorem dX6_work_227 : decode cX6_work 227 = .ok (.istore_n 1, 1) := by decide +kernel
theorem dX6_work_228 : decode cX6_work 228 = .ok (.goto (-183), 3) := by decide +kernel
theorem dX6_work_231 : decode cX6_work 231 = .ok (.aload_n 0, 1) := by decide +kernel
theorem dX6_work_232 : decode cX6_work 232 = .ok (.iconst 0, 1) := by decide +kernel
theorem dX6_work_233 : decode cX6_work 233 = .ok (.putfield 99, 3) := by decide +kernel
theorem dX6_work_236 : decode cX6_work 236 = .ok (.iload_n 1, 1) := by decide +kernel
theorem dX6_work_237 : decode cX6_work 237 = .ok (.ireturn, 1) := by decide +kernel
theorem dX6_keep_0 : decode cX6_keep 0 = .ok (.aload_n 0, 1) := by decide +kernel
theorem dX6_keep_1 : decode cX6_keep 1 = .ok (.iconst 0, 1) := by decide +kernel
theorem dX6_keep_2 : decode cX6_keep 2 = .ok (.putfield 22, 3) := by decide +kernel
theorem dX6_keep_5 : decode cX6_keep 5 = .ok (.aload_n 0, 1) := by decide +kernel
theorem dX6_keep_6 : decode cX6_keep 6 = .ok (.iconst 0, 1) := by decide +kernel
theorem dX6_keep_7 : decode cX6_keep 7 = .ok (.bipush 7, 2) := by decide +kernel
theorem dX6_keep_9 : decode cX6_keep 9 = .ok (.invokevirtual 59, 3) := by decide +kernel
theorem dX6_keep_12 : decode cX6_keep 12 = .ok (.aload_n 0, 1) := by decide +kernel
theorem dX6_keep_13 : decode cX6_keep 13 = .ok (.iconst 1, 1) := by decide +kernel
theorem dX6_keep_14 : decode cX6_keep 14 = .ok (.putfield 132, 3) := by decide +kernel
theorem dX6_keep_17 : decode cX6_keep 17 = .ok (.aload_n 0, 1) := by decide +kernel
theorem dX6_keep_18 : decode cX6_keep 18 = .ok (.getfield 7, 3) := by decide +kernel
theorem dX6_keep_21 : decode cX6_keep 21 = .ok (.bipush 81, 2) := by decide +kernel
theorem dX6_keep_23 : decode cX6_keep 23 = .ok (.iaload, 1) := by decide +kernel
theorem dX6_keep_24 : decode cX6_keep 24 = .ok (.ireturn, 1) := by decide +kernel
theorem dX6_goBack_0 : decode cX6_goBack 0 = .ok (.aload_n 0, 1) := by decide +kernel
theorem dX6_goBack_1 : decode cX6_goBack 1 = .ok (.aload_n 0, 1) := by decide +kernel
theorem dX6_goBack_2 : decode cX6_goBack 2 = .ok (.getfield 132, 3) := by decide +kernel
theorem dX6_goBack_5 : decode cX6_goBack 5 = .ok (.ifCond .eq 7, 3) := by decide +kernel
theorem dX6_goBack_8 : decode cX6_goBack 8 = .ok (.iconst 0, 1) := by decide +kernel
theorem dX6_goBack_9 : decode cX6_goBack 9 = .ok (.goto 4, 3) := by decide +kernel
theorem dX6_goBack_12 : decode cX6_goBack 12 = .ok (.iconst 1, 1) := by decide +kernel
theorem dX6_goBack_13 : decode cX6_goBack 13 = .ok (.invokevirtual 63, 3) := by decide +kernel
theorem dX6_goBack_16 : decode cX6_goBack 16 = .ok (.ifCond .ne 5, 3) := by decide +kernel
theorem dX6_goBack_19 : decode cX6_goBack 19 = .ok (.iconst 0, 1) := by decide +kernel
theorem dX6_goBack_20 : decode cX6_goBack 20 = .ok (.ireturn, 1) := by decide +kernel
theorem dX6_goBack_21 : decode cX6_goBack 21 = .ok (.aload_n 0, 1) := by decide +kernel
theorem dX6_goBack_22 : decode cX6_goBack 22 = .ok (.invokevirtual 67, 3) := by decide +kernel
theorem dX6_goBack_25 : decode cX6_goBack 25 = .ok (.aload_n 0, 1) := by decide +kernel
theorem dX6_goBack_26 : decode cX6_goBack 26 = .ok (.bipush 7, 2) := by decide +kernel
theorem dX6_goBack_28 : decode cX6_goBack 28 = .ok (.iconst 0, 1) := by decide +kernel
theorem dX6_goBack_29 : decode cX6_goBack 29 = .ok (.invokevirtual 59, 3) := by decide +kernel
theorem dX6_goBack_32 : decode cX6_goBack 32 = .ok (.aload_n 0, 1) := by decide +kernel
theorem dX6_goBack_33 : decode cX6_goBack 33 = .ok (.getfield 7, 3) := by decide +kernel
theorem dX6_goBack_36 : decode cX6_goBack 36 = .ok (.bipush 81, 2) := by decide +kernel
theorem dX6_goBack_38 : decode cX6_goBack 38 = .ok (.iaload, 1) := by decide +kernel
theorem dX6_goBack_39 : decode cX6_goBack 39 = .ok (.ireturn, 1) := by decide +kernel
theorem dX6_undo_0 : decode cX6_undo 0 = .ok (.aload_n 0, 1) := by decide +kernel
theorem dX6_undo_1 : decode cX6_undo 1 = .ok (.aload_n 0, 1) := by decide +kernel
theorem dX6_undo_2 : decode cX6_undo 2 = .ok (.getfield 56, 3) := by decide +kernel
theorem dX6_undo_5 : decode cX6_undo 5 = .ok (.ifCond .le 7, 3) := by decide +kernel
theorem dX6_undo_8 : decode cX6_undo 8 = .ok (.iconst 0, 1) := by decide +kernel
theorem dX6_undo_9 : decode cX6_undo 9 = .ok (.goto 4, 3) := by decide +kernel
theorem dX6_undo_12 : decode cX6_undo 12 = .ok (.iconst 1, 1) := by decide +kernel
theorem dX6_undo_13 : decode cX6_undo 13 = .ok (.invokevirtual 63, 3) := by decide +kernel
theorem dX6_undo_16 : decode cX6_undo 16 = .ok (.ifCond .ne 5, 3) := by decide +kernel
theorem dX6_undo_19 : decode cX6_undo 19 = .ok (.iconst 0, 1) := by decide +kernel
theorem dX6_undo_20 : decode cX6_undo 20 = .ok (.ireturn, 1) := by decide +kernel
theorem dX6_undo_21 : decode cX6_undo 21 = .ok (.aload_n 0, 1) := by decide +kernel
theorem dX6_undo_22 : decode cX6_undo 22 = .ok (.aload_n 0, 1) := by decide +kernel
theorem dX6_undo_23 : decode cX6_undo 23 = .ok (.getfield 56, 3) := by decide +kernel
theorem dX6_undo_26 : decode cX6_undo 26 = .ok (.iconst 0, 1) := by decide +kernel
theorem dX6_undo_27 : decode cX6_undo 27 = .ok (.invokevirtual 59, 3) := by decide +kernel
theorem dX6_undo_30 : decode cX6_undo 30 = .ok (.aload_n 0, 1) := by decide +kernel
theorem dX6_undo_31 : decode cX6_undo 31 = .ok (.dup, 1) := by decide +kernel
