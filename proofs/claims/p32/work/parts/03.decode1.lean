theorem dX5_clutch_46 : decode cX5_clutch 46 = .ok (.getfield 106, 3) := by decide +kernel
theorem dX5_clutch_49 : decode cX5_clutch 49 = .ok (.iload_n 1, 1) := by decide +kernel
theorem dX5_clutch_50 : decode cX5_clutch 50 = .ok (.baload, 1) := by decide +kernel
theorem dX5_clutch_51 : decode cX5_clutch 51 = .ok (.invokestatic 77, 3) := by decide +kernel
theorem dX5_clutch_54 : decode cX5_clutch 54 = .ok (.ireturn, 1) := by decide +kernel
theorem dX5_hand_0 : decode cX5_hand 0 = .ok (.iload_n 1, 1) := by decide +kernel
theorem dX5_hand_1 : decode cX5_hand 1 = .ok (.invokestatic 97, 3) := by decide +kernel
theorem dX5_hand_4 : decode cX5_hand 4 = .ok (.ifCond .ne 13, 3) := by decide +kernel
theorem dX5_hand_7 : decode cX5_hand 7 = .ok (.new 84, 3) := by decide +kernel
theorem dX5_hand_10 : decode cX5_hand 10 = .ok (.dup, 1) := by decide +kernel
theorem dX5_hand_11 : decode cX5_hand 11 = .ok (.ldc 101, 2) := by decide +kernel
theorem dX5_hand_13 : decode cX5_hand 13 = .ok (.invokespecial 88, 3) := by decide +kernel
theorem dX5_hand_16 : decode cX5_hand 16 = .ok (.athrow, 1) := by decide +kernel
theorem dX5_hand_17 : decode cX5_hand 17 = .ok (.iload_n 2, 1) := by decide +kernel
theorem dX5_hand_18 : decode cX5_hand 18 = .ok (.iconst 1, 1) := by decide +kernel
theorem dX5_hand_19 : decode cX5_hand 19 = .ok (.if_icmp .lt 9, 3) := by decide +kernel
theorem dX5_hand_22 : decode cX5_hand 22 = .ok (.iload_n 2, 1) := by decide +kernel
theorem dX5_hand_23 : decode cX5_hand 23 = .ok (.bipush 11, 2) := by decide +kernel
theorem dX5_hand_25 : decode cX5_hand 25 = .ok (.if_icmp .le 13, 3) := by decide +kernel
theorem dX5_hand_28 : decode cX5_hand 28 = .ok (.new 51, 3) := by decide +kernel
theorem dX5_hand_31 : decode cX5_hand 31 = .ok (.dup, 1) := by decide +kernel
theorem dX5_hand_32 : decode cX5_hand 32 = .ok (.ldc 109, 2) := by decide +kernel
theorem dX5_hand_34 : decode cX5_hand 34 = .ok (.invokespecial 55, 3) := by decide +kernel
theorem dX5_hand_37 : decode cX5_hand 37 = .ok (.athrow, 1) := by decide +kernel
theorem dX5_hand_38 : decode cX5_hand 38 = .ok (.aload_n 0, 1) := by decide +kernel
theorem dX5_hand_39 : decode cX5_hand 39 = .ok (.getfield 10, 3) := by decide +kernel
theorem dX5_hand_42 : decode cX5_hand 42 = .ok (.getfield 62, 3) := by decide +kernel
theorem dX5_hand_45 : decode cX5_hand 45 = .ok (.getfield 106, 3) := by decide +kernel
theorem dX5_hand_48 : decode cX5_hand 48 = .ok (.iload_n 1, 1) := by decide +kernel
theorem dX5_hand_49 : decode cX5_hand 49 = .ok (.baload, 1) := by decide +kernel
theorem dX5_hand_50 : decode cX5_hand 50 = .ok (.ifCond .eq 13, 3) := by decide +kernel
theorem dX5_hand_53 : decode cX5_hand 53 = .ok (.new 111, 3) := by decide +kernel
theorem dX5_hand_56 : decode cX5_hand 56 = .ok (.dup, 1) := by decide +kernel
theorem dX5_hand_57 : decode cX5_hand 57 = .ok (.ldc 113, 2) := by decide +kernel
theorem dX5_hand_59 : decode cX5_hand 59 = .ok (.invokespecial 115, 3) := by decide +kernel
theorem dX5_hand_62 : decode cX5_hand 62 = .ok (.athrow, 1) := by decide +kernel
theorem dX5_hand_63 : decode cX5_hand 63 = .ok (.aload_n 0, 1) := by decide +kernel
theorem dX5_hand_64 : decode cX5_hand 64 = .ok (.getfield 47, 3) := by decide +kernel
theorem dX5_hand_67 : decode cX5_hand 67 = .ok (.aload_n 0, 1) := by decide +kernel
theorem dX5_hand_68 : decode cX5_hand 68 = .ok (.getfield 10, 3) := by decide +kernel
theorem dX5_hand_71 : decode cX5_hand 71 = .ok (.getfield 62, 3) := by decide +kernel
theorem dX5_hand_74 : decode cX5_hand 74 = .ok (.invokevirtual 116, 3) := by decide +kernel
theorem dX5_hand_77 : decode cX5_hand 77 = .ok (.aload_n 0, 1) := by decide +kernel
theorem dX5_hand_78 : decode cX5_hand 78 = .ok (.getfield 47, 3) := by decide +kernel
theorem dX5_hand_81 : decode cX5_hand 81 = .ok (.iload_n 1, 1) := by decide +kernel
theorem dX5_hand_82 : decode cX5_hand 82 = .ok (.iload_n 2, 1) := by decide +kernel
theorem dX5_hand_83 : decode cX5_hand 83 = .ok (.invokevirtual 120, 3) := by decide +kernel
theorem dX5_hand_86 : decode cX5_hand 86 = .ok (.aload_n 0, 1) := by decide +kernel
theorem dX5_hand_87 : decode cX5_hand 87 = .ok (.getfield 47, 3) := by decide +kernel
theorem dX5_hand_90 : decode cX5_hand 90 = .ok (.iconst 0, 1) := by decide +kernel
theorem dX5_hand_91 : decode cX5_hand 91 = .ok (.aload_n 0, 1) := by decide +kernel
theorem dX5_hand_92 : decode cX5_hand 92 = .ok (.getfield 10, 3) := by decide +kernel
theorem dX5_hand_95 : decode cX5_hand 95 = .ok (.getfield 124, 3) := by decide +kernel
theorem dX5_hand_98 : decode cX5_hand 98 = .ok (.invokevirtual 128, 3) := by decide +kernel
theorem dX5_hand_101 : decode cX5_hand 101 = .ok (.ifCond .eq 13, 3) := by decide +kernel
theorem dX5_hand_104 : decode cX5_hand 104 = .ok (.new 111, 3) := by decide +kernel
theorem dX5_hand_107 : decode cX5_hand 107 = .ok (.dup, 1) := by decide +kernel
theorem dX5_hand_108 : decode cX5_hand 108 = .ok (.ldc 132, 2) := by decide +kernel
theorem dX5_hand_110 : decode cX5_hand 110 = .ok (.invokespecial 115, 3) := by decide +kernel
theorem dX5_hand_113 : decode cX5_hand 113 = .ok (.athrow, 1) := by decide +kernel
theorem dX5_hand_114 : decode cX5_hand 114 = .ok (.aload_n 0, 1) := by decide +kernel
theorem dX5_hand_115 : decode cX5_hand 115 = .ok (.getfield 26, 3) := by decide +kernel
theorem dX5_hand_118 : decode cX5_hand 118 = .ok (.aload_n 0, 1) := by decide +kernel
theorem dX5_hand_119 : decode cX5_hand 119 = .ok (.getfield 10, 3) := by decide +kernel
theorem dX5_hand_122 : decode cX5_hand 122 = .ok (.invokevirtual 58, 3) := by decide +kernel
theorem dX5_hand_125 : decode cX5_hand 125 = .ok (.aload_n 0, 1) := by decide +kernel
theorem dX5_hand_126 : decode cX5_hand 126 = .ok (.getfield 10, 3) := by decide +kernel
theorem dX5_hand_129 : decode cX5_hand 129 = .ok (.getfield 62, 3) := by decide +kernel
theorem dX5_hand_132 : decode cX5_hand 132 = .ok (.iload_n 1, 1) := by decide +kernel
theorem dX5_hand_133 : decode cX5_hand 133 = .ok (.iload_n 2, 1) := by decide +kernel
theorem dX5_hand_134 : decode cX5_hand 134 = .ok (.invokevirtual 120, 3) := by decide +kernel
theorem dX5_hand_137 : decode cX5_hand 137 = .ok (.aload_n 0, 1) := by decide +kernel
theorem dX5_hand_138 : decode cX5_hand 138 = .ok (.getfield 10, 3) := by decide +kernel
theorem dX5_hand_141 : decode cX5_hand 141 = .ok (.getfield 62, 3) := by decide +kernel
theorem dX5_hand_144 : decode cX5_hand 144 = .ok (.getfield 134, 3) := by decide +kernel
theorem dX5_hand_147 : decode cX5_hand 147 = .ok (.iload_n 1, 1) := by decide +kernel
theorem dX5_hand_148 : decode cX5_hand 148 = .ok (.iaload, 1) := by decide +kernel
theorem dX5_hand_149 : decode cX5_hand 149 = .ok (.ireturn, 1) := by decide +kernel
theorem dX5_file_0 : decode cX5_file 0 = .ok (.aload_n 0, 1) := by decide +kernel
theorem dX5_file_1 : decode cX5_file 1 = .ok (.iload_n 1, 1) := by decide +kernel
theorem dX5_file_2 : decode cX5_file 2 = .ok (.iload_n 2, 1) := by decide +kernel
theorem dX5_file_3 : decode cX5_file 3 = .ok (.invokevirtual 138, 3) := by decide +kernel
theorem dX5_file_6 : decode cX5_file 6 = .ok (.ifCond .ne 13, 3) := by decide +kernel
theorem dX5_file_9 : decode cX5_file 9 = .ok (.new 84, 3) := by decide +kernel
theorem dX5_file_12 : decode cX5_file 12 = .ok (.dup, 1) := by decide +kernel
theorem dX5_file_13 : decode cX5_file 13 = .ok (.ldc 142, 2) := by decide +kernel
theorem dX5_file_15 : decode cX5_file 15 = .ok (.invokespecial 88, 3) := by decide +kernel
theorem dX5_file_18 : decode cX5_file 18 = .ok (.athrow, 1) := by decide +kernel
theorem dX5_file_19 : decode cX5_file 19 = .ok (.iload_n 3, 1) := by decide +kernel
theorem dX5_file_20 : decode cX5_file 20 = .ok (.invokestatic 144, 3) := by decide +kernel
theorem dX5_file_23 : decode cX5_file 23 = .ok (.ifCond .ne 13, 3) := by decide +kernel
theorem dX5_file_26 : decode cX5_file 26 = .ok (.new 51, 3) := by decide +kernel
theorem dX5_file_29 : decode cX5_file 29 = .ok (.dup, 1) := by decide +kernel
theorem dX5_file_30 : decode cX5_file 30 = .ok (.ldc 147, 2) := by decide +kernel
theorem dX5_file_32 : decode cX5_file 32 = .ok (.invokespecial 55, 3) := by decide +kernel
theorem dX5_file_35 : decode cX5_file 35 = .ok (.athrow, 1) := by decide +kernel
theorem dX5_file_36 : decode cX5_file 36 = .ok (.aload_n 0, 1) := by decide +kernel
theorem dX5_file_37 : decode cX5_file 37 = .ok (.getfield 47, 3) := by decide +kernel
theorem dX5_file_40 : decode cX5_file 40 = .ok (.aload_n 0, 1) := by decide +kernel
theorem dX5_file_41 : decode cX5_file 41 = .ok (.getfield 10, 3) := by decide +kernel
theorem dX5_file_44 : decode cX5_file 44 = .ok (.getfield 62, 3) := by decide +kernel
theorem dX5_file_47 : decode cX5_file 47 = .ok (.invokevirtual 116, 3) := by decide +kernel
theorem dX5_file_50 : decode cX5_file 50 = .ok (.aload_n 0, 1) := by decide +kernel
theorem dX5_file_51 : decode cX5_file 51 = .ok (.getfield 47, 3) := by decide +kernel
theorem dX5_file_54 : decode cX5_file 54 = .ok (.iload_n 1, 1) := by decide +kernel
theorem dX5_file_55 : decode cX5_file 55 = .ok (.iload_n 2, 1) := by decide +kernel
theorem dX5_file_56 : decode cX5_file 56 = .ok (.iload_n 3, 1) := by decide +kernel
theorem dX5_file_57 : decode cX5_file 57 = .ok (.invokevirtual 149, 3) := by decide +kernel
theorem dX5_file_60 : decode cX5_file 60 = .ok (.aload_n 0, 1) := by decide +kernel
theorem dX5_file_61 : decode cX5_file 61 = .ok (.getfield 47, 3) := by decide +kernel
theorem dX5_file_64 : decode cX5_file 64 = .ok (.iconst 0, 1) := by decide +kernel
theorem dX5_file_65 : decode cX5_file 65 = .ok (.aload_n 0, 1) := by decide +kernel
theorem dX5_file_66 : decode cX5_file 66 = .ok (.getfield 10, 3) := by decide +kernel
theorem dX5_file_69 : decode cX5_file 69 = .ok (.getfield 124, 3) := by decide +kernel
theorem dX5_file_72 : decode cX5_file 72 = .ok (.invokevirtual 128, 3) := by decide +kernel
theorem dX5_file_75 : decode cX5_file 75 = .ok (.ifCond .eq 13, 3) := by decide +kernel
theorem dX5_file_78 : decode cX5_file 78 = .ok (.new 111, 3) := by decide +kernel
theorem dX5_file_81 : decode cX5_file 81 = .ok (.dup, 1) := by decide +kernel
theorem dX5_file_82 : decode cX5_file 82 = .ok (.ldc 132, 2) := by decide +kernel
theorem dX5_file_84 : decode cX5_file 84 = .ok (.invokespecial 115, 3) := by decide +kernel
theorem dX5_file_87 : decode cX5_file 87 = .ok (.athrow, 1) := by decide +kernel
theorem dX5_file_88 : decode cX5_file 88 = .ok (.aload_n 0, 1) := by decide +kernel
theorem dX5_file_89 : decode cX5_file 89 = .ok (.getfield 26, 3) := by decide +kernel
theorem dX5_file_92 : decode cX5_file 92 = .ok (.aload_n 0, 1) := by decide +kernel
theorem dX5_file_93 : decode cX5_file 93 = .ok (.getfield 10, 3) := by decide +kernel
theorem dX5_file_96 : decode cX5_file 96 = .ok (.invokevirtual 58, 3) := by decide +kernel
theorem dX5_file_99 : decode cX5_file 99 = .ok (.aload_n 0, 1) := by decide +kernel
theorem dX5_file_100 : decode cX5_file 100 = .ok (.getfield 10, 3) := by decide +kernel
theorem dX5_file_103 : decode cX5_file 103 = .ok (.getfield 62, 3) := by decide +kernel
theorem dX5_file_106 : decode cX5_file 106 = .ok (.iload_n 1, 1) := by decide +kernel
theorem dX5_file_107 : decode cX5_file 107 = .ok (.iload_n 2, 1) := by decide +kernel
theorem dX5_file_108 : decode cX5_file 108 = .ok (.invokevirtual 153, 3) := by decide +kernel
theorem dX5_file_111 : decode cX5_file 111 = .ok (.istore 4, 2) := by decide +kernel
theorem dX5_file_113 : decode cX5_file 113 = .ok (.aload_n 0, 1) := by decide +kernel
theorem dX5_file_114 : decode cX5_file 114 = .ok (.getfield 10, 3) := by decide +kernel
theorem dX5_file_117 : decode cX5_file 117 = .ok (.getfield 62, 3) := by decide +kernel
theorem dX5_file_120 : decode cX5_file 120 = .ok (.iload_n 1, 1) := by decide +kernel
theorem dX5_file_121 : decode cX5_file 121 = .ok (.iload_n 2, 1) := by decide +kernel
theorem dX5_file_122 : decode cX5_file 122 = .ok (.iload_n 3, 1) := by decide +kernel
theorem dX5_file_123 : decode cX5_file 123 = .ok (.invokevirtual 149, 3) := by decide +kernel
theorem dX5_file_126 : decode cX5_file 126 = .ok (.iload 4, 2) := by decide +kernel
theorem dX5_file_128 : decode cX5_file 128 = .ok (.ireturn, 1) := by decide +kernel
theorem dX5_change_0 : decode cX5_change 0 = .ok (.iload_n 1, 1) := by decide +kernel
theorem dX5_change_1 : decode cX5_change 1 = .ok (.invokestatic 97, 3) := by decide +kernel
theorem dX5_change_4 : decode cX5_change 4 = .ok (.ifCond .ne 13, 3) := by decide +kernel
theorem dX5_change_7 : decode cX5_change 7 = .ok (.new 84, 3) := by decide +kernel
theorem dX5_change_10 : decode cX5_change 10 = .ok (.dup, 1) := by decide +kernel
theorem dX5_change_11 : decode cX5_change 11 = .ok (.ldc 101, 2) := by decide +kernel
theorem dX5_change_13 : decode cX5_change 13 = .ok (.invokespecial 88, 3) := by decide +kernel
theorem dX5_change_16 : decode cX5_change 16 = .ok (.athrow, 1) := by decide +kernel
theorem dX5_change_17 : decode cX5_change 17 = .ok (.iload_n 2, 1) := by decide +kernel
theorem dX5_change_18 : decode cX5_change 18 = .ok (.iconst 2, 1) := by decide +kernel
theorem dX5_change_19 : decode cX5_change 19 = .ok (.if_icmp .lt 9, 3) := by decide +kernel
theorem dX5_change_22 : decode cX5_change 22 = .ok (.iload_n 2, 1) := by decide +kernel
theorem dX5_change_23 : decode cX5_change 23 = .ok (.bipush 12, 2) := by decide +kernel
theorem dX5_change_25 : decode cX5_change 25 = .ok (.if_icmp .le 13, 3) := by decide +kernel
theorem dX5_change_28 : decode cX5_change 28 = .ok (.new 51, 3) := by decide +kernel
theorem dX5_change_31 : decode cX5_change 31 = .ok (.dup, 1) := by decide +kernel
theorem dX5_change_32 : decode cX5_change 32 = .ok (.ldc 156, 2) := by decide +kernel
theorem dX5_change_34 : decode cX5_change 34 = .ok (.invokespecial 55, 3) := by decide +kernel
theorem dX5_change_37 : decode cX5_change 37 = .ok (.athrow, 1) := by decide +kernel
theorem dX5_change_38 : decode cX5_change 38 = .ok (.aload_n 0, 1) := by decide +kernel
theorem dX5_change_39 : decode cX5_change 39 = .ok (.getfield 26, 3) := by decide +kernel
theorem dX5_change_42 : decode cX5_change 42 = .ok (.aload_n 0, 1) := by decide +kernel
theorem dX5_change_43 : decode cX5_change 43 = .ok (.getfield 10, 3) := by decide +kernel
theorem dX5_change_46 : decode cX5_change 46 = .ok (.invokevirtual 58, 3) := by decide +kernel
theorem dX5_change_49 : decode cX5_change 49 = .ok (.aload_n 0, 1) := by decide +kernel
theorem dX5_change_50 : decode cX5_change 50 = .ok (.getfield 10, 3) := by decide +kernel
theorem dX5_change_53 : decode cX5_change 53 = .ok (.getfield 62, 3) := by decide +kernel
theorem dX5_change_56 : decode cX5_change 56 = .ok (.getfield 158, 3) := by decide +kernel
theorem dX5_change_59 : decode cX5_change 59 = .ok (.iload_n 1, 1) := by decide +kernel
theorem dX5_change_60 : decode cX5_change 60 = .ok (.iaload, 1) := by decide +kernel
theorem dX5_change_61 : decode cX5_change 61 = .ok (.istore_n 3, 1) := by decide +kernel
theorem dX5_change_62 : decode cX5_change 62 = .ok (.aload_n 0, 1) := by decide +kernel
theorem dX5_change_63 : decode cX5_change 63 = .ok (.getfield 10, 3) := by decide +kernel
theorem dX5_change_66 : decode cX5_change 66 = .ok (.getfield 62, 3) := by decide +kernel
theorem dX5_change_69 : decode cX5_change 69 = .ok (.iload_n 1, 1) := by decide +kernel
theorem dX5_change_70 : decode cX5_change 70 = .ok (.iload_n 2, 1) := by decide +kernel
theorem dX5_change_71 : decode cX5_change 71 = .ok (.invokevirtual 161, 3) := by decide +kernel
theorem dX5_change_74 : decode cX5_change 74 = .ok (.iload_n 3, 1) := by decide +kernel
theorem dX5_change_75 : decode cX5_change 75 = .ok (.ireturn, 1) := by decide +kernel
theorem dX5_set_0 : decode cX5_set 0 = .ok (.iload_n 1, 1) := by decide +kernel
theorem dX5_set_1 : decode cX5_set 1 = .ok (.invokestatic 144, 3) := by decide +kernel
theorem dX5_set_4 : decode cX5_set 4 = .ok (.ifCond .ne 13, 3) := by decide +kernel
theorem dX5_set_7 : decode cX5_set 7 = .ok (.new 51, 3) := by decide +kernel
theorem dX5_set_10 : decode cX5_set 10 = .ok (.dup, 1) := by decide +kernel
theorem dX5_set_11 : decode cX5_set 11 = .ok (.ldc 147, 2) := by decide +kernel
theorem dX5_set_13 : decode cX5_set 13 = .ok (.invokespecial 55, 3) := by decide +kernel
theorem dX5_set_16 : decode cX5_set 16 = .ok (.athrow, 1) := by decide +kernel
theorem dX5_set_17 : decode cX5_set 17 = .ok (.aload_n 0, 1) := by decide +kernel
theorem dX5_set_18 : decode cX5_set 18 = .ok (.getfield 10, 3) := by decide +kernel
theorem dX5_set_21 : decode cX5_set 21 = .ok (.getfield 62, 3) := by decide +kernel
theorem dX5_set_24 : decode cX5_set 24 = .ok (.iconst 0, 1) := by decide +kernel
theorem dX5_set_25 : decode cX5_set 25 = .ok (.iload_n 1, 1) := by decide +kernel
theorem dX5_set_26 : decode cX5_set 26 = .ok (.invokevirtual 128, 3) := by decide +kernel
theorem dX5_set_29 : decode cX5_set 29 = .ok (.ifCond .eq 13, 3) := by decide +kernel
theorem dX5_set_32 : decode cX5_set 32 = .ok (.new 111, 3) := by decide +kernel
theorem dX5_set_35 : decode cX5_set 35 = .ok (.dup, 1) := by decide +kernel
theorem dX5_set_36 : decode cX5_set 36 = .ok (.ldc 132, 2) := by decide +kernel
theorem dX5_set_38 : decode cX5_set 38 = .ok (.invokespecial 115, 3) := by decide +kernel
theorem dX5_set_41 : decode cX5_set 41 = .ok (.athrow, 1) := by decide +kernel
theorem dX5_set_42 : decode cX5_set 42 = .ok (.aload_n 0, 1) := by decide +kernel
theorem dX5_set_43 : decode cX5_set 43 = .ok (.getfield 26, 3) := by decide +kernel
theorem dX5_set_46 : decode cX5_set 46 = .ok (.aload_n 0, 1) := by decide +kernel
theorem dX5_set_47 : decode cX5_set 47 = .ok (.getfield 10, 3) := by decide +kernel
theorem dX5_set_50 : decode cX5_set 50 = .ok (.invokevirtual 58, 3) := by decide +kernel
theorem dX5_set_53 : decode cX5_set 53 = .ok (.aload_n 0, 1) := by decide +kernel
theorem dX5_set_54 : decode cX5_set 54 = .ok (.getfield 10, 3) := by decide +kernel
theorem dX5_set_57 : decode cX5_set 57 = .ok (.getfield 124, 3) := by decide +kernel
theorem dX5_set_60 : decode cX5_set 60 = .ok (.istore_n 2, 1) := by decide +kernel
theorem dX5_set_61 : decode cX5_set 61 = .ok (.aload_n 0, 1) := by decide +kernel
theorem dX5_set_62 : decode cX5_set 62 = .ok (.getfield 10, 3) := by decide +kernel
theorem dX5_set_65 : decode cX5_set 65 = .ok (.iload_n 1, 1) := by decide +kernel
theorem dX5_set_66 : decode cX5_set 66 = .ok (.putfield 124, 3) := by decide +kernel
theorem dX5_set_69 : decode cX5_set 69 = .ok (.iload_n 2, 1) := by decide +kernel
theorem dX5_set_70 : decode cX5_set 70 = .ok (.ireturn, 1) := by decide +kernel
theorem dX5_remember_0 : decode cX5_remember 0 = .ok (.aload_n 0, 1) := by decide +kernel
theorem dX5_remember_1 : decode cX5_remember 1 = .ok (.getfield 10, 3) := by decide +kernel
theorem dX5_remember_4 : decode cX5_remember 4 = .ok (.getfield 164, 3) := by decide +kernel
theorem dX5_remember_7 : decode cX5_remember 7 = .ok (.bipush 6, 2) := by decide +kernel
theorem dX5_remember_9 : decode cX5_remember 9 = .ok (.if_icmp .lt 13, 3) := by decide +kernel
theorem dX5_remember_12 : decode cX5_remember 12 = .ok (.new 111, 3) := by decide +kernel
theorem dX5_remember_15 : decode cX5_remember 15 = .ok (.dup, 1) := by decide +kernel
theorem dX5_remember_16 : decode cX5_remember 16 = .ok (.ldc 167, 2) := by decide +kernel
theorem dX5_remember_18 : decode cX5_remember 18 = .ok (.invokespecial 115, 3) := by decide +kernel
theorem dX5_remember_21 : decode cX5_remember 21 = .ok (.athrow, 1) := by decide +kernel
theorem dX5_remember_22 : decode cX5_remember 22 = .ok (.aload_n 0, 1) := by decide +kernel
theorem dX5_remember_23 : decode cX5_remember 23 = .ok (.getfield 26, 3) := by decide +kernel
theorem dX5_remember_26 : decode cX5_remember 26 = .ok (.aload_n 0, 1) := by decide +kernel
theorem dX5_remember_27 : decode cX5_remember 27 = .ok (.getfield 10, 3) := by decide +kernel
theorem dX5_remember_30 : decode cX5_remember 30 = .ok (.invokevirtual 58, 3) := by decide +kernel
theorem dX5_remember_33 : decode cX5_remember 33 = .ok (.aload_n 0, 1) := by decide +kernel
theorem dX5_remember_34 : decode cX5_remember 34 = .ok (.getfield 10, 3) := by decide +kernel
theorem dX5_remember_37 : decode cX5_remember 37 = .ok (.invokevirtual 169, 3) := by decide +kernel
theorem dX5_remember_40 : decode cX5_remember 40 = .ok (.aload_n 0, 1) := by decide +kernel
theorem dX5_remember_41 : decode cX5_remember 41 = .ok (.getfield 10, 3) := by decide +kernel
theorem dX5_remember_44 : decode cX5_remember 44 = .ok (.getfield 164, 3) := by decide +kernel
theorem dX5_remember_47 : decode cX5_remember 47 = .ok (.iconst 1, 1) := by decide +kernel
theorem dX5_remember_48 : decode cX5_remember 48 = .ok (.isub, 1) := by decide +kernel
theorem dX5_remember_49 : decode cX5_remember 49 = .ok (.ireturn, 1) := by decide +kernel
theorem dX5_forget_0 : decode cX5_forget 0 = .ok (.aload_n 0, 1) := by decide +kernel
theorem dX5_forget_1 : decode cX5_forget 1 = .ok (.iload_n 1, 1) := by decide +kernel
theorem dX5_forget_2 : decode cX5_forget 2 = .ok (.invokevirtual 172, 3) := by decide +kernel
theorem dX5_forget_5 : decode cX5_forget 5 = .ok (.ifCond .ne 13, 3) := by decide +kernel
theorem dX5_forget_8 : decode cX5_forget 8 = .ok (.new 84, 3) := by decide +kernel
theorem dX5_forget_11 : decode cX5_forget 11 = .ok (.dup, 1) := by decide +kernel
theorem dX5_forget_12 : decode cX5_forget 12 = .ok (.ldc 175, 2) := by decide +kernel
theorem dX5_forget_14 : decode cX5_forget 14 = .ok (.invokespecial 88, 3) := by decide +kernel
theorem dX5_forget_17 : decode cX5_forget 17 = .ok (.athrow, 1) := by decide +kernel
theorem dX5_forget_18 : decode cX5_forget 18 = .ok (.aload_n 0, 1) := by decide +kernel
theorem dX5_forget_19 : decode cX5_forget 19 = .ok (.getfield 26, 3) := by decide +kernel
theorem dX5_forget_22 : decode cX5_forget 22 = .ok (.aload_n 0, 1) := by decide +kernel
theorem dX5_forget_23 : decode cX5_forget 23 = .ok (.getfield 10, 3) := by decide +kernel
theorem dX5_forget_26 : decode cX5_forget 26 = .ok (.invokevirtual 58, 3) := by decide +kernel
theorem dX5_forget_29 : decode cX5_forget 29 = .ok (.aload_n 0, 1) := by decide +kernel
theorem dX5_forget_30 : decode cX5_forget 30 = .ok (.getfield 10, 3) := by decide +kernel
theorem dX5_forget_33 : decode cX5_forget 33 = .ok (.iload_n 1, 1) := by decide +kernel
theorem dX5_forget_34 : decode cX5_forget 34 = .ok (.invokevirtual 177, 3) := by decide +kernel
theorem dX5_forget_37 : decode cX5_forget 37 = .ok (.aload_n 0, 1) := by decide +kernel
theorem dX5_forget_38 : decode cX5_forget 38 = .ok (.getfield 10, 3) := by decide +kernel
theorem dX5_forget_41 : decode cX5_forget 41 = .ok (.getfield 164, 3) := by decide +kernel
theorem dX5_forget_44 : decode cX5_forget 44 = .ok (.ireturn, 1) := by decide +kernel
theorem dX5_keep_0 : decode cX5_keep 0 = .ok (.aload_n 0, 1) := by decide +kernel
theorem dX5_keep_1 : decode cX5_keep 1 = .ok (.getfield 16, 3) := by decide +kernel
theorem dX5_keep_4 : decode cX5_keep 4 = .ok (.aload_n 0, 1) := by decide +kernel
theorem dX5_keep_5 : decode cX5_keep 5 = .ok (.getfield 10, 3) := by decide +kernel
theorem dX5_keep_8 : decode cX5_keep 8 = .ok (.invokevirtual 202, 3) := by decide +kernel
theorem dX5_keep_11 : decode cX5_keep 11 = .ok (.aload_n 0, 1) := by decide +kernel
theorem dX5_keep_12 : decode cX5_keep 12 = .ok (.iconst 1, 1) := by decide +kernel
theorem dX5_keep_13 : decode cX5_keep 13 = .ok (.putfield 19, 3) := by decide +kernel
theorem dX5_keep_16 : decode cX5_keep 16 = .ok (.aload_n 0, 1) := by decide +kernel
theorem dX5_keep_17 : decode cX5_keep 17 = .ok (.getfield 10, 3) := by decide +kernel
theorem dX5_keep_20 : decode cX5_keep 20 = .ok (.getfield 164, 3) := by decide +kernel
theorem dX5_keep_23 : decode cX5_keep 23 = .ok (.ireturn, 1) := by decide +kernel
theorem dX5_goBack_0 : decode cX5_goBack 0 = .ok (.aload_n 0, 1) := by decide +kernel
theorem dX5_goBack_1 : decode cX5_goBack 1 = .ok (.getfield 19, 3) := by decide +kernel
theorem dX5_goBack_4 : decode cX5_goBack 4 = .ok (.ifCond .ne 13, 3) := by decide +kernel
theorem dX5_goBack_7 : decode cX5_goBack 7 = .ok (.new 111, 3) := by decide +kernel
theorem dX5_goBack_10 : decode cX5_goBack 10 = .ok (.dup, 1) := by decide +kernel
theorem dX5_goBack_11 : decode cX5_goBack 11 = .ok (.ldc 204, 2) := by decide +kernel
theorem dX5_goBack_13 : decode cX5_goBack 13 = .ok (.invokespecial 115, 3) := by decide +kernel
theorem dX5_goBack_16 : decode cX5_goBack 16 = .ok (.athrow, 1) := by decide +kernel
theorem dX5_goBack_17 : decode cX5_goBack 17 = .ok (.aload_n 0, 1) := by decide +kernel
theorem dX5_goBack_18 : decode cX5_goBack 18 = .ok (.getfield 26, 3) := by decide +kernel
theorem dX5_goBack_21 : decode cX5_goBack 21 = .ok (.aload_n 0, 1) := by decide +kernel
theorem dX5_goBack_22 : decode cX5_goBack 22 = .ok (.getfield 10, 3) := by decide +kernel
theorem dX5_goBack_25 : decode cX5_goBack 25 = .ok (.invokevirtual 58, 3) := by decide +kernel
theorem dX5_goBack_28 : decode cX5_goBack 28 = .ok (.aload_n 0, 1) := by decide +kernel
theorem dX5_goBack_29 : decode cX5_goBack 29 = .ok (.getfield 10, 3) := by decide +kernel
theorem dX5_goBack_32 : decode cX5_goBack 32 = .ok (.aload_n 0, 1) := by decide +kernel
theorem dX5_goBack_33 : decode cX5_goBack 33 = .ok (.getfield 16, 3) := by decide +kernel
theorem dX5_goBack_36 : decode cX5_goBack 36 = .ok (.invokevirtual 202, 3) := by decide +kernel
theorem dX5_goBack_39 : decode cX5_goBack 39 = .ok (.aload_n 0, 1) := by decide +kernel
theorem dX5_goBack_40 : decode cX5_goBack 40 = .ok (.getfield 10, 3) := by decide +kernel
theorem dX5_goBack_43 : decode cX5_goBack 43 = .ok (.getfield 164, 3) := by decide +kernel
theorem dX5_goBack_46 : decode cX5_goBack 46 = .ok (.ireturn, 1) := by decide +kernel
theorem dX5_undo_0 : decode cX5_undo 0 = .ok (.aload_n 0, 1) := by decide +kernel
theorem dX5_undo_1 : decode cX5_undo 1 = .ok (.getfield 26, 3) := by decide +kernel
theorem dX5_undo_4 : decode cX5_undo 4 = .ok (.getfield 206, 3) := by decide +kernel
theorem dX5_undo_7 : decode cX5_undo 7 = .ok (.ifCond .ne 13, 3) := by decide +kernel
theorem dX5_undo_10 : decode cX5_undo 10 = .ok (.new 111, 3) := by decide +kernel
theorem dX5_undo_13 : decode cX5_undo 13 = .ok (.dup, 1) := by decide +kernel
theorem dX5_undo_14 : decode cX5_undo 14 = .ok (.ldc 209, 2) := by decide +kernel
theorem dX5_undo_16 : decode cX5_undo 16 = .ok (.invokespecial 115, 3) := by decide +kernel
theorem dX5_undo_19 : decode cX5_undo 19 = .ok (.athrow, 1) := by decide +kernel
theorem dX5_undo_20 : decode cX5_undo 20 = .ok (.aload_n 0, 1) := by decide +kernel
theorem dX5_undo_21 : decode cX5_undo 21 = .ok (.getfield 26, 3) := by decide +kernel
theorem dX5_undo_24 : decode cX5_undo 24 = .ok (.aload_n 0, 1) := by decide +kernel
theorem dX5_undo_25 : decode cX5_undo 25 = .ok (.getfield 10, 3) := by decide +kernel
theorem dX5_undo_28 : decode cX5_undo 28 = .ok (.invokevirtual 211, 3) := by decide +kernel
theorem dX5_undo_31 : decode cX5_undo 31 = .ok (.aload_n 0, 1) := by decide +kernel
theorem dX5_undo_32 : decode cX5_undo 32 = .ok (.getfield 26, 3) := by decide +kernel
theorem dX5_undo_35 : decode cX5_undo 35 = .ok (.getfield 206, 3) := by decide +kernel
theorem dX5_undo_38 : decode cX5_undo 38 = .ok (.ireturn, 1) := by decide +kernel
theorem dX5_wheel_0 : decode cX5_wheel 0 = .ok (.iload_n 1, 1) := by decide +kernel
theorem dX5_wheel_1 : decode cX5_wheel 1 = .ok (.invokestatic 97, 3) := by decide +kernel
theorem dX5_wheel_4 : decode cX5_wheel 4 = .ok (.ifCond .ne 13, 3) := by decide +kernel
theorem dX5_wheel_7 : decode cX5_wheel 7 = .ok (.new 84, 3) := by decide +kernel
theorem dX5_wheel_10 : decode cX5_wheel 10 = .ok (.dup, 1) := by decide +kernel
theorem dX5_wheel_11 : decode cX5_wheel 11 = .ok (.ldc 101, 2) := by decide +kernel
theorem dX5_wheel_13 : decode cX5_wheel 13 = .ok (.invokespecial 88, 3) := by decide +kernel
theorem dX5_wheel_16 : decode cX5_wheel 16 = .ok (.athrow, 1) := by decide +kernel
theorem dX5_wheel_17 : decode cX5_wheel 17 = .ok (.iload_n 2, 1) := by decide +kernel
theorem dX5_wheel_18 : decode cX5_wheel 18 = .ok (.ifCond .lt 9, 3) := by decide +kernel
theorem dX5_wheel_21 : decode cX5_wheel 21 = .ok (.iload_n 2, 1) := by decide +kernel
theorem dX5_wheel_22 : decode cX5_wheel 22 = .ok (.bipush 6, 2) := by decide +kernel
theorem dX5_wheel_24 : decode cX5_wheel 24 = .ok (.if_icmp .le 13, 3) := by decide +kernel
theorem dX5_wheel_27 : decode cX5_wheel 27 = .ok (.new 51, 3) := by decide +kernel
theorem dX5_wheel_30 : decode cX5_wheel 30 = .ok (.dup, 1) := by decide +kernel
theorem dX5_wheel_31 : decode cX5_wheel 31 = .ok (.ldc 214, 2) := by decide +kernel
theorem dX5_wheel_33 : decode cX5_wheel 33 = .ok (.invokespecial 55, 3) := by decide +kernel
theorem dX5_wheel_36 : decode cX5_wheel 36 = .ok (.athrow, 1) := by decide +kernel
theorem dX5_wheel_37 : decode cX5_wheel 37 = .ok (.iload_n 2, 1) := by decide +kernel
theorem dX5_wheel_38 : decode cX5_wheel 38 = .ok (.tableswitch 130 0 5 #[38, 51, 64, 76, 89, 105], 38) := by decide +kernel
theorem dX5_wheel_76 : decode cX5_wheel 76 = .ok (.aload_n 0, 1) := by decide +kernel
theorem dX5_wheel_77 : decode cX5_wheel 77 = .ok (.getfield 10, 3) := by decide +kernel
theorem dX5_wheel_80 : decode cX5_wheel 80 = .ok (.getfield 62, 3) := by decide +kernel
theorem dX5_wheel_83 : decode cX5_wheel 83 = .ok (.getfield 158, 3) := by decide +kernel
theorem dX5_wheel_86 : decode cX5_wheel 86 = .ok (.iload_n 1, 1) := by decide +kernel
theorem dX5_wheel_87 : decode cX5_wheel 87 = .ok (.iaload, 1) := by decide +kernel
theorem dX5_wheel_88 : decode cX5_wheel 88 = .ok (.ireturn, 1) := by decide +kernel
theorem dX5_wheel_89 : decode cX5_wheel 89 = .ok (.aload_n 0, 1) := by decide +kernel
theorem dX5_wheel_90 : decode cX5_wheel 90 = .ok (.getfield 10, 3) := by decide +kernel
theorem dX5_wheel_93 : decode cX5_wheel 93 = .ok (.getfield 62, 3) := by decide +kernel
theorem dX5_wheel_96 : decode cX5_wheel 96 = .ok (.getfield 134, 3) := by decide +kernel
theorem dX5_wheel_99 : decode cX5_wheel 99 = .ok (.iload_n 1, 1) := by decide +kernel
theorem dX5_wheel_100 : decode cX5_wheel 100 = .ok (.iaload, 1) := by decide +kernel
theorem dX5_wheel_101 : decode cX5_wheel 101 = .ok (.ireturn, 1) := by decide +kernel
theorem dX5_wheel_102 : decode cX5_wheel 102 = .ok (.aload_n 0, 1) := by decide +kernel
theorem dX5_wheel_103 : decode cX5_wheel 103 = .ok (.getfield 10, 3) := by decide +kernel
theorem dX5_wheel_106 : decode cX5_wheel 106 = .ok (.getfield 62, 3) := by decide +kernel
theorem dX5_wheel_109 : decode cX5_wheel 109 = .ok (.iload_n 1, 1) := by decide +kernel
theorem dX5_wheel_110 : decode cX5_wheel 110 = .ok (.invokevirtual 216, 3) := by decide +kernel
theorem dX5_wheel_113 : decode cX5_wheel 113 = .ok (.ireturn, 1) := by decide +kernel
theorem dX5_wheel_114 : decode cX5_wheel 114 = .ok (.aload_n 0, 1) := by decide +kernel
theorem dX5_wheel_115 : decode cX5_wheel 115 = .ok (.getfield 10, 3) := by decide +kernel
theorem dX5_wheel_118 : decode cX5_wheel 118 = .ok (.getfield 62, 3) := by decide +kernel
theorem dX5_wheel_121 : decode cX5_wheel 121 = .ok (.iload_n 1, 1) := by decide +kernel
theorem dX5_wheel_122 : decode cX5_wheel 122 = .ok (.iconst 0, 1) := by decide +kernel
theorem dX5_wheel_123 : decode cX5_wheel 123 = .ok (.invokevirtual 220, 3) := by decide +kernel
theorem dX5_wheel_126 : decode cX5_wheel 126 = .ok (.ireturn, 1) := by decide +kernel
theorem dX5_wheel_127 : decode cX5_wheel 127 = .ok (.aload_n 0, 1) := by decide +kernel
theorem dX5_wheel_128 : decode cX5_wheel 128 = .ok (.getfield 10, 3) := by decide +kernel
theorem dX5_wheel_131 : decode cX5_wheel 131 = .ok (.getfield 62, 3) := by decide +kernel
theorem dX5_wheel_134 : decode cX5_wheel 134 = .ok (.getfield 106, 3) := by decide +kernel
theorem dX5_wheel_137 : decode cX5_wheel 137 = .ok (.iload_n 1, 1) := by decide +kernel
theorem dX5_wheel_138 : decode cX5_wheel 138 = .ok (.baload, 1) := by decide +kernel
theorem dX5_wheel_139 : decode cX5_wheel 139 = .ok (.invokestatic 77, 3) := by decide +kernel
theorem dX5_wheel_142 : decode cX5_wheel 142 = .ok (.ireturn, 1) := by decide +kernel
theorem dX5_wheel_143 : decode cX5_wheel 143 = .ok (.aload_n 0, 1) := by decide +kernel
theorem dX5_wheel_144 : decode cX5_wheel 144 = .ok (.getfield 10, 3) := by decide +kernel
theorem dX5_wheel_147 : decode cX5_wheel 147 = .ok (.getfield 62, 3) := by decide +kernel
theorem dX5_wheel_150 : decode cX5_wheel 150 = .ok (.iload_n 1, 1) := by decide +kernel
theorem dX5_wheel_151 : decode cX5_wheel 151 = .ok (.iconst 0, 1) := by decide +kernel
theorem dX5_wheel_152 : decode cX5_wheel 152 = .ok (.invokevirtual 220, 3) := by decide +kernel
theorem dX5_wheel_155 : decode cX5_wheel 155 = .ok (.iconst 5, 1) := by decide +kernel
theorem dX5_wheel_156 : decode cX5_wheel 156 = .ok (.if_icmp .lt 7, 3) := by decide +kernel
theorem dX5_wheel_159 : decode cX5_wheel 159 = .ok (.iconst 1, 1) := by decide +kernel
theorem dX5_wheel_160 : decode cX5_wheel 160 = .ok (.goto 4, 3) := by decide +kernel
theorem dX5_wheel_163 : decode cX5_wheel 163 = .ok (.iconst 0, 1) := by decide +kernel
theorem dX5_wheel_164 : decode cX5_wheel 164 = .ok (.invokestatic 77, 3) := by decide +kernel
theorem dX5_wheel_167 : decode cX5_wheel 167 = .ok (.ireturn, 1) := by decide +kernel
theorem dX5_wheel_168 : decode cX5_wheel 168 = .ok (.aload_n 0, 1) := by decide +kernel
theorem dX5_wheel_169 : decode cX5_wheel 169 = .ok (.getfield 10, 3) := by decide +kernel
theorem dX5_wheel_172 : decode cX5_wheel 172 = .ok (.getfield 62, 3) := by decide +kernel
theorem dX5_wheel_175 : decode cX5_wheel 175 = .ok (.iload_n 1, 1) := by decide +kernel
theorem dX5_wheel_176 : decode cX5_wheel 176 = .ok (.invokevirtual 223, 3) := by decide +kernel
theorem dX5_wheel_179 : decode cX5_wheel 179 = .ok (.ireturn, 1) := by decide +kernel
theorem dX5_tooth_0 : decode cX5_tooth 0 = .ok (.aload_n 0, 1) := by decide +kernel
theorem dX5_tooth_1 : decode cX5_tooth 1 = .ok (.iload_n 1, 1) := by decide +kernel
theorem dX5_tooth_2 : decode cX5_tooth 2 = .ok (.iload_n 2, 1) := by decide +kernel
theorem dX5_tooth_3 : decode cX5_tooth 3 = .ok (.invokevirtual 138, 3) := by decide +kernel
theorem dX5_tooth_6 : decode cX5_tooth 6 = .ok (.ifCond .ne 13, 3) := by decide +kernel
theorem dX5_tooth_9 : decode cX5_tooth 9 = .ok (.new 84, 3) := by decide +kernel
theorem dX5_tooth_12 : decode cX5_tooth 12 = .ok (.dup, 1) := by decide +kernel
theorem dX5_tooth_13 : decode cX5_tooth 13 = .ok (.ldc 142, 2) := by decide +kernel
theorem dX5_tooth_15 : decode cX5_tooth 15 = .ok (.invokespecial 88, 3) := by decide +kernel
theorem dX5_tooth_18 : decode cX5_tooth 18 = .ok (.athrow, 1) := by decide +kernel
theorem dX5_tooth_19 : decode cX5_tooth 19 = .ok (.aload_n 0, 1) := by decide +kernel
theorem dX5_tooth_20 : decode cX5_tooth 20 = .ok (.getfield 10, 3) := by decide +kernel
theorem dX5_tooth_23 : decode cX5_tooth 23 = .ok (.getfield 62, 3) := by decide +kernel
theorem dX5_tooth_26 : decode cX5_tooth 26 = .ok (.iload_n 1, 1) := by decide +kernel
theorem dX5_tooth_27 : decode cX5_tooth 27 = .ok (.iload_n 2, 1) := by decide +kernel
theorem dX5_tooth_28 : decode cX5_tooth 28 = .ok (.invokevirtual 153, 3) := by decide +kernel
theorem dX5_tooth_31 : decode cX5_tooth 31 = .ok (.ireturn, 1) := by decide +kernel
theorem dX5_scene_0 : decode cX5_scene 0 = .ok (.aload_n 0, 1) := by decide +kernel
theorem dX5_scene_1 : decode cX5_scene 1 = .ok (.iload_n 1, 1) := by decide +kernel
theorem dX5_scene_2 : decode cX5_scene 2 = .ok (.invokevirtual 172, 3) := by decide +kernel
theorem dX5_scene_5 : decode cX5_scene 5 = .ok (.ifCond .ne 13, 3) := by decide +kernel
theorem dX5_scene_8 : decode cX5_scene 8 = .ok (.new 84, 3) := by decide +kernel
theorem dX5_scene_11 : decode cX5_scene 11 = .ok (.dup, 1) := by decide +kernel
theorem dX5_scene_12 : decode cX5_scene 12 = .ok (.ldc 175, 2) := by decide +kernel
theorem dX5_scene_14 : decode cX5_scene 14 = .ok (.invokespecial 88, 3) := by decide +kernel
theorem dX5_scene_17 : decode cX5_scene 17 = .ok (.athrow, 1) := by decide +kernel
theorem dX5_scene_18 : decode cX5_scene 18 = .ok (.iload_n 2, 1) := by decide +kernel
theorem dX5_scene_19 : decode cX5_scene 19 = .ok (.ifCond .lt 9, 3) := by decide +kernel
theorem dX5_scene_22 : decode cX5_scene 22 = .ok (.iload_n 2, 1) := by decide +kernel
theorem dX5_scene_23 : decode cX5_scene 23 = .ok (.bipush 7, 2) := by decide +kernel
theorem dX5_scene_25 : decode cX5_scene 25 = .ok (.if_icmp .le 13, 3) := by decide +kernel
theorem dX5_scene_28 : decode cX5_scene 28 = .ok (.new 51, 3) := by decide +kernel
theorem dX5_scene_31 : decode cX5_scene 31 = .ok (.dup, 1) := by decide +kernel
theorem dX5_scene_32 : decode cX5_scene 32 = .ok (.ldc 226, 2) := by decide +kernel
theorem dX5_scene_34 : decode cX5_scene 34 = .ok (.invokespecial 55, 3) := by decide +kernel
theorem dX5_scene_37 : decode cX5_scene 37 = .ok (.athrow, 1) := by decide +kernel
theorem dX5_scene_38 : decode cX5_scene 38 = .ok (.iload_n 2, 1) := by decide +kernel
theorem dX5_scene_39 : decode cX5_scene 39 = .ok (.tableswitch 64 5 7 #[25, 38, 58], 25) := by decide +kernel
theorem dX5_scene_64 : decode cX5_scene 64 = .ok (.aload_n 0, 1) := by decide +kernel
theorem dX5_scene_65 : decode cX5_scene 65 = .ok (.getfield 10, 3) := by decide +kernel
theorem dX5_scene_68 : decode cX5_scene 68 = .ok (.iload_n 1, 1) := by decide +kernel
theorem dX5_scene_69 : decode cX5_scene 69 = .ok (.iconst 0, 1) := by decide +kernel
theorem dX5_scene_70 : decode cX5_scene 70 = .ok (.invokevirtual 228, 3) := by decide +kernel
theorem dX5_scene_73 : decode cX5_scene 73 = .ok (.invokestatic 77, 3) := by decide +kernel
theorem dX5_scene_76 : decode cX5_scene 76 = .ok (.ireturn, 1) := by decide +kernel
theorem dX5_scene_77 : decode cX5_scene 77 = .ok (.aload_n 0, 1) := by decide +kernel
theorem dX5_scene_78 : decode cX5_scene 78 = .ok (.getfield 10, 3) := by decide +kernel
theorem dX5_scene_81 : decode cX5_scene 81 = .ok (.iload_n 1, 1) := by decide +kernel
theorem dX5_scene_82 : decode cX5_scene 82 = .ok (.invokevirtual 231, 3) := by decide +kernel
theorem dX5_scene_85 : decode cX5_scene 85 = .ok (.ifCond .ne 7, 3) := by decide +kernel
theorem dX5_scene_88 : decode cX5_scene 88 = .ok (.iconst 1, 1) := by decide +kernel
theorem dX5_scene_89 : decode cX5_scene 89 = .ok (.goto 4, 3) := by decide +kernel
theorem dX5_scene_92 : decode cX5_scene 92 = .ok (.iconst 0, 1) := by decide +kernel
theorem dX5_scene_93 : decode cX5_scene 93 = .ok (.invokestatic 77, 3) := by decide +kernel
theorem dX5_scene_96 : decode cX5_scene 96 = .ok (.ireturn, 1) := by decide +kernel
theorem dX5_scene_97 : decode cX5_scene 97 = .ok (.aload_n 0, 1) := by decide +kernel
theorem dX5_scene_98 : decode cX5_scene 98 = .ok (.iload_n 1, 1) := by decide +kernel
theorem dX5_scene_99 : decode cX5_scene 99 = .ok (.invokevirtual 234, 3) := by decide +kernel
theorem dX5_scene_102 : decode cX5_scene 102 = .ok (.ireturn, 1) := by decide +kernel
theorem dX5_scene_103 : decode cX5_scene 103 = .ok (.aload_n 0, 1) := by decide +kernel
theorem dX5_scene_104 : decode cX5_scene 104 = .ok (.getfield 10, 3) := by decide +kernel
theorem dX5_scene_107 : decode cX5_scene 107 = .ok (.iload_n 1, 1) := by decide +kernel
theorem dX5_scene_108 : decode cX5_scene 108 = .ok (.iload_n 2, 1) := by decide +kernel
theorem dX5_scene_109 : decode cX5_scene 109 = .ok (.invokevirtual 237, 3) := by decide +kernel
theorem dX5_scene_112 : decode cX5_scene 112 = .ok (.ireturn, 1) := by decide +kernel
theorem dX5_count_0 : decode cX5_count 0 = .ok (.iload_n 1, 1) := by decide +kernel
theorem dX5_count_1 : decode cX5_count 1 = .ok (.ifCond .lt 9, 3) := by decide +kernel
theorem dX5_count_4 : decode cX5_count 4 = .ok (.iload_n 1, 1) := by decide +kernel
theorem dX5_count_5 : decode cX5_count 5 = .ok (.bipush 12, 2) := by decide +kernel
theorem dX5_count_7 : decode cX5_count 7 = .ok (.if_icmp .le 13, 3) := by decide +kernel
theorem dX5_count_10 : decode cX5_count 10 = .ok (.new 51, 3) := by decide +kernel
theorem dX5_count_13 : decode cX5_count 13 = .ok (.dup, 1) := by decide +kernel
theorem dX5_count_14 : decode cX5_count 14 = .ok (.ldc 240, 2) := by decide +kernel
theorem dX5_count_16 : decode cX5_count 16 = .ok (.invokespecial 55, 3) := by decide +kernel
theorem dX5_count_19 : decode cX5_count 19 = .ok (.athrow, 1) := by decide +kernel
theorem dX5_count_20 : decode cX5_count 20 = .ok (.iload_n 1, 1) := by decide +kernel
theorem dX5_count_21 : decode cX5_count 21 = .ok (.tableswitch 171 0 11 #[63, 71, 79, 90, 98, 106, 117, 125, 133, 144, 152, 160], 63) := by decide +kernel
theorem dX5_count_84 : decode cX5_count 84 = .ok (.aload_n 0, 1) := by decide +kernel
theorem dX5_count_85 : decode cX5_count 85 = .ok (.getfield 10, 3) := by decide +kernel
theorem dX5_count_88 : decode cX5_count 88 = .ok (.getfield 242, 3) := by decide +kernel
theorem dX5_count_91 : decode cX5_count 91 = .ok (.ireturn, 1) := by decide +kernel
theorem dX5_count_92 : decode cX5_count 92 = .ok (.aload_n 0, 1) := by decide +kernel
theorem dX5_count_93 : decode cX5_count 93 = .ok (.getfield 10, 3) := by decide +kernel
theorem dX5_count_96 : decode cX5_count 96 = .ok (.invokevirtual 245, 3) := by decide +kernel
theorem dX5_count_99 : decode cX5_count 99 = .ok (.ireturn, 1) := by decide +kernel
theorem dX5_count_100 : decode cX5_count 100 = .ok (.aload_n 0, 1) := by decide +kernel
theorem dX5_count_101 : decode cX5_count 101 = .ok (.getfield 10, 3) := by decide +kernel
theorem dX5_count_104 : decode cX5_count 104 = .ok (.invokevirtual 73, 3) := by decide +kernel
theorem dX5_count_107 : decode cX5_count 107 = .ok (.invokestatic 77, 3) := by decide +kernel
theorem dX5_count_110 : decode cX5_count 110 = .ok (.ireturn, 1) := by decide +kernel
theorem dX5_count_111 : decode cX5_count 111 = .ok (.aload_n 0, 1) := by decide +kernel
theorem dX5_count_112 : decode cX5_count 112 = .ok (.getfield 10, 3) := by decide +kernel
theorem dX5_count_115 : decode cX5_count 115 = .ok (.getfield 248, 3) := by decide +kernel
theorem dX5_count_118 : decode cX5_count 118 = .ok (.ireturn, 1) := by decide +kernel
theorem dX5_count_119 : decode cX5_count 119 = .ok (.aload_n 0, 1) := by decide +kernel
theorem dX5_count_120 : decode cX5_count 120 = .ok (.getfield 10, 3) := by decide +kernel
theorem dX5_count_123 : decode cX5_count 123 = .ok (.getfield 251, 3) := by decide +kernel
theorem dX5_count_126 : decode cX5_count 126 = .ok (.ireturn, 1) := by decide +kernel
theorem dX5_count_127 : decode cX5_count 127 = .ok (.aload_n 0, 1) := by decide +kernel
theorem dX5_count_128 : decode cX5_count 128 = .ok (.getfield 10, 3) := by decide +kernel
theorem dX5_count_131 : decode cX5_count 131 = .ok (.getfield 62, 3) := by decide +kernel
theorem dX5_count_134 : decode cX5_count 134 = .ok (.invokevirtual 254, 3) := by decide +kernel
theorem dX5_count_137 : decode cX5_count 137 = .ok (.ireturn, 1) := by decide +kernel
theorem dX5_count_138 : decode cX5_count 138 = .ok (.aload_n 0, 1) := by decide +kernel
theorem dX5_count_139 : decode cX5_count 139 = .ok (.getfield 10, 3) := by decide +kernel
theorem dX5_count_142 : decode cX5_count 142 = .ok (.invokevirtual 93, 3) := by decide +kernel
theorem dX5_count_145 : decode cX5_count 145 = .ok (.ireturn, 1) := by decide +kernel
theorem dX5_count_146 : decode cX5_count 146 = .ok (.aload_n 0, 1) := by decide +kernel
theorem dX5_count_147 : decode cX5_count 147 = .ok (.getfield 10, 3) := by decide +kernel
theorem dX5_count_150 : decode cX5_count 150 = .ok (.getfield 164, 3) := by decide +kernel
theorem dX5_count_153 : decode cX5_count 153 = .ok (.ireturn, 1) := by decide +kernel
theorem dX5_count_154 : decode cX5_count 154 = .ok (.aload_n 0, 1) := by decide +kernel
theorem dX5_count_155 : decode cX5_count 155 = .ok (.getfield 10, 3) := by decide +kernel
theorem dX5_count_158 : decode cX5_count 158 = .ok (.getfield 62, 3) := by decide +kernel
theorem dX5_count_161 : decode cX5_count 161 = .ok (.invokevirtual 257, 3) := by decide +kernel
theorem dX5_count_164 : decode cX5_count 164 = .ok (.ireturn, 1) := by decide +kernel
theorem dX5_count_165 : decode cX5_count 165 = .ok (.aload_n 0, 1) := by decide +kernel
theorem dX5_count_166 : decode cX5_count 166 = .ok (.getfield 10, 3) := by decide +kernel
theorem dX5_count_169 : decode cX5_count 169 = .ok (.getfield 124, 3) := by decide +kernel
theorem dX5_count_172 : decode cX5_count 172 = .ok (.ireturn, 1) := by decide +kernel
theorem dX5_count_173 : decode cX5_count 173 = .ok (.aload_n 0, 1) := by decide +kernel
theorem dX5_count_174 : decode cX5_count 174 = .ok (.getfield 10, 3) := by decide +kernel
theorem dX5_count_177 : decode cX5_count 177 = .ok (.getfield 260, 3) := by decide +kernel
theorem dX5_count_180 : decode cX5_count 180 = .ok (.ireturn, 1) := by decide +kernel
theorem dX5_count_181 : decode cX5_count 181 = .ok (.aload_n 0, 1) := by decide +kernel
theorem dX5_count_182 : decode cX5_count 182 = .ok (.getfield 10, 3) := by decide +kernel
theorem dX5_count_185 : decode cX5_count 185 = .ok (.getfield 81, 3) := by decide +kernel
theorem dX5_count_188 : decode cX5_count 188 = .ok (.invokestatic 77, 3) := by decide +kernel
theorem dX5_count_191 : decode cX5_count 191 = .ok (.ireturn, 1) := by decide +kernel
theorem dX5_count_192 : decode cX5_count 192 = .ok (.aload_n 0, 1) := by decide +kernel
theorem dX5_count_193 : decode cX5_count 193 = .ok (.getfield 26, 3) := by decide +kernel
theorem dX5_count_196 : decode cX5_count 196 = .ok (.getfield 206, 3) := by decide +kernel
theorem dX5_count_199 : decode cX5_count 199 = .ok (.ireturn, 1) := by decide +kernel
theorem dX5_why_0 : decode cX5_why 0 = .ok (.iload_n 1, 1) := by decide +kernel
theorem dX5_why_1 : decode cX5_why 1 = .ok (.invokestatic 263, 3) := by decide +kernel
theorem dX5_why_4 : decode cX5_why 4 = .ok (.ifCond .ne 14, 3) := by decide +kernel
theorem dX5_why_7 : decode cX5_why 7 = .ok (.new 51, 3) := by decide +kernel
theorem dX5_why_10 : decode cX5_why 10 = .ok (.dup, 1) := by decide +kernel
theorem dX5_why_11 : decode cX5_why 11 = .ok (.ldc_w 266, 3) := by decide +kernel
theorem dX5_why_14 : decode cX5_why 14 = .ok (.invokespecial 55, 3) := by decide +kernel
theorem dX5_why_17 : decode cX5_why 17 = .ok (.athrow, 1) := by decide +kernel
theorem dX5_why_18 : decode cX5_why 18 = .ok (.aload_n 0, 1) := by decide +kernel
theorem dX5_why_19 : decode cX5_why 19 = .ok (.getfield 10, 3) := by decide +kernel
theorem dX5_why_22 : decode cX5_why 22 = .ok (.aload_n 0, 1) := by decide +kernel
theorem dX5_why_23 : decode cX5_why 23 = .ok (.getfield 10, 3) := by decide +kernel
theorem dX5_why_26 : decode cX5_why 26 = .ok (.getfield 62, 3) := by decide +kernel
theorem dX5_why_29 : decode cX5_why 29 = .ok (.iload_n 1, 1) := by decide +kernel
theorem dX5_why_30 : decode cX5_why 30 = .ok (.invokestatic 268, 3) := by decide +kernel
theorem dX5_why_33 : decode cX5_why 33 = .ok (.invokevirtual 65, 3) := by decide +kernel
theorem dX5_why_36 : decode cX5_why 36 = .ok (.ireturn, 1) := by decide +kernel
theorem dX5_round_0 : decode cX5_round 0 = .ok (.iload_n 1, 1) := by decide +kernel
theorem dX5_round_1 : decode cX5_round 1 = .ok (.ifCond .lt 8, 3) := by decide +kernel
theorem dX5_round_4 : decode cX5_round 4 = .ok (.iload_n 1, 1) := by decide +kernel
theorem dX5_round_5 : decode cX5_round 5 = .ok (.iconst 1, 1) := by decide +kernel
theorem dX5_round_6 : decode cX5_round 6 = .ok (.if_icmp .le 14, 3) := by decide +kernel
theorem dX5_round_9 : decode cX5_round 9 = .ok (.new 51, 3) := by decide +kernel
theorem dX5_round_12 : decode cX5_round 12 = .ok (.dup, 1) := by decide +kernel
theorem dX5_round_13 : decode cX5_round 13 = .ok (.ldc_w 271, 3) := by decide +kernel
theorem dX5_round_16 : decode cX5_round 16 = .ok (.invokespecial 55, 3) := by decide +kernel
theorem dX5_round_19 : decode cX5_round 19 = .ok (.athrow, 1) := by decide +kernel
theorem dX5_round_20 : decode cX5_round 20 = .ok (.iload_n 1, 1) := by decide +kernel
theorem dX5_round_21 : decode cX5_round 21 = .ok (.ifCond .ne 10, 3) := by decide +kernel
theorem dX5_round_24 : decode cX5_round 24 = .ok (.aload_n 0, 1) := by decide +kernel
theorem dX5_round_25 : decode cX5_round 25 = .ok (.invokevirtual 273, 3) := by decide +kernel
theorem dX5_round_28 : decode cX5_round 28 = .ok (.goto 13, 3) := by decide +kernel
theorem dX5_round_31 : decode cX5_round 31 = .ok (.aload_n 0, 1) := by decide +kernel
theorem dX5_round_32 : decode cX5_round 32 = .ok (.getfield 10, 3) := by decide +kernel
theorem dX5_round_35 : decode cX5_round 35 = .ok (.getfield 62, 3) := by decide +kernel
theorem dX5_round_38 : decode cX5_round 38 = .ok (.invokevirtual 276, 3) := by decide +kernel
theorem dX5_round_41 : decode cX5_round 41 = .ok (.ireturn, 1) := by decide +kernel
theorem dX5_jamsIn_0 : decode cX5_jamsIn 0 = .ok (.iload_n 1, 1) := by decide +kernel
theorem dX5_jamsIn_1 : decode cX5_jamsIn 1 = .ok (.invokestatic 263, 3) := by decide +kernel
theorem dX5_jamsIn_4 : decode cX5_jamsIn 4 = .ok (.ifCond .ne 14, 3) := by decide +kernel
theorem dX5_jamsIn_7 : decode cX5_jamsIn 7 = .ok (.new 51, 3) := by decide +kernel
theorem dX5_jamsIn_10 : decode cX5_jamsIn 10 = .ok (.dup, 1) := by decide +kernel
theorem dX5_jamsIn_11 : decode cX5_jamsIn 11 = .ok (.ldc_w 266, 3) := by decide +kernel
theorem dX5_jamsIn_14 : decode cX5_jamsIn 14 = .ok (.invokespecial 55, 3) := by decide +kernel
theorem dX5_jamsIn_17 : decode cX5_jamsIn 17 = .ok (.athrow, 1) := by decide +kernel
theorem dX5_jamsIn_18 : decode cX5_jamsIn 18 = .ok (.iload_n 1, 1) := by decide +kernel
theorem dX5_jamsIn_19 : decode cX5_jamsIn 19 = .ok (.invokestatic 268, 3) := by decide +kernel
theorem dX5_jamsIn_22 : decode cX5_jamsIn 22 = .ok (.istore_n 2, 1) := by decide +kernel
theorem dX5_jamsIn_23 : decode cX5_jamsIn 23 = .ok (.aload_n 0, 1) := by decide +kernel
theorem dX5_jamsIn_24 : decode cX5_jamsIn 24 = .ok (.getfield 10, 3) := by decide +kernel
theorem dX5_jamsIn_27 : decode cX5_jamsIn 27 = .ok (.getfield 62, 3) := by decide +kernel
theorem dX5_jamsIn_30 : decode cX5_jamsIn 30 = .ok (.invokevirtual 276, 3) := by decide +kernel
theorem dX5_jamsIn_33 : decode cX5_jamsIn 33 = .ok (.istore_n 3, 1) := by decide +kernel
theorem dX5_jamsIn_34 : decode cX5_jamsIn 34 = .ok (.iconst 1, 1) := by decide +kernel
theorem dX5_jamsIn_35 : decode cX5_jamsIn 35 = .ok (.istore 4, 2) := by decide +kernel
theorem dX5_jamsIn_37 : decode cX5_jamsIn 37 = .ok (.iload 4, 2) := by decide +kernel
theorem dX5_jamsIn_39 : decode cX5_jamsIn 39 = .ok (.iload_n 3, 1) := by decide +kernel
theorem dX5_jamsIn_40 : decode cX5_jamsIn 40 = .ok (.if_icmp .gt 38, 3) := by decide +kernel
theorem dX5_jamsIn_43 : decode cX5_jamsIn 43 = .ok (.aload_n 0, 1) := by decide +kernel
theorem dX5_jamsIn_44 : decode cX5_jamsIn 44 = .ok (.getfield 10, 3) := by decide +kernel
theorem dX5_jamsIn_47 : decode cX5_jamsIn 47 = .ok (.getfield 62, 3) := by decide +kernel
theorem dX5_jamsIn_50 : decode cX5_jamsIn 50 = .ok (.iload_n 2, 1) := by decide +kernel
theorem dX5_jamsIn_51 : decode cX5_jamsIn 51 = .ok (.iload 4, 2) := by decide +kernel
theorem dX5_jamsIn_53 : decode cX5_jamsIn 53 = .ok (.imul, 1) := by decide +kernel
theorem dX5_jamsIn_54 : decode cX5_jamsIn 54 = .ok (.aload_n 0, 1) := by decide +kernel
theorem dX5_jamsIn_55 : decode cX5_jamsIn 55 = .ok (.getfield 10, 3) := by decide +kernel
theorem dX5_jamsIn_58 : decode cX5_jamsIn 58 = .ok (.getfield 124, 3) := by decide +kernel
theorem dX5_jamsIn_61 : decode cX5_jamsIn 61 = .ok (.invokevirtual 128, 3) := by decide +kernel
theorem dX5_jamsIn_64 : decode cX5_jamsIn 64 = .ok (.ifCond .eq 8, 3) := by decide +kernel
theorem dX5_jamsIn_67 : decode cX5_jamsIn 67 = .ok (.iload 4, 2) := by decide +kernel
theorem dX5_jamsIn_69 : decode cX5_jamsIn 69 = .ok (.iconst 1, 1) := by decide +kernel
theorem dX5_jamsIn_70 : decode cX5_jamsIn 70 = .ok (.isub, 1) := by decide +kernel
theorem dX5_jamsIn_71 : decode cX5_jamsIn 71 = .ok (.ireturn, 1) := by decide +kernel
theorem dX5_jamsIn_72 : decode cX5_jamsIn 72 = .ok (.iinc 4 1, 3) := by decide +kernel
theorem dX5_jamsIn_75 : decode cX5_jamsIn 75 = .ok (.goto (-38), 3) := by decide +kernel
theorem dX5_jamsIn_78 : decode cX5_jamsIn 78 = .ok (.iconst (-1), 1) := by decide +kernel
theorem dX5_jamsIn_79 : decode cX5_jamsIn 79 = .ok (.ireturn, 1) := by decide +kernel
theorem dX5_ahead_0 : decode cX5_ahead 0 = .ok (.iload_n 2, 1) := by decide +kernel
theorem dX5_ahead_1 : decode cX5_ahead 1 = .ok (.invokestatic 97, 3) := by decide +kernel
theorem dX5_ahead_4 : decode cX5_ahead 4 = .ok (.ifCond .ne 13, 3) := by decide +kernel
theorem dX5_ahead_7 : decode cX5_ahead 7 = .ok (.new 84, 3) := by decide +kernel
theorem dX5_ahead_10 : decode cX5_ahead 10 = .ok (.dup, 1) := by decide +kernel
theorem dX5_ahead_11 : decode cX5_ahead 11 = .ok (.ldc 101, 2) := by decide +kernel
theorem dX5_ahead_13 : decode cX5_ahead 13 = .ok (.invokespecial 88, 3) := by decide +kernel
theorem dX5_ahead_16 : decode cX5_ahead 16 = .ok (.athrow, 1) := by decide +kernel
theorem dX5_ahead_17 : decode cX5_ahead 17 = .ok (.iload_n 1, 1) := by decide +kernel
theorem dX5_ahead_18 : decode cX5_ahead 18 = .ok (.sipush (-9999), 3) := by decide +kernel
theorem dX5_ahead_21 : decode cX5_ahead 21 = .ok (.if_icmp .lt 10, 3) := by decide +kernel
theorem dX5_ahead_24 : decode cX5_ahead 24 = .ok (.iload_n 1, 1) := by decide +kernel
theorem dX5_ahead_25 : decode cX5_ahead 25 = .ok (.sipush 9999, 3) := by decide +kernel
theorem dX5_ahead_28 : decode cX5_ahead 28 = .ok (.if_icmp .le 14, 3) := by decide +kernel
theorem dX5_ahead_31 : decode cX5_ahead 31 = .ok (.new 51, 3) := by decide +kernel
theorem dX5_ahead_34 : decode cX5_ahead 34 = .ok (.dup, 1) := by decide +kernel
theorem dX5_ahead_35 : decode cX5_ahead 35 = .ok (.ldc_w 279, 3) := by decide +kernel
theorem dX5_ahead_38 : decode cX5_ahead 38 = .ok (.invokespecial 55, 3) := by decide +kernel
theorem dX5_ahead_41 : decode cX5_ahead 41 = .ok (.athrow, 1) := by decide +kernel
theorem dX5_ahead_42 : decode cX5_ahead 42 = .ok (.aload_n 0, 1) := by decide +kernel
theorem dX5_ahead_43 : decode cX5_ahead 43 = .ok (.getfield 10, 3) := by decide +kernel
theorem dX5_ahead_46 : decode cX5_ahead 46 = .ok (.getfield 62, 3) := by decide +kernel
theorem dX5_ahead_49 : decode cX5_ahead 49 = .ok (.iload_n 2, 1) := by decide +kernel
theorem dX5_ahead_50 : decode cX5_ahead 50 = .ok (.iload_n 1, 1) := by decide +kernel
theorem dX5_ahead_51 : decode cX5_ahead 51 = .ok (.invokevirtual 220, 3) := by decide +kernel
theorem dX5_ahead_54 : decode cX5_ahead 54 = .ok (.ireturn, 1) := by decide +kernel
theorem dX5_frees_0 : decode cX5_frees 0 = .ok (.iload_n 1, 1) := by decide +kernel
theorem dX5_frees_1 : decode cX5_frees 1 = .ok (.invokestatic 263, 3) := by decide +kernel
theorem dX5_frees_4 : decode cX5_frees 4 = .ok (.ifCond .ne 14, 3) := by decide +kernel
theorem dX5_frees_7 : decode cX5_frees 7 = .ok (.new 51, 3) := by decide +kernel
theorem dX5_frees_10 : decode cX5_frees 10 = .ok (.dup, 1) := by decide +kernel
theorem dX5_frees_11 : decode cX5_frees 11 = .ok (.ldc_w 266, 3) := by decide +kernel
theorem dX5_frees_14 : decode cX5_frees 14 = .ok (.invokespecial 55, 3) := by decide +kernel
theorem dX5_frees_17 : decode cX5_frees 17 = .ok (.athrow, 1) := by decide +kernel
theorem dX5_frees_18 : decode cX5_frees 18 = .ok (.iload_n 1, 1) := by decide +kernel
theorem dX5_frees_19 : decode cX5_frees 19 = .ok (.invokestatic 268, 3) := by decide +kernel
theorem dX5_frees_22 : decode cX5_frees 22 = .ok (.istore_n 2, 1) := by decide +kernel
theorem dX5_frees_23 : decode cX5_frees 23 = .ok (.aload_n 0, 1) := by decide +kernel
theorem dX5_frees_24 : decode cX5_frees 24 = .ok (.getfield 10, 3) := by decide +kernel
theorem dX5_frees_27 : decode cX5_frees 27 = .ok (.aload_n 0, 1) := by decide +kernel
theorem dX5_frees_28 : decode cX5_frees 28 = .ok (.getfield 10, 3) := by decide +kernel
theorem dX5_frees_31 : decode cX5_frees 31 = .ok (.getfield 62, 3) := by decide +kernel
theorem dX5_frees_34 : decode cX5_frees 34 = .ok (.iload_n 2, 1) := by decide +kernel
theorem dX5_frees_35 : decode cX5_frees 35 = .ok (.invokevirtual 65, 3) := by decide +kernel
theorem dX5_frees_38 : decode cX5_frees 38 = .ok (.ifCond .ne 5, 3) := by decide +kernel
theorem dX5_frees_41 : decode cX5_frees 41 = .ok (.iconst (-1), 1) := by decide +kernel
theorem dX5_frees_42 : decode cX5_frees 42 = .ok (.ireturn, 1) := by decide +kernel
theorem dX5_frees_43 : decode cX5_frees 43 = .ok (.iconst 0, 1) := by decide +kernel
theorem dX5_frees_44 : decode cX5_frees 44 = .ok (.istore_n 3, 1) := by decide +kernel
theorem dX5_frees_45 : decode cX5_frees 45 = .ok (.iload_n 3, 1) := by decide +kernel
theorem dX5_frees_46 : decode cX5_frees 46 = .ok (.iconst 5, 1) := by decide +kernel
theorem dX5_frees_47 : decode cX5_frees 47 = .ok (.if_icmp .ge 66, 3) := by decide +kernel
theorem dX5_frees_50 : decode cX5_frees 50 = .ok (.aload_n 0, 1) := by decide +kernel
theorem dX5_frees_51 : decode cX5_frees 51 = .ok (.getfield 10, 3) := by decide +kernel
theorem dX5_frees_54 : decode cX5_frees 54 = .ok (.getfield 62, 3) := by decide +kernel
theorem dX5_frees_57 : decode cX5_frees 57 = .ok (.getfield 106, 3) := by decide +kernel
theorem dX5_frees_60 : decode cX5_frees 60 = .ok (.iload_n 3, 1) := by decide +kernel
theorem dX5_frees_61 : decode cX5_frees 61 = .ok (.baload, 1) := by decide +kernel
theorem dX5_frees_62 : decode cX5_frees 62 = .ok (.ifCond .ne 6, 3) := by decide +kernel
theorem dX5_frees_65 : decode cX5_frees 65 = .ok (.goto 42, 3) := by decide +kernel
theorem dX5_frees_68 : decode cX5_frees 68 = .ok (.aload_n 0, 1) := by decide +kernel
theorem dX5_frees_69 : decode cX5_frees 69 = .ok (.getfield 47, 3) := by decide +kernel
theorem dX5_frees_72 : decode cX5_frees 72 = .ok (.aload_n 0, 1) := by decide +kernel
theorem dX5_frees_73 : decode cX5_frees 73 = .ok (.getfield 10, 3) := by decide +kernel
theorem dX5_frees_76 : decode cX5_frees 76 = .ok (.getfield 62, 3) := by decide +kernel
theorem dX5_frees_79 : decode cX5_frees 79 = .ok (.invokevirtual 116, 3) := by decide +kernel
theorem dX5_frees_82 : decode cX5_frees 82 = .ok (.aload_n 0, 1) := by decide +kernel
theorem dX5_frees_83 : decode cX5_frees 83 = .ok (.getfield 47, 3) := by decide +kernel
theorem dX5_frees_86 : decode cX5_frees 86 = .ok (.iload_n 3, 1) := by decide +kernel
theorem dX5_frees_87 : decode cX5_frees 87 = .ok (.invokevirtual 103, 3) := by decide +kernel
theorem dX5_frees_90 : decode cX5_frees 90 = .ok (.aload_n 0, 1) := by decide +kernel
theorem dX5_frees_91 : decode cX5_frees 91 = .ok (.getfield 10, 3) := by decide +kernel
theorem dX5_frees_94 : decode cX5_frees 94 = .ok (.aload_n 0, 1) := by decide +kernel
theorem dX5_frees_95 : decode cX5_frees 95 = .ok (.getfield 47, 3) := by decide +kernel
theorem dX5_frees_98 : decode cX5_frees 98 = .ok (.iload_n 2, 1) := by decide +kernel
theorem dX5_frees_99 : decode cX5_frees 99 = .ok (.invokevirtual 65, 3) := by decide +kernel
theorem dX5_frees_102 : decode cX5_frees 102 = .ok (.ifCond .ne 5, 3) := by decide +kernel
theorem dX5_frees_105 : decode cX5_frees 105 = .ok (.iload_n 3, 1) := by decide +kernel
theorem dX5_frees_106 : decode cX5_frees 106 = .ok (.ireturn, 1) := by decide +kernel
theorem dX5_frees_107 : decode cX5_frees 107 = .ok (.iinc 3 1, 3) := by decide +kernel
theorem dX5_frees_110 : decode cX5_frees 110 = .ok (.goto (-65), 3) := by decide +kernel
theorem dX5_frees_113 : decode cX5_frees 113 = .ok (.iconst (-1), 1) := by decide +kernel
theorem dX5_frees_114 : decode cX5_frees 114 = .ok (.ireturn, 1) := by decide +kernel
theorem dX5_allowedShare_0 : decode cX5_allowedShare 0 = .ok (.aload_n 0, 1) := by decide +kernel
theorem dX5_allowedShare_1 : decode cX5_allowedShare 1 = .ok (.getfield 10, 3) := by decide +kernel
theorem dX5_allowedShare_4 : decode cX5_allowedShare 4 = .ok (.getfield 62, 3) := by decide +kernel
theorem dX5_allowedShare_7 : decode cX5_allowedShare 7 = .ok (.invokevirtual 276, 3) := by decide +kernel
theorem dX5_allowedShare_10 : decode cX5_allowedShare 10 = .ok (.istore_n 1, 1) := by decide +kernel
theorem dX5_allowedShare_11 : decode cX5_allowedShare 11 = .ok (.iload_n 1, 1) := by decide +kernel
theorem dX5_allowedShare_12 : decode cX5_allowedShare 12 = .ok (.iconst 1, 1) := by decide +kernel
theorem dX5_allowedShare_13 : decode cX5_allowedShare 13 = .ok (.if_icmp .ge 5, 3) := by decide +kernel
theorem dX5_allowedShare_16 : decode cX5_allowedShare 16 = .ok (.dconst 0, 1) := by decide +kernel
theorem dX5_allowedShare_17 : decode cX5_allowedShare 17 = .ok (.dreturn, 1) := by decide +kernel
theorem dX5_allowedShare_18 : decode cX5_allowedShare 18 = .ok (.iconst 0, 1) := by decide +kernel
theorem dX5_allowedShare_19 : decode cX5_allowedShare 19 = .ok (.istore_n 2, 1) := by decide +kernel
theorem dX5_allowedShare_20 : decode cX5_allowedShare 20 = .ok (.iconst 0, 1) := by decide +kernel
theorem dX5_allowedShare_21 : decode cX5_allowedShare 21 = .ok (.istore_n 3, 1) := by decide +kernel
theorem dX5_allowedShare_22 : decode cX5_allowedShare 22 = .ok (.iload_n 3, 1) := by decide +kernel
theorem dX5_allowedShare_23 : decode cX5_allowedShare 23 = .ok (.iload_n 1, 1) := by decide +kernel
theorem dX5_allowedShare_24 : decode cX5_allowedShare 24 = .ok (.if_icmp .ge 33, 3) := by decide +kernel
theorem dX5_allowedShare_27 : decode cX5_allowedShare 27 = .ok (.aload_n 0, 1) := by decide +kernel
theorem dX5_allowedShare_28 : decode cX5_allowedShare 28 = .ok (.getfield 10, 3) := by decide +kernel
theorem dX5_allowedShare_31 : decode cX5_allowedShare 31 = .ok (.getfield 62, 3) := by decide +kernel
theorem dX5_allowedShare_34 : decode cX5_allowedShare 34 = .ok (.iload_n 3, 1) := by decide +kernel
theorem dX5_allowedShare_35 : decode cX5_allowedShare 35 = .ok (.aload_n 0, 1) := by decide +kernel
theorem dX5_allowedShare_36 : decode cX5_allowedShare 36 = .ok (.getfield 10, 3) := by decide +kernel
theorem dX5_allowedShare_39 : decode cX5_allowedShare 39 = .ok (.getfield 124, 3) := by decide +kernel
theorem dX5_allowedShare_42 : decode cX5_allowedShare 42 = .ok (.invokevirtual 128, 3) := by decide +kernel
theorem dX5_allowedShare_45 : decode cX5_allowedShare 45 = .ok (.ifCond .ne 6, 3) := by decide +kernel
theorem dX5_allowedShare_48 : decode cX5_allowedShare 48 = .ok (.iinc 2 1, 3) := by decide +kernel
theorem dX5_allowedShare_51 : decode cX5_allowedShare 51 = .ok (.iinc 3 1, 3) := by decide +kernel
theorem dX5_allowedShare_54 : decode cX5_allowedShare 54 = .ok (.goto (-32), 3) := by decide +kernel
theorem dX5_allowedShare_57 : decode cX5_allowedShare 57 = .ok (.iload_n 2, 1) := by decide +kernel
theorem dX5_allowedShare_58 : decode cX5_allowedShare 58 = .ok (.i2d, 1) := by decide +kernel
theorem dX5_allowedShare_59 : decode cX5_allowedShare 59 = .ok (.iload_n 1, 1) := by decide +kernel
theorem dX5_allowedShare_60 : decode cX5_allowedShare 60 = .ok (.i2d, 1) := by decide +kernel
theorem dX5_allowedShare_61 : decode cX5_allowedShare 61 = .ok (.ddiv, 1) := by decide +kernel
theorem dX5_allowedShare_62 : decode cX5_allowedShare 62 = .ok (.dreturn, 1) := by decide +kernel
theorem dX5_meanHeight_0 : decode cX5_meanHeight 0 = .ok (.iconst 0, 1) := by decide +kernel
theorem dX5_meanHeight_1 : decode cX5_meanHeight 1 = .ok (.istore_n 1, 1) := by decide +kernel
theorem dX5_meanHeight_2 : decode cX5_meanHeight 2 = .ok (.iconst 0, 1) := by decide +kernel
theorem dX5_meanHeight_3 : decode cX5_meanHeight 3 = .ok (.istore_n 2, 1) := by decide +kernel
theorem dX5_meanHeight_4 : decode cX5_meanHeight 4 = .ok (.iload_n 2, 1) := by decide +kernel
theorem dX5_meanHeight_5 : decode cX5_meanHeight 5 = .ok (.iconst 5, 1) := by decide +kernel
theorem dX5_meanHeight_6 : decode cX5_meanHeight 6 = .ok (.if_icmp .ge 24, 3) := by decide +kernel
theorem dX5_meanHeight_9 : decode cX5_meanHeight 9 = .ok (.iload_n 1, 1) := by decide +kernel
theorem dX5_meanHeight_10 : decode cX5_meanHeight 10 = .ok (.aload_n 0, 1) := by decide +kernel
theorem dX5_meanHeight_11 : decode cX5_meanHeight 11 = .ok (.getfield 10, 3) := by decide +kernel
theorem dX5_meanHeight_14 : decode cX5_meanHeight 14 = .ok (.getfield 62, 3) := by decide +kernel
theorem dX5_meanHeight_17 : decode cX5_meanHeight 17 = .ok (.iload_n 2, 1) := by decide +kernel
theorem dX5_meanHeight_18 : decode cX5_meanHeight 18 = .ok (.iconst 0, 1) := by decide +kernel
theorem dX5_meanHeight_19 : decode cX5_meanHeight 19 = .ok (.invokevirtual 220, 3) := by decide +kernel
theorem dX5_meanHeight_22 : decode cX5_meanHeight 22 = .ok (.iadd, 1) := by decide +kernel
theorem dX5_meanHeight_23 : decode cX5_meanHeight 23 = .ok (.istore_n 1, 1) := by decide +kernel
theorem dX5_meanHeight_24 : decode cX5_meanHeight 24 = .ok (.iinc 2 1, 3) := by decide +kernel
theorem dX5_meanHeight_27 : decode cX5_meanHeight 27 = .ok (.goto (-23), 3) := by decide +kernel
theorem dX5_meanHeight_30 : decode cX5_meanHeight 30 = .ok (.iload_n 1, 1) := by decide +kernel
theorem dX5_meanHeight_31 : decode cX5_meanHeight 31 = .ok (.i2f, 1) := by decide +kernel
theorem dX5_meanHeight_32 : decode cX5_meanHeight 32 = .ok (.ldc_w 281, 3) := by decide +kernel
theorem dX5_meanHeight_35 : decode cX5_meanHeight 35 = .ok (.fdiv, 1) := by decide +kernel
theorem dX5_meanHeight_36 : decode cX5_meanHeight 36 = .ok (.freturn, 1) := by decide +kernel
theorem dX5_isWheel_0 : decode cX5_isWheel 0 = .ok (.iload_n 0, 1) := by decide +kernel
theorem dX5_isWheel_1 : decode cX5_isWheel 1 = .ok (.ifCond .lt 12, 3) := by decide +kernel
theorem dX5_isWheel_4 : decode cX5_isWheel 4 = .ok (.iload_n 0, 1) := by decide +kernel
theorem dX5_isWheel_5 : decode cX5_isWheel 5 = .ok (.iconst 5, 1) := by decide +kernel
theorem dX5_isWheel_6 : decode cX5_isWheel 6 = .ok (.if_icmp .ge 7, 3) := by decide +kernel
theorem dX5_isWheel_9 : decode cX5_isWheel 9 = .ok (.iconst 1, 1) := by decide +kernel
theorem dX5_isWheel_10 : decode cX5_isWheel 10 = .ok (.goto 4, 3) := by decide +kernel
theorem dX5_isWheel_13 : decode cX5_isWheel 13 = .ok (.iconst 0, 1) := by decide +kernel
theorem dX5_isWheel_14 : decode cX5_isWheel 14 = .ok (.ireturn, 1) := by decide +kernel
theorem dX5_isHeight_0 : decode cX5_isHeight 0 = .ok (.iload_n 0, 1) := by decide +kernel
theorem dX5_isHeight_1 : decode cX5_isHeight 1 = .ok (.ifCond .lt 13, 3) := by decide +kernel
theorem dX5_isHeight_4 : decode cX5_isHeight 4 = .ok (.iload_n 0, 1) := by decide +kernel
theorem dX5_isHeight_5 : decode cX5_isHeight 5 = .ok (.bipush 9, 2) := by decide +kernel
theorem dX5_isHeight_7 : decode cX5_isHeight 7 = .ok (.if_icmp .gt 7, 3) := by decide +kernel
theorem dX5_isHeight_10 : decode cX5_isHeight 10 = .ok (.iconst 1, 1) := by decide +kernel
theorem dX5_isHeight_11 : decode cX5_isHeight 11 = .ok (.goto 4, 3) := by decide +kernel
theorem dX5_isHeight_14 : decode cX5_isHeight 14 = .ok (.iconst 0, 1) := by decide +kernel
theorem dX5_isHeight_15 : decode cX5_isHeight 15 = .ok (.ireturn, 1) := by decide +kernel
theorem dX5_isDirection_0 : decode cX5_isDirection 0 = .ok (.iload_n 0, 1) := by decide +kernel
theorem dX5_isDirection_1 : decode cX5_isDirection 1 = .ok (.ifCond .eq 8, 3) := by decide +kernel
theorem dX5_isDirection_4 : decode cX5_isDirection 4 = .ok (.iload_n 0, 1) := by decide +kernel
theorem dX5_isDirection_5 : decode cX5_isDirection 5 = .ok (.iconst 1, 1) := by decide +kernel
theorem dX5_isDirection_6 : decode cX5_isDirection 6 = .ok (.if_icmp .ne 7, 3) := by decide +kernel
theorem dX5_isDirection_9 : decode cX5_isDirection 9 = .ok (.iconst 1, 1) := by decide +kernel
theorem dX5_isDirection_10 : decode cX5_isDirection 10 = .ok (.goto 4, 3) := by decide +kernel
theorem dX5_isDirection_13 : decode cX5_isDirection 13 = .ok (.iconst 0, 1) := by decide +kernel
theorem dX5_isDirection_14 : decode cX5_isDirection 14 = .ok (.ireturn, 1) := by decide +kernel
theorem dX5_isTooth_0 : decode cX5_isTooth 0 = .ok (.iload_n 1, 1) := by decide +kernel
theorem dX5_isTooth_1 : decode cX5_isTooth 1 = .ok (.invokestatic 97, 3) := by decide +kernel
theorem dX5_isTooth_4 : decode cX5_isTooth 4 = .ok (.ifCond .eq 27, 3) := by decide +kernel
theorem dX5_isTooth_7 : decode cX5_isTooth 7 = .ok (.iload_n 2, 1) := by decide +kernel
theorem dX5_isTooth_8 : decode cX5_isTooth 8 = .ok (.ifCond .lt 23, 3) := by decide +kernel
theorem dX5_isTooth_11 : decode cX5_isTooth 11 = .ok (.iload_n 2, 1) := by decide +kernel
theorem dX5_isTooth_12 : decode cX5_isTooth 12 = .ok (.aload_n 0, 1) := by decide +kernel
theorem dX5_isTooth_13 : decode cX5_isTooth 13 = .ok (.getfield 10, 3) := by decide +kernel
theorem dX5_isTooth_16 : decode cX5_isTooth 16 = .ok (.getfield 62, 3) := by decide +kernel
theorem dX5_isTooth_19 : decode cX5_isTooth 19 = .ok (.getfield 158, 3) := by decide +kernel
theorem dX5_isTooth_22 : decode cX5_isTooth 22 = .ok (.iload_n 1, 1) := by decide +kernel
theorem dX5_isTooth_23 : decode cX5_isTooth 23 = .ok (.iaload, 1) := by decide +kernel
theorem dX5_isTooth_24 : decode cX5_isTooth 24 = .ok (.if_icmp .ge 7, 3) := by decide +kernel
theorem dX5_isTooth_27 : decode cX5_isTooth 27 = .ok (.iconst 1, 1) := by decide +kernel
theorem dX5_isTooth_28 : decode cX5_isTooth 28 = .ok (.goto 4, 3) := by decide +kernel
theorem dX5_isTooth_31 : decode cX5_isTooth 31 = .ok (.iconst 0, 1) := by decide +kernel
theorem dX5_isTooth_32 : decode cX5_isTooth 32 = .ok (.ireturn, 1) := by decide +kernel
theorem dX5_isScene_0 : decode cX5_isScene 0 = .ok (.iload_n 1, 1) := by decide +kernel
theorem dX5_isScene_1 : decode cX5_isScene 1 = .ok (.ifCond .lt 18, 3) := by decide +kernel
theorem dX5_isScene_4 : decode cX5_isScene 4 = .ok (.iload_n 1, 1) := by decide +kernel
theorem dX5_isScene_5 : decode cX5_isScene 5 = .ok (.aload_n 0, 1) := by decide +kernel
theorem dX5_isScene_6 : decode cX5_isScene 6 = .ok (.getfield 10, 3) := by decide +kernel
theorem dX5_isScene_9 : decode cX5_isScene 9 = .ok (.getfield 164, 3) := by decide +kernel
theorem dX5_isScene_12 : decode cX5_isScene 12 = .ok (.if_icmp .ge 7, 3) := by decide +kernel
theorem dX5_isScene_15 : decode cX5_isScene 15 = .ok (.iconst 1, 1) := by decide +kernel
theorem dX5_isScene_16 : decode cX5_isScene 16 = .ok (.goto 4, 3) := by decide +kernel
theorem dX5_isScene_19 : decode cX5_isScene 19 = .ok (.iconst 0, 1) := by decide +kernel
theorem dX5_isScene_20 : decode cX5_isScene 20 = .ok (.ireturn, 1) := by decide +kernel
theorem dX5_toDirection_0 : decode cX5_toDirection 0 = .ok (.iload_n 0, 1) := by decide +kernel
theorem dX5_toDirection_1 : decode cX5_toDirection 1 = .ok (.ifCond .ne 7, 3) := by decide +kernel
theorem dX5_toDirection_4 : decode cX5_toDirection 4 = .ok (.iconst 1, 1) := by decide +kernel
theorem dX5_toDirection_5 : decode cX5_toDirection 5 = .ok (.goto 4, 3) := by decide +kernel
theorem dX5_toDirection_8 : decode cX5_toDirection 8 = .ok (.iconst (-1), 1) := by decide +kernel
theorem dX5_toDirection_9 : decode cX5_toDirection 9 = .ok (.ireturn, 1) := by decide +kernel
theorem dX5_toNumber_0 : decode cX5_toNumber 0 = .ok (.iload_n 0, 1) := by decide +kernel
theorem dX5_toNumber_1 : decode cX5_toNumber 1 = .ok (.ifCond .eq 7, 3) := by decide +kernel
theorem dX5_toNumber_4 : decode cX5_toNumber 4 = .ok (.iconst 1, 1) := by decide +kernel
theorem dX5_toNumber_5 : decode cX5_toNumber 5 = .ok (.goto 4, 3) := by decide +kernel
theorem dX5_toNumber_8 : decode cX5_toNumber 8 = .ok (.iconst 0, 1) := by decide +kernel
theorem dX5_toNumber_9 : decode cX5_toNumber 9 = .ok (.ireturn, 1) := by decide +kernel
theorem dX5_modulo_0 : decode cX5_modulo 0 = .ok (.iload_n 1, 1) := by decide +kernel
theorem dX5_modulo_1 : decode cX5_modulo 1 = .ok (.iconst 1, 1) := by decide +kernel
theorem dX5_modulo_2 : decode cX5_modulo 2 = .ok (.if_icmp .ge 5, 3) := by decide +kernel
theorem dX5_modulo_5 : decode cX5_modulo 5 = .ok (.iconst 0, 1) := by decide +kernel
theorem dX5_modulo_6 : decode cX5_modulo 6 = .ok (.ireturn, 1) := by decide +kernel
theorem dX5_modulo_7 : decode cX5_modulo 7 = .ok (.iload_n 0, 1) := by decide +kernel
theorem dX5_modulo_8 : decode cX5_modulo 8 = .ok (.iload_n 1, 1) := by decide +kernel
theorem dX5_modulo_9 : decode cX5_modulo 9 = .ok (.irem, 1) := by decide +kernel
theorem dX5_modulo_10 : decode cX5_modulo 10 = .ok (.istore_n 2, 1) := by decide +kernel
theorem dX5_modulo_11 : decode cX5_modulo 11 = .ok (.iload_n 2, 1) := by decide +kernel
theorem dX5_modulo_12 : decode cX5_modulo 12 = .ok (.ifCond .ge 9, 3) := by decide +kernel
theorem dX5_modulo_15 : decode cX5_modulo 15 = .ok (.iload_n 2, 1) := by decide +kernel
theorem dX5_modulo_16 : decode cX5_modulo 16 = .ok (.iload_n 1, 1) := by decide +kernel
theorem dX5_modulo_17 : decode cX5_modulo 17 = .ok (.iadd, 1) := by decide +kernel
theorem dX5_modulo_18 : decode cX5_modulo 18 = .ok (.goto 4, 3) := by decide +kernel
theorem dX5_modulo_21 : decode cX5_modulo 21 = .ok (.iload_n 2, 1) := by decide +kernel
theorem dX5_modulo_22 : decode cX5_modulo 22 = .ok (.ireturn, 1) := by decide +kernel
theorem dX5_stepsToScene_0 : decode cX5_stepsToScene 0 = .ok (.aload_n 0, 1) := by decide +kernel
theorem dX5_stepsToScene_1 : decode cX5_stepsToScene 1 = .ok (.getfield 10, 3) := by decide +kernel
theorem dX5_stepsToScene_4 : decode cX5_stepsToScene 4 = .ok (.getfield 62, 3) := by decide +kernel
theorem dX5_stepsToScene_7 : decode cX5_stepsToScene 7 = .ok (.invokevirtual 276, 3) := by decide +kernel
theorem dX5_stepsToScene_10 : decode cX5_stepsToScene 10 = .ok (.istore_n 2, 1) := by decide +kernel
theorem dX5_stepsToScene_11 : decode cX5_stepsToScene 11 = .ok (.iconst 0, 1) := by decide +kernel
theorem dX5_stepsToScene_12 : decode cX5_stepsToScene 12 = .ok (.istore_n 3, 1) := by decide +kernel
theorem dX5_stepsToScene_13 : decode cX5_stepsToScene 13 = .ok (.iload_n 3, 1) := by decide +kernel
theorem dX5_stepsToScene_14 : decode cX5_stepsToScene 14 = .ok (.iload_n 2, 1) := by decide +kernel
theorem dX5_stepsToScene_15 : decode cX5_stepsToScene 15 = .ok (.if_icmp .ge 23, 3) := by decide +kernel
theorem dX5_stepsToScene_18 : decode cX5_stepsToScene 18 = .ok (.aload_n 0, 1) := by decide +kernel
theorem dX5_stepsToScene_19 : decode cX5_stepsToScene 19 = .ok (.getfield 10, 3) := by decide +kernel
theorem dX5_stepsToScene_22 : decode cX5_stepsToScene 22 = .ok (.iload_n 1, 1) := by decide +kernel
theorem dX5_stepsToScene_23 : decode cX5_stepsToScene 23 = .ok (.iload_n 3, 1) := by decide +kernel
theorem dX5_stepsToScene_24 : decode cX5_stepsToScene 24 = .ok (.invokevirtual 228, 3) := by decide +kernel
theorem dX5_stepsToScene_27 : decode cX5_stepsToScene 27 = .ok (.ifCond .eq 5, 3) := by decide +kernel
theorem dX5_stepsToScene_30 : decode cX5_stepsToScene 30 = .ok (.iload_n 3, 1) := by decide +kernel
theorem dX5_stepsToScene_31 : decode cX5_stepsToScene 31 = .ok (.ireturn, 1) := by decide +kernel
theorem dX5_stepsToScene_32 : decode cX5_stepsToScene 32 = .ok (.iinc 3 1, 3) := by decide +kernel
theorem dX5_stepsToScene_35 : decode cX5_stepsToScene 35 = .ok (.goto (-22), 3) := by decide +kernel
theorem dX5_stepsToScene_38 : decode cX5_stepsToScene 38 = .ok (.iconst (-1), 1) := by decide +kernel
theorem dX5_stepsToScene_39 : decode cX5_stepsToScene 39 = .ok (.ireturn, 1) := by decide +kernel
theorem dX5_roundBySteps_0 : decode cX5_roundBySteps 0 = .ok (.aload_n 0, 1) := by decide +kernel
theorem dX5_roundBySteps_1 : decode cX5_roundBySteps 1 = .ok (.getfield 47, 3) := by decide +kernel
theorem dX5_roundBySteps_4 : decode cX5_roundBySteps 4 = .ok (.aload_n 0, 1) := by decide +kernel
theorem dX5_roundBySteps_5 : decode cX5_roundBySteps 5 = .ok (.getfield 10, 3) := by decide +kernel
theorem dX5_roundBySteps_8 : decode cX5_roundBySteps 8 = .ok (.getfield 62, 3) := by decide +kernel
theorem dX5_roundBySteps_11 : decode cX5_roundBySteps 11 = .ok (.invokevirtual 116, 3) := by decide +kernel
theorem dX5_roundBySteps_14 : decode cX5_roundBySteps 14 = .ok (.iconst 1, 1) := by decide +kernel
theorem dX5_roundBySteps_15 : decode cX5_roundBySteps 15 = .ok (.istore_n 1, 1) := by decide +kernel
theorem dX5_roundBySteps_16 : decode cX5_roundBySteps 16 = .ok (.iload_n 1, 1) := by decide +kernel
theorem dX5_roundBySteps_17 : decode cX5_roundBySteps 17 = .ok (.ldc_w 304, 3) := by decide +kernel
theorem dX5_roundBySteps_20 : decode cX5_roundBySteps 20 = .ok (.if_icmp .ge 36, 3) := by decide +kernel
theorem dX5_roundBySteps_23 : decode cX5_roundBySteps 23 = .ok (.aload_n 0, 1) := by decide +kernel
theorem dX5_roundBySteps_24 : decode cX5_roundBySteps 24 = .ok (.getfield 47, 3) := by decide +kernel
theorem dX5_roundBySteps_27 : decode cX5_roundBySteps 27 = .ok (.iconst 1, 1) := by decide +kernel
theorem dX5_roundBySteps_28 : decode cX5_roundBySteps 28 = .ok (.invokevirtual 305, 3) := by decide +kernel
theorem dX5_roundBySteps_31 : decode cX5_roundBySteps 31 = .ok (.aload_n 0, 1) := by decide +kernel
theorem dX5_roundBySteps_32 : decode cX5_roundBySteps 32 = .ok (.getfield 47, 3) := by decide +kernel
theorem dX5_roundBySteps_35 : decode cX5_roundBySteps 35 = .ok (.aload_n 0, 1) := by decide +kernel
theorem dX5_roundBySteps_36 : decode cX5_roundBySteps 36 = .ok (.getfield 10, 3) := by decide +kernel
theorem dX5_roundBySteps_39 : decode cX5_roundBySteps 39 = .ok (.getfield 62, 3) := by decide +kernel
theorem dX5_roundBySteps_42 : decode cX5_roundBySteps 42 = .ok (.invokevirtual 308, 3) := by decide +kernel
theorem dX5_roundBySteps_45 : decode cX5_roundBySteps 45 = .ok (.ifCond .eq 5, 3) := by decide +kernel
theorem dX5_roundBySteps_48 : decode cX5_roundBySteps 48 = .ok (.iload_n 1, 1) := by decide +kernel
theorem dX5_roundBySteps_49 : decode cX5_roundBySteps 49 = .ok (.ireturn, 1) := by decide +kernel
theorem dX5_roundBySteps_50 : decode cX5_roundBySteps 50 = .ok (.iinc 1 1, 3) := by decide +kernel
theorem dX5_roundBySteps_53 : decode cX5_roundBySteps 53 = .ok (.goto (-37), 3) := by decide +kernel
theorem dX5_roundBySteps_56 : decode cX5_roundBySteps 56 = .ok (.iconst (-1), 1) := by decide +kernel
theorem dX5_roundBySteps_57 : decode cX5_roundBySteps 57 = .ok (.ireturn, 1) := by decide +kernel
theorem dX5_faultOf_0 : decode cX5_faultOf 0 = .ok (.iload_n 2, 1) := by decide +kernel
theorem dX5_faultOf_1 : decode cX5_faultOf 1 = .ok (.iconst 5, 1) := by decide +kernel
theorem dX5_faultOf_2 : decode cX5_faultOf 2 = .ok (.if_icmp .ge 8, 3) := by decide +kernel
theorem dX5_faultOf_5 : decode cX5_faultOf 5 = .ok (.iload_n 3, 1) := by decide +kernel
theorem dX5_faultOf_6 : decode cX5_faultOf 6 = .ok (.iconst 5, 1) := by decide +kernel
theorem dX5_faultOf_7 : decode cX5_faultOf 7 = .ok (.if_icmp .lt 7, 3) := by decide +kernel
theorem dX5_faultOf_10 : decode cX5_faultOf 10 = .ok (.iconst 1, 1) := by decide +kernel
theorem dX5_faultOf_11 : decode cX5_faultOf 11 = .ok (.goto 4, 3) := by decide +kernel
theorem dX5_faultOf_14 : decode cX5_faultOf 14 = .ok (.iconst 0, 1) := by decide +kernel
theorem dX5_faultOf_15 : decode cX5_faultOf 15 = .ok (.istore 6, 2) := by decide +kernel
theorem dX5_faultOf_17 : decode cX5_faultOf 17 = .ok (.iload_n 2, 1) := by decide +kernel
theorem dX5_faultOf_18 : decode cX5_faultOf 18 = .ok (.iconst 5, 1) := by decide +kernel
theorem dX5_faultOf_19 : decode cX5_faultOf 19 = .ok (.if_icmp .lt 12, 3) := by decide +kernel
theorem dX5_faultOf_22 : decode cX5_faultOf 22 = .ok (.iload_n 3, 1) := by decide +kernel
theorem dX5_faultOf_23 : decode cX5_faultOf 23 = .ok (.iconst 5, 1) := by decide +kernel
theorem dX5_faultOf_24 : decode cX5_faultOf 24 = .ok (.if_icmp .lt 7, 3) := by decide +kernel
theorem dX5_faultOf_27 : decode cX5_faultOf 27 = .ok (.iconst 1, 1) := by decide +kernel
theorem dX5_faultOf_28 : decode cX5_faultOf 28 = .ok (.goto 4, 3) := by decide +kernel
theorem dX5_faultOf_31 : decode cX5_faultOf 31 = .ok (.iconst 0, 1) := by decide +kernel
theorem dX5_faultOf_32 : decode cX5_faultOf 32 = .ok (.istore 7, 2) := by decide +kernel
theorem dX5_faultOf_34 : decode cX5_faultOf 34 = .ok (.iload_n 0, 1) := by decide +kernel
theorem dX5_faultOf_35 : decode cX5_faultOf 35 = .ok (.iconst 5, 1) := by decide +kernel
theorem dX5_faultOf_36 : decode cX5_faultOf 36 = .ok (.if_icmp .lt 12, 3) := by decide +kernel
theorem dX5_faultOf_39 : decode cX5_faultOf 39 = .ok (.iload_n 1, 1) := by decide +kernel
theorem dX5_faultOf_40 : decode cX5_faultOf 40 = .ok (.iconst 5, 1) := by decide +kernel
theorem dX5_faultOf_41 : decode cX5_faultOf 41 = .ok (.if_icmp .lt 7, 3) := by decide +kernel
theorem dX5_faultOf_44 : decode cX5_faultOf 44 = .ok (.iconst 1, 1) := by decide +kernel
theorem dX5_faultOf_45 : decode cX5_faultOf 45 = .ok (.goto 4, 3) := by decide +kernel
theorem dX5_faultOf_48 : decode cX5_faultOf 48 = .ok (.iconst 0, 1) := by decide +kernel
theorem dX5_faultOf_49 : decode cX5_faultOf 49 = .ok (.istore 8, 2) := by decide +kernel
theorem dX5_faultOf_51 : decode cX5_faultOf 51 = .ok (.iload 6, 2) := by decide +kernel
theorem dX5_faultOf_53 : decode cX5_faultOf 53 = .ok (.ifCond .eq 10, 3) := by decide +kernel
theorem dX5_faultOf_56 : decode cX5_faultOf 56 = .ok (.iload 8, 2) := by decide +kernel
theorem dX5_faultOf_58 : decode cX5_faultOf 58 = .ok (.ifCond .ne 5, 3) := by decide +kernel
theorem dX5_faultOf_61 : decode cX5_faultOf 61 = .ok (.iconst 1, 1) := by decide +kernel
theorem dX5_faultOf_62 : decode cX5_faultOf 62 = .ok (.ireturn, 1) := by decide +kernel
theorem dX5_faultOf_63 : decode cX5_faultOf 63 = .ok (.iload 7, 2) := by decide +kernel
theorem dX5_faultOf_65 : decode cX5_faultOf 65 = .ok (.ifCond .eq 14, 3) := by decide +kernel
theorem dX5_faultOf_68 : decode cX5_faultOf 68 = .ok (.iload 4, 2) := by decide +kernel
theorem dX5_faultOf_70 : decode cX5_faultOf 70 = .ok (.iload 5, 2) := by decide +kernel
theorem dX5_faultOf_72 : decode cX5_faultOf 72 = .ok (.if_icmp .le 7, 3) := by decide +kernel
theorem dX5_faultOf_75 : decode cX5_faultOf 75 = .ok (.iconst 2, 1) := by decide +kernel
theorem dX5_faultOf_76 : decode cX5_faultOf 76 = .ok (.goto 4, 3) := by decide +kernel
theorem dX5_faultOf_79 : decode cX5_faultOf 79 = .ok (.iconst 0, 1) := by decide +kernel
theorem dX5_faultOf_80 : decode cX5_faultOf 80 = .ok (.ireturn, 1) := by decide +kernel
theorem dL_cell_0 : decode cL_cell 0 = .ok (.iload_n 1, 1) := by decide +kernel
theorem dL_cell_1 : decode cL_cell 1 = .ok (.aload_n 0, 1) := by decide +kernel
theorem dL_cell_2 : decode cL_cell 2 = .ok (.arraylength, 1) := by decide +kernel
theorem dL_cell_3 : decode cL_cell 3 = .ok (.if_icmp .ge 9, 3) := by decide +kernel
theorem dL_cell_6 : decode cL_cell 6 = .ok (.aload_n 0, 1) := by decide +kernel
theorem dL_cell_7 : decode cL_cell 7 = .ok (.iload_n 1, 1) := by decide +kernel
theorem dL_cell_8 : decode cL_cell 8 = .ok (.iaload, 1) := by decide +kernel
theorem dL_cell_9 : decode cL_cell 9 = .ok (.goto 11, 3) := by decide +kernel
theorem dL_cell_12 : decode cL_cell 12 = .ok (.ldc 7, 2) := by decide +kernel
theorem dL_cell_14 : decode cL_cell 14 = .ok (.iload_n 1, 1) := by decide +kernel
theorem dL_cell_15 : decode cL_cell 15 = .ok (.sipush 331, 3) := by decide +kernel
theorem dL_cell_18 : decode cL_cell 18 = .ok (.iadd, 1) := by decide +kernel
theorem dL_cell_19 : decode cL_cell 19 = .ok (.imul, 1) := by decide +kernel
theorem dL_cell_20 : decode cL_cell 20 = .ok (.ireturn, 1) := by decide +kernel
theorem dL_up_0 : decode cL_up 0 = .ok (.iload_n 0, 1) := by decide +kernel
theorem dL_up_1 : decode cL_up 1 = .ok (.ldc 8, 2) := by decide +kernel
theorem dL_up_3 : decode cL_up 3 = .ok (.iand, 1) := by decide +kernel
theorem dL_up_4 : decode cL_up 4 = .ok (.iload_n 1, 1) := by decide +kernel
theorem dL_up_5 : decode cL_up 5 = .ok (.irem, 1) := by decide +kernel
theorem dL_up_6 : decode cL_up 6 = .ok (.ireturn, 1) := by decide +kernel
theorem dL_looks_0 : decode cL_looks 0 = .ok (.ldc2_w 9, 3) := by decide +kernel
theorem dL_looks_3 : decode cL_looks 3 = .ok (.lstore_n 1, 1) := by decide +kernel
theorem dL_looks_4 : decode cL_looks 4 = .ok (.iconst 0, 1) := by decide +kernel
theorem dL_looks_5 : decode cL_looks 5 = .ok (.istore_n 3, 1) := by decide +kernel
theorem dL_looks_6 : decode cL_looks 6 = .ok (.iload_n 3, 1) := by decide +kernel
theorem dL_looks_7 : decode cL_looks 7 = .ok (.bipush 12, 2) := by decide +kernel
theorem dL_looks_9 : decode cL_looks 9 = .ok (.if_icmp .ge 22, 3) := by decide +kernel
theorem dL_looks_12 : decode cL_looks 12 = .ok (.ldc2_w 11, 3) := by decide +kernel
theorem dL_looks_15 : decode cL_looks 15 = .ok (.lload_n 1, 1) := by decide +kernel
theorem dL_looks_16 : decode cL_looks 16 = .ok (.lmul, 1) := by decide +kernel
theorem dL_looks_17 : decode cL_looks 17 = .ok (.aload_n 0, 1) := by decide +kernel
theorem dL_looks_18 : decode cL_looks 18 = .ok (.iload_n 3, 1) := by decide +kernel
theorem dL_looks_19 : decode cL_looks 19 = .ok (.invokevirtual 13, 3) := by decide +kernel
theorem dL_looks_22 : decode cL_looks 22 = .ok (.i2l, 1) := by decide +kernel
theorem dL_looks_23 : decode cL_looks 23 = .ok (.ladd, 1) := by decide +kernel
theorem dL_looks_24 : decode cL_looks 24 = .ok (.lstore_n 1, 1) := by decide +kernel
theorem dL_looks_25 : decode cL_looks 25 = .ok (.iinc 3 1, 3) := by decide +kernel
theorem dL_looks_28 : decode cL_looks 28 = .ok (.goto (-22), 3) := by decide +kernel
theorem dL_looks_31 : decode cL_looks 31 = .ok (.iconst 0, 1) := by decide +kernel
theorem dL_looks_32 : decode cL_looks 32 = .ok (.istore_n 3, 1) := by decide +kernel
theorem dL_looks_33 : decode cL_looks 33 = .ok (.iload_n 3, 1) := by decide +kernel
theorem dL_looks_34 : decode cL_looks 34 = .ok (.iconst 5, 1) := by decide +kernel
theorem dL_looks_35 : decode cL_looks 35 = .ok (.if_icmp .ge 75, 3) := by decide +kernel
theorem dL_looks_38 : decode cL_looks 38 = .ok (.iconst 0, 1) := by decide +kernel
theorem dL_looks_39 : decode cL_looks 39 = .ok (.istore 4, 2) := by decide +kernel
theorem dL_looks_41 : decode cL_looks 41 = .ok (.iload 4, 2) := by decide +kernel
theorem dL_looks_43 : decode cL_looks 43 = .ok (.bipush 7, 2) := by decide +kernel
theorem dL_looks_45 : decode cL_looks 45 = .ok (.if_icmp .ge 24, 3) := by decide +kernel
theorem dL_looks_48 : decode cL_looks 48 = .ok (.ldc2_w 11, 3) := by decide +kernel
theorem dL_looks_51 : decode cL_looks 51 = .ok (.lload_n 1, 1) := by decide +kernel
theorem dL_looks_52 : decode cL_looks 52 = .ok (.lmul, 1) := by decide +kernel
theorem dL_looks_53 : decode cL_looks 53 = .ok (.aload_n 0, 1) := by decide +kernel
theorem dL_looks_54 : decode cL_looks 54 = .ok (.iload_n 3, 1) := by decide +kernel
theorem dL_looks_55 : decode cL_looks 55 = .ok (.iload 4, 2) := by decide +kernel
theorem dL_looks_57 : decode cL_looks 57 = .ok (.invokevirtual 19, 3) := by decide +kernel
theorem dL_looks_60 : decode cL_looks 60 = .ok (.i2l, 1) := by decide +kernel
theorem dL_looks_61 : decode cL_looks 61 = .ok (.ladd, 1) := by decide +kernel
theorem dL_looks_62 : decode cL_looks 62 = .ok (.lstore_n 1, 1) := by decide +kernel
theorem dL_looks_63 : decode cL_looks 63 = .ok (.iinc 4 1, 3) := by decide +kernel
theorem dL_looks_66 : decode cL_looks 66 = .ok (.goto (-25), 3) := by decide +kernel
theorem dL_looks_69 : decode cL_looks 69 = .ok (.iconst 0, 1) := by decide +kernel
theorem dL_looks_70 : decode cL_looks 70 = .ok (.istore 4, 2) := by decide +kernel
theorem dL_looks_72 : decode cL_looks 72 = .ok (.iload 4, 2) := by decide +kernel
theorem dL_looks_74 : decode cL_looks 74 = .ok (.aload_n 0, 1) := by decide +kernel
theorem dL_looks_75 : decode cL_looks 75 = .ok (.iload_n 3, 1) := by decide +kernel
theorem dL_looks_76 : decode cL_looks 76 = .ok (.iconst 0, 1) := by decide +kernel
theorem dL_looks_77 : decode cL_looks 77 = .ok (.invokevirtual 19, 3) := by decide +kernel
theorem dL_looks_80 : decode cL_looks 80 = .ok (.if_icmp .ge 24, 3) := by decide +kernel
theorem dL_looks_83 : decode cL_looks 83 = .ok (.ldc2_w 11, 3) := by decide +kernel
theorem dL_looks_86 : decode cL_looks 86 = .ok (.lload_n 1, 1) := by decide +kernel
theorem dL_looks_87 : decode cL_looks 87 = .ok (.lmul, 1) := by decide +kernel
theorem dL_looks_88 : decode cL_looks 88 = .ok (.aload_n 0, 1) := by decide +kernel
theorem dL_looks_89 : decode cL_looks 89 = .ok (.iload_n 3, 1) := by decide +kernel
theorem dL_looks_90 : decode cL_looks 90 = .ok (.iload 4, 2) := by decide +kernel
theorem dL_looks_92 : decode cL_looks 92 = .ok (.invokevirtual 23, 3) := by decide +kernel
theorem dL_looks_95 : decode cL_looks 95 = .ok (.i2l, 1) := by decide +kernel
theorem dL_looks_96 : decode cL_looks 96 = .ok (.ladd, 1) := by decide +kernel
theorem dL_looks_97 : decode cL_looks 97 = .ok (.lstore_n 1, 1) := by decide +kernel
theorem dL_looks_98 : decode cL_looks 98 = .ok (.iinc 4 1, 3) := by decide +kernel
theorem dL_looks_101 : decode cL_looks 101 = .ok (.goto (-29), 3) := by decide +kernel
theorem dL_looks_104 : decode cL_looks 104 = .ok (.iinc 3 1, 3) := by decide +kernel
theorem dL_looks_107 : decode cL_looks 107 = .ok (.goto (-74), 3) := by decide +kernel
theorem dL_looks_110 : decode cL_looks 110 = .ok (.iconst 0, 1) := by decide +kernel
theorem dL_looks_111 : decode cL_looks 111 = .ok (.istore_n 3, 1) := by decide +kernel
theorem dL_looks_112 : decode cL_looks 112 = .ok (.iload_n 3, 1) := by decide +kernel
theorem dL_looks_113 : decode cL_looks 113 = .ok (.bipush 7, 2) := by decide +kernel
theorem dL_looks_115 : decode cL_looks 115 = .ok (.aload_n 0, 1) := by decide +kernel
theorem dL_looks_116 : decode cL_looks 116 = .ok (.bipush 7, 2) := by decide +kernel
theorem dL_looks_118 : decode cL_looks 118 = .ok (.invokevirtual 13, 3) := by decide +kernel
theorem dL_looks_121 : decode cL_looks 121 = .ok (.imul, 1) := by decide +kernel
theorem dL_looks_122 : decode cL_looks 122 = .ok (.if_icmp .ge 29, 3) := by decide +kernel
theorem dL_looks_125 : decode cL_looks 125 = .ok (.ldc2_w 11, 3) := by decide +kernel
theorem dL_looks_128 : decode cL_looks 128 = .ok (.lload_n 1, 1) := by decide +kernel
theorem dL_looks_129 : decode cL_looks 129 = .ok (.lmul, 1) := by decide +kernel
theorem dL_looks_130 : decode cL_looks 130 = .ok (.aload_n 0, 1) := by decide +kernel
theorem dL_looks_131 : decode cL_looks 131 = .ok (.iload_n 3, 1) := by decide +kernel
theorem dL_looks_132 : decode cL_looks 132 = .ok (.bipush 7, 2) := by decide +kernel
theorem dL_looks_134 : decode cL_looks 134 = .ok (.idiv, 1) := by decide +kernel
theorem dL_looks_135 : decode cL_looks 135 = .ok (.iload_n 3, 1) := by decide +kernel
theorem dL_looks_136 : decode cL_looks 136 = .ok (.bipush 7, 2) := by decide +kernel
theorem dL_looks_138 : decode cL_looks 138 = .ok (.irem, 1) := by decide +kernel
theorem dL_looks_139 : decode cL_looks 139 = .ok (.invokevirtual 26, 3) := by decide +kernel
theorem dL_looks_142 : decode cL_looks 142 = .ok (.i2l, 1) := by decide +kernel
theorem dL_looks_143 : decode cL_looks 143 = .ok (.ladd, 1) := by decide +kernel
theorem dL_looks_144 : decode cL_looks 144 = .ok (.lstore_n 1, 1) := by decide +kernel
theorem dL_looks_145 : decode cL_looks 145 = .ok (.iinc 3 1, 3) := by decide +kernel
theorem dL_looks_148 : decode cL_looks 148 = .ok (.goto (-36), 3) := by decide +kernel
theorem dL_looks_151 : decode cL_looks 151 = .ok (.ldc2_w 11, 3) := by decide +kernel
theorem dL_looks_154 : decode cL_looks 154 = .ok (.ldc2_w 11, 3) := by decide +kernel
theorem dL_looks_157 : decode cL_looks 157 = .ok (.lload_n 1, 1) := by decide +kernel
theorem dL_looks_158 : decode cL_looks 158 = .ok (.lmul, 1) := by decide +kernel
theorem dL_looks_159 : decode cL_looks 159 = .ok (.aload_n 0, 1) := by decide +kernel
theorem dL_looks_160 : decode cL_looks 160 = .ok (.iconst 0, 1) := by decide +kernel
theorem dL_looks_161 : decode cL_looks 161 = .ok (.invokevirtual 29, 3) := by decide +kernel
theorem dL_looks_164 : decode cL_looks 164 = .ok (.i2l, 1) := by decide +kernel
theorem dL_looks_165 : decode cL_looks 165 = .ok (.ladd, 1) := by decide +kernel
theorem dL_looks_166 : decode cL_looks 166 = .ok (.lmul, 1) := by decide +kernel
theorem dL_looks_167 : decode cL_looks 167 = .ok (.aload_n 0, 1) := by decide +kernel
theorem dL_looks_168 : decode cL_looks 168 = .ok (.iconst 1, 1) := by decide +kernel
theorem dL_looks_169 : decode cL_looks 169 = .ok (.invokevirtual 29, 3) := by decide +kernel
theorem dL_looks_172 : decode cL_looks 172 = .ok (.i2l, 1) := by decide +kernel
theorem dL_looks_173 : decode cL_looks 173 = .ok (.ladd, 1) := by decide +kernel
theorem dL_looks_174 : decode cL_looks 174 = .ok (.lreturn, 1) := by decide +kernel
theorem dL_isGood_0 : decode cL_isGood 0 = .ok (.iconst 5, 1) := by decide +kernel
theorem dL_isGood_1 : decode cL_isGood 1 = .ok (.newarray .int, 2) := by decide +kernel
theorem dL_isGood_3 : decode cL_isGood 3 = .ok (.astore 4, 2) := by decide +kernel
theorem dL_isGood_5 : decode cL_isGood 5 = .ok (.iconst 0, 1) := by decide +kernel
theorem dL_isGood_6 : decode cL_isGood 6 = .ok (.istore 5, 2) := by decide +kernel
theorem dL_isGood_8 : decode cL_isGood 8 = .ok (.iload 5, 2) := by decide +kernel
theorem dL_isGood_10 : decode cL_isGood 10 = .ok (.iconst 5, 1) := by decide +kernel
theorem dL_isGood_11 : decode cL_isGood 11 = .ok (.if_icmp .ge 31, 3) := by decide +kernel
theorem dL_isGood_14 : decode cL_isGood 14 = .ok (.aload 4, 2) := by decide +kernel
theorem dL_isGood_16 : decode cL_isGood 16 = .ok (.iload 5, 2) := by decide +kernel
theorem dL_isGood_18 : decode cL_isGood 18 = .ok (.iload 5, 2) := by decide +kernel
theorem dL_isGood_20 : decode cL_isGood 20 = .ok (.iload_n 1, 1) := by decide +kernel
theorem dL_isGood_21 : decode cL_isGood 21 = .ok (.if_icmp .ne 7, 3) := by decide +kernel
theorem dL_isGood_24 : decode cL_isGood 24 = .ok (.iload_n 2, 1) := by decide +kernel
theorem dL_isGood_25 : decode cL_isGood 25 = .ok (.goto 10, 3) := by decide +kernel
theorem dL_isGood_28 : decode cL_isGood 28 = .ok (.aload_n 0, 1) := by decide +kernel
theorem dL_isGood_29 : decode cL_isGood 29 = .ok (.iload 5, 2) := by decide +kernel
theorem dL_isGood_31 : decode cL_isGood 31 = .ok (.iconst 3, 1) := by decide +kernel
theorem dL_isGood_32 : decode cL_isGood 32 = .ok (.invokevirtual 19, 3) := by decide +kernel
theorem dL_isGood_35 : decode cL_isGood 35 = .ok (.iastore, 1) := by decide +kernel
theorem dL_isGood_36 : decode cL_isGood 36 = .ok (.iinc 5 1, 3) := by decide +kernel
theorem dL_isGood_39 : decode cL_isGood 39 = .ok (.goto (-31), 3) := by decide +kernel
theorem dL_isGood_42 : decode cL_isGood 42 = .ok (.aload 4, 2) := by decide +kernel
theorem dL_isGood_44 : decode cL_isGood 44 = .ok (.iconst 0, 1) := by decide +kernel
theorem dL_isGood_45 : decode cL_isGood 45 = .ok (.iaload, 1) := by decide +kernel
theorem dL_isGood_46 : decode cL_isGood 46 = .ok (.iconst 4, 1) := by decide +kernel
theorem dL_isGood_47 : decode cL_isGood 47 = .ok (.if_icmp .le 15, 3) := by decide +kernel
theorem dL_isGood_50 : decode cL_isGood 50 = .ok (.aload 4, 2) := by decide +kernel
theorem dL_isGood_52 : decode cL_isGood 52 = .ok (.iconst 1, 1) := by decide +kernel
theorem dL_isGood_53 : decode cL_isGood 53 = .ok (.iaload, 1) := by decide +kernel
theorem dL_isGood_54 : decode cL_isGood 54 = .ok (.iconst 4, 1) := by decide +kernel
theorem dL_isGood_55 : decode cL_isGood 55 = .ok (.if_icmp .le 7, 3) := by decide +kernel
theorem dL_isGood_58 : decode cL_isGood 58 = .ok (.iconst 1, 1) := by decide +kernel
theorem dL_isGood_59 : decode cL_isGood 59 = .ok (.goto 4, 3) := by decide +kernel
theorem dL_isGood_62 : decode cL_isGood 62 = .ok (.iconst 0, 1) := by decide +kernel
theorem dL_isGood_63 : decode cL_isGood 63 = .ok (.istore 5, 2) := by decide +kernel
theorem dL_isGood_65 : decode cL_isGood 65 = .ok (.aload 4, 2) := by decide +kernel
theorem dL_isGood_67 : decode cL_isGood 67 = .ok (.iconst 2, 1) := by decide +kernel
theorem dL_isGood_68 : decode cL_isGood 68 = .ok (.iaload, 1) := by decide +kernel
theorem dL_isGood_69 : decode cL_isGood 69 = .ok (.iconst 5, 1) := by decide +kernel
theorem dL_isGood_70 : decode cL_isGood 70 = .ok (.if_icmp .ge 11, 3) := by decide +kernel
theorem dL_isGood_73 : decode cL_isGood 73 = .ok (.aload 4, 2) := by decide +kernel
theorem dL_isGood_75 : decode cL_isGood 75 = .ok (.iconst 3, 1) := by decide +kernel
theorem dL_isGood_76 : decode cL_isGood 76 = .ok (.iaload, 1) := by decide +kernel
theorem dL_isGood_77 : decode cL_isGood 77 = .ok (.iconst 5, 1) := by decide +kernel
theorem dL_isGood_78 : decode cL_isGood 78 = .ok (.if_icmp .lt 8, 3) := by decide +kernel
theorem dL_isGood_81 : decode cL_isGood 81 = .ok (.iload 5, 2) := by decide +kernel
theorem dL_isGood_83 : decode cL_isGood 83 = .ok (.ifCond .eq 31, 3) := by decide +kernel
theorem dL_isGood_86 : decode cL_isGood 86 = .ok (.aload 4, 2) := by decide +kernel
theorem dL_isGood_88 : decode cL_isGood 88 = .ok (.iconst 2, 1) := by decide +kernel
theorem dL_isGood_89 : decode cL_isGood 89 = .ok (.iaload, 1) := by decide +kernel
theorem dL_isGood_90 : decode cL_isGood 90 = .ok (.iconst 5, 1) := by decide +kernel
theorem dL_isGood_91 : decode cL_isGood 91 = .ok (.if_icmp .lt 19, 3) := by decide +kernel
theorem dL_isGood_94 : decode cL_isGood 94 = .ok (.aload 4, 2) := by decide +kernel
