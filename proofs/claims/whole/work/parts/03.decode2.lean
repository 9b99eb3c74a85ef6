theorem dX6_undo_32 : decode cX6_undo 32 = .ok (.getfield 56, 3) := by decide +kernel
theorem dX6_undo_35 : decode cX6_undo 35 = .ok (.iconst 1, 1) := by decide +kernel
theorem dX6_undo_36 : decode cX6_undo 36 = .ok (.isub, 1) := by decide +kernel
theorem dX6_undo_37 : decode cX6_undo 37 = .ok (.putfield 56, 3) := by decide +kernel
theorem dX6_undo_40 : decode cX6_undo 40 = .ok (.aload_n 0, 1) := by decide +kernel
theorem dX6_undo_41 : decode cX6_undo 41 = .ok (.getfield 56, 3) := by decide +kernel
theorem dX6_undo_44 : decode cX6_undo 44 = .ok (.ireturn, 1) := by decide +kernel
theorem dX6_ofWheel_0 : decode cX6_ofWheel 0 = .ok (.iload_n 2, 1) := by decide +kernel
theorem dX6_ofWheel_1 : decode cX6_ofWheel 1 = .ok (.tableswitch 88 0 5 #[39, 48, 48, 57, 63, 73], 39) := by decide +kernel
theorem dX6_ofWheel_40 : decode cX6_ofWheel 40 = .ok (.aload_n 0, 1) := by decide +kernel
theorem dX6_ofWheel_41 : decode cX6_ofWheel 41 = .ok (.getfield 7, 3) := by decide +kernel
theorem dX6_ofWheel_44 : decode cX6_ofWheel 44 = .ok (.iconst 0, 1) := by decide +kernel
theorem dX6_ofWheel_45 : decode cX6_ofWheel 45 = .ok (.iload_n 1, 1) := by decide +kernel
theorem dX6_ofWheel_46 : decode cX6_ofWheel 46 = .ok (.iadd, 1) := by decide +kernel
theorem dX6_ofWheel_47 : decode cX6_ofWheel 47 = .ok (.iaload, 1) := by decide +kernel
theorem dX6_ofWheel_48 : decode cX6_ofWheel 48 = .ok (.ireturn, 1) := by decide +kernel
theorem dX6_ofWheel_49 : decode cX6_ofWheel 49 = .ok (.aload_n 0, 1) := by decide +kernel
theorem dX6_ofWheel_50 : decode cX6_ofWheel 50 = .ok (.getfield 7, 3) := by decide +kernel
theorem dX6_ofWheel_53 : decode cX6_ofWheel 53 = .ok (.iconst 5, 1) := by decide +kernel
theorem dX6_ofWheel_54 : decode cX6_ofWheel 54 = .ok (.iload_n 1, 1) := by decide +kernel
theorem dX6_ofWheel_55 : decode cX6_ofWheel 55 = .ok (.iadd, 1) := by decide +kernel
theorem dX6_ofWheel_56 : decode cX6_ofWheel 56 = .ok (.iaload, 1) := by decide +kernel
theorem dX6_ofWheel_57 : decode cX6_ofWheel 57 = .ok (.ireturn, 1) := by decide +kernel
theorem dX6_ofWheel_58 : decode cX6_ofWheel 58 = .ok (.aload_n 0, 1) := by decide +kernel
theorem dX6_ofWheel_59 : decode cX6_ofWheel 59 = .ok (.iload_n 1, 1) := by decide +kernel
theorem dX6_ofWheel_60 : decode cX6_ofWheel 60 = .ok (.invokevirtual 92, 3) := by decide +kernel
theorem dX6_ofWheel_63 : decode cX6_ofWheel 63 = .ok (.ireturn, 1) := by decide +kernel
theorem dX6_ofWheel_64 : decode cX6_ofWheel 64 = .ok (.aload_n 0, 1) := by decide +kernel
theorem dX6_ofWheel_65 : decode cX6_ofWheel 65 = .ok (.getfield 7, 3) := by decide +kernel
theorem dX6_ofWheel_68 : decode cX6_ofWheel 68 = .ok (.bipush 10, 2) := by decide +kernel
theorem dX6_ofWheel_70 : decode cX6_ofWheel 70 = .ok (.iload_n 1, 1) := by decide +kernel
theorem dX6_ofWheel_71 : decode cX6_ofWheel 71 = .ok (.iadd, 1) := by decide +kernel
theorem dX6_ofWheel_72 : decode cX6_ofWheel 72 = .ok (.iaload, 1) := by decide +kernel
theorem dX6_ofWheel_73 : decode cX6_ofWheel 73 = .ok (.ireturn, 1) := by decide +kernel
theorem dX6_ofWheel_74 : decode cX6_ofWheel 74 = .ok (.aload_n 0, 1) := by decide +kernel
theorem dX6_ofWheel_75 : decode cX6_ofWheel 75 = .ok (.iload_n 1, 1) := by decide +kernel
theorem dX6_ofWheel_76 : decode cX6_ofWheel 76 = .ok (.invokevirtual 92, 3) := by decide +kernel
theorem dX6_ofWheel_79 : decode cX6_ofWheel 79 = .ok (.iconst 5, 1) := by decide +kernel
theorem dX6_ofWheel_80 : decode cX6_ofWheel 80 = .ok (.if_icmp .lt 7, 3) := by decide +kernel
theorem dX6_ofWheel_83 : decode cX6_ofWheel 83 = .ok (.iconst 1, 1) := by decide +kernel
theorem dX6_ofWheel_84 : decode cX6_ofWheel 84 = .ok (.goto 4, 3) := by decide +kernel
theorem dX6_ofWheel_87 : decode cX6_ofWheel 87 = .ok (.iconst 0, 1) := by decide +kernel
theorem dX6_ofWheel_88 : decode cX6_ofWheel 88 = .ok (.ireturn, 1) := by decide +kernel
theorem dX6_ofWheel_89 : decode cX6_ofWheel 89 = .ok (.iconst 0, 1) := by decide +kernel
theorem dX6_ofWheel_90 : decode cX6_ofWheel 90 = .ok (.istore_n 3, 1) := by decide +kernel
theorem dX6_ofWheel_91 : decode cX6_ofWheel 91 = .ok (.iconst 0, 1) := by decide +kernel
theorem dX6_ofWheel_92 : decode cX6_ofWheel 92 = .ok (.istore 4, 2) := by decide +kernel
theorem dX6_ofWheel_94 : decode cX6_ofWheel 94 = .ok (.iload 4, 2) := by decide +kernel
theorem dX6_ofWheel_96 : decode cX6_ofWheel 96 = .ok (.aload_n 0, 1) := by decide +kernel
theorem dX6_ofWheel_97 : decode cX6_ofWheel 97 = .ok (.getfield 7, 3) := by decide +kernel
theorem dX6_ofWheel_100 : decode cX6_ofWheel 100 = .ok (.iconst 0, 1) := by decide +kernel
theorem dX6_ofWheel_101 : decode cX6_ofWheel 101 = .ok (.iload_n 1, 1) := by decide +kernel
theorem dX6_ofWheel_102 : decode cX6_ofWheel 102 = .ok (.iadd, 1) := by decide +kernel
theorem dX6_ofWheel_103 : decode cX6_ofWheel 103 = .ok (.iaload, 1) := by decide +kernel
theorem dX6_ofWheel_104 : decode cX6_ofWheel 104 = .ok (.if_icmp .ge 36, 3) := by decide +kernel
theorem dX6_ofWheel_107 : decode cX6_ofWheel 107 = .ok (.iload_n 3, 1) := by decide +kernel
theorem dX6_ofWheel_108 : decode cX6_ofWheel 108 = .ok (.aload_n 0, 1) := by decide +kernel
theorem dX6_ofWheel_109 : decode cX6_ofWheel 109 = .ok (.getfield 7, 3) := by decide +kernel
theorem dX6_ofWheel_112 : decode cX6_ofWheel 112 = .ok (.bipush 15, 2) := by decide +kernel
theorem dX6_ofWheel_114 : decode cX6_ofWheel 114 = .ok (.bipush 12, 2) := by decide +kernel
theorem dX6_ofWheel_116 : decode cX6_ofWheel 116 = .ok (.iload_n 1, 1) := by decide +kernel
theorem dX6_ofWheel_117 : decode cX6_ofWheel 117 = .ok (.imul, 1) := by decide +kernel
theorem dX6_ofWheel_118 : decode cX6_ofWheel 118 = .ok (.iadd, 1) := by decide +kernel
theorem dX6_ofWheel_119 : decode cX6_ofWheel 119 = .ok (.iload 4, 2) := by decide +kernel
theorem dX6_ofWheel_121 : decode cX6_ofWheel 121 = .ok (.iadd, 1) := by decide +kernel
theorem dX6_ofWheel_122 : decode cX6_ofWheel 122 = .ok (.iaload, 1) := by decide +kernel
theorem dX6_ofWheel_123 : decode cX6_ofWheel 123 = .ok (.iconst 5, 1) := by decide +kernel
theorem dX6_ofWheel_124 : decode cX6_ofWheel 124 = .ok (.if_icmp .lt 7, 3) := by decide +kernel
theorem dX6_ofWheel_127 : decode cX6_ofWheel 127 = .ok (.iconst 1, 1) := by decide +kernel
theorem dX6_ofWheel_128 : decode cX6_ofWheel 128 = .ok (.goto 4, 3) := by decide +kernel
theorem dX6_ofWheel_131 : decode cX6_ofWheel 131 = .ok (.iconst 0, 1) := by decide +kernel
theorem dX6_ofWheel_132 : decode cX6_ofWheel 132 = .ok (.iadd, 1) := by decide +kernel
theorem dX6_ofWheel_133 : decode cX6_ofWheel 133 = .ok (.istore_n 3, 1) := by decide +kernel
theorem dX6_ofWheel_134 : decode cX6_ofWheel 134 = .ok (.iinc 4 1, 3) := by decide +kernel
theorem dX6_ofWheel_137 : decode cX6_ofWheel 137 = .ok (.goto (-43), 3) := by decide +kernel
theorem dX6_ofWheel_140 : decode cX6_ofWheel 140 = .ok (.iload_n 3, 1) := by decide +kernel
theorem dX6_ofWheel_141 : decode cX6_ofWheel 141 = .ok (.ireturn, 1) := by decide +kernel
theorem dX6_wheel_0 : decode cX6_wheel 0 = .ok (.aload_n 0, 1) := by decide +kernel
theorem dX6_wheel_1 : decode cX6_wheel 1 = .ok (.iload_n 1, 1) := by decide +kernel
theorem dX6_wheel_2 : decode cX6_wheel 2 = .ok (.invokestatic 76, 3) := by decide +kernel
theorem dX6_wheel_5 : decode cX6_wheel 5 = .ok (.ifCond .ne 7, 3) := by decide +kernel
theorem dX6_wheel_8 : decode cX6_wheel 8 = .ok (.iconst 1, 1) := by decide +kernel
theorem dX6_wheel_9 : decode cX6_wheel 9 = .ok (.goto 18, 3) := by decide +kernel
theorem dX6_wheel_12 : decode cX6_wheel 12 = .ok (.iload_n 2, 1) := by decide +kernel
theorem dX6_wheel_13 : decode cX6_wheel 13 = .ok (.iconst 0, 1) := by decide +kernel
theorem dX6_wheel_14 : decode cX6_wheel 14 = .ok (.bipush 6, 2) := by decide +kernel
theorem dX6_wheel_16 : decode cX6_wheel 16 = .ok (.invokestatic 26, 3) := by decide +kernel
theorem dX6_wheel_19 : decode cX6_wheel 19 = .ok (.ifCond .ne 7, 3) := by decide +kernel
theorem dX6_wheel_22 : decode cX6_wheel 22 = .ok (.iconst 2, 1) := by decide +kernel
theorem dX6_wheel_23 : decode cX6_wheel 23 = .ok (.goto 4, 3) := by decide +kernel
theorem dX6_wheel_26 : decode cX6_wheel 26 = .ok (.iconst 0, 1) := by decide +kernel
theorem dX6_wheel_27 : decode cX6_wheel 27 = .ok (.invokevirtual 63, 3) := by decide +kernel
theorem dX6_wheel_30 : decode cX6_wheel 30 = .ok (.ifCond .eq 12, 3) := by decide +kernel
theorem dX6_wheel_33 : decode cX6_wheel 33 = .ok (.aload_n 0, 1) := by decide +kernel
theorem dX6_wheel_34 : decode cX6_wheel 34 = .ok (.iload_n 1, 1) := by decide +kernel
theorem dX6_wheel_35 : decode cX6_wheel 35 = .ok (.iload_n 2, 1) := by decide +kernel
theorem dX6_wheel_36 : decode cX6_wheel 36 = .ok (.invokevirtual 136, 3) := by decide +kernel
theorem dX6_wheel_39 : decode cX6_wheel 39 = .ok (.goto 4, 3) := by decide +kernel
theorem dX6_wheel_42 : decode cX6_wheel 42 = .ok (.iconst 0, 1) := by decide +kernel
theorem dX6_wheel_43 : decode cX6_wheel 43 = .ok (.ireturn, 1) := by decide +kernel
theorem dX6_tooth_0 : decode cX6_tooth 0 = .ok (.aload_n 0, 1) := by decide +kernel
theorem dX6_tooth_1 : decode cX6_tooth 1 = .ok (.aload_n 0, 1) := by decide +kernel
theorem dX6_tooth_2 : decode cX6_tooth 2 = .ok (.iload_n 1, 1) := by decide +kernel
theorem dX6_tooth_3 : decode cX6_tooth 3 = .ok (.iload_n 2, 1) := by decide +kernel
theorem dX6_tooth_4 : decode cX6_tooth 4 = .ok (.invokevirtual 89, 3) := by decide +kernel
theorem dX6_tooth_7 : decode cX6_tooth 7 = .ok (.ifCond .eq 7, 3) := by decide +kernel
theorem dX6_tooth_10 : decode cX6_tooth 10 = .ok (.iconst 0, 1) := by decide +kernel
theorem dX6_tooth_11 : decode cX6_tooth 11 = .ok (.goto 4, 3) := by decide +kernel
theorem dX6_tooth_14 : decode cX6_tooth 14 = .ok (.iconst 1, 1) := by decide +kernel
theorem dX6_tooth_15 : decode cX6_tooth 15 = .ok (.invokevirtual 63, 3) := by decide +kernel
theorem dX6_tooth_18 : decode cX6_tooth 18 = .ok (.ifCond .eq 20, 3) := by decide +kernel
theorem dX6_tooth_21 : decode cX6_tooth 21 = .ok (.aload_n 0, 1) := by decide +kernel
theorem dX6_tooth_22 : decode cX6_tooth 22 = .ok (.getfield 7, 3) := by decide +kernel
theorem dX6_tooth_25 : decode cX6_tooth 25 = .ok (.bipush 15, 2) := by decide +kernel
theorem dX6_tooth_27 : decode cX6_tooth 27 = .ok (.bipush 12, 2) := by decide +kernel
theorem dX6_tooth_29 : decode cX6_tooth 29 = .ok (.iload_n 1, 1) := by decide +kernel
theorem dX6_tooth_30 : decode cX6_tooth 30 = .ok (.imul, 1) := by decide +kernel
theorem dX6_tooth_31 : decode cX6_tooth 31 = .ok (.iadd, 1) := by decide +kernel
theorem dX6_tooth_32 : decode cX6_tooth 32 = .ok (.iload_n 2, 1) := by decide +kernel
theorem dX6_tooth_33 : decode cX6_tooth 33 = .ok (.iadd, 1) := by decide +kernel
theorem dX6_tooth_34 : decode cX6_tooth 34 = .ok (.iaload, 1) := by decide +kernel
theorem dX6_tooth_35 : decode cX6_tooth 35 = .ok (.goto 4, 3) := by decide +kernel
theorem dX6_tooth_38 : decode cX6_tooth 38 = .ok (.iconst 0, 1) := by decide +kernel
theorem dX6_tooth_39 : decode cX6_tooth 39 = .ok (.ireturn, 1) := by decide +kernel
theorem dX6_rounds_0 : decode cX6_rounds 0 = .ok (.iconst 1, 1) := by decide +kernel
theorem dX6_rounds_1 : decode cX6_rounds 1 = .ok (.istore_n 1, 1) := by decide +kernel
theorem dX6_rounds_2 : decode cX6_rounds 2 = .ok (.iconst 0, 1) := by decide +kernel
theorem dX6_rounds_3 : decode cX6_rounds 3 = .ok (.istore_n 2, 1) := by decide +kernel
theorem dX6_rounds_4 : decode cX6_rounds 4 = .ok (.iload_n 2, 1) := by decide +kernel
theorem dX6_rounds_5 : decode cX6_rounds 5 = .ok (.iconst 5, 1) := by decide +kernel
theorem dX6_rounds_6 : decode cX6_rounds 6 = .ok (.if_icmp .ge 57, 3) := by decide +kernel
theorem dX6_rounds_9 : decode cX6_rounds 9 = .ok (.aload_n 0, 1) := by decide +kernel
theorem dX6_rounds_10 : decode cX6_rounds 10 = .ok (.getfield 7, 3) := by decide +kernel
theorem dX6_rounds_13 : decode cX6_rounds 13 = .ok (.bipush 10, 2) := by decide +kernel
theorem dX6_rounds_15 : decode cX6_rounds 15 = .ok (.iload_n 2, 1) := by decide +kernel
theorem dX6_rounds_16 : decode cX6_rounds 16 = .ok (.iadd, 1) := by decide +kernel
theorem dX6_rounds_17 : decode cX6_rounds 17 = .ok (.iaload, 1) := by decide +kernel
theorem dX6_rounds_18 : decode cX6_rounds 18 = .ok (.iconst 1, 1) := by decide +kernel
theorem dX6_rounds_19 : decode cX6_rounds 19 = .ok (.if_icmp .ne 14, 3) := by decide +kernel
theorem dX6_rounds_22 : decode cX6_rounds 22 = .ok (.aload_n 0, 1) := by decide +kernel
theorem dX6_rounds_23 : decode cX6_rounds 23 = .ok (.getfield 7, 3) := by decide +kernel
theorem dX6_rounds_26 : decode cX6_rounds 26 = .ok (.iconst 0, 1) := by decide +kernel
theorem dX6_rounds_27 : decode cX6_rounds 27 = .ok (.iload_n 2, 1) := by decide +kernel
theorem dX6_rounds_28 : decode cX6_rounds 28 = .ok (.iadd, 1) := by decide +kernel
theorem dX6_rounds_29 : decode cX6_rounds 29 = .ok (.iaload, 1) := by decide +kernel
theorem dX6_rounds_30 : decode cX6_rounds 30 = .ok (.goto 4, 3) := by decide +kernel
theorem dX6_rounds_33 : decode cX6_rounds 33 = .ok (.iconst 1, 1) := by decide +kernel
theorem dX6_rounds_34 : decode cX6_rounds 34 = .ok (.istore_n 3, 1) := by decide +kernel
theorem dX6_rounds_35 : decode cX6_rounds 35 = .ok (.iload_n 1, 1) := by decide +kernel
theorem dX6_rounds_36 : decode cX6_rounds 36 = .ok (.istore 4, 2) := by decide +kernel
theorem dX6_rounds_38 : decode cX6_rounds 38 = .ok (.iload 4, 2) := by decide +kernel
theorem dX6_rounds_40 : decode cX6_rounds 40 = .ok (.iload_n 3, 1) := by decide +kernel
theorem dX6_rounds_41 : decode cX6_rounds 41 = .ok (.irem, 1) := by decide +kernel
theorem dX6_rounds_42 : decode cX6_rounds 42 = .ok (.ifCond .eq 12, 3) := by decide +kernel
theorem dX6_rounds_45 : decode cX6_rounds 45 = .ok (.iload 4, 2) := by decide +kernel
theorem dX6_rounds_47 : decode cX6_rounds 47 = .ok (.iload_n 1, 1) := by decide +kernel
theorem dX6_rounds_48 : decode cX6_rounds 48 = .ok (.iadd, 1) := by decide +kernel
theorem dX6_rounds_49 : decode cX6_rounds 49 = .ok (.istore 4, 2) := by decide +kernel
theorem dX6_rounds_51 : decode cX6_rounds 51 = .ok (.goto (-13), 3) := by decide +kernel
theorem dX6_rounds_54 : decode cX6_rounds 54 = .ok (.iload 4, 2) := by decide +kernel
theorem dX6_rounds_56 : decode cX6_rounds 56 = .ok (.istore_n 1, 1) := by decide +kernel
theorem dX6_rounds_57 : decode cX6_rounds 57 = .ok (.iinc 2 1, 3) := by decide +kernel
theorem dX6_rounds_60 : decode cX6_rounds 60 = .ok (.goto (-56), 3) := by decide +kernel
theorem dX6_rounds_63 : decode cX6_rounds 63 = .ok (.iload_n 1, 1) := by decide +kernel
theorem dX6_rounds_64 : decode cX6_rounds 64 = .ok (.ireturn, 1) := by decide +kernel
theorem dX6_isAsScene_0 : decode cX6_isAsScene 0 = .ok (.iconst 1, 1) := by decide +kernel
theorem dX6_isAsScene_1 : decode cX6_isAsScene 1 = .ok (.istore_n 3, 1) := by decide +kernel
theorem dX6_isAsScene_2 : decode cX6_isAsScene 2 = .ok (.iconst 0, 1) := by decide +kernel
theorem dX6_isAsScene_3 : decode cX6_isAsScene 3 = .ok (.istore 4, 2) := by decide +kernel
theorem dX6_isAsScene_5 : decode cX6_isAsScene 5 = .ok (.iload 4, 2) := by decide +kernel
theorem dX6_isAsScene_7 : decode cX6_isAsScene 7 = .ok (.iconst 5, 1) := by decide +kernel
theorem dX6_isAsScene_8 : decode cX6_isAsScene 8 = .ok (.if_icmp .ge 44, 3) := by decide +kernel
theorem dX6_isAsScene_11 : decode cX6_isAsScene 11 = .ok (.iload_n 3, 1) := by decide +kernel
theorem dX6_isAsScene_12 : decode cX6_isAsScene 12 = .ok (.ifCond .eq 40, 3) := by decide +kernel
theorem dX6_isAsScene_15 : decode cX6_isAsScene 15 = .ok (.aload_n 0, 1) := by decide +kernel
theorem dX6_isAsScene_16 : decode cX6_isAsScene 16 = .ok (.getfield 7, 3) := by decide +kernel
theorem dX6_isAsScene_19 : decode cX6_isAsScene 19 = .ok (.bipush 82, 2) := by decide +kernel
theorem dX6_isAsScene_21 : decode cX6_isAsScene 21 = .ok (.iconst 5, 1) := by decide +kernel
theorem dX6_isAsScene_22 : decode cX6_isAsScene 22 = .ok (.iload_n 1, 1) := by decide +kernel
theorem dX6_isAsScene_23 : decode cX6_isAsScene 23 = .ok (.imul, 1) := by decide +kernel
theorem dX6_isAsScene_24 : decode cX6_isAsScene 24 = .ok (.iadd, 1) := by decide +kernel
theorem dX6_isAsScene_25 : decode cX6_isAsScene 25 = .ok (.iload 4, 2) := by decide +kernel
theorem dX6_isAsScene_27 : decode cX6_isAsScene 27 = .ok (.iadd, 1) := by decide +kernel
theorem dX6_isAsScene_28 : decode cX6_isAsScene 28 = .ok (.iaload, 1) := by decide +kernel
theorem dX6_isAsScene_29 : decode cX6_isAsScene 29 = .ok (.aload_n 0, 1) := by decide +kernel
theorem dX6_isAsScene_30 : decode cX6_isAsScene 30 = .ok (.iload 4, 2) := by decide +kernel
theorem dX6_isAsScene_32 : decode cX6_isAsScene 32 = .ok (.iload_n 2, 1) := by decide +kernel
theorem dX6_isAsScene_33 : decode cX6_isAsScene 33 = .ok (.iconst (-1), 1) := by decide +kernel
theorem dX6_isAsScene_34 : decode cX6_isAsScene 34 = .ok (.invokevirtual 34, 3) := by decide +kernel
theorem dX6_isAsScene_37 : decode cX6_isAsScene 37 = .ok (.if_icmp .ne 7, 3) := by decide +kernel
theorem dX6_isAsScene_40 : decode cX6_isAsScene 40 = .ok (.iconst 1, 1) := by decide +kernel
theorem dX6_isAsScene_41 : decode cX6_isAsScene 41 = .ok (.goto 4, 3) := by decide +kernel
theorem dX6_isAsScene_44 : decode cX6_isAsScene 44 = .ok (.iconst 0, 1) := by decide +kernel
theorem dX6_isAsScene_45 : decode cX6_isAsScene 45 = .ok (.istore_n 3, 1) := by decide +kernel
theorem dX6_isAsScene_46 : decode cX6_isAsScene 46 = .ok (.iinc 4 1, 3) := by decide +kernel
theorem dX6_isAsScene_49 : decode cX6_isAsScene 49 = .ok (.goto (-44), 3) := by decide +kernel
theorem dX6_isAsScene_52 : decode cX6_isAsScene 52 = .ok (.iload_n 3, 1) := by decide +kernel
theorem dX6_isAsScene_53 : decode cX6_isAsScene 53 = .ok (.ireturn, 1) := by decide +kernel
theorem dX6_untilScene_0 : decode cX6_untilScene 0 = .ok (.aload_n 0, 1) := by decide +kernel
theorem dX6_untilScene_1 : decode cX6_untilScene 1 = .ok (.invokevirtual 139, 3) := by decide +kernel
theorem dX6_untilScene_4 : decode cX6_untilScene 4 = .ok (.istore_n 2, 1) := by decide +kernel
theorem dX6_untilScene_5 : decode cX6_untilScene 5 = .ok (.iconst 0, 1) := by decide +kernel
theorem dX6_untilScene_6 : decode cX6_untilScene 6 = .ok (.istore_n 3, 1) := by decide +kernel
theorem dX6_untilScene_7 : decode cX6_untilScene 7 = .ok (.iload_n 3, 1) := by decide +kernel
theorem dX6_untilScene_8 : decode cX6_untilScene 8 = .ok (.iload_n 2, 1) := by decide +kernel
theorem dX6_untilScene_9 : decode cX6_untilScene 9 = .ok (.if_icmp .ge 20, 3) := by decide +kernel
theorem dX6_untilScene_12 : decode cX6_untilScene 12 = .ok (.aload_n 0, 1) := by decide +kernel
theorem dX6_untilScene_13 : decode cX6_untilScene 13 = .ok (.iload_n 1, 1) := by decide +kernel
theorem dX6_untilScene_14 : decode cX6_untilScene 14 = .ok (.iload_n 3, 1) := by decide +kernel
theorem dX6_untilScene_15 : decode cX6_untilScene 15 = .ok (.invokevirtual 142, 3) := by decide +kernel
theorem dX6_untilScene_18 : decode cX6_untilScene 18 = .ok (.ifCond .eq 5, 3) := by decide +kernel
theorem dX6_untilScene_21 : decode cX6_untilScene 21 = .ok (.iload_n 3, 1) := by decide +kernel
theorem dX6_untilScene_22 : decode cX6_untilScene 22 = .ok (.ireturn, 1) := by decide +kernel
theorem dX6_untilScene_23 : decode cX6_untilScene 23 = .ok (.iinc 3 1, 3) := by decide +kernel
theorem dX6_untilScene_26 : decode cX6_untilScene 26 = .ok (.goto (-19), 3) := by decide +kernel
theorem dX6_untilScene_29 : decode cX6_untilScene 29 = .ok (.iconst (-1), 1) := by decide +kernel
theorem dX6_untilScene_30 : decode cX6_untilScene 30 = .ok (.ireturn, 1) := by decide +kernel
theorem dX6_isSceneAllowed_0 : decode cX6_isSceneAllowed 0 = .ok (.bipush 82, 2) := by decide +kernel
theorem dX6_isSceneAllowed_2 : decode cX6_isSceneAllowed 2 = .ok (.iconst 5, 1) := by decide +kernel
theorem dX6_isSceneAllowed_3 : decode cX6_isSceneAllowed 3 = .ok (.iload_n 1, 1) := by decide +kernel
theorem dX6_isSceneAllowed_4 : decode cX6_isSceneAllowed 4 = .ok (.imul, 1) := by decide +kernel
theorem dX6_isSceneAllowed_5 : decode cX6_isSceneAllowed 5 = .ok (.iadd, 1) := by decide +kernel
theorem dX6_isSceneAllowed_6 : decode cX6_isSceneAllowed 6 = .ok (.istore_n 2, 1) := by decide +kernel
theorem dX6_isSceneAllowed_7 : decode cX6_isSceneAllowed 7 = .ok (.aload_n 0, 1) := by decide +kernel
theorem dX6_isSceneAllowed_8 : decode cX6_isSceneAllowed 8 = .ok (.getfield 7, 3) := by decide +kernel
theorem dX6_isSceneAllowed_11 : decode cX6_isSceneAllowed 11 = .ok (.iload_n 2, 1) := by decide +kernel
theorem dX6_isSceneAllowed_12 : decode cX6_isSceneAllowed 12 = .ok (.iaload, 1) := by decide +kernel
theorem dX6_isSceneAllowed_13 : decode cX6_isSceneAllowed 13 = .ok (.iconst 5, 1) := by decide +kernel
theorem dX6_isSceneAllowed_14 : decode cX6_isSceneAllowed 14 = .ok (.if_icmp .lt 19, 3) := by decide +kernel
theorem dX6_isSceneAllowed_17 : decode cX6_isSceneAllowed 17 = .ok (.aload_n 0, 1) := by decide +kernel
theorem dX6_isSceneAllowed_18 : decode cX6_isSceneAllowed 18 = .ok (.getfield 7, 3) := by decide +kernel
theorem dX6_isSceneAllowed_21 : decode cX6_isSceneAllowed 21 = .ok (.iload_n 2, 1) := by decide +kernel
theorem dX6_isSceneAllowed_22 : decode cX6_isSceneAllowed 22 = .ok (.iconst 1, 1) := by decide +kernel
theorem dX6_isSceneAllowed_23 : decode cX6_isSceneAllowed 23 = .ok (.iadd, 1) := by decide +kernel
theorem dX6_isSceneAllowed_24 : decode cX6_isSceneAllowed 24 = .ok (.iaload, 1) := by decide +kernel
theorem dX6_isSceneAllowed_25 : decode cX6_isSceneAllowed 25 = .ok (.iconst 5, 1) := by decide +kernel
theorem dX6_isSceneAllowed_26 : decode cX6_isSceneAllowed 26 = .ok (.if_icmp .lt 7, 3) := by decide +kernel
theorem dX6_isSceneAllowed_29 : decode cX6_isSceneAllowed 29 = .ok (.iconst 1, 1) := by decide +kernel
theorem dX6_isSceneAllowed_30 : decode cX6_isSceneAllowed 30 = .ok (.goto 4, 3) := by decide +kernel
theorem dX6_isSceneAllowed_33 : decode cX6_isSceneAllowed 33 = .ok (.iconst 0, 1) := by decide +kernel
theorem dX6_isSceneAllowed_34 : decode cX6_isSceneAllowed 34 = .ok (.istore_n 3, 1) := by decide +kernel
theorem dX6_isSceneAllowed_35 : decode cX6_isSceneAllowed 35 = .ok (.aload_n 0, 1) := by decide +kernel
theorem dX6_isSceneAllowed_36 : decode cX6_isSceneAllowed 36 = .ok (.getfield 7, 3) := by decide +kernel
theorem dX6_isSceneAllowed_39 : decode cX6_isSceneAllowed 39 = .ok (.iload_n 2, 1) := by decide +kernel
theorem dX6_isSceneAllowed_40 : decode cX6_isSceneAllowed 40 = .ok (.iconst 2, 1) := by decide +kernel
theorem dX6_isSceneAllowed_41 : decode cX6_isSceneAllowed 41 = .ok (.iadd, 1) := by decide +kernel
theorem dX6_isSceneAllowed_42 : decode cX6_isSceneAllowed 42 = .ok (.iaload, 1) := by decide +kernel
theorem dX6_isSceneAllowed_43 : decode cX6_isSceneAllowed 43 = .ok (.iconst 5, 1) := by decide +kernel
theorem dX6_isSceneAllowed_44 : decode cX6_isSceneAllowed 44 = .ok (.if_icmp .lt 7, 3) := by decide +kernel
theorem dX6_isSceneAllowed_47 : decode cX6_isSceneAllowed 47 = .ok (.iconst 1, 1) := by decide +kernel
theorem dX6_isSceneAllowed_48 : decode cX6_isSceneAllowed 48 = .ok (.goto 4, 3) := by decide +kernel
theorem dX6_isSceneAllowed_51 : decode cX6_isSceneAllowed 51 = .ok (.iconst 0, 1) := by decide +kernel
theorem dX6_isSceneAllowed_52 : decode cX6_isSceneAllowed 52 = .ok (.istore 4, 2) := by decide +kernel
theorem dX6_isSceneAllowed_54 : decode cX6_isSceneAllowed 54 = .ok (.aload_n 0, 1) := by decide +kernel
theorem dX6_isSceneAllowed_55 : decode cX6_isSceneAllowed 55 = .ok (.getfield 7, 3) := by decide +kernel
theorem dX6_isSceneAllowed_58 : decode cX6_isSceneAllowed 58 = .ok (.iload_n 2, 1) := by decide +kernel
theorem dX6_isSceneAllowed_59 : decode cX6_isSceneAllowed 59 = .ok (.iconst 3, 1) := by decide +kernel
theorem dX6_isSceneAllowed_60 : decode cX6_isSceneAllowed 60 = .ok (.iadd, 1) := by decide +kernel
theorem dX6_isSceneAllowed_61 : decode cX6_isSceneAllowed 61 = .ok (.iaload, 1) := by decide +kernel
theorem dX6_isSceneAllowed_62 : decode cX6_isSceneAllowed 62 = .ok (.iconst 5, 1) := by decide +kernel
theorem dX6_isSceneAllowed_63 : decode cX6_isSceneAllowed 63 = .ok (.if_icmp .lt 7, 3) := by decide +kernel
theorem dX6_isSceneAllowed_66 : decode cX6_isSceneAllowed 66 = .ok (.iconst 1, 1) := by decide +kernel
theorem dX6_isSceneAllowed_67 : decode cX6_isSceneAllowed 67 = .ok (.goto 4, 3) := by decide +kernel
theorem dX6_isSceneAllowed_70 : decode cX6_isSceneAllowed 70 = .ok (.iconst 0, 1) := by decide +kernel
theorem dX6_isSceneAllowed_71 : decode cX6_isSceneAllowed 71 = .ok (.istore 5, 2) := by decide +kernel
theorem dX6_isSceneAllowed_73 : decode cX6_isSceneAllowed 73 = .ok (.iload 4, 2) := by decide +kernel
theorem dX6_isSceneAllowed_75 : decode cX6_isSceneAllowed 75 = .ok (.ifCond .ne 8, 3) := by decide +kernel
theorem dX6_isSceneAllowed_78 : decode cX6_isSceneAllowed 78 = .ok (.iload 5, 2) := by decide +kernel
theorem dX6_isSceneAllowed_80 : decode cX6_isSceneAllowed 80 = .ok (.ifCond .eq 7, 3) := by decide +kernel
theorem dX6_isSceneAllowed_83 : decode cX6_isSceneAllowed 83 = .ok (.iload_n 3, 1) := by decide +kernel
theorem dX6_isSceneAllowed_84 : decode cX6_isSceneAllowed 84 = .ok (.ifCond .eq 35, 3) := by decide +kernel
theorem dX6_isSceneAllowed_87 : decode cX6_isSceneAllowed 87 = .ok (.iload 4, 2) := by decide +kernel
theorem dX6_isSceneAllowed_89 : decode cX6_isSceneAllowed 89 = .ok (.ifCond .eq 26, 3) := by decide +kernel
theorem dX6_isSceneAllowed_92 : decode cX6_isSceneAllowed 92 = .ok (.iload 5, 2) := by decide +kernel
theorem dX6_isSceneAllowed_94 : decode cX6_isSceneAllowed 94 = .ok (.ifCond .eq 21, 3) := by decide +kernel
theorem dX6_isSceneAllowed_97 : decode cX6_isSceneAllowed 97 = .ok (.aload_n 0, 1) := by decide +kernel
theorem dX6_isSceneAllowed_98 : decode cX6_isSceneAllowed 98 = .ok (.getfield 7, 3) := by decide +kernel
theorem dX6_isSceneAllowed_101 : decode cX6_isSceneAllowed 101 = .ok (.iload_n 2, 1) := by decide +kernel
theorem dX6_isSceneAllowed_102 : decode cX6_isSceneAllowed 102 = .ok (.iconst 4, 1) := by decide +kernel
theorem dX6_isSceneAllowed_103 : decode cX6_isSceneAllowed 103 = .ok (.iadd, 1) := by decide +kernel
theorem dX6_isSceneAllowed_104 : decode cX6_isSceneAllowed 104 = .ok (.iaload, 1) := by decide +kernel
theorem dX6_isSceneAllowed_105 : decode cX6_isSceneAllowed 105 = .ok (.aload_n 0, 1) := by decide +kernel
theorem dX6_isSceneAllowed_106 : decode cX6_isSceneAllowed 106 = .ok (.getfield 7, 3) := by decide +kernel
theorem dX6_isSceneAllowed_109 : decode cX6_isSceneAllowed 109 = .ok (.bipush 75, 2) := by decide +kernel
theorem dX6_isSceneAllowed_111 : decode cX6_isSceneAllowed 111 = .ok (.iaload, 1) := by decide +kernel
theorem dX6_isSceneAllowed_112 : decode cX6_isSceneAllowed 112 = .ok (.if_icmp .gt 7, 3) := by decide +kernel
theorem dX6_isSceneAllowed_115 : decode cX6_isSceneAllowed 115 = .ok (.iconst 1, 1) := by decide +kernel
theorem dX6_isSceneAllowed_116 : decode cX6_isSceneAllowed 116 = .ok (.goto 4, 3) := by decide +kernel
theorem dX6_isSceneAllowed_119 : decode cX6_isSceneAllowed 119 = .ok (.iconst 0, 1) := by decide +kernel
theorem dX6_isSceneAllowed_120 : decode cX6_isSceneAllowed 120 = .ok (.ireturn, 1) := by decide +kernel
theorem dX6_ofScene_0 : decode cX6_ofScene 0 = .ok (.iload_n 2, 1) := by decide +kernel
theorem dX6_ofScene_1 : decode cX6_ofScene 1 = .ok (.tableswitch 62 5 7 #[27, 42, 56], 27) := by decide +kernel
theorem dX6_ofScene_28 : decode cX6_ofScene 28 = .ok (.aload_n 0, 1) := by decide +kernel
theorem dX6_ofScene_29 : decode cX6_ofScene 29 = .ok (.iload_n 1, 1) := by decide +kernel
theorem dX6_ofScene_30 : decode cX6_ofScene 30 = .ok (.iconst 0, 1) := by decide +kernel
theorem dX6_ofScene_31 : decode cX6_ofScene 31 = .ok (.invokevirtual 142, 3) := by decide +kernel
theorem dX6_ofScene_34 : decode cX6_ofScene 34 = .ok (.ifCond .eq 7, 3) := by decide +kernel
theorem dX6_ofScene_37 : decode cX6_ofScene 37 = .ok (.iconst 1, 1) := by decide +kernel
theorem dX6_ofScene_38 : decode cX6_ofScene 38 = .ok (.goto 4, 3) := by decide +kernel
theorem dX6_ofScene_41 : decode cX6_ofScene 41 = .ok (.iconst 0, 1) := by decide +kernel
theorem dX6_ofScene_42 : decode cX6_ofScene 42 = .ok (.ireturn, 1) := by decide +kernel
theorem dX6_ofScene_43 : decode cX6_ofScene 43 = .ok (.aload_n 0, 1) := by decide +kernel
theorem dX6_ofScene_44 : decode cX6_ofScene 44 = .ok (.iload_n 1, 1) := by decide +kernel
theorem dX6_ofScene_45 : decode cX6_ofScene 45 = .ok (.invokevirtual 145, 3) := by decide +kernel
theorem dX6_ofScene_48 : decode cX6_ofScene 48 = .ok (.ifCond .eq 7, 3) := by decide +kernel
theorem dX6_ofScene_51 : decode cX6_ofScene 51 = .ok (.iconst 1, 1) := by decide +kernel
theorem dX6_ofScene_52 : decode cX6_ofScene 52 = .ok (.goto 4, 3) := by decide +kernel
theorem dX6_ofScene_55 : decode cX6_ofScene 55 = .ok (.iconst 0, 1) := by decide +kernel
theorem dX6_ofScene_56 : decode cX6_ofScene 56 = .ok (.ireturn, 1) := by decide +kernel
theorem dX6_ofScene_57 : decode cX6_ofScene 57 = .ok (.aload_n 0, 1) := by decide +kernel
theorem dX6_ofScene_58 : decode cX6_ofScene 58 = .ok (.iload_n 1, 1) := by decide +kernel
theorem dX6_ofScene_59 : decode cX6_ofScene 59 = .ok (.invokevirtual 148, 3) := by decide +kernel
theorem dX6_ofScene_62 : decode cX6_ofScene 62 = .ok (.ireturn, 1) := by decide +kernel
theorem dX6_ofScene_63 : decode cX6_ofScene 63 = .ok (.aload_n 0, 1) := by decide +kernel
theorem dX6_ofScene_64 : decode cX6_ofScene 64 = .ok (.getfield 7, 3) := by decide +kernel
theorem dX6_ofScene_67 : decode cX6_ofScene 67 = .ok (.bipush 82, 2) := by decide +kernel
theorem dX6_ofScene_69 : decode cX6_ofScene 69 = .ok (.iconst 5, 1) := by decide +kernel
theorem dX6_ofScene_70 : decode cX6_ofScene 70 = .ok (.iload_n 1, 1) := by decide +kernel
theorem dX6_ofScene_71 : decode cX6_ofScene 71 = .ok (.imul, 1) := by decide +kernel
theorem dX6_ofScene_72 : decode cX6_ofScene 72 = .ok (.iadd, 1) := by decide +kernel
theorem dX6_ofScene_73 : decode cX6_ofScene 73 = .ok (.iload_n 2, 1) := by decide +kernel
theorem dX6_ofScene_74 : decode cX6_ofScene 74 = .ok (.iadd, 1) := by decide +kernel
theorem dX6_ofScene_75 : decode cX6_ofScene 75 = .ok (.iaload, 1) := by decide +kernel
theorem dX6_ofScene_76 : decode cX6_ofScene 76 = .ok (.ireturn, 1) := by decide +kernel
theorem dX6_scene_0 : decode cX6_scene 0 = .ok (.aload_n 0, 1) := by decide +kernel
theorem dX6_scene_1 : decode cX6_scene 1 = .ok (.aload_n 0, 1) := by decide +kernel
theorem dX6_scene_2 : decode cX6_scene 2 = .ok (.iload_n 1, 1) := by decide +kernel
theorem dX6_scene_3 : decode cX6_scene 3 = .ok (.invokevirtual 96, 3) := by decide +kernel
theorem dX6_scene_6 : decode cX6_scene 6 = .ok (.ifCond .ne 7, 3) := by decide +kernel
theorem dX6_scene_9 : decode cX6_scene 9 = .ok (.iconst 1, 1) := by decide +kernel
theorem dX6_scene_10 : decode cX6_scene 10 = .ok (.goto 18, 3) := by decide +kernel
theorem dX6_scene_13 : decode cX6_scene 13 = .ok (.iload_n 2, 1) := by decide +kernel
theorem dX6_scene_14 : decode cX6_scene 14 = .ok (.iconst 0, 1) := by decide +kernel
theorem dX6_scene_15 : decode cX6_scene 15 = .ok (.bipush 7, 2) := by decide +kernel
theorem dX6_scene_17 : decode cX6_scene 17 = .ok (.invokestatic 26, 3) := by decide +kernel
theorem dX6_scene_20 : decode cX6_scene 20 = .ok (.ifCond .ne 7, 3) := by decide +kernel
theorem dX6_scene_23 : decode cX6_scene 23 = .ok (.iconst 2, 1) := by decide +kernel
theorem dX6_scene_24 : decode cX6_scene 24 = .ok (.goto 4, 3) := by decide +kernel
theorem dX6_scene_27 : decode cX6_scene 27 = .ok (.iconst 0, 1) := by decide +kernel
theorem dX6_scene_28 : decode cX6_scene 28 = .ok (.invokevirtual 63, 3) := by decide +kernel
theorem dX6_scene_31 : decode cX6_scene 31 = .ok (.ifCond .eq 12, 3) := by decide +kernel
theorem dX6_scene_34 : decode cX6_scene 34 = .ok (.aload_n 0, 1) := by decide +kernel
theorem dX6_scene_35 : decode cX6_scene 35 = .ok (.iload_n 1, 1) := by decide +kernel
theorem dX6_scene_36 : decode cX6_scene 36 = .ok (.iload_n 2, 1) := by decide +kernel
theorem dX6_scene_37 : decode cX6_scene 37 = .ok (.invokevirtual 151, 3) := by decide +kernel
theorem dX6_scene_40 : decode cX6_scene 40 = .ok (.goto 4, 3) := by decide +kernel
theorem dX6_scene_43 : decode cX6_scene 43 = .ok (.iconst 0, 1) := by decide +kernel
theorem dX6_scene_44 : decode cX6_scene 44 = .ok (.ireturn, 1) := by decide +kernel
theorem dX6_wheels_0 : decode cX6_wheels 0 = .ok (.iconst 0, 1) := by decide +kernel
theorem dX6_wheels_1 : decode cX6_wheels 1 = .ok (.istore_n 2, 1) := by decide +kernel
theorem dX6_wheels_2 : decode cX6_wheels 2 = .ok (.iconst 0, 1) := by decide +kernel
theorem dX6_wheels_3 : decode cX6_wheels 3 = .ok (.istore_n 3, 1) := by decide +kernel
theorem dX6_wheels_4 : decode cX6_wheels 4 = .ok (.iload_n 3, 1) := by decide +kernel
theorem dX6_wheels_5 : decode cX6_wheels 5 = .ok (.iconst 5, 1) := by decide +kernel
theorem dX6_wheels_6 : decode cX6_wheels 6 = .ok (.if_icmp .ge 18, 3) := by decide +kernel
theorem dX6_wheels_9 : decode cX6_wheels 9 = .ok (.iload_n 2, 1) := by decide +kernel
theorem dX6_wheels_10 : decode cX6_wheels 10 = .ok (.aload_n 0, 1) := by decide +kernel
theorem dX6_wheels_11 : decode cX6_wheels 11 = .ok (.iload_n 3, 1) := by decide +kernel
theorem dX6_wheels_12 : decode cX6_wheels 12 = .ok (.iload_n 1, 1) := by decide +kernel
theorem dX6_wheels_13 : decode cX6_wheels 13 = .ok (.invokevirtual 136, 3) := by decide +kernel
theorem dX6_wheels_16 : decode cX6_wheels 16 = .ok (.iadd, 1) := by decide +kernel
theorem dX6_wheels_17 : decode cX6_wheels 17 = .ok (.istore_n 2, 1) := by decide +kernel
theorem dX6_wheels_18 : decode cX6_wheels 18 = .ok (.iinc 3 1, 3) := by decide +kernel
theorem dX6_wheels_21 : decode cX6_wheels 21 = .ok (.goto (-17), 3) := by decide +kernel
theorem dX6_wheels_24 : decode cX6_wheels 24 = .ok (.iload_n 2, 1) := by decide +kernel
theorem dX6_wheels_25 : decode cX6_wheels 25 = .ok (.ireturn, 1) := by decide +kernel
theorem dX6_counted_0 : decode cX6_counted 0 = .ok (.iload_n 1, 1) := by decide +kernel
theorem dX6_counted_1 : decode cX6_counted 1 = .ok (.tableswitch 154 0 11 #[63, 71, 76, 89, 97, 105, 111, 116, 124, 130, 138, 146], 63) := by decide +kernel
theorem dX6_counted_64 : decode cX6_counted 64 = .ok (.aload_n 0, 1) := by decide +kernel
theorem dX6_counted_65 : decode cX6_counted 65 = .ok (.getfield 7, 3) := by decide +kernel
theorem dX6_counted_68 : decode cX6_counted 68 = .ok (.bipush 76, 2) := by decide +kernel
theorem dX6_counted_70 : decode cX6_counted 70 = .ok (.iaload, 1) := by decide +kernel
theorem dX6_counted_71 : decode cX6_counted 71 = .ok (.ireturn, 1) := by decide +kernel
theorem dX6_counted_72 : decode cX6_counted 72 = .ok (.aload_n 0, 1) := by decide +kernel
theorem dX6_counted_73 : decode cX6_counted 73 = .ok (.invokevirtual 41, 3) := by decide +kernel
theorem dX6_counted_76 : decode cX6_counted 76 = .ok (.ireturn, 1) := by decide +kernel
theorem dX6_counted_77 : decode cX6_counted 77 = .ok (.aload_n 0, 1) := by decide +kernel
theorem dX6_counted_78 : decode cX6_counted 78 = .ok (.invokevirtual 45, 3) := by decide +kernel
theorem dX6_counted_81 : decode cX6_counted 81 = .ok (.ifCond .eq 7, 3) := by decide +kernel
theorem dX6_counted_84 : decode cX6_counted 84 = .ok (.iconst 1, 1) := by decide +kernel
theorem dX6_counted_85 : decode cX6_counted 85 = .ok (.goto 4, 3) := by decide +kernel
theorem dX6_counted_88 : decode cX6_counted 88 = .ok (.iconst 0, 1) := by decide +kernel
theorem dX6_counted_89 : decode cX6_counted 89 = .ok (.ireturn, 1) := by decide +kernel
theorem dX6_counted_90 : decode cX6_counted 90 = .ok (.aload_n 0, 1) := by decide +kernel
theorem dX6_counted_91 : decode cX6_counted 91 = .ok (.getfield 7, 3) := by decide +kernel
theorem dX6_counted_94 : decode cX6_counted 94 = .ok (.bipush 78, 2) := by decide +kernel
theorem dX6_counted_96 : decode cX6_counted 96 = .ok (.iaload, 1) := by decide +kernel
theorem dX6_counted_97 : decode cX6_counted 97 = .ok (.ireturn, 1) := by decide +kernel
theorem dX6_counted_98 : decode cX6_counted 98 = .ok (.aload_n 0, 1) := by decide +kernel
theorem dX6_counted_99 : decode cX6_counted 99 = .ok (.getfield 7, 3) := by decide +kernel
theorem dX6_counted_102 : decode cX6_counted 102 = .ok (.bipush 79, 2) := by decide +kernel
theorem dX6_counted_104 : decode cX6_counted 104 = .ok (.iaload, 1) := by decide +kernel
theorem dX6_counted_105 : decode cX6_counted 105 = .ok (.ireturn, 1) := by decide +kernel
theorem dX6_counted_106 : decode cX6_counted 106 = .ok (.aload_n 0, 1) := by decide +kernel
theorem dX6_counted_107 : decode cX6_counted 107 = .ok (.iconst 4, 1) := by decide +kernel
theorem dX6_counted_108 : decode cX6_counted 108 = .ok (.invokevirtual 154, 3) := by decide +kernel
theorem dX6_counted_111 : decode cX6_counted 111 = .ok (.ireturn, 1) := by decide +kernel
theorem dX6_counted_112 : decode cX6_counted 112 = .ok (.aload_n 0, 1) := by decide +kernel
theorem dX6_counted_113 : decode cX6_counted 113 = .ok (.invokevirtual 73, 3) := by decide +kernel
theorem dX6_counted_116 : decode cX6_counted 116 = .ok (.ireturn, 1) := by decide +kernel
theorem dX6_counted_117 : decode cX6_counted 117 = .ok (.aload_n 0, 1) := by decide +kernel
theorem dX6_counted_118 : decode cX6_counted 118 = .ok (.getfield 7, 3) := by decide +kernel
theorem dX6_counted_121 : decode cX6_counted 121 = .ok (.bipush 81, 2) := by decide +kernel
theorem dX6_counted_123 : decode cX6_counted 123 = .ok (.iaload, 1) := by decide +kernel
theorem dX6_counted_124 : decode cX6_counted 124 = .ok (.ireturn, 1) := by decide +kernel
theorem dX6_counted_125 : decode cX6_counted 125 = .ok (.aload_n 0, 1) := by decide +kernel
theorem dX6_counted_126 : decode cX6_counted 126 = .ok (.iconst 5, 1) := by decide +kernel
theorem dX6_counted_127 : decode cX6_counted 127 = .ok (.invokevirtual 154, 3) := by decide +kernel
theorem dX6_counted_130 : decode cX6_counted 130 = .ok (.ireturn, 1) := by decide +kernel
theorem dX6_counted_131 : decode cX6_counted 131 = .ok (.aload_n 0, 1) := by decide +kernel
theorem dX6_counted_132 : decode cX6_counted 132 = .ok (.getfield 7, 3) := by decide +kernel
theorem dX6_counted_135 : decode cX6_counted 135 = .ok (.bipush 75, 2) := by decide +kernel
theorem dX6_counted_137 : decode cX6_counted 137 = .ok (.iaload, 1) := by decide +kernel
theorem dX6_counted_138 : decode cX6_counted 138 = .ok (.ireturn, 1) := by decide +kernel
theorem dX6_counted_139 : decode cX6_counted 139 = .ok (.aload_n 0, 1) := by decide +kernel
theorem dX6_counted_140 : decode cX6_counted 140 = .ok (.getfield 7, 3) := by decide +kernel
theorem dX6_counted_143 : decode cX6_counted 143 = .ok (.bipush 80, 2) := by decide +kernel
theorem dX6_counted_145 : decode cX6_counted 145 = .ok (.iaload, 1) := by decide +kernel
theorem dX6_counted_146 : decode cX6_counted 146 = .ok (.ireturn, 1) := by decide +kernel
theorem dX6_counted_147 : decode cX6_counted 147 = .ok (.aload_n 0, 1) := by decide +kernel
theorem dX6_counted_148 : decode cX6_counted 148 = .ok (.getfield 7, 3) := by decide +kernel
theorem dX6_counted_151 : decode cX6_counted 151 = .ok (.bipush 77, 2) := by decide +kernel
theorem dX6_counted_153 : decode cX6_counted 153 = .ok (.iaload, 1) := by decide +kernel
theorem dX6_counted_154 : decode cX6_counted 154 = .ok (.ireturn, 1) := by decide +kernel
theorem dX6_counted_155 : decode cX6_counted 155 = .ok (.aload_n 0, 1) := by decide +kernel
theorem dX6_counted_156 : decode cX6_counted 156 = .ok (.getfield 56, 3) := by decide +kernel
theorem dX6_counted_159 : decode cX6_counted 159 = .ok (.ireturn, 1) := by decide +kernel
theorem dX6_count_0 : decode cX6_count 0 = .ok (.aload_n 0, 1) := by decide +kernel
theorem dX6_count_1 : decode cX6_count 1 = .ok (.iload_n 1, 1) := by decide +kernel
theorem dX6_count_2 : decode cX6_count 2 = .ok (.iconst 0, 1) := by decide +kernel
theorem dX6_count_3 : decode cX6_count 3 = .ok (.bipush 12, 2) := by decide +kernel
theorem dX6_count_5 : decode cX6_count 5 = .ok (.invokestatic 26, 3) := by decide +kernel
theorem dX6_count_8 : decode cX6_count 8 = .ok (.ifCond .eq 7, 3) := by decide +kernel
theorem dX6_count_11 : decode cX6_count 11 = .ok (.iconst 0, 1) := by decide +kernel
theorem dX6_count_12 : decode cX6_count 12 = .ok (.goto 4, 3) := by decide +kernel
theorem dX6_count_15 : decode cX6_count 15 = .ok (.iconst 1, 1) := by decide +kernel
theorem dX6_count_16 : decode cX6_count 16 = .ok (.invokevirtual 63, 3) := by decide +kernel
theorem dX6_count_19 : decode cX6_count 19 = .ok (.ifCond .eq 11, 3) := by decide +kernel
theorem dX6_count_22 : decode cX6_count 22 = .ok (.aload_n 0, 1) := by decide +kernel
theorem dX6_count_23 : decode cX6_count 23 = .ok (.iload_n 1, 1) := by decide +kernel
theorem dX6_count_24 : decode cX6_count 24 = .ok (.invokevirtual 157, 3) := by decide +kernel
theorem dX6_count_27 : decode cX6_count 27 = .ok (.goto 4, 3) := by decide +kernel
theorem dX6_count_30 : decode cX6_count 30 = .ok (.iconst 0, 1) := by decide +kernel
theorem dX6_count_31 : decode cX6_count 31 = .ok (.ireturn, 1) := by decide +kernel
theorem dX6_isWay_0 : decode cX6_isWay 0 = .ok (.iload_n 0, 1) := by decide +kernel
theorem dX6_isWay_1 : decode cX6_isWay 1 = .ok (.iconst 0, 1) := by decide +kernel
theorem dX6_isWay_2 : decode cX6_isWay 2 = .ok (.iconst 1, 1) := by decide +kernel
theorem dX6_isWay_3 : decode cX6_isWay 3 = .ok (.invokestatic 26, 3) := by decide +kernel
theorem dX6_isWay_6 : decode cX6_isWay 6 = .ok (.ireturn, 1) := by decide +kernel
theorem dX6_why_0 : decode cX6_why 0 = .ok (.aload_n 0, 1) := by decide +kernel
theorem dX6_why_1 : decode cX6_why 1 = .ok (.iload_n 1, 1) := by decide +kernel
theorem dX6_why_2 : decode cX6_why 2 = .ok (.invokestatic 160, 3) := by decide +kernel
theorem dX6_why_5 : decode cX6_why 5 = .ok (.ifCond .eq 7, 3) := by decide +kernel
theorem dX6_why_8 : decode cX6_why 8 = .ok (.iconst 0, 1) := by decide +kernel
theorem dX6_why_9 : decode cX6_why 9 = .ok (.goto 4, 3) := by decide +kernel
theorem dX6_why_12 : decode cX6_why 12 = .ok (.iconst 1, 1) := by decide +kernel
theorem dX6_why_13 : decode cX6_why 13 = .ok (.invokevirtual 63, 3) := by decide +kernel
theorem dX6_why_16 : decode cX6_why 16 = .ok (.ifCond .eq 16, 3) := by decide +kernel
theorem dX6_why_19 : decode cX6_why 19 = .ok (.aload_n 0, 1) := by decide +kernel
theorem dX6_why_20 : decode cX6_why 20 = .ok (.iconst 1, 1) := by decide +kernel
theorem dX6_why_21 : decode cX6_why 21 = .ok (.iconst 2, 1) := by decide +kernel
theorem dX6_why_22 : decode cX6_why 22 = .ok (.iload_n 1, 1) := by decide +kernel
theorem dX6_why_23 : decode cX6_why 23 = .ok (.imul, 1) := by decide +kernel
theorem dX6_why_24 : decode cX6_why 24 = .ok (.isub, 1) := by decide +kernel
theorem dX6_why_25 : decode cX6_why 25 = .ok (.iconst (-1), 1) := by decide +kernel
theorem dX6_why_26 : decode cX6_why 26 = .ok (.invokevirtual 49, 3) := by decide +kernel
theorem dX6_why_29 : decode cX6_why 29 = .ok (.goto 4, 3) := by decide +kernel
theorem dX6_why_32 : decode cX6_why 32 = .ok (.iconst 0, 1) := by decide +kernel
theorem dX6_why_33 : decode cX6_why 33 = .ok (.ireturn, 1) := by decide +kernel
theorem dX6_round_0 : decode cX6_round 0 = .ok (.aload_n 0, 1) := by decide +kernel
theorem dX6_round_1 : decode cX6_round 1 = .ok (.iload_n 1, 1) := by decide +kernel
theorem dX6_round_2 : decode cX6_round 2 = .ok (.invokestatic 160, 3) := by decide +kernel
theorem dX6_round_5 : decode cX6_round 5 = .ok (.ifCond .eq 7, 3) := by decide +kernel
theorem dX6_round_8 : decode cX6_round 8 = .ok (.iconst 0, 1) := by decide +kernel
theorem dX6_round_9 : decode cX6_round 9 = .ok (.goto 4, 3) := by decide +kernel
theorem dX6_round_12 : decode cX6_round 12 = .ok (.iconst 1, 1) := by decide +kernel
theorem dX6_round_13 : decode cX6_round 13 = .ok (.invokevirtual 63, 3) := by decide +kernel
theorem dX6_round_16 : decode cX6_round 16 = .ok (.ifCond .eq 10, 3) := by decide +kernel
theorem dX6_round_19 : decode cX6_round 19 = .ok (.aload_n 0, 1) := by decide +kernel
theorem dX6_round_20 : decode cX6_round 20 = .ok (.invokevirtual 139, 3) := by decide +kernel
theorem dX6_round_23 : decode cX6_round 23 = .ok (.goto 4, 3) := by decide +kernel
theorem dX6_round_26 : decode cX6_round 26 = .ok (.iconst 0, 1) := by decide +kernel
theorem dX6_round_27 : decode cX6_round 27 = .ok (.ireturn, 1) := by decide +kernel
theorem dX6_jams_0 : decode cX6_jams 0 = .ok (.aload_n 0, 1) := by decide +kernel
theorem dX6_jams_1 : decode cX6_jams 1 = .ok (.invokevirtual 139, 3) := by decide +kernel
theorem dX6_jams_4 : decode cX6_jams 4 = .ok (.istore_n 2, 1) := by decide +kernel
theorem dX6_jams_5 : decode cX6_jams 5 = .ok (.iconst 1, 1) := by decide +kernel
theorem dX6_jams_6 : decode cX6_jams 6 = .ok (.istore_n 3, 1) := by decide +kernel
theorem dX6_jams_7 : decode cX6_jams 7 = .ok (.iload_n 3, 1) := by decide +kernel
theorem dX6_jams_8 : decode cX6_jams 8 = .ok (.iload_n 2, 1) := by decide +kernel
theorem dX6_jams_9 : decode cX6_jams 9 = .ok (.if_icmp .gt 31, 3) := by decide +kernel
theorem dX6_jams_12 : decode cX6_jams 12 = .ok (.aload_n 0, 1) := by decide +kernel
theorem dX6_jams_13 : decode cX6_jams 13 = .ok (.iload_n 1, 1) := by decide +kernel
theorem dX6_jams_14 : decode cX6_jams 14 = .ok (.ifCond .ne 7, 3) := by decide +kernel
theorem dX6_jams_17 : decode cX6_jams 17 = .ok (.iload_n 3, 1) := by decide +kernel
theorem dX6_jams_18 : decode cX6_jams 18 = .ok (.goto 5, 3) := by decide +kernel
theorem dX6_jams_21 : decode cX6_jams 21 = .ok (.iload_n 3, 1) := by decide +kernel
theorem dX6_jams_22 : decode cX6_jams 22 = .ok (.ineg, 1) := by decide +kernel
theorem dX6_jams_23 : decode cX6_jams 23 = .ok (.iconst (-1), 1) := by decide +kernel
theorem dX6_jams_24 : decode cX6_jams 24 = .ok (.invokevirtual 38, 3) := by decide +kernel
theorem dX6_jams_27 : decode cX6_jams 27 = .ok (.ifCond .le 7, 3) := by decide +kernel
theorem dX6_jams_30 : decode cX6_jams 30 = .ok (.iload_n 3, 1) := by decide +kernel
theorem dX6_jams_31 : decode cX6_jams 31 = .ok (.iconst 1, 1) := by decide +kernel
theorem dX6_jams_32 : decode cX6_jams 32 = .ok (.isub, 1) := by decide +kernel
theorem dX6_jams_33 : decode cX6_jams 33 = .ok (.ireturn, 1) := by decide +kernel
theorem dX6_jams_34 : decode cX6_jams 34 = .ok (.iinc 3 1, 3) := by decide +kernel
theorem dX6_jams_37 : decode cX6_jams 37 = .ok (.goto (-30), 3) := by decide +kernel
theorem dX6_jams_40 : decode cX6_jams 40 = .ok (.iconst (-1), 1) := by decide +kernel
theorem dX6_jams_41 : decode cX6_jams 41 = .ok (.ireturn, 1) := by decide +kernel
theorem dX6_jamsIn_0 : decode cX6_jamsIn 0 = .ok (.aload_n 0, 1) := by decide +kernel
theorem dX6_jamsIn_1 : decode cX6_jamsIn 1 = .ok (.iload_n 1, 1) := by decide +kernel
theorem dX6_jamsIn_2 : decode cX6_jamsIn 2 = .ok (.invokestatic 160, 3) := by decide +kernel
theorem dX6_jamsIn_5 : decode cX6_jamsIn 5 = .ok (.ifCond .eq 7, 3) := by decide +kernel
theorem dX6_jamsIn_8 : decode cX6_jamsIn 8 = .ok (.iconst 0, 1) := by decide +kernel
theorem dX6_jamsIn_9 : decode cX6_jamsIn 9 = .ok (.goto 4, 3) := by decide +kernel
theorem dX6_jamsIn_12 : decode cX6_jamsIn 12 = .ok (.iconst 1, 1) := by decide +kernel
theorem dX6_jamsIn_13 : decode cX6_jamsIn 13 = .ok (.invokevirtual 63, 3) := by decide +kernel
theorem dX6_jamsIn_16 : decode cX6_jamsIn 16 = .ok (.ifCond .eq 11, 3) := by decide +kernel
theorem dX6_jamsIn_19 : decode cX6_jamsIn 19 = .ok (.aload_n 0, 1) := by decide +kernel
theorem dX6_jamsIn_20 : decode cX6_jamsIn 20 = .ok (.iload_n 1, 1) := by decide +kernel
theorem dX6_jamsIn_21 : decode cX6_jamsIn 21 = .ok (.invokevirtual 163, 3) := by decide +kernel
theorem dX6_jamsIn_24 : decode cX6_jamsIn 24 = .ok (.goto 4, 3) := by decide +kernel
theorem dX6_jamsIn_27 : decode cX6_jamsIn 27 = .ok (.iconst 0, 1) := by decide +kernel
theorem dX6_jamsIn_28 : decode cX6_jamsIn 28 = .ok (.ireturn, 1) := by decide +kernel
theorem dX6_ahead_0 : decode cX6_ahead 0 = .ok (.aload_n 0, 1) := by decide +kernel
theorem dX6_ahead_1 : decode cX6_ahead 1 = .ok (.iload_n 2, 1) := by decide +kernel
theorem dX6_ahead_2 : decode cX6_ahead 2 = .ok (.invokestatic 76, 3) := by decide +kernel
theorem dX6_ahead_5 : decode cX6_ahead 5 = .ok (.ifCond .ne 7, 3) := by decide +kernel
theorem dX6_ahead_8 : decode cX6_ahead 8 = .ok (.iconst 1, 1) := by decide +kernel
theorem dX6_ahead_9 : decode cX6_ahead 9 = .ok (.goto 21, 3) := by decide +kernel
theorem dX6_ahead_12 : decode cX6_ahead 12 = .ok (.iload_n 1, 1) := by decide +kernel
theorem dX6_ahead_13 : decode cX6_ahead 13 = .ok (.sipush (-9999), 3) := by decide +kernel
theorem dX6_ahead_16 : decode cX6_ahead 16 = .ok (.sipush 9999, 3) := by decide +kernel
theorem dX6_ahead_19 : decode cX6_ahead 19 = .ok (.invokestatic 26, 3) := by decide +kernel
theorem dX6_ahead_22 : decode cX6_ahead 22 = .ok (.ifCond .ne 7, 3) := by decide +kernel
theorem dX6_ahead_25 : decode cX6_ahead 25 = .ok (.iconst 2, 1) := by decide +kernel
theorem dX6_ahead_26 : decode cX6_ahead 26 = .ok (.goto 4, 3) := by decide +kernel
theorem dX6_ahead_29 : decode cX6_ahead 29 = .ok (.iconst 0, 1) := by decide +kernel
theorem dX6_ahead_30 : decode cX6_ahead 30 = .ok (.invokevirtual 63, 3) := by decide +kernel
theorem dX6_ahead_33 : decode cX6_ahead 33 = .ok (.ifCond .eq 13, 3) := by decide +kernel
theorem dX6_ahead_36 : decode cX6_ahead 36 = .ok (.aload_n 0, 1) := by decide +kernel
theorem dX6_ahead_37 : decode cX6_ahead 37 = .ok (.iload_n 2, 1) := by decide +kernel
theorem dX6_ahead_38 : decode cX6_ahead 38 = .ok (.iload_n 1, 1) := by decide +kernel
theorem dX6_ahead_39 : decode cX6_ahead 39 = .ok (.iconst (-1), 1) := by decide +kernel
theorem dX6_ahead_40 : decode cX6_ahead 40 = .ok (.invokevirtual 34, 3) := by decide +kernel
theorem dX6_ahead_43 : decode cX6_ahead 43 = .ok (.goto 4, 3) := by decide +kernel
theorem dX6_ahead_46 : decode cX6_ahead 46 = .ok (.iconst 0, 1) := by decide +kernel
theorem dX6_ahead_47 : decode cX6_ahead 47 = .ok (.ireturn, 1) := by decide +kernel
theorem dX6_freeing_0 : decode cX6_freeing 0 = .ok (.iconst 1, 1) := by decide +kernel
theorem dX6_freeing_1 : decode cX6_freeing 1 = .ok (.iconst 2, 1) := by decide +kernel
theorem dX6_freeing_2 : decode cX6_freeing 2 = .ok (.iload_n 1, 1) := by decide +kernel
theorem dX6_freeing_3 : decode cX6_freeing 3 = .ok (.imul, 1) := by decide +kernel
theorem dX6_freeing_4 : decode cX6_freeing 4 = .ok (.isub, 1) := by decide +kernel
theorem dX6_freeing_5 : decode cX6_freeing 5 = .ok (.istore_n 2, 1) := by decide +kernel
theorem dX6_freeing_6 : decode cX6_freeing 6 = .ok (.iconst 0, 1) := by decide +kernel
theorem dX6_freeing_7 : decode cX6_freeing 7 = .ok (.istore_n 3, 1) := by decide +kernel
theorem dX6_freeing_8 : decode cX6_freeing 8 = .ok (.iload_n 3, 1) := by decide +kernel
theorem dX6_freeing_9 : decode cX6_freeing 9 = .ok (.iconst 5, 1) := by decide +kernel
theorem dX6_freeing_10 : decode cX6_freeing 10 = .ok (.if_icmp .ge 42, 3) := by decide +kernel
theorem dX6_freeing_13 : decode cX6_freeing 13 = .ok (.aload_n 0, 1) := by decide +kernel
theorem dX6_freeing_14 : decode cX6_freeing 14 = .ok (.iload_n 2, 1) := by decide +kernel
theorem dX6_freeing_15 : decode cX6_freeing 15 = .ok (.iconst (-1), 1) := by decide +kernel
theorem dX6_freeing_16 : decode cX6_freeing 16 = .ok (.invokevirtual 49, 3) := by decide +kernel
theorem dX6_freeing_19 : decode cX6_freeing 19 = .ok (.ifCond .le 33, 3) := by decide +kernel
theorem dX6_freeing_22 : decode cX6_freeing 22 = .ok (.aload_n 0, 1) := by decide +kernel
theorem dX6_freeing_23 : decode cX6_freeing 23 = .ok (.getfield 7, 3) := by decide +kernel
theorem dX6_freeing_26 : decode cX6_freeing 26 = .ok (.bipush 10, 2) := by decide +kernel
theorem dX6_freeing_28 : decode cX6_freeing 28 = .ok (.iload_n 3, 1) := by decide +kernel
theorem dX6_freeing_29 : decode cX6_freeing 29 = .ok (.iadd, 1) := by decide +kernel
theorem dX6_freeing_30 : decode cX6_freeing 30 = .ok (.iaload, 1) := by decide +kernel
theorem dX6_freeing_31 : decode cX6_freeing 31 = .ok (.iconst 1, 1) := by decide +kernel
theorem dX6_freeing_32 : decode cX6_freeing 32 = .ok (.if_icmp .ne 14, 3) := by decide +kernel
theorem dX6_freeing_35 : decode cX6_freeing 35 = .ok (.aload_n 0, 1) := by decide +kernel
theorem dX6_freeing_36 : decode cX6_freeing 36 = .ok (.iload_n 2, 1) := by decide +kernel
theorem dX6_freeing_37 : decode cX6_freeing 37 = .ok (.iload_n 3, 1) := by decide +kernel
theorem dX6_freeing_38 : decode cX6_freeing 38 = .ok (.invokevirtual 49, 3) := by decide +kernel
theorem dX6_freeing_41 : decode cX6_freeing 41 = .ok (.ifCond .ne 5, 3) := by decide +kernel
theorem dX6_freeing_44 : decode cX6_freeing 44 = .ok (.iload_n 3, 1) := by decide +kernel
theorem dX6_freeing_45 : decode cX6_freeing 45 = .ok (.ireturn, 1) := by decide +kernel
theorem dX6_freeing_46 : decode cX6_freeing 46 = .ok (.iinc 3 1, 3) := by decide +kernel
theorem dX6_freeing_49 : decode cX6_freeing 49 = .ok (.goto (-41), 3) := by decide +kernel
theorem dX6_freeing_52 : decode cX6_freeing 52 = .ok (.iconst (-1), 1) := by decide +kernel
theorem dX6_freeing_53 : decode cX6_freeing 53 = .ok (.ireturn, 1) := by decide +kernel
theorem dX6_frees_0 : decode cX6_frees 0 = .ok (.aload_n 0, 1) := by decide +kernel
theorem dX6_frees_1 : decode cX6_frees 1 = .ok (.iload_n 1, 1) := by decide +kernel
theorem dX6_frees_2 : decode cX6_frees 2 = .ok (.invokestatic 160, 3) := by decide +kernel
theorem dX6_frees_5 : decode cX6_frees 5 = .ok (.ifCond .eq 7, 3) := by decide +kernel
theorem dX6_frees_8 : decode cX6_frees 8 = .ok (.iconst 0, 1) := by decide +kernel
theorem dX6_frees_9 : decode cX6_frees 9 = .ok (.goto 4, 3) := by decide +kernel
theorem dX6_frees_12 : decode cX6_frees 12 = .ok (.iconst 1, 1) := by decide +kernel
theorem dX6_frees_13 : decode cX6_frees 13 = .ok (.invokevirtual 63, 3) := by decide +kernel
theorem dX6_frees_16 : decode cX6_frees 16 = .ok (.ifCond .eq 11, 3) := by decide +kernel
theorem dX6_frees_19 : decode cX6_frees 19 = .ok (.aload_n 0, 1) := by decide +kernel
theorem dX6_frees_20 : decode cX6_frees 20 = .ok (.iload_n 1, 1) := by decide +kernel
theorem dX6_frees_21 : decode cX6_frees 21 = .ok (.invokevirtual 166, 3) := by decide +kernel
theorem dX6_frees_24 : decode cX6_frees 24 = .ok (.goto 4, 3) := by decide +kernel
theorem dX6_frees_27 : decode cX6_frees 27 = .ok (.iconst 0, 1) := by decide +kernel
theorem dX6_frees_28 : decode cX6_frees 28 = .ok (.ireturn, 1) := by decide +kernel
theorem dX6_share_0 : decode cX6_share 0 = .ok (.aload_n 0, 1) := by decide +kernel
theorem dX6_share_1 : decode cX6_share 1 = .ok (.invokevirtual 139, 3) := by decide +kernel
theorem dX6_share_4 : decode cX6_share 4 = .ok (.istore_n 1, 1) := by decide +kernel
theorem dX6_share_5 : decode cX6_share 5 = .ok (.iconst 0, 1) := by decide +kernel
theorem dX6_share_6 : decode cX6_share 6 = .ok (.istore_n 2, 1) := by decide +kernel
theorem dX6_share_7 : decode cX6_share 7 = .ok (.iconst 0, 1) := by decide +kernel
theorem dX6_share_8 : decode cX6_share 8 = .ok (.istore_n 3, 1) := by decide +kernel
theorem dX6_share_9 : decode cX6_share 9 = .ok (.iload_n 3, 1) := by decide +kernel
theorem dX6_share_10 : decode cX6_share 10 = .ok (.iload_n 1, 1) := by decide +kernel
theorem dX6_share_11 : decode cX6_share 11 = .ok (.if_icmp .ge 26, 3) := by decide +kernel
theorem dX6_share_14 : decode cX6_share 14 = .ok (.iload_n 2, 1) := by decide +kernel
theorem dX6_share_15 : decode cX6_share 15 = .ok (.aload_n 0, 1) := by decide +kernel
theorem dX6_share_16 : decode cX6_share 16 = .ok (.iload_n 3, 1) := by decide +kernel
theorem dX6_share_17 : decode cX6_share 17 = .ok (.iconst (-1), 1) := by decide +kernel
theorem dX6_share_18 : decode cX6_share 18 = .ok (.invokevirtual 38, 3) := by decide +kernel
theorem dX6_share_21 : decode cX6_share 21 = .ok (.ifCond .ne 7, 3) := by decide +kernel
theorem dX6_share_24 : decode cX6_share 24 = .ok (.iconst 1, 1) := by decide +kernel
theorem dX6_share_25 : decode cX6_share 25 = .ok (.goto 4, 3) := by decide +kernel
theorem dX6_share_28 : decode cX6_share 28 = .ok (.iconst 0, 1) := by decide +kernel
theorem dX6_share_29 : decode cX6_share 29 = .ok (.iadd, 1) := by decide +kernel
theorem dX6_share_30 : decode cX6_share 30 = .ok (.istore_n 2, 1) := by decide +kernel
theorem dX6_share_31 : decode cX6_share 31 = .ok (.iinc 3 1, 3) := by decide +kernel
theorem dX6_share_34 : decode cX6_share 34 = .ok (.goto (-25), 3) := by decide +kernel
theorem dX6_share_37 : decode cX6_share 37 = .ok (.iload_n 2, 1) := by decide +kernel
theorem dX6_share_38 : decode cX6_share 38 = .ok (.i2d, 1) := by decide +kernel
theorem dX6_share_39 : decode cX6_share 39 = .ok (.iload_n 1, 1) := by decide +kernel
theorem dX6_share_40 : decode cX6_share 40 = .ok (.i2d, 1) := by decide +kernel
theorem dX6_share_41 : decode cX6_share 41 = .ok (.ddiv, 1) := by decide +kernel
theorem dX6_share_42 : decode cX6_share 42 = .ok (.dreturn, 1) := by decide +kernel
theorem dX6_allowedShare_0 : decode cX6_allowedShare 0 = .ok (.aload_n 0, 1) := by decide +kernel
theorem dX6_allowedShare_1 : decode cX6_allowedShare 1 = .ok (.iconst 0, 1) := by decide +kernel
theorem dX6_allowedShare_2 : decode cX6_allowedShare 2 = .ok (.putfield 22, 3) := by decide +kernel
theorem dX6_allowedShare_5 : decode cX6_allowedShare 5 = .ok (.aload_n 0, 1) := by decide +kernel
theorem dX6_allowedShare_6 : decode cX6_allowedShare 6 = .ok (.invokevirtual 169, 3) := by decide +kernel
theorem dX6_allowedShare_9 : decode cX6_allowedShare 9 = .ok (.dreturn, 1) := by decide +kernel
theorem dX6_mean_0 : decode cX6_mean 0 = .ok (.aload_n 0, 1) := by decide +kernel
theorem dX6_mean_1 : decode cX6_mean 1 = .ok (.iconst 3, 1) := by decide +kernel
theorem dX6_mean_2 : decode cX6_mean 2 = .ok (.invokevirtual 154, 3) := by decide +kernel
theorem dX6_mean_5 : decode cX6_mean 5 = .ok (.i2f, 1) := by decide +kernel
theorem dX6_mean_6 : decode cX6_mean 6 = .ok (.ldc 173, 2) := by decide +kernel
theorem dX6_mean_8 : decode cX6_mean 8 = .ok (.fdiv, 1) := by decide +kernel
theorem dX6_mean_9 : decode cX6_mean 9 = .ok (.freturn, 1) := by decide +kernel
theorem dX6_meanHeight_0 : decode cX6_meanHeight 0 = .ok (.aload_n 0, 1) := by decide +kernel
theorem dX6_meanHeight_1 : decode cX6_meanHeight 1 = .ok (.iconst 0, 1) := by decide +kernel
theorem dX6_meanHeight_2 : decode cX6_meanHeight 2 = .ok (.putfield 22, 3) := by decide +kernel
theorem dX6_meanHeight_5 : decode cX6_meanHeight 5 = .ok (.aload_n 0, 1) := by decide +kernel
theorem dX6_meanHeight_6 : decode cX6_meanHeight 6 = .ok (.invokevirtual 174, 3) := by decide +kernel
theorem dX6_meanHeight_9 : decode cX6_meanHeight 9 = .ok (.freturn, 1) := by decide +kernel
theorem dX6_mix_0 : decode cX6_mix 0 = .ok (.aload_n 0, 1) := by decide +kernel
theorem dX6_mix_1 : decode cX6_mix 1 = .ok (.ldc2_w 178, 3) := by decide +kernel
theorem dX6_mix_4 : decode cX6_mix 4 = .ok (.aload_n 0, 1) := by decide +kernel
theorem dX6_mix_5 : decode cX6_mix 5 = .ok (.getfield 180, 3) := by decide +kernel
theorem dX6_mix_8 : decode cX6_mix 8 = .ok (.lmul, 1) := by decide +kernel
theorem dX6_mix_9 : decode cX6_mix 9 = .ok (.lload_n 1, 1) := by decide +kernel
theorem dX6_mix_10 : decode cX6_mix 10 = .ok (.ladd, 1) := by decide +kernel
theorem dX6_mix_11 : decode cX6_mix 11 = .ok (.putfield 180, 3) := by decide +kernel
theorem dX6_mix_14 : decode cX6_mix 14 = .ok (.return_, 1) := by decide +kernel
theorem dX6_bits_0 : decode cX6_bits 0 = .ok (.dload_n 0, 1) := by decide +kernel
theorem dX6_bits_1 : decode cX6_bits 1 = .ok (.dstore_n 2, 1) := by decide +kernel
theorem dX6_bits_2 : decode cX6_bits 2 = .ok (.ldc2_w 184, 3) := by decide +kernel
theorem dX6_bits_5 : decode cX6_bits 5 = .ok (.lstore 4, 2) := by decide +kernel
theorem dX6_bits_7 : decode cX6_bits 7 = .ok (.dload_n 2, 1) := by decide +kernel
theorem dX6_bits_8 : decode cX6_bits 8 = .ok (.dconst 1, 1) := by decide +kernel
theorem dX6_bits_9 : decode cX6_bits 9 = .ok (.dcmp .g, 1) := by decide +kernel
theorem dX6_bits_10 : decode cX6_bits 10 = .ok (.ifCond .ge 18, 3) := by decide +kernel
theorem dX6_bits_13 : decode cX6_bits 13 = .ok (.dload_n 2, 1) := by decide +kernel
theorem dX6_bits_14 : decode cX6_bits 14 = .ok (.ldc2_w 186, 3) := by decide +kernel
theorem dX6_bits_17 : decode cX6_bits 17 = .ok (.dmul, 1) := by decide +kernel
theorem dX6_bits_18 : decode cX6_bits 18 = .ok (.dstore_n 2, 1) := by decide +kernel
theorem dX6_bits_19 : decode cX6_bits 19 = .ok (.lload 4, 2) := by decide +kernel
theorem dX6_bits_21 : decode cX6_bits 21 = .ok (.lconst 1, 1) := by decide +kernel
theorem dX6_bits_22 : decode cX6_bits 22 = .ok (.lsub, 1) := by decide +kernel
theorem dX6_bits_23 : decode cX6_bits 23 = .ok (.lstore 4, 2) := by decide +kernel
theorem dX6_bits_25 : decode cX6_bits 25 = .ok (.goto (-18), 3) := by decide +kernel
theorem dX6_bits_28 : decode cX6_bits 28 = .ok (.lload 4, 2) := by decide +kernel
theorem dX6_bits_30 : decode cX6_bits 30 = .ok (.ldc2_w 188, 3) := by decide +kernel
theorem dX6_bits_33 : decode cX6_bits 33 = .ok (.lmul, 1) := by decide +kernel
theorem dX6_bits_34 : decode cX6_bits 34 = .ok (.dload_n 2, 1) := by decide +kernel
theorem dX6_bits_35 : decode cX6_bits 35 = .ok (.dconst 1, 1) := by decide +kernel
theorem dX6_bits_36 : decode cX6_bits 36 = .ok (.dsub, 1) := by decide +kernel
theorem dX6_bits_37 : decode cX6_bits 37 = .ok (.ldc2_w 190, 3) := by decide +kernel
theorem dX6_bits_40 : decode cX6_bits 40 = .ok (.dmul, 1) := by decide +kernel
theorem dX6_bits_41 : decode cX6_bits 41 = .ok (.d2l, 1) := by decide +kernel
theorem dX6_bits_42 : decode cX6_bits 42 = .ok (.ladd, 1) := by decide +kernel
theorem dX6_bits_43 : decode cX6_bits 43 = .ok (.lreturn, 1) := by decide +kernel
theorem dX6_floatBits_0 : decode cX6_floatBits 0 = .ok (.fload_n 0, 1) := by decide +kernel
theorem dX6_floatBits_1 : decode cX6_floatBits 1 = .ok (.fconst 0, 1) := by decide +kernel
theorem dX6_floatBits_2 : decode cX6_floatBits 2 = .ok (.fcmp .l, 1) := by decide +kernel
theorem dX6_floatBits_3 : decode cX6_floatBits 3 = .ok (.ifCond .ne 5, 3) := by decide +kernel
theorem dX6_floatBits_6 : decode cX6_floatBits 6 = .ok (.iconst 0, 1) := by decide +kernel
theorem dX6_floatBits_7 : decode cX6_floatBits 7 = .ok (.ireturn, 1) := by decide +kernel
theorem dX6_floatBits_8 : decode cX6_floatBits 8 = .ok (.fload_n 0, 1) := by decide +kernel
theorem dX6_floatBits_9 : decode cX6_floatBits 9 = .ok (.fstore_n 1, 1) := by decide +kernel
theorem dX6_floatBits_10 : decode cX6_floatBits 10 = .ok (.bipush 127, 2) := by decide +kernel
theorem dX6_floatBits_12 : decode cX6_floatBits 12 = .ok (.istore_n 2, 1) := by decide +kernel
theorem dX6_floatBits_13 : decode cX6_floatBits 13 = .ok (.fload_n 1, 1) := by decide +kernel
theorem dX6_floatBits_14 : decode cX6_floatBits 14 = .ok (.fconst 2, 1) := by decide +kernel
theorem dX6_floatBits_15 : decode cX6_floatBits 15 = .ok (.fcmp .l, 1) := by decide +kernel
theorem dX6_floatBits_16 : decode cX6_floatBits 16 = .ok (.ifCond .lt 13, 3) := by decide +kernel
theorem dX6_floatBits_19 : decode cX6_floatBits 19 = .ok (.fload_n 1, 1) := by decide +kernel
theorem dX6_floatBits_20 : decode cX6_floatBits 20 = .ok (.fconst 2, 1) := by decide +kernel
theorem dX6_floatBits_21 : decode cX6_floatBits 21 = .ok (.fdiv, 1) := by decide +kernel
theorem dX6_floatBits_22 : decode cX6_floatBits 22 = .ok (.fstore_n 1, 1) := by decide +kernel
theorem dX6_floatBits_23 : decode cX6_floatBits 23 = .ok (.iinc 2 1, 3) := by decide +kernel
theorem dX6_floatBits_26 : decode cX6_floatBits 26 = .ok (.goto (-13), 3) := by decide +kernel
theorem dX6_floatBits_29 : decode cX6_floatBits 29 = .ok (.fload_n 1, 1) := by decide +kernel
theorem dX6_floatBits_30 : decode cX6_floatBits 30 = .ok (.fconst 1, 1) := by decide +kernel
theorem dX6_floatBits_31 : decode cX6_floatBits 31 = .ok (.fcmp .g, 1) := by decide +kernel
theorem dX6_floatBits_32 : decode cX6_floatBits 32 = .ok (.ifCond .ge 13, 3) := by decide +kernel
theorem dX6_floatBits_35 : decode cX6_floatBits 35 = .ok (.fload_n 1, 1) := by decide +kernel
theorem dX6_floatBits_36 : decode cX6_floatBits 36 = .ok (.fconst 2, 1) := by decide +kernel
theorem dX6_floatBits_37 : decode cX6_floatBits 37 = .ok (.fmul, 1) := by decide +kernel
theorem dX6_floatBits_38 : decode cX6_floatBits 38 = .ok (.fstore_n 1, 1) := by decide +kernel
theorem dX6_floatBits_39 : decode cX6_floatBits 39 = .ok (.iinc 2 (-1), 3) := by decide +kernel
theorem dX6_floatBits_42 : decode cX6_floatBits 42 = .ok (.goto (-13), 3) := by decide +kernel
theorem dX6_floatBits_45 : decode cX6_floatBits 45 = .ok (.iload_n 2, 1) := by decide +kernel
theorem dX6_floatBits_46 : decode cX6_floatBits 46 = .ok (.ldc 192, 2) := by decide +kernel
theorem dX6_floatBits_48 : decode cX6_floatBits 48 = .ok (.imul, 1) := by decide +kernel
theorem dX6_floatBits_49 : decode cX6_floatBits 49 = .ok (.fload_n 1, 1) := by decide +kernel
theorem dX6_floatBits_50 : decode cX6_floatBits 50 = .ok (.fconst 1, 1) := by decide +kernel
theorem dX6_floatBits_51 : decode cX6_floatBits 51 = .ok (.fsub, 1) := by decide +kernel
theorem dX6_floatBits_52 : decode cX6_floatBits 52 = .ok (.ldc 193, 2) := by decide +kernel
theorem dX6_floatBits_54 : decode cX6_floatBits 54 = .ok (.fmul, 1) := by decide +kernel
theorem dX6_floatBits_55 : decode cX6_floatBits 55 = .ok (.f2i, 1) := by decide +kernel
theorem dX6_floatBits_56 : decode cX6_floatBits 56 = .ok (.iadd, 1) := by decide +kernel
theorem dX6_floatBits_57 : decode cX6_floatBits 57 = .ok (.ireturn, 1) := by decide +kernel
theorem dX6_mixParts_0 : decode cX6_mixParts 0 = .ok (.iconst 0, 1) := by decide +kernel
theorem dX6_mixParts_1 : decode cX6_mixParts 1 = .ok (.istore_n 1, 1) := by decide +kernel
theorem dX6_mixParts_2 : decode cX6_mixParts 2 = .ok (.iload_n 1, 1) := by decide +kernel
theorem dX6_mixParts_3 : decode cX6_mixParts 3 = .ok (.iconst 5, 1) := by decide +kernel
theorem dX6_mixParts_4 : decode cX6_mixParts 4 = .ok (.if_icmp .ge 73, 3) := by decide +kernel
theorem dX6_mixParts_7 : decode cX6_mixParts 7 = .ok (.iconst 0, 1) := by decide +kernel
theorem dX6_mixParts_8 : decode cX6_mixParts 8 = .ok (.istore_n 2, 1) := by decide +kernel
theorem dX6_mixParts_9 : decode cX6_mixParts 9 = .ok (.iload_n 2, 1) := by decide +kernel
theorem dX6_mixParts_10 : decode cX6_mixParts 10 = .ok (.bipush 7, 2) := by decide +kernel
theorem dX6_mixParts_12 : decode cX6_mixParts 12 = .ok (.if_icmp .ge 20, 3) := by decide +kernel
theorem dX6_mixParts_15 : decode cX6_mixParts 15 = .ok (.aload_n 0, 1) := by decide +kernel
theorem dX6_mixParts_16 : decode cX6_mixParts 16 = .ok (.aload_n 0, 1) := by decide +kernel
theorem dX6_mixParts_17 : decode cX6_mixParts 17 = .ok (.iload_n 1, 1) := by decide +kernel
theorem dX6_mixParts_18 : decode cX6_mixParts 18 = .ok (.iload_n 2, 1) := by decide +kernel
theorem dX6_mixParts_19 : decode cX6_mixParts 19 = .ok (.invokevirtual 136, 3) := by decide +kernel
theorem dX6_mixParts_22 : decode cX6_mixParts 22 = .ok (.i2l, 1) := by decide +kernel
theorem dX6_mixParts_23 : decode cX6_mixParts 23 = .ok (.invokevirtual 194, 3) := by decide +kernel
theorem dX6_mixParts_26 : decode cX6_mixParts 26 = .ok (.iinc 2 1, 3) := by decide +kernel
theorem dX6_mixParts_29 : decode cX6_mixParts 29 = .ok (.goto (-20), 3) := by decide +kernel
theorem dX6_mixParts_32 : decode cX6_mixParts 32 = .ok (.iconst 0, 1) := by decide +kernel
theorem dX6_mixParts_33 : decode cX6_mixParts 33 = .ok (.istore_n 2, 1) := by decide +kernel
theorem dX6_mixParts_34 : decode cX6_mixParts 34 = .ok (.iload_n 2, 1) := by decide +kernel
theorem dX6_mixParts_35 : decode cX6_mixParts 35 = .ok (.aload_n 0, 1) := by decide +kernel
theorem dX6_mixParts_36 : decode cX6_mixParts 36 = .ok (.getfield 7, 3) := by decide +kernel
theorem dX6_mixParts_39 : decode cX6_mixParts 39 = .ok (.iconst 0, 1) := by decide +kernel
theorem dX6_mixParts_40 : decode cX6_mixParts 40 = .ok (.iload_n 1, 1) := by decide +kernel
theorem dX6_mixParts_41 : decode cX6_mixParts 41 = .ok (.iadd, 1) := by decide +kernel
theorem dX6_mixParts_42 : decode cX6_mixParts 42 = .ok (.iaload, 1) := by decide +kernel
theorem dX6_mixParts_43 : decode cX6_mixParts 43 = .ok (.if_icmp .ge 28, 3) := by decide +kernel
theorem dX6_mixParts_46 : decode cX6_mixParts 46 = .ok (.aload_n 0, 1) := by decide +kernel
theorem dX6_mixParts_47 : decode cX6_mixParts 47 = .ok (.aload_n 0, 1) := by decide +kernel
theorem dX6_mixParts_48 : decode cX6_mixParts 48 = .ok (.getfield 7, 3) := by decide +kernel
theorem dX6_mixParts_51 : decode cX6_mixParts 51 = .ok (.bipush 15, 2) := by decide +kernel
theorem dX6_mixParts_53 : decode cX6_mixParts 53 = .ok (.bipush 12, 2) := by decide +kernel
theorem dX6_mixParts_55 : decode cX6_mixParts 55 = .ok (.iload_n 1, 1) := by decide +kernel
theorem dX6_mixParts_56 : decode cX6_mixParts 56 = .ok (.imul, 1) := by decide +kernel
theorem dX6_mixParts_57 : decode cX6_mixParts 57 = .ok (.iadd, 1) := by decide +kernel
theorem dX6_mixParts_58 : decode cX6_mixParts 58 = .ok (.iload_n 2, 1) := by decide +kernel
theorem dX6_mixParts_59 : decode cX6_mixParts 59 = .ok (.iadd, 1) := by decide +kernel
theorem dX6_mixParts_60 : decode cX6_mixParts 60 = .ok (.iaload, 1) := by decide +kernel
theorem dX6_mixParts_61 : decode cX6_mixParts 61 = .ok (.i2l, 1) := by decide +kernel
theorem dX6_mixParts_62 : decode cX6_mixParts 62 = .ok (.invokevirtual 194, 3) := by decide +kernel
theorem dX6_mixParts_65 : decode cX6_mixParts 65 = .ok (.iinc 2 1, 3) := by decide +kernel
theorem dX6_mixParts_68 : decode cX6_mixParts 68 = .ok (.goto (-34), 3) := by decide +kernel
theorem dX6_mixParts_71 : decode cX6_mixParts 71 = .ok (.iinc 1 1, 3) := by decide +kernel
theorem dX6_mixParts_74 : decode cX6_mixParts 74 = .ok (.goto (-72), 3) := by decide +kernel
theorem dX6_mixParts_77 : decode cX6_mixParts 77 = .ok (.iconst 0, 1) := by decide +kernel
theorem dX6_mixParts_78 : decode cX6_mixParts 78 = .ok (.istore_n 1, 1) := by decide +kernel
theorem dX6_mixParts_79 : decode cX6_mixParts 79 = .ok (.iload_n 1, 1) := by decide +kernel
theorem dX6_mixParts_80 : decode cX6_mixParts 80 = .ok (.bipush 60, 2) := by decide +kernel
theorem dX6_mixParts_82 : decode cX6_mixParts 82 = .ok (.if_icmp .ge 23, 3) := by decide +kernel
theorem dX6_mixParts_85 : decode cX6_mixParts 85 = .ok (.aload_n 0, 1) := by decide +kernel
theorem dX6_mixParts_86 : decode cX6_mixParts 86 = .ok (.aload_n 0, 1) := by decide +kernel
theorem dX6_mixParts_87 : decode cX6_mixParts 87 = .ok (.getfield 7, 3) := by decide +kernel
theorem dX6_mixParts_90 : decode cX6_mixParts 90 = .ok (.bipush 112, 2) := by decide +kernel
theorem dX6_mixParts_92 : decode cX6_mixParts 92 = .ok (.iload_n 1, 1) := by decide +kernel
theorem dX6_mixParts_93 : decode cX6_mixParts 93 = .ok (.iadd, 1) := by decide +kernel
theorem dX6_mixParts_94 : decode cX6_mixParts 94 = .ok (.iaload, 1) := by decide +kernel
theorem dX6_mixParts_95 : decode cX6_mixParts 95 = .ok (.i2l, 1) := by decide +kernel
theorem dX6_mixParts_96 : decode cX6_mixParts 96 = .ok (.invokevirtual 194, 3) := by decide +kernel
theorem dX6_mixParts_99 : decode cX6_mixParts 99 = .ok (.iinc 1 1, 3) := by decide +kernel
theorem dX6_mixParts_102 : decode cX6_mixParts 102 = .ok (.goto (-23), 3) := by decide +kernel
theorem dX6_mixParts_105 : decode cX6_mixParts 105 = .ok (.iconst 0, 1) := by decide +kernel
theorem dX6_mixParts_106 : decode cX6_mixParts 106 = .ok (.istore_n 1, 1) := by decide +kernel
theorem dX6_mixParts_107 : decode cX6_mixParts 107 = .ok (.iload_n 1, 1) := by decide +kernel
theorem dX6_mixParts_108 : decode cX6_mixParts 108 = .ok (.aload_n 0, 1) := by decide +kernel
theorem dX6_mixParts_109 : decode cX6_mixParts 109 = .ok (.getfield 7, 3) := by decide +kernel
theorem dX6_mixParts_112 : decode cX6_mixParts 112 = .ok (.bipush 81, 2) := by decide +kernel
theorem dX6_mixParts_114 : decode cX6_mixParts 114 = .ok (.iaload, 1) := by decide +kernel
theorem dX6_mixParts_115 : decode cX6_mixParts 115 = .ok (.if_icmp .ge 34, 3) := by decide +kernel
theorem dX6_mixParts_118 : decode cX6_mixParts 118 = .ok (.iconst 0, 1) := by decide +kernel
theorem dX6_mixParts_119 : decode cX6_mixParts 119 = .ok (.istore_n 2, 1) := by decide +kernel
theorem dX6_mixParts_120 : decode cX6_mixParts 120 = .ok (.iload_n 2, 1) := by decide +kernel
theorem dX6_mixParts_121 : decode cX6_mixParts 121 = .ok (.bipush 8, 2) := by decide +kernel
theorem dX6_mixParts_123 : decode cX6_mixParts 123 = .ok (.if_icmp .ge 20, 3) := by decide +kernel
theorem dX6_mixParts_126 : decode cX6_mixParts 126 = .ok (.aload_n 0, 1) := by decide +kernel
theorem dX6_mixParts_127 : decode cX6_mixParts 127 = .ok (.aload_n 0, 1) := by decide +kernel
theorem dX6_mixParts_128 : decode cX6_mixParts 128 = .ok (.iload_n 1, 1) := by decide +kernel
theorem dX6_mixParts_129 : decode cX6_mixParts 129 = .ok (.iload_n 2, 1) := by decide +kernel
theorem dX6_mixParts_130 : decode cX6_mixParts 130 = .ok (.invokevirtual 151, 3) := by decide +kernel
theorem dX6_mixParts_133 : decode cX6_mixParts 133 = .ok (.i2l, 1) := by decide +kernel
theorem dX6_mixParts_134 : decode cX6_mixParts 134 = .ok (.invokevirtual 194, 3) := by decide +kernel
theorem dX6_mixParts_137 : decode cX6_mixParts 137 = .ok (.iinc 2 1, 3) := by decide +kernel
theorem dX6_mixParts_140 : decode cX6_mixParts 140 = .ok (.goto (-20), 3) := by decide +kernel
theorem dX6_mixParts_143 : decode cX6_mixParts 143 = .ok (.iinc 1 1, 3) := by decide +kernel
theorem dX6_mixParts_146 : decode cX6_mixParts 146 = .ok (.goto (-39), 3) := by decide +kernel
theorem dX6_mixParts_149 : decode cX6_mixParts 149 = .ok (.return_, 1) := by decide +kernel
theorem dX6_digest_0 : decode cX6_digest 0 = .ok (.aload_n 0, 1) := by decide +kernel
theorem dX6_digest_1 : decode cX6_digest 1 = .ok (.iconst 0, 1) := by decide +kernel
theorem dX6_digest_2 : decode cX6_digest 2 = .ok (.putfield 22, 3) := by decide +kernel
theorem dX6_digest_5 : decode cX6_digest 5 = .ok (.aload_n 0, 1) := by decide +kernel
theorem dX6_digest_6 : decode cX6_digest 6 = .ok (.ldc2_w 198, 3) := by decide +kernel
theorem dX6_digest_9 : decode cX6_digest 9 = .ok (.putfield 180, 3) := by decide +kernel
theorem dX6_digest_12 : decode cX6_digest 12 = .ok (.iconst 0, 1) := by decide +kernel
theorem dX6_digest_13 : decode cX6_digest 13 = .ok (.istore_n 1, 1) := by decide +kernel
theorem dX6_digest_14 : decode cX6_digest 14 = .ok (.iload_n 1, 1) := by decide +kernel
theorem dX6_digest_15 : decode cX6_digest 15 = .ok (.bipush 13, 2) := by decide +kernel
theorem dX6_digest_17 : decode cX6_digest 17 = .ok (.if_icmp .ge 19, 3) := by decide +kernel
theorem dX6_digest_20 : decode cX6_digest 20 = .ok (.aload_n 0, 1) := by decide +kernel
theorem dX6_digest_21 : decode cX6_digest 21 = .ok (.aload_n 0, 1) := by decide +kernel
theorem dX6_digest_22 : decode cX6_digest 22 = .ok (.iload_n 1, 1) := by decide +kernel
theorem dX6_digest_23 : decode cX6_digest 23 = .ok (.invokevirtual 157, 3) := by decide +kernel
theorem dX6_digest_26 : decode cX6_digest 26 = .ok (.i2l, 1) := by decide +kernel
theorem dX6_digest_27 : decode cX6_digest 27 = .ok (.invokevirtual 194, 3) := by decide +kernel
theorem dX6_digest_30 : decode cX6_digest 30 = .ok (.iinc 1 1, 3) := by decide +kernel
theorem dX6_digest_33 : decode cX6_digest 33 = .ok (.goto (-19), 3) := by decide +kernel
theorem dX6_digest_36 : decode cX6_digest 36 = .ok (.aload_n 0, 1) := by decide +kernel
theorem dX6_digest_37 : decode cX6_digest 37 = .ok (.invokevirtual 200, 3) := by decide +kernel
theorem dX6_digest_40 : decode cX6_digest 40 = .ok (.aload_n 0, 1) := by decide +kernel
theorem dX6_digest_41 : decode cX6_digest 41 = .ok (.aload_n 0, 1) := by decide +kernel
theorem dX6_digest_42 : decode cX6_digest 42 = .ok (.iconst 1, 1) := by decide +kernel
theorem dX6_digest_43 : decode cX6_digest 43 = .ok (.iconst (-1), 1) := by decide +kernel
theorem dX6_digest_44 : decode cX6_digest 44 = .ok (.invokevirtual 49, 3) := by decide +kernel
theorem dX6_digest_47 : decode cX6_digest 47 = .ok (.i2l, 1) := by decide +kernel
theorem dX6_digest_48 : decode cX6_digest 48 = .ok (.invokevirtual 194, 3) := by decide +kernel
theorem dX6_digest_51 : decode cX6_digest 51 = .ok (.aload_n 0, 1) := by decide +kernel
theorem dX6_digest_52 : decode cX6_digest 52 = .ok (.aload_n 0, 1) := by decide +kernel
theorem dX6_digest_53 : decode cX6_digest 53 = .ok (.iconst (-1), 1) := by decide +kernel
theorem dX6_digest_54 : decode cX6_digest 54 = .ok (.iconst (-1), 1) := by decide +kernel
theorem dX6_digest_55 : decode cX6_digest 55 = .ok (.invokevirtual 49, 3) := by decide +kernel
theorem dX6_digest_58 : decode cX6_digest 58 = .ok (.i2l, 1) := by decide +kernel
theorem dX6_digest_59 : decode cX6_digest 59 = .ok (.invokevirtual 194, 3) := by decide +kernel
theorem dX6_digest_62 : decode cX6_digest 62 = .ok (.aload_n 0, 1) := by decide +kernel
theorem dX6_digest_63 : decode cX6_digest 63 = .ok (.aload_n 0, 1) := by decide +kernel
theorem dX6_digest_64 : decode cX6_digest 64 = .ok (.invokevirtual 139, 3) := by decide +kernel
theorem dX6_digest_67 : decode cX6_digest 67 = .ok (.i2l, 1) := by decide +kernel
theorem dX6_digest_68 : decode cX6_digest 68 = .ok (.invokevirtual 194, 3) := by decide +kernel
theorem dX6_digest_71 : decode cX6_digest 71 = .ok (.aload_n 0, 1) := by decide +kernel
theorem dX6_digest_72 : decode cX6_digest 72 = .ok (.aload_n 0, 1) := by decide +kernel
theorem dX6_digest_73 : decode cX6_digest 73 = .ok (.invokevirtual 139, 3) := by decide +kernel
theorem dX6_digest_76 : decode cX6_digest 76 = .ok (.i2l, 1) := by decide +kernel
theorem dX6_digest_77 : decode cX6_digest 77 = .ok (.invokevirtual 194, 3) := by decide +kernel
theorem dX6_digest_80 : decode cX6_digest 80 = .ok (.aload_n 0, 1) := by decide +kernel
theorem dX6_digest_81 : decode cX6_digest 81 = .ok (.aload_n 0, 1) := by decide +kernel
theorem dX6_digest_82 : decode cX6_digest 82 = .ok (.iconst 0, 1) := by decide +kernel
theorem dX6_digest_83 : decode cX6_digest 83 = .ok (.invokevirtual 163, 3) := by decide +kernel
theorem dX6_digest_86 : decode cX6_digest 86 = .ok (.i2l, 1) := by decide +kernel
theorem dX6_digest_87 : decode cX6_digest 87 = .ok (.invokevirtual 194, 3) := by decide +kernel
theorem dX6_digest_90 : decode cX6_digest 90 = .ok (.aload_n 0, 1) := by decide +kernel
theorem dX6_digest_91 : decode cX6_digest 91 = .ok (.aload_n 0, 1) := by decide +kernel
theorem dX6_digest_92 : decode cX6_digest 92 = .ok (.iconst 1, 1) := by decide +kernel
theorem dX6_digest_93 : decode cX6_digest 93 = .ok (.invokevirtual 163, 3) := by decide +kernel
theorem dX6_digest_96 : decode cX6_digest 96 = .ok (.i2l, 1) := by decide +kernel
theorem dX6_digest_97 : decode cX6_digest 97 = .ok (.invokevirtual 194, 3) := by decide +kernel
theorem dX6_digest_100 : decode cX6_digest 100 = .ok (.aload_n 0, 1) := by decide +kernel
theorem dX6_digest_101 : decode cX6_digest 101 = .ok (.aload_n 0, 1) := by decide +kernel
theorem dX6_digest_102 : decode cX6_digest 102 = .ok (.iconst 0, 1) := by decide +kernel
theorem dX6_digest_103 : decode cX6_digest 103 = .ok (.invokevirtual 166, 3) := by decide +kernel
theorem dX6_digest_106 : decode cX6_digest 106 = .ok (.i2l, 1) := by decide +kernel
theorem dX6_digest_107 : decode cX6_digest 107 = .ok (.invokevirtual 194, 3) := by decide +kernel
theorem dX6_digest_110 : decode cX6_digest 110 = .ok (.aload_n 0, 1) := by decide +kernel
theorem dX6_digest_111 : decode cX6_digest 111 = .ok (.aload_n 0, 1) := by decide +kernel
theorem dX6_digest_112 : decode cX6_digest 112 = .ok (.iconst 1, 1) := by decide +kernel
theorem dX6_digest_113 : decode cX6_digest 113 = .ok (.invokevirtual 166, 3) := by decide +kernel
theorem dX6_digest_116 : decode cX6_digest 116 = .ok (.i2l, 1) := by decide +kernel
theorem dX6_digest_117 : decode cX6_digest 117 = .ok (.invokevirtual 194, 3) := by decide +kernel
theorem dX6_digest_120 : decode cX6_digest 120 = .ok (.iconst 0, 1) := by decide +kernel
theorem dX6_digest_121 : decode cX6_digest 121 = .ok (.istore_n 1, 1) := by decide +kernel
theorem dX6_digest_122 : decode cX6_digest 122 = .ok (.iload_n 1, 1) := by decide +kernel
theorem dX6_digest_123 : decode cX6_digest 123 = .ok (.iconst 5, 1) := by decide +kernel
theorem dX6_digest_124 : decode cX6_digest 124 = .ok (.if_icmp .ge 22, 3) := by decide +kernel
theorem dX6_digest_127 : decode cX6_digest 127 = .ok (.aload_n 0, 1) := by decide +kernel
theorem dX6_digest_128 : decode cX6_digest 128 = .ok (.aload_n 0, 1) := by decide +kernel
theorem dX6_digest_129 : decode cX6_digest 129 = .ok (.iload_n 1, 1) := by decide +kernel
theorem dX6_digest_130 : decode cX6_digest 130 = .ok (.bipush 7, 2) := by decide +kernel
theorem dX6_digest_132 : decode cX6_digest 132 = .ok (.iconst (-1), 1) := by decide +kernel
theorem dX6_digest_133 : decode cX6_digest 133 = .ok (.invokevirtual 34, 3) := by decide +kernel
theorem dX6_digest_136 : decode cX6_digest 136 = .ok (.i2l, 1) := by decide +kernel
theorem dX6_digest_137 : decode cX6_digest 137 = .ok (.invokevirtual 194, 3) := by decide +kernel
theorem dX6_digest_140 : decode cX6_digest 140 = .ok (.iinc 1 1, 3) := by decide +kernel
theorem dX6_digest_143 : decode cX6_digest 143 = .ok (.goto (-21), 3) := by decide +kernel
theorem dX6_digest_146 : decode cX6_digest 146 = .ok (.aload_n 0, 1) := by decide +kernel
theorem dX6_digest_147 : decode cX6_digest 147 = .ok (.aload_n 0, 1) := by decide +kernel
theorem dX6_digest_148 : decode cX6_digest 148 = .ok (.invokevirtual 169, 3) := by decide +kernel
theorem dX6_digest_151 : decode cX6_digest 151 = .ok (.invokestatic 203, 3) := by decide +kernel
theorem dX6_digest_154 : decode cX6_digest 154 = .ok (.invokevirtual 194, 3) := by decide +kernel
theorem dX6_digest_157 : decode cX6_digest 157 = .ok (.aload_n 0, 1) := by decide +kernel
theorem dX6_digest_158 : decode cX6_digest 158 = .ok (.aload_n 0, 1) := by decide +kernel
theorem dX6_digest_159 : decode cX6_digest 159 = .ok (.invokevirtual 174, 3) := by decide +kernel
theorem dX6_digest_162 : decode cX6_digest 162 = .ok (.invokestatic 207, 3) := by decide +kernel
theorem dX6_digest_165 : decode cX6_digest 165 = .ok (.i2l, 1) := by decide +kernel
theorem dX6_digest_166 : decode cX6_digest 166 = .ok (.invokevirtual 194, 3) := by decide +kernel
theorem dX6_digest_169 : decode cX6_digest 169 = .ok (.aload_n 0, 1) := by decide +kernel
theorem dX6_digest_170 : decode cX6_digest 170 = .ok (.aload_n 0, 1) := by decide +kernel
theorem dX6_digest_171 : decode cX6_digest 171 = .ok (.getfield 132, 3) := by decide +kernel
theorem dX6_digest_174 : decode cX6_digest 174 = .ok (.ifCond .eq 7, 3) := by decide +kernel
theorem dX6_digest_177 : decode cX6_digest 177 = .ok (.lconst 1, 1) := by decide +kernel
theorem dX6_digest_178 : decode cX6_digest 178 = .ok (.goto 4, 3) := by decide +kernel
theorem dX6_digest_181 : decode cX6_digest 181 = .ok (.lconst 0, 1) := by decide +kernel
theorem dX6_digest_182 : decode cX6_digest 182 = .ok (.invokevirtual 194, 3) := by decide +kernel
theorem dX6_digest_185 : decode cX6_digest 185 = .ok (.aload_n 0, 1) := by decide +kernel
theorem dX6_digest_186 : decode cX6_digest 186 = .ok (.aload_n 0, 1) := by decide +kernel
theorem dX6_digest_187 : decode cX6_digest 187 = .ok (.getfield 99, 3) := by decide +kernel
theorem dX6_digest_190 : decode cX6_digest 190 = .ok (.i2l, 1) := by decide +kernel
theorem dX6_digest_191 : decode cX6_digest 191 = .ok (.invokevirtual 194, 3) := by decide +kernel
theorem dX6_digest_194 : decode cX6_digest 194 = .ok (.iconst 0, 1) := by decide +kernel
theorem dX6_digest_195 : decode cX6_digest 195 = .ok (.istore_n 1, 1) := by decide +kernel
theorem dX6_digest_196 : decode cX6_digest 196 = .ok (.iload_n 1, 1) := by decide +kernel
theorem dX6_digest_197 : decode cX6_digest 197 = .ok (.aload_n 0, 1) := by decide +kernel
theorem dX6_digest_198 : decode cX6_digest 198 = .ok (.getfield 99, 3) := by decide +kernel
theorem dX6_digest_201 : decode cX6_digest 201 = .ok (.if_icmp .ge 20, 3) := by decide +kernel
theorem dX6_digest_204 : decode cX6_digest 204 = .ok (.aload_n 0, 1) := by decide +kernel
theorem dX6_digest_205 : decode cX6_digest 205 = .ok (.aload_n 0, 1) := by decide +kernel
theorem dX6_digest_206 : decode cX6_digest 206 = .ok (.getfield 13, 3) := by decide +kernel
theorem dX6_digest_209 : decode cX6_digest 209 = .ok (.iload_n 1, 1) := by decide +kernel
theorem dX6_digest_210 : decode cX6_digest 210 = .ok (.iaload, 1) := by decide +kernel
theorem dX6_digest_211 : decode cX6_digest 211 = .ok (.i2l, 1) := by decide +kernel
theorem dX6_digest_212 : decode cX6_digest 212 = .ok (.invokevirtual 194, 3) := by decide +kernel
theorem dX6_digest_215 : decode cX6_digest 215 = .ok (.iinc 1 1, 3) := by decide +kernel
theorem dX6_digest_218 : decode cX6_digest 218 = .ok (.goto (-22), 3) := by decide +kernel
theorem dX6_digest_221 : decode cX6_digest 221 = .ok (.aload_n 0, 1) := by decide +kernel
theorem dX6_digest_222 : decode cX6_digest 222 = .ok (.getfield 180, 3) := by decide +kernel
theorem dX6_digest_225 : decode cX6_digest 225 = .ok (.lreturn, 1) := by decide +kernel
theorem dL_turn_0 : decode cL_turn 0 = .ok (.aload_n 2, 1) := by decide +kernel
theorem dL_turn_1 : decode cL_turn 1 = .ok (.iconst 0, 1) := by decide +kernel
theorem dL_turn_2 : decode cL_turn 2 = .ok (.aload_n 0, 1) := by decide +kernel
theorem dL_turn_3 : decode cL_turn 3 = .ok (.iload_n 1, 1) := by decide +kernel
theorem dL_turn_4 : decode cL_turn 4 = .ok (.invokevirtual 7, 3) := by decide +kernel
theorem dL_turn_7 : decode cL_turn 7 = .ok (.i2l, 1) := by decide +kernel
theorem dL_turn_8 : decode cL_turn 8 = .ok (.lastore, 1) := by decide +kernel
theorem dL_turn_9 : decode cL_turn 9 = .ok (.goto 6, 3) := by decide +kernel
theorem dL_turn_12 : decode cL_turn 12 = .ok (.astore_n 3, 1) := by decide +kernel
theorem dL_turn_13 : decode cL_turn 13 = .ok (.iconst 1, 1) := by decide +kernel
theorem dL_turn_14 : decode cL_turn 14 = .ok (.ireturn, 1) := by decide +kernel
theorem dL_turn_15 : decode cL_turn 15 = .ok (.iconst 0, 1) := by decide +kernel
theorem dL_turn_16 : decode cL_turn 16 = .ok (.ireturn, 1) := by decide +kernel
theorem dL_stop_0 : decode cL_stop 0 = .ok (.aload_n 2, 1) := by decide +kernel
theorem dL_stop_1 : decode cL_stop 1 = .ok (.iconst 0, 1) := by decide +kernel
theorem dL_stop_2 : decode cL_stop 2 = .ok (.aload_n 0, 1) := by decide +kernel
theorem dL_stop_3 : decode cL_stop 3 = .ok (.iload_n 1, 1) := by decide +kernel
theorem dL_stop_4 : decode cL_stop 4 = .ok (.invokevirtual 15, 3) := by decide +kernel
theorem dL_stop_7 : decode cL_stop 7 = .ok (.i2l, 1) := by decide +kernel
theorem dL_stop_8 : decode cL_stop 8 = .ok (.lastore, 1) := by decide +kernel
theorem dL_stop_9 : decode cL_stop 9 = .ok (.goto 6, 3) := by decide +kernel
theorem dL_stop_12 : decode cL_stop 12 = .ok (.astore_n 3, 1) := by decide +kernel
theorem dL_stop_13 : decode cL_stop 13 = .ok (.iconst 1, 1) := by decide +kernel
theorem dL_stop_14 : decode cL_stop 14 = .ok (.ireturn, 1) := by decide +kernel
theorem dL_stop_15 : decode cL_stop 15 = .ok (.iconst 0, 1) := by decide +kernel
theorem dL_stop_16 : decode cL_stop 16 = .ok (.ireturn, 1) := by decide +kernel
theorem dL_clutch_0 : decode cL_clutch 0 = .ok (.aload_n 2, 1) := by decide +kernel
theorem dL_clutch_1 : decode cL_clutch 1 = .ok (.iconst 0, 1) := by decide +kernel
theorem dL_clutch_2 : decode cL_clutch 2 = .ok (.aload_n 0, 1) := by decide +kernel
theorem dL_clutch_3 : decode cL_clutch 3 = .ok (.iload_n 1, 1) := by decide +kernel
theorem dL_clutch_4 : decode cL_clutch 4 = .ok (.invokevirtual 20, 3) := by decide +kernel
theorem dL_clutch_7 : decode cL_clutch 7 = .ok (.i2l, 1) := by decide +kernel
theorem dL_clutch_8 : decode cL_clutch 8 = .ok (.lastore, 1) := by decide +kernel
theorem dL_clutch_9 : decode cL_clutch 9 = .ok (.goto 6, 3) := by decide +kernel
theorem dL_clutch_12 : decode cL_clutch 12 = .ok (.astore_n 3, 1) := by decide +kernel
theorem dL_clutch_13 : decode cL_clutch 13 = .ok (.iconst 1, 1) := by decide +kernel
theorem dL_clutch_14 : decode cL_clutch 14 = .ok (.ireturn, 1) := by decide +kernel
theorem dL_clutch_15 : decode cL_clutch 15 = .ok (.iconst 0, 1) := by decide +kernel
theorem dL_clutch_16 : decode cL_clutch 16 = .ok (.ireturn, 1) := by decide +kernel
theorem dL_hand_0 : decode cL_hand 0 = .ok (.aload_n 3, 1) := by decide +kernel
theorem dL_hand_1 : decode cL_hand 1 = .ok (.iconst 0, 1) := by decide +kernel
theorem dL_hand_2 : decode cL_hand 2 = .ok (.aload_n 0, 1) := by decide +kernel
theorem dL_hand_3 : decode cL_hand 3 = .ok (.iload_n 1, 1) := by decide +kernel
theorem dL_hand_4 : decode cL_hand 4 = .ok (.iload_n 2, 1) := by decide +kernel
theorem dL_hand_5 : decode cL_hand 5 = .ok (.invokevirtual 23, 3) := by decide +kernel
theorem dL_hand_8 : decode cL_hand 8 = .ok (.i2l, 1) := by decide +kernel
theorem dL_hand_9 : decode cL_hand 9 = .ok (.lastore, 1) := by decide +kernel
theorem dL_hand_10 : decode cL_hand 10 = .ok (.goto 15, 3) := by decide +kernel
theorem dL_hand_13 : decode cL_hand 13 = .ok (.astore 4, 2) := by decide +kernel
theorem dL_hand_15 : decode cL_hand 15 = .ok (.iconst 1, 1) := by decide +kernel
theorem dL_hand_16 : decode cL_hand 16 = .ok (.ireturn, 1) := by decide +kernel
theorem dL_hand_17 : decode cL_hand 17 = .ok (.astore 4, 2) := by decide +kernel
theorem dL_hand_19 : decode cL_hand 19 = .ok (.iconst 2, 1) := by decide +kernel
theorem dL_hand_20 : decode cL_hand 20 = .ok (.ireturn, 1) := by decide +kernel
theorem dL_hand_21 : decode cL_hand 21 = .ok (.astore 4, 2) := by decide +kernel
theorem dL_hand_23 : decode cL_hand 23 = .ok (.iconst 3, 1) := by decide +kernel
theorem dL_hand_24 : decode cL_hand 24 = .ok (.ireturn, 1) := by decide +kernel
theorem dL_hand_25 : decode cL_hand 25 = .ok (.iconst 0, 1) := by decide +kernel
theorem dL_hand_26 : decode cL_hand 26 = .ok (.ireturn, 1) := by decide +kernel
theorem dL_file_0 : decode cL_file 0 = .ok (.aload 4, 2) := by decide +kernel
theorem dL_file_2 : decode cL_file 2 = .ok (.iconst 0, 1) := by decide +kernel
theorem dL_file_3 : decode cL_file 3 = .ok (.aload_n 0, 1) := by decide +kernel
theorem dL_file_4 : decode cL_file 4 = .ok (.iload_n 1, 1) := by decide +kernel
theorem dL_file_5 : decode cL_file 5 = .ok (.iload_n 2, 1) := by decide +kernel
theorem dL_file_6 : decode cL_file 6 = .ok (.iload_n 3, 1) := by decide +kernel
theorem dL_file_7 : decode cL_file 7 = .ok (.invokevirtual 29, 3) := by decide +kernel
theorem dL_file_10 : decode cL_file 10 = .ok (.i2l, 1) := by decide +kernel
theorem dL_file_11 : decode cL_file 11 = .ok (.lastore, 1) := by decide +kernel
theorem dL_file_12 : decode cL_file 12 = .ok (.goto 15, 3) := by decide +kernel
theorem dL_file_15 : decode cL_file 15 = .ok (.astore 5, 2) := by decide +kernel
theorem dL_file_17 : decode cL_file 17 = .ok (.iconst 1, 1) := by decide +kernel
theorem dL_file_18 : decode cL_file 18 = .ok (.ireturn, 1) := by decide +kernel
theorem dL_file_19 : decode cL_file 19 = .ok (.astore 5, 2) := by decide +kernel
theorem dL_file_21 : decode cL_file 21 = .ok (.iconst 2, 1) := by decide +kernel
theorem dL_file_22 : decode cL_file 22 = .ok (.ireturn, 1) := by decide +kernel
theorem dL_file_23 : decode cL_file 23 = .ok (.astore 5, 2) := by decide +kernel
theorem dL_file_25 : decode cL_file 25 = .ok (.iconst 3, 1) := by decide +kernel
theorem dL_file_26 : decode cL_file 26 = .ok (.ireturn, 1) := by decide +kernel
theorem dL_file_27 : decode cL_file 27 = .ok (.iconst 0, 1) := by decide +kernel
theorem dL_file_28 : decode cL_file 28 = .ok (.ireturn, 1) := by decide +kernel
theorem dL_change_0 : decode cL_change 0 = .ok (.aload_n 3, 1) := by decide +kernel
theorem dL_change_1 : decode cL_change 1 = .ok (.iconst 0, 1) := by decide +kernel
theorem dL_change_2 : decode cL_change 2 = .ok (.aload_n 0, 1) := by decide +kernel
theorem dL_change_3 : decode cL_change 3 = .ok (.iload_n 1, 1) := by decide +kernel
theorem dL_change_4 : decode cL_change 4 = .ok (.iload_n 2, 1) := by decide +kernel
theorem dL_change_5 : decode cL_change 5 = .ok (.invokevirtual 33, 3) := by decide +kernel
theorem dL_change_8 : decode cL_change 8 = .ok (.i2l, 1) := by decide +kernel
theorem dL_change_9 : decode cL_change 9 = .ok (.lastore, 1) := by decide +kernel
theorem dL_change_10 : decode cL_change 10 = .ok (.goto 11, 3) := by decide +kernel
theorem dL_change_13 : decode cL_change 13 = .ok (.astore 4, 2) := by decide +kernel
theorem dL_change_15 : decode cL_change 15 = .ok (.iconst 1, 1) := by decide +kernel
theorem dL_change_16 : decode cL_change 16 = .ok (.ireturn, 1) := by decide +kernel
theorem dL_change_17 : decode cL_change 17 = .ok (.astore 4, 2) := by decide +kernel
theorem dL_change_19 : decode cL_change 19 = .ok (.iconst 2, 1) := by decide +kernel
theorem dL_change_20 : decode cL_change 20 = .ok (.ireturn, 1) := by decide +kernel
theorem dL_change_21 : decode cL_change 21 = .ok (.iconst 0, 1) := by decide +kernel
theorem dL_change_22 : decode cL_change 22 = .ok (.ireturn, 1) := by decide +kernel
theorem dL_set_0 : decode cL_set 0 = .ok (.aload_n 2, 1) := by decide +kernel
theorem dL_set_1 : decode cL_set 1 = .ok (.iconst 0, 1) := by decide +kernel
theorem dL_set_2 : decode cL_set 2 = .ok (.aload_n 0, 1) := by decide +kernel
theorem dL_set_3 : decode cL_set 3 = .ok (.iload_n 1, 1) := by decide +kernel
theorem dL_set_4 : decode cL_set 4 = .ok (.invokevirtual 36, 3) := by decide +kernel
theorem dL_set_7 : decode cL_set 7 = .ok (.i2l, 1) := by decide +kernel
theorem dL_set_8 : decode cL_set 8 = .ok (.lastore, 1) := by decide +kernel
theorem dL_set_9 : decode cL_set 9 = .ok (.goto 9, 3) := by decide +kernel
theorem dL_set_12 : decode cL_set 12 = .ok (.astore_n 3, 1) := by decide +kernel
theorem dL_set_13 : decode cL_set 13 = .ok (.iconst 1, 1) := by decide +kernel
theorem dL_set_14 : decode cL_set 14 = .ok (.ireturn, 1) := by decide +kernel
theorem dL_set_15 : decode cL_set 15 = .ok (.astore_n 3, 1) := by decide +kernel
theorem dL_set_16 : decode cL_set 16 = .ok (.iconst 2, 1) := by decide +kernel
theorem dL_set_17 : decode cL_set 17 = .ok (.ireturn, 1) := by decide +kernel
theorem dL_set_18 : decode cL_set 18 = .ok (.iconst 0, 1) := by decide +kernel
theorem dL_set_19 : decode cL_set 19 = .ok (.ireturn, 1) := by decide +kernel
theorem dL_remember_0 : decode cL_remember 0 = .ok (.aload_n 1, 1) := by decide +kernel
theorem dL_remember_1 : decode cL_remember 1 = .ok (.iconst 0, 1) := by decide +kernel
theorem dL_remember_2 : decode cL_remember 2 = .ok (.aload_n 0, 1) := by decide +kernel
theorem dL_remember_3 : decode cL_remember 3 = .ok (.invokevirtual 39, 3) := by decide +kernel
theorem dL_remember_6 : decode cL_remember 6 = .ok (.i2l, 1) := by decide +kernel
theorem dL_remember_7 : decode cL_remember 7 = .ok (.lastore, 1) := by decide +kernel
theorem dL_remember_8 : decode cL_remember 8 = .ok (.goto 6, 3) := by decide +kernel
theorem dL_remember_11 : decode cL_remember 11 = .ok (.astore_n 2, 1) := by decide +kernel
theorem dL_remember_12 : decode cL_remember 12 = .ok (.iconst 1, 1) := by decide +kernel
theorem dL_remember_13 : decode cL_remember 13 = .ok (.ireturn, 1) := by decide +kernel
theorem dL_remember_14 : decode cL_remember 14 = .ok (.iconst 0, 1) := by decide +kernel
theorem dL_remember_15 : decode cL_remember 15 = .ok (.ireturn, 1) := by decide +kernel
theorem dL_forget_0 : decode cL_forget 0 = .ok (.aload_n 2, 1) := by decide +kernel
theorem dL_forget_1 : decode cL_forget 1 = .ok (.iconst 0, 1) := by decide +kernel
theorem dL_forget_2 : decode cL_forget 2 = .ok (.aload_n 0, 1) := by decide +kernel
theorem dL_forget_3 : decode cL_forget 3 = .ok (.iload_n 1, 1) := by decide +kernel
theorem dL_forget_4 : decode cL_forget 4 = .ok (.invokevirtual 43, 3) := by decide +kernel
theorem dL_forget_7 : decode cL_forget 7 = .ok (.i2l, 1) := by decide +kernel
theorem dL_forget_8 : decode cL_forget 8 = .ok (.lastore, 1) := by decide +kernel
theorem dL_forget_9 : decode cL_forget 9 = .ok (.goto 6, 3) := by decide +kernel
theorem dL_forget_12 : decode cL_forget 12 = .ok (.astore_n 3, 1) := by decide +kernel
theorem dL_forget_13 : decode cL_forget 13 = .ok (.iconst 1, 1) := by decide +kernel
theorem dL_forget_14 : decode cL_forget 14 = .ok (.ireturn, 1) := by decide +kernel
theorem dL_forget_15 : decode cL_forget 15 = .ok (.iconst 0, 1) := by decide +kernel
theorem dL_forget_16 : decode cL_forget 16 = .ok (.ireturn, 1) := by decide +kernel
theorem dL_append_0 : decode cL_append 0 = .ok (.aload_n 2, 1) := by decide +kernel
theorem dL_append_1 : decode cL_append 1 = .ok (.iconst 0, 1) := by decide +kernel
theorem dL_append_2 : decode cL_append 2 = .ok (.aload_n 0, 1) := by decide +kernel
theorem dL_append_3 : decode cL_append 3 = .ok (.iload_n 1, 1) := by decide +kernel
theorem dL_append_4 : decode cL_append 4 = .ok (.invokevirtual 46, 3) := by decide +kernel
theorem dL_append_7 : decode cL_append 7 = .ok (.i2l, 1) := by decide +kernel
theorem dL_append_8 : decode cL_append 8 = .ok (.lastore, 1) := by decide +kernel
theorem dL_append_9 : decode cL_append 9 = .ok (.goto 9, 3) := by decide +kernel
theorem dL_append_12 : decode cL_append 12 = .ok (.astore_n 3, 1) := by decide +kernel
theorem dL_append_13 : decode cL_append 13 = .ok (.iconst 1, 1) := by decide +kernel
theorem dL_append_14 : decode cL_append 14 = .ok (.ireturn, 1) := by decide +kernel
theorem dL_append_15 : decode cL_append 15 = .ok (.astore_n 3, 1) := by decide +kernel
theorem dL_append_16 : decode cL_append 16 = .ok (.iconst 2, 1) := by decide +kernel
theorem dL_append_17 : decode cL_append 17 = .ok (.ireturn, 1) := by decide +kernel
theorem dL_append_18 : decode cL_append 18 = .ok (.iconst 0, 1) := by decide +kernel
theorem dL_append_19 : decode cL_append 19 = .ok (.ireturn, 1) := by decide +kernel
theorem dL_work_0 : decode cL_work 0 = .ok (.aload_n 1, 1) := by decide +kernel
theorem dL_work_1 : decode cL_work 1 = .ok (.iconst 0, 1) := by decide +kernel
theorem dL_work_2 : decode cL_work 2 = .ok (.aload_n 0, 1) := by decide +kernel
theorem dL_work_3 : decode cL_work 3 = .ok (.invokevirtual 49, 3) := by decide +kernel
theorem dL_work_6 : decode cL_work 6 = .ok (.i2l, 1) := by decide +kernel
theorem dL_work_7 : decode cL_work 7 = .ok (.lastore, 1) := by decide +kernel
theorem dL_work_8 : decode cL_work 8 = .ok (.goto 6, 3) := by decide +kernel
theorem dL_work_11 : decode cL_work 11 = .ok (.astore_n 2, 1) := by decide +kernel
theorem dL_work_12 : decode cL_work 12 = .ok (.iconst 1, 1) := by decide +kernel
theorem dL_work_13 : decode cL_work 13 = .ok (.ireturn, 1) := by decide +kernel
theorem dL_work_14 : decode cL_work 14 = .ok (.iconst 0, 1) := by decide +kernel
theorem dL_work_15 : decode cL_work 15 = .ok (.ireturn, 1) := by decide +kernel
theorem dL_goBack_0 : decode cL_goBack 0 = .ok (.aload_n 1, 1) := by decide +kernel
theorem dL_goBack_1 : decode cL_goBack 1 = .ok (.iconst 0, 1) := by decide +kernel
theorem dL_goBack_2 : decode cL_goBack 2 = .ok (.aload_n 0, 1) := by decide +kernel
theorem dL_goBack_3 : decode cL_goBack 3 = .ok (.invokevirtual 52, 3) := by decide +kernel
theorem dL_goBack_6 : decode cL_goBack 6 = .ok (.i2l, 1) := by decide +kernel
theorem dL_goBack_7 : decode cL_goBack 7 = .ok (.lastore, 1) := by decide +kernel
theorem dL_goBack_8 : decode cL_goBack 8 = .ok (.goto 6, 3) := by decide +kernel
theorem dL_goBack_11 : decode cL_goBack 11 = .ok (.astore_n 2, 1) := by decide +kernel
theorem dL_goBack_12 : decode cL_goBack 12 = .ok (.iconst 1, 1) := by decide +kernel
theorem dL_goBack_13 : decode cL_goBack 13 = .ok (.ireturn, 1) := by decide +kernel
theorem dL_goBack_14 : decode cL_goBack 14 = .ok (.iconst 0, 1) := by decide +kernel
theorem dL_goBack_15 : decode cL_goBack 15 = .ok (.ireturn, 1) := by decide +kernel
theorem dL_undo_0 : decode cL_undo 0 = .ok (.aload_n 1, 1) := by decide +kernel
theorem dL_undo_1 : decode cL_undo 1 = .ok (.iconst 0, 1) := by decide +kernel
theorem dL_undo_2 : decode cL_undo 2 = .ok (.aload_n 0, 1) := by decide +kernel
theorem dL_undo_3 : decode cL_undo 3 = .ok (.invokevirtual 55, 3) := by decide +kernel
theorem dL_undo_6 : decode cL_undo 6 = .ok (.i2l, 1) := by decide +kernel
theorem dL_undo_7 : decode cL_undo 7 = .ok (.lastore, 1) := by decide +kernel
theorem dL_undo_8 : decode cL_undo 8 = .ok (.goto 6, 3) := by decide +kernel
theorem dL_undo_11 : decode cL_undo 11 = .ok (.astore_n 2, 1) := by decide +kernel
theorem dL_undo_12 : decode cL_undo 12 = .ok (.iconst 1, 1) := by decide +kernel
theorem dL_undo_13 : decode cL_undo 13 = .ok (.ireturn, 1) := by decide +kernel
theorem dL_undo_14 : decode cL_undo 14 = .ok (.iconst 0, 1) := by decide +kernel
theorem dL_undo_15 : decode cL_undo 15 = .ok (.ireturn, 1) := by decide +kernel
theorem dL_wheel_0 : decode cL_wheel 0 = .ok (.aload_n 3, 1) := by decide +kernel
theorem dL_wheel_1 : decode cL_wheel 1 = .ok (.iconst 0, 1) := by decide +kernel
theorem dL_wheel_2 : decode cL_wheel 2 = .ok (.aload_n 0, 1) := by decide +kernel
theorem dL_wheel_3 : decode cL_wheel 3 = .ok (.iload_n 1, 1) := by decide +kernel
theorem dL_wheel_4 : decode cL_wheel 4 = .ok (.iload_n 2, 1) := by decide +kernel
theorem dL_wheel_5 : decode cL_wheel 5 = .ok (.invokevirtual 58, 3) := by decide +kernel
theorem dL_wheel_8 : decode cL_wheel 8 = .ok (.i2l, 1) := by decide +kernel
theorem dL_wheel_9 : decode cL_wheel 9 = .ok (.lastore, 1) := by decide +kernel
theorem dL_wheel_10 : decode cL_wheel 10 = .ok (.goto 11, 3) := by decide +kernel
theorem dL_wheel_13 : decode cL_wheel 13 = .ok (.astore 4, 2) := by decide +kernel
theorem dL_wheel_15 : decode cL_wheel 15 = .ok (.iconst 1, 1) := by decide +kernel
theorem dL_wheel_16 : decode cL_wheel 16 = .ok (.ireturn, 1) := by decide +kernel
theorem dL_wheel_17 : decode cL_wheel 17 = .ok (.astore 4, 2) := by decide +kernel
theorem dL_wheel_19 : decode cL_wheel 19 = .ok (.iconst 2, 1) := by decide +kernel
theorem dL_wheel_20 : decode cL_wheel 20 = .ok (.ireturn, 1) := by decide +kernel
theorem dL_wheel_21 : decode cL_wheel 21 = .ok (.iconst 0, 1) := by decide +kernel
theorem dL_wheel_22 : decode cL_wheel 22 = .ok (.ireturn, 1) := by decide +kernel
theorem dL_tooth_0 : decode cL_tooth 0 = .ok (.aload_n 3, 1) := by decide +kernel
theorem dL_tooth_1 : decode cL_tooth 1 = .ok (.iconst 0, 1) := by decide +kernel
theorem dL_tooth_2 : decode cL_tooth 2 = .ok (.aload_n 0, 1) := by decide +kernel
theorem dL_tooth_3 : decode cL_tooth 3 = .ok (.iload_n 1, 1) := by decide +kernel
theorem dL_tooth_4 : decode cL_tooth 4 = .ok (.iload_n 2, 1) := by decide +kernel
theorem dL_tooth_5 : decode cL_tooth 5 = .ok (.invokevirtual 61, 3) := by decide +kernel
theorem dL_tooth_8 : decode cL_tooth 8 = .ok (.i2l, 1) := by decide +kernel
theorem dL_tooth_9 : decode cL_tooth 9 = .ok (.lastore, 1) := by decide +kernel
theorem dL_tooth_10 : decode cL_tooth 10 = .ok (.goto 7, 3) := by decide +kernel
theorem dL_tooth_13 : decode cL_tooth 13 = .ok (.astore 4, 2) := by decide +kernel
theorem dL_tooth_15 : decode cL_tooth 15 = .ok (.iconst 1, 1) := by decide +kernel
theorem dL_tooth_16 : decode cL_tooth 16 = .ok (.ireturn, 1) := by decide +kernel
theorem dL_tooth_17 : decode cL_tooth 17 = .ok (.iconst 0, 1) := by decide +kernel
theorem dL_tooth_18 : decode cL_tooth 18 = .ok (.ireturn, 1) := by decide +kernel
theorem dL_scene_0 : decode cL_scene 0 = .ok (.aload_n 3, 1) := by decide +kernel
theorem dL_scene_1 : decode cL_scene 1 = .ok (.iconst 0, 1) := by decide +kernel
theorem dL_scene_2 : decode cL_scene 2 = .ok (.aload_n 0, 1) := by decide +kernel
theorem dL_scene_3 : decode cL_scene 3 = .ok (.iload_n 1, 1) := by decide +kernel
theorem dL_scene_4 : decode cL_scene 4 = .ok (.iload_n 2, 1) := by decide +kernel
theorem dL_scene_5 : decode cL_scene 5 = .ok (.invokevirtual 64, 3) := by decide +kernel
theorem dL_scene_8 : decode cL_scene 8 = .ok (.i2l, 1) := by decide +kernel
theorem dL_scene_9 : decode cL_scene 9 = .ok (.lastore, 1) := by decide +kernel
theorem dL_scene_10 : decode cL_scene 10 = .ok (.goto 11, 3) := by decide +kernel
theorem dL_scene_13 : decode cL_scene 13 = .ok (.astore 4, 2) := by decide +kernel
theorem dL_scene_15 : decode cL_scene 15 = .ok (.iconst 1, 1) := by decide +kernel
theorem dL_scene_16 : decode cL_scene 16 = .ok (.ireturn, 1) := by decide +kernel
theorem dL_scene_17 : decode cL_scene 17 = .ok (.astore 4, 2) := by decide +kernel
theorem dL_scene_19 : decode cL_scene 19 = .ok (.iconst 2, 1) := by decide +kernel
theorem dL_scene_20 : decode cL_scene 20 = .ok (.ireturn, 1) := by decide +kernel
theorem dL_scene_21 : decode cL_scene 21 = .ok (.iconst 0, 1) := by decide +kernel
theorem dL_scene_22 : decode cL_scene 22 = .ok (.ireturn, 1) := by decide +kernel
theorem dL_count_0 : decode cL_count 0 = .ok (.aload_n 2, 1) := by decide +kernel
theorem dL_count_1 : decode cL_count 1 = .ok (.iconst 0, 1) := by decide +kernel
theorem dL_count_2 : decode cL_count 2 = .ok (.aload_n 0, 1) := by decide +kernel
theorem dL_count_3 : decode cL_count 3 = .ok (.iload_n 1, 1) := by decide +kernel
theorem dL_count_4 : decode cL_count 4 = .ok (.invokevirtual 67, 3) := by decide +kernel
theorem dL_count_7 : decode cL_count 7 = .ok (.i2l, 1) := by decide +kernel
theorem dL_count_8 : decode cL_count 8 = .ok (.lastore, 1) := by decide +kernel
theorem dL_count_9 : decode cL_count 9 = .ok (.goto 6, 3) := by decide +kernel
theorem dL_count_12 : decode cL_count 12 = .ok (.astore_n 3, 1) := by decide +kernel
theorem dL_count_13 : decode cL_count 13 = .ok (.iconst 1, 1) := by decide +kernel
theorem dL_count_14 : decode cL_count 14 = .ok (.ireturn, 1) := by decide +kernel
theorem dL_count_15 : decode cL_count 15 = .ok (.iconst 0, 1) := by decide +kernel
theorem dL_count_16 : decode cL_count 16 = .ok (.ireturn, 1) := by decide +kernel
theorem dL_why_0 : decode cL_why 0 = .ok (.aload_n 2, 1) := by decide +kernel
theorem dL_why_1 : decode cL_why 1 = .ok (.iconst 0, 1) := by decide +kernel
theorem dL_why_2 : decode cL_why 2 = .ok (.aload_n 0, 1) := by decide +kernel
theorem dL_why_3 : decode cL_why 3 = .ok (.iload_n 1, 1) := by decide +kernel
theorem dL_why_4 : decode cL_why 4 = .ok (.invokevirtual 70, 3) := by decide +kernel
theorem dL_why_7 : decode cL_why 7 = .ok (.i2l, 1) := by decide +kernel
theorem dL_why_8 : decode cL_why 8 = .ok (.lastore, 1) := by decide +kernel
theorem dL_why_9 : decode cL_why 9 = .ok (.goto 6, 3) := by decide +kernel
theorem dL_why_12 : decode cL_why 12 = .ok (.astore_n 3, 1) := by decide +kernel
theorem dL_why_13 : decode cL_why 13 = .ok (.iconst 1, 1) := by decide +kernel
theorem dL_why_14 : decode cL_why 14 = .ok (.ireturn, 1) := by decide +kernel
theorem dL_why_15 : decode cL_why 15 = .ok (.iconst 0, 1) := by decide +kernel
theorem dL_why_16 : decode cL_why 16 = .ok (.ireturn, 1) := by decide +kernel
theorem dL_round_0 : decode cL_round 0 = .ok (.aload_n 2, 1) := by decide +kernel
theorem dL_round_1 : decode cL_round 1 = .ok (.iconst 0, 1) := by decide +kernel
theorem dL_round_2 : decode cL_round 2 = .ok (.aload_n 0, 1) := by decide +kernel
theorem dL_round_3 : decode cL_round 3 = .ok (.iload_n 1, 1) := by decide +kernel
theorem dL_round_4 : decode cL_round 4 = .ok (.invokevirtual 73, 3) := by decide +kernel
theorem dL_round_7 : decode cL_round 7 = .ok (.i2l, 1) := by decide +kernel
theorem dL_round_8 : decode cL_round 8 = .ok (.lastore, 1) := by decide +kernel
theorem dL_round_9 : decode cL_round 9 = .ok (.goto 6, 3) := by decide +kernel
theorem dL_round_12 : decode cL_round 12 = .ok (.astore_n 3, 1) := by decide +kernel
theorem dL_round_13 : decode cL_round 13 = .ok (.iconst 1, 1) := by decide +kernel
theorem dL_round_14 : decode cL_round 14 = .ok (.ireturn, 1) := by decide +kernel
theorem dL_round_15 : decode cL_round 15 = .ok (.iconst 0, 1) := by decide +kernel
theorem dL_round_16 : decode cL_round 16 = .ok (.ireturn, 1) := by decide +kernel
theorem dL_jamsIn_0 : decode cL_jamsIn 0 = .ok (.aload_n 2, 1) := by decide +kernel
theorem dL_jamsIn_1 : decode cL_jamsIn 1 = .ok (.iconst 0, 1) := by decide +kernel
theorem dL_jamsIn_2 : decode cL_jamsIn 2 = .ok (.aload_n 0, 1) := by decide +kernel
theorem dL_jamsIn_3 : decode cL_jamsIn 3 = .ok (.iload_n 1, 1) := by decide +kernel
theorem dL_jamsIn_4 : decode cL_jamsIn 4 = .ok (.invokevirtual 76, 3) := by decide +kernel
theorem dL_jamsIn_7 : decode cL_jamsIn 7 = .ok (.i2l, 1) := by decide +kernel
theorem dL_jamsIn_8 : decode cL_jamsIn 8 = .ok (.lastore, 1) := by decide +kernel
theorem dL_jamsIn_9 : decode cL_jamsIn 9 = .ok (.goto 6, 3) := by decide +kernel
theorem dL_jamsIn_12 : decode cL_jamsIn 12 = .ok (.astore_n 3, 1) := by decide +kernel
theorem dL_jamsIn_13 : decode cL_jamsIn 13 = .ok (.iconst 1, 1) := by decide +kernel
theorem dL_jamsIn_14 : decode cL_jamsIn 14 = .ok (.ireturn, 1) := by decide +kernel
theorem dL_jamsIn_15 : decode cL_jamsIn 15 = .ok (.iconst 0, 1) := by decide +kernel
theorem dL_jamsIn_16 : decode cL_jamsIn 16 = .ok (.ireturn, 1) := by decide +kernel
theorem dL_ahead_0 : decode cL_ahead 0 = .ok (.aload_n 3, 1) := by decide +kernel
theorem dL_ahead_1 : decode cL_ahead 1 = .ok (.iconst 0, 1) := by decide +kernel
theorem dL_ahead_2 : decode cL_ahead 2 = .ok (.aload_n 0, 1) := by decide +kernel
theorem dL_ahead_3 : decode cL_ahead 3 = .ok (.iload_n 1, 1) := by decide +kernel
theorem dL_ahead_4 : decode cL_ahead 4 = .ok (.iload_n 2, 1) := by decide +kernel
theorem dL_ahead_5 : decode cL_ahead 5 = .ok (.invokevirtual 79, 3) := by decide +kernel
theorem dL_ahead_8 : decode cL_ahead 8 = .ok (.i2l, 1) := by decide +kernel
theorem dL_ahead_9 : decode cL_ahead 9 = .ok (.lastore, 1) := by decide +kernel
theorem dL_ahead_10 : decode cL_ahead 10 = .ok (.goto 11, 3) := by decide +kernel
theorem dL_ahead_13 : decode cL_ahead 13 = .ok (.astore 4, 2) := by decide +kernel
theorem dL_ahead_15 : decode cL_ahead 15 = .ok (.iconst 1, 1) := by decide +kernel
theorem dL_ahead_16 : decode cL_ahead 16 = .ok (.ireturn, 1) := by decide +kernel
theorem dL_ahead_17 : decode cL_ahead 17 = .ok (.astore 4, 2) := by decide +kernel
theorem dL_ahead_19 : decode cL_ahead 19 = .ok (.iconst 2, 1) := by decide +kernel
theorem dL_ahead_20 : decode cL_ahead 20 = .ok (.ireturn, 1) := by decide +kernel
theorem dL_ahead_21 : decode cL_ahead 21 = .ok (.iconst 0, 1) := by decide +kernel
theorem dL_ahead_22 : decode cL_ahead 22 = .ok (.ireturn, 1) := by decide +kernel
theorem dL_frees_0 : decode cL_frees 0 = .ok (.aload_n 2, 1) := by decide +kernel
theorem dL_frees_1 : decode cL_frees 1 = .ok (.iconst 0, 1) := by decide +kernel
theorem dL_frees_2 : decode cL_frees 2 = .ok (.aload_n 0, 1) := by decide +kernel
theorem dL_frees_3 : decode cL_frees 3 = .ok (.iload_n 1, 1) := by decide +kernel
theorem dL_frees_4 : decode cL_frees 4 = .ok (.invokevirtual 82, 3) := by decide +kernel
theorem dL_frees_7 : decode cL_frees 7 = .ok (.i2l, 1) := by decide +kernel
theorem dL_frees_8 : decode cL_frees 8 = .ok (.lastore, 1) := by decide +kernel
theorem dL_frees_9 : decode cL_frees 9 = .ok (.goto 6, 3) := by decide +kernel
theorem dL_frees_12 : decode cL_frees 12 = .ok (.astore_n 3, 1) := by decide +kernel
theorem dL_frees_13 : decode cL_frees 13 = .ok (.iconst 1, 1) := by decide +kernel
theorem dL_frees_14 : decode cL_frees 14 = .ok (.ireturn, 1) := by decide +kernel
theorem dL_frees_15 : decode cL_frees 15 = .ok (.iconst 0, 1) := by decide +kernel
theorem dL_frees_16 : decode cL_frees 16 = .ok (.ireturn, 1) := by decide +kernel
theorem dL_law_0 : decode cL_law 0 = .ok (.new 8, 3) := by decide +kernel
theorem dL_law_3 : decode cL_law 3 = .ok (.dup, 1) := by decide +kernel
theorem dL_law_4 : decode cL_law 4 = .ok (.invokespecial 85, 3) := by decide +kernel
theorem dL_law_7 : decode cL_law 7 = .ok (.astore_n 1, 1) := by decide +kernel
theorem dL_law_8 : decode cL_law 8 = .ok (.new 86, 3) := by decide +kernel
theorem dL_law_11 : decode cL_law 11 = .ok (.dup, 1) := by decide +kernel
theorem dL_law_12 : decode cL_law 12 = .ok (.invokespecial 88, 3) := by decide +kernel
theorem dL_law_15 : decode cL_law 15 = .ok (.astore_n 2, 1) := by decide +kernel
theorem dL_law_16 : decode cL_law 16 = .ok (.iconst 1, 1) := by decide +kernel
theorem dL_law_17 : decode cL_law 17 = .ok (.newarray .long, 2) := by decide +kernel
theorem dL_law_19 : decode cL_law 19 = .ok (.astore_n 3, 1) := by decide +kernel
theorem dL_law_20 : decode cL_law 20 = .ok (.iconst 0, 1) := by decide +kernel
theorem dL_law_21 : decode cL_law 21 = .ok (.istore 4, 2) := by decide +kernel
theorem dL_law_23 : decode cL_law 23 = .ok (.iload 4, 2) := by decide +kernel
theorem dL_law_25 : decode cL_law 25 = .ok (.aload_n 0, 1) := by decide +kernel
theorem dL_law_26 : decode cL_law 26 = .ok (.arraylength, 1) := by decide +kernel
theorem dL_law_27 : decode cL_law 27 = .ok (.iconst 4, 1) := by decide +kernel
theorem dL_law_28 : decode cL_law 28 = .ok (.isub, 1) := by decide +kernel
theorem dL_law_29 : decode cL_law 29 = .ok (.if_icmp .gt 1575, 3) := by decide +kernel
theorem dL_law_32 : decode cL_law 32 = .ok (.aload_n 0, 1) := by decide +kernel
theorem dL_law_33 : decode cL_law 33 = .ok (.iload 4, 2) := by decide +kernel
theorem dL_law_35 : decode cL_law 35 = .ok (.iaload, 1) := by decide +kernel
theorem dL_law_36 : decode cL_law 36 = .ok (.bipush 31, 2) := by decide +kernel
theorem dL_law_38 : decode cL_law 38 = .ok (.iand, 1) := by decide +kernel
theorem dL_law_39 : decode cL_law 39 = .ok (.tableswitch 1559 0 28 #[129, 185, 198, 254, 310, 378, 458, 526, 582, 626, 682, 738, 751, 764, 808, 821, 865, 909, 977, 1045, 1113, 1169, 1225, 1281, 1337, 1405, 1461, 1502, 1545], 129) := by decide +kernel
theorem dL_law_168 : decode cL_law 168 = .ok (.aload_n 1, 1) := by decide +kernel
theorem dL_law_169 : decode cL_law 169 = .ok (.aload_n 0, 1) := by decide +kernel
theorem dL_law_170 : decode cL_law 170 = .ok (.iload 4, 2) := by decide +kernel
theorem dL_law_172 : decode cL_law 172 = .ok (.iconst 1, 1) := by decide +kernel
theorem dL_law_173 : decode cL_law 173 = .ok (.iadd, 1) := by decide +kernel
theorem dL_law_174 : decode cL_law 174 = .ok (.iaload, 1) := by decide +kernel
theorem dL_law_175 : decode cL_law 175 = .ok (.aload_n 3, 1) := by decide +kernel
theorem dL_law_176 : decode cL_law 176 = .ok (.invokestatic 89, 3) := by decide +kernel
theorem dL_law_179 : decode cL_law 179 = .ok (.istore 5, 2) := by decide +kernel
theorem dL_law_181 : decode cL_law 181 = .ok (.aload_n 2, 1) := by decide +kernel
theorem dL_law_182 : decode cL_law 182 = .ok (.aload_n 0, 1) := by decide +kernel
theorem dL_law_183 : decode cL_law 183 = .ok (.iload 4, 2) := by decide +kernel
theorem dL_law_185 : decode cL_law 185 = .ok (.iconst 1, 1) := by decide +kernel
theorem dL_law_186 : decode cL_law 186 = .ok (.iadd, 1) := by decide +kernel
theorem dL_law_187 : decode cL_law 187 = .ok (.iaload, 1) := by decide +kernel
theorem dL_law_188 : decode cL_law 188 = .ok (.invokevirtual 94, 3) := by decide +kernel
theorem dL_law_191 : decode cL_law 191 = .ok (.istore 6, 2) := by decide +kernel
theorem dL_law_193 : decode cL_law 193 = .ok (.aload_n 2, 1) := by decide +kernel
theorem dL_law_194 : decode cL_law 194 = .ok (.invokevirtual 95, 3) := by decide +kernel
theorem dL_law_197 : decode cL_law 197 = .ok (.iload 5, 2) := by decide +kernel
theorem dL_law_199 : decode cL_law 199 = .ok (.if_icmp .eq 5, 3) := by decide +kernel
theorem dL_law_202 : decode cL_law 202 = .ok (.iconst 0, 1) := by decide +kernel
theorem dL_law_203 : decode cL_law 203 = .ok (.ireturn, 1) := by decide +kernel
theorem dL_law_204 : decode cL_law 204 = .ok (.iload 5, 2) := by decide +kernel
theorem dL_law_206 : decode cL_law 206 = .ok (.ifCond .ne 15, 3) := by decide +kernel
theorem dL_law_209 : decode cL_law 209 = .ok (.aload_n 3, 1) := by decide +kernel
theorem dL_law_210 : decode cL_law 210 = .ok (.iconst 0, 1) := by decide +kernel
theorem dL_law_211 : decode cL_law 211 = .ok (.laload, 1) := by decide +kernel
theorem dL_law_212 : decode cL_law 212 = .ok (.iload 6, 2) := by decide +kernel
theorem dL_law_214 : decode cL_law 214 = .ok (.i2l, 1) := by decide +kernel
theorem dL_law_215 : decode cL_law 215 = .ok (.lcmp, 1) := by decide +kernel
theorem dL_law_216 : decode cL_law 216 = .ok (.ifCond .eq 5, 3) := by decide +kernel
theorem dL_law_219 : decode cL_law 219 = .ok (.iconst 0, 1) := by decide +kernel
theorem dL_law_220 : decode cL_law 220 = .ok (.ireturn, 1) := by decide +kernel
theorem dL_law_221 : decode cL_law 221 = .ok (.goto 1377, 3) := by decide +kernel
theorem dL_law_224 : decode cL_law 224 = .ok (.aload_n 1, 1) := by decide +kernel
theorem dL_law_225 : decode cL_law 225 = .ok (.invokevirtual 98, 3) := by decide +kernel
theorem dL_law_228 : decode cL_law 228 = .ok (.aload_n 2, 1) := by decide +kernel
theorem dL_law_229 : decode cL_law 229 = .ok (.invokevirtual 101, 3) := by decide +kernel
theorem dL_law_232 : decode cL_law 232 = .ok (.if_icmp .eq 1366, 3) := by decide +kernel
theorem dL_law_235 : decode cL_law 235 = .ok (.iconst 0, 1) := by decide +kernel
theorem dL_law_236 : decode cL_law 236 = .ok (.ireturn, 1) := by decide +kernel
theorem dL_law_237 : decode cL_law 237 = .ok (.aload_n 1, 1) := by decide +kernel
theorem dL_law_238 : decode cL_law 238 = .ok (.aload_n 0, 1) := by decide +kernel
theorem dL_law_239 : decode cL_law 239 = .ok (.iload 4, 2) := by decide +kernel
theorem dL_law_241 : decode cL_law 241 = .ok (.iconst 1, 1) := by decide +kernel
theorem dL_law_242 : decode cL_law 242 = .ok (.iadd, 1) := by decide +kernel
theorem dL_law_243 : decode cL_law 243 = .ok (.iaload, 1) := by decide +kernel
theorem dL_law_244 : decode cL_law 244 = .ok (.aload_n 3, 1) := by decide +kernel
theorem dL_law_245 : decode cL_law 245 = .ok (.invokestatic 102, 3) := by decide +kernel
theorem dL_law_248 : decode cL_law 248 = .ok (.istore 5, 2) := by decide +kernel
theorem dL_law_250 : decode cL_law 250 = .ok (.aload_n 2, 1) := by decide +kernel
theorem dL_law_251 : decode cL_law 251 = .ok (.aload_n 0, 1) := by decide +kernel
theorem dL_law_252 : decode cL_law 252 = .ok (.iload 4, 2) := by decide +kernel
theorem dL_law_254 : decode cL_law 254 = .ok (.iconst 1, 1) := by decide +kernel
theorem dL_law_255 : decode cL_law 255 = .ok (.iadd, 1) := by decide +kernel
theorem dL_law_256 : decode cL_law 256 = .ok (.iaload, 1) := by decide +kernel
theorem dL_law_257 : decode cL_law 257 = .ok (.invokevirtual 104, 3) := by decide +kernel
theorem dL_law_260 : decode cL_law 260 = .ok (.istore 6, 2) := by decide +kernel
theorem dL_law_262 : decode cL_law 262 = .ok (.aload_n 2, 1) := by decide +kernel
theorem dL_law_263 : decode cL_law 263 = .ok (.invokevirtual 95, 3) := by decide +kernel
theorem dL_law_266 : decode cL_law 266 = .ok (.iload 5, 2) := by decide +kernel
theorem dL_law_268 : decode cL_law 268 = .ok (.if_icmp .eq 5, 3) := by decide +kernel
theorem dL_law_271 : decode cL_law 271 = .ok (.iconst 0, 1) := by decide +kernel
theorem dL_law_272 : decode cL_law 272 = .ok (.ireturn, 1) := by decide +kernel
theorem dL_law_273 : decode cL_law 273 = .ok (.iload 5, 2) := by decide +kernel
theorem dL_law_275 : decode cL_law 275 = .ok (.ifCond .ne 15, 3) := by decide +kernel
theorem dL_law_278 : decode cL_law 278 = .ok (.aload_n 3, 1) := by decide +kernel
theorem dL_law_279 : decode cL_law 279 = .ok (.iconst 0, 1) := by decide +kernel
theorem dL_law_280 : decode cL_law 280 = .ok (.laload, 1) := by decide +kernel
theorem dL_law_281 : decode cL_law 281 = .ok (.iload 6, 2) := by decide +kernel
theorem dL_law_283 : decode cL_law 283 = .ok (.i2l, 1) := by decide +kernel
theorem dL_law_284 : decode cL_law 284 = .ok (.lcmp, 1) := by decide +kernel
theorem dL_law_285 : decode cL_law 285 = .ok (.ifCond .eq 5, 3) := by decide +kernel
theorem dL_law_288 : decode cL_law 288 = .ok (.iconst 0, 1) := by decide +kernel
theorem dL_law_289 : decode cL_law 289 = .ok (.ireturn, 1) := by decide +kernel
theorem dL_law_290 : decode cL_law 290 = .ok (.goto 1308, 3) := by decide +kernel
theorem dL_law_293 : decode cL_law 293 = .ok (.aload_n 1, 1) := by decide +kernel
theorem dL_law_294 : decode cL_law 294 = .ok (.aload_n 0, 1) := by decide +kernel
theorem dL_law_295 : decode cL_law 295 = .ok (.iload 4, 2) := by decide +kernel
theorem dL_law_297 : decode cL_law 297 = .ok (.iconst 1, 1) := by decide +kernel
theorem dL_law_298 : decode cL_law 298 = .ok (.iadd, 1) := by decide +kernel
theorem dL_law_299 : decode cL_law 299 = .ok (.iaload, 1) := by decide +kernel
theorem dL_law_300 : decode cL_law 300 = .ok (.aload_n 3, 1) := by decide +kernel
theorem dL_law_301 : decode cL_law 301 = .ok (.invokestatic 105, 3) := by decide +kernel
theorem dL_law_304 : decode cL_law 304 = .ok (.istore 5, 2) := by decide +kernel
theorem dL_law_306 : decode cL_law 306 = .ok (.aload_n 2, 1) := by decide +kernel
theorem dL_law_307 : decode cL_law 307 = .ok (.aload_n 0, 1) := by decide +kernel
theorem dL_law_308 : decode cL_law 308 = .ok (.iload 4, 2) := by decide +kernel
theorem dL_law_310 : decode cL_law 310 = .ok (.iconst 1, 1) := by decide +kernel
theorem dL_law_311 : decode cL_law 311 = .ok (.iadd, 1) := by decide +kernel
theorem dL_law_312 : decode cL_law 312 = .ok (.iaload, 1) := by decide +kernel
theorem dL_law_313 : decode cL_law 313 = .ok (.invokevirtual 107, 3) := by decide +kernel
theorem dL_law_316 : decode cL_law 316 = .ok (.istore 6, 2) := by decide +kernel
theorem dL_law_318 : decode cL_law 318 = .ok (.aload_n 2, 1) := by decide +kernel
theorem dL_law_319 : decode cL_law 319 = .ok (.invokevirtual 95, 3) := by decide +kernel
theorem dL_law_322 : decode cL_law 322 = .ok (.iload 5, 2) := by decide +kernel
theorem dL_law_324 : decode cL_law 324 = .ok (.if_icmp .eq 5, 3) := by decide +kernel
theorem dL_law_327 : decode cL_law 327 = .ok (.iconst 0, 1) := by decide +kernel
theorem dL_law_328 : decode cL_law 328 = .ok (.ireturn, 1) := by decide +kernel
theorem dL_law_329 : decode cL_law 329 = .ok (.iload 5, 2) := by decide +kernel
theorem dL_law_331 : decode cL_law 331 = .ok (.ifCond .ne 15, 3) := by decide +kernel
theorem dL_law_334 : decode cL_law 334 = .ok (.aload_n 3, 1) := by decide +kernel
theorem dL_law_335 : decode cL_law 335 = .ok (.iconst 0, 1) := by decide +kernel
theorem dL_law_336 : decode cL_law 336 = .ok (.laload, 1) := by decide +kernel
theorem dL_law_337 : decode cL_law 337 = .ok (.iload 6, 2) := by decide +kernel
theorem dL_law_339 : decode cL_law 339 = .ok (.i2l, 1) := by decide +kernel
theorem dL_law_340 : decode cL_law 340 = .ok (.lcmp, 1) := by decide +kernel
theorem dL_law_341 : decode cL_law 341 = .ok (.ifCond .eq 5, 3) := by decide +kernel
theorem dL_law_344 : decode cL_law 344 = .ok (.iconst 0, 1) := by decide +kernel
theorem dL_law_345 : decode cL_law 345 = .ok (.ireturn, 1) := by decide +kernel
theorem dL_law_346 : decode cL_law 346 = .ok (.goto 1252, 3) := by decide +kernel
theorem dL_law_349 : decode cL_law 349 = .ok (.aload_n 1, 1) := by decide +kernel
theorem dL_law_350 : decode cL_law 350 = .ok (.aload_n 0, 1) := by decide +kernel
theorem dL_law_351 : decode cL_law 351 = .ok (.iload 4, 2) := by decide +kernel
theorem dL_law_353 : decode cL_law 353 = .ok (.iconst 1, 1) := by decide +kernel
theorem dL_law_354 : decode cL_law 354 = .ok (.iadd, 1) := by decide +kernel
theorem dL_law_355 : decode cL_law 355 = .ok (.iaload, 1) := by decide +kernel
theorem dL_law_356 : decode cL_law 356 = .ok (.aload_n 0, 1) := by decide +kernel
theorem dL_law_357 : decode cL_law 357 = .ok (.iload 4, 2) := by decide +kernel
theorem dL_law_359 : decode cL_law 359 = .ok (.iconst 2, 1) := by decide +kernel
theorem dL_law_360 : decode cL_law 360 = .ok (.iadd, 1) := by decide +kernel
theorem dL_law_361 : decode cL_law 361 = .ok (.iaload, 1) := by decide +kernel
theorem dL_law_362 : decode cL_law 362 = .ok (.aload_n 3, 1) := by decide +kernel
theorem dL_law_363 : decode cL_law 363 = .ok (.invokestatic 108, 3) := by decide +kernel
theorem dL_law_366 : decode cL_law 366 = .ok (.istore 5, 2) := by decide +kernel
theorem dL_law_368 : decode cL_law 368 = .ok (.aload_n 2, 1) := by decide +kernel
theorem dL_law_369 : decode cL_law 369 = .ok (.aload_n 0, 1) := by decide +kernel
theorem dL_law_370 : decode cL_law 370 = .ok (.iload 4, 2) := by decide +kernel
theorem dL_law_372 : decode cL_law 372 = .ok (.iconst 1, 1) := by decide +kernel
theorem dL_law_373 : decode cL_law 373 = .ok (.iadd, 1) := by decide +kernel
theorem dL_law_374 : decode cL_law 374 = .ok (.iaload, 1) := by decide +kernel
theorem dL_law_375 : decode cL_law 375 = .ok (.aload_n 0, 1) := by decide +kernel
theorem dL_law_376 : decode cL_law 376 = .ok (.iload 4, 2) := by decide +kernel
theorem dL_law_378 : decode cL_law 378 = .ok (.iconst 2, 1) := by decide +kernel
theorem dL_law_379 : decode cL_law 379 = .ok (.iadd, 1) := by decide +kernel
theorem dL_law_380 : decode cL_law 380 = .ok (.iaload, 1) := by decide +kernel
theorem dL_law_381 : decode cL_law 381 = .ok (.invokevirtual 111, 3) := by decide +kernel
theorem dL_law_384 : decode cL_law 384 = .ok (.istore 6, 2) := by decide +kernel
theorem dL_law_386 : decode cL_law 386 = .ok (.aload_n 2, 1) := by decide +kernel
theorem dL_law_387 : decode cL_law 387 = .ok (.invokevirtual 95, 3) := by decide +kernel
theorem dL_law_390 : decode cL_law 390 = .ok (.iload 5, 2) := by decide +kernel
theorem dL_law_392 : decode cL_law 392 = .ok (.if_icmp .eq 5, 3) := by decide +kernel
theorem dL_law_395 : decode cL_law 395 = .ok (.iconst 0, 1) := by decide +kernel
theorem dL_law_396 : decode cL_law 396 = .ok (.ireturn, 1) := by decide +kernel
theorem dL_law_397 : decode cL_law 397 = .ok (.iload 5, 2) := by decide +kernel
theorem dL_law_399 : decode cL_law 399 = .ok (.ifCond .ne 15, 3) := by decide +kernel
theorem dL_law_402 : decode cL_law 402 = .ok (.aload_n 3, 1) := by decide +kernel
theorem dL_law_403 : decode cL_law 403 = .ok (.iconst 0, 1) := by decide +kernel
theorem dL_law_404 : decode cL_law 404 = .ok (.laload, 1) := by decide +kernel
theorem dL_law_405 : decode cL_law 405 = .ok (.iload 6, 2) := by decide +kernel
theorem dL_law_407 : decode cL_law 407 = .ok (.i2l, 1) := by decide +kernel
theorem dL_law_408 : decode cL_law 408 = .ok (.lcmp, 1) := by decide +kernel
theorem dL_law_409 : decode cL_law 409 = .ok (.ifCond .eq 5, 3) := by decide +kernel
theorem dL_law_412 : decode cL_law 412 = .ok (.iconst 0, 1) := by decide +kernel
theorem dL_law_413 : decode cL_law 413 = .ok (.ireturn, 1) := by decide +kernel
theorem dL_law_414 : decode cL_law 414 = .ok (.goto 1184, 3) := by decide +kernel
theorem dL_law_417 : decode cL_law 417 = .ok (.aload_n 1, 1) := by decide +kernel
theorem dL_law_418 : decode cL_law 418 = .ok (.aload_n 0, 1) := by decide +kernel
theorem dL_law_419 : decode cL_law 419 = .ok (.iload 4, 2) := by decide +kernel
theorem dL_law_421 : decode cL_law 421 = .ok (.iconst 1, 1) := by decide +kernel
theorem dL_law_422 : decode cL_law 422 = .ok (.iadd, 1) := by decide +kernel
theorem dL_law_423 : decode cL_law 423 = .ok (.iaload, 1) := by decide +kernel
theorem dL_law_424 : decode cL_law 424 = .ok (.aload_n 0, 1) := by decide +kernel
theorem dL_law_425 : decode cL_law 425 = .ok (.iload 4, 2) := by decide +kernel
theorem dL_law_427 : decode cL_law 427 = .ok (.iconst 2, 1) := by decide +kernel
theorem dL_law_428 : decode cL_law 428 = .ok (.iadd, 1) := by decide +kernel
theorem dL_law_429 : decode cL_law 429 = .ok (.iaload, 1) := by decide +kernel
theorem dL_law_430 : decode cL_law 430 = .ok (.aload_n 0, 1) := by decide +kernel
theorem dL_law_431 : decode cL_law 431 = .ok (.iload 4, 2) := by decide +kernel
theorem dL_law_433 : decode cL_law 433 = .ok (.iconst 3, 1) := by decide +kernel
theorem dL_law_434 : decode cL_law 434 = .ok (.iadd, 1) := by decide +kernel
theorem dL_law_435 : decode cL_law 435 = .ok (.iaload, 1) := by decide +kernel
theorem dL_law_436 : decode cL_law 436 = .ok (.aload_n 3, 1) := by decide +kernel
theorem dL_law_437 : decode cL_law 437 = .ok (.invokestatic 112, 3) := by decide +kernel
theorem dL_law_440 : decode cL_law 440 = .ok (.istore 5, 2) := by decide +kernel
theorem dL_law_442 : decode cL_law 442 = .ok (.aload_n 2, 1) := by decide +kernel
theorem dL_law_443 : decode cL_law 443 = .ok (.aload_n 0, 1) := by decide +kernel
theorem dL_law_444 : decode cL_law 444 = .ok (.iload 4, 2) := by decide +kernel
theorem dL_law_446 : decode cL_law 446 = .ok (.iconst 1, 1) := by decide +kernel
theorem dL_law_447 : decode cL_law 447 = .ok (.iadd, 1) := by decide +kernel
theorem dL_law_448 : decode cL_law 448 = .ok (.iaload, 1) := by decide +kernel
theorem dL_law_449 : decode cL_law 449 = .ok (.aload_n 0, 1) := by decide +kernel
theorem dL_law_450 : decode cL_law 450 = .ok (.iload 4, 2) := by decide +kernel
theorem dL_law_452 : decode cL_law 452 = .ok (.iconst 2, 1) := by decide +kernel
theorem dL_law_453 : decode cL_law 453 = .ok (.iadd, 1) := by decide +kernel
theorem dL_law_454 : decode cL_law 454 = .ok (.iaload, 1) := by decide +kernel
theorem dL_law_455 : decode cL_law 455 = .ok (.aload_n 0, 1) := by decide +kernel
theorem dL_law_456 : decode cL_law 456 = .ok (.iload 4, 2) := by decide +kernel
theorem dL_law_458 : decode cL_law 458 = .ok (.iconst 3, 1) := by decide +kernel
theorem dL_law_459 : decode cL_law 459 = .ok (.iadd, 1) := by decide +kernel
theorem dL_law_460 : decode cL_law 460 = .ok (.iaload, 1) := by decide +kernel
theorem dL_law_461 : decode cL_law 461 = .ok (.invokevirtual 115, 3) := by decide +kernel
theorem dL_law_464 : decode cL_law 464 = .ok (.istore 6, 2) := by decide +kernel
theorem dL_law_466 : decode cL_law 466 = .ok (.aload_n 2, 1) := by decide +kernel
theorem dL_law_467 : decode cL_law 467 = .ok (.invokevirtual 95, 3) := by decide +kernel
theorem dL_law_470 : decode cL_law 470 = .ok (.iload 5, 2) := by decide +kernel
theorem dL_law_472 : decode cL_law 472 = .ok (.if_icmp .eq 5, 3) := by decide +kernel
theorem dL_law_475 : decode cL_law 475 = .ok (.iconst 0, 1) := by decide +kernel
theorem dL_law_476 : decode cL_law 476 = .ok (.ireturn, 1) := by decide +kernel
theorem dL_law_477 : decode cL_law 477 = .ok (.iload 5, 2) := by decide +kernel
theorem dL_law_479 : decode cL_law 479 = .ok (.ifCond .ne 15, 3) := by decide +kernel
theorem dL_law_482 : decode cL_law 482 = .ok (.aload_n 3, 1) := by decide +kernel
theorem dL_law_483 : decode cL_law 483 = .ok (.iconst 0, 1) := by decide +kernel
theorem dL_law_484 : decode cL_law 484 = .ok (.laload, 1) := by decide +kernel
theorem dL_law_485 : decode cL_law 485 = .ok (.iload 6, 2) := by decide +kernel
theorem dL_law_487 : decode cL_law 487 = .ok (.i2l, 1) := by decide +kernel
theorem dL_law_488 : decode cL_law 488 = .ok (.lcmp, 1) := by decide +kernel
theorem dL_law_489 : decode cL_law 489 = .ok (.ifCond .eq 5, 3) := by decide +kernel
theorem dL_law_492 : decode cL_law 492 = .ok (.iconst 0, 1) := by decide +kernel
theorem dL_law_493 : decode cL_law 493 = .ok (.ireturn, 1) := by decide +kernel
theorem dL_law_494 : decode cL_law 494 = .ok (.goto 1104, 3) := by decide +kernel
theorem dL_law_497 : decode cL_law 497 = .ok (.aload_n 1, 1) := by decide +kernel
theorem dL_law_498 : decode cL_law 498 = .ok (.aload_n 0, 1) := by decide +kernel
theorem dL_law_499 : decode cL_law 499 = .ok (.iload 4, 2) := by decide +kernel
theorem dL_law_501 : decode cL_law 501 = .ok (.iconst 1, 1) := by decide +kernel
theorem dL_law_502 : decode cL_law 502 = .ok (.iadd, 1) := by decide +kernel
theorem dL_law_503 : decode cL_law 503 = .ok (.iaload, 1) := by decide +kernel
theorem dL_law_504 : decode cL_law 504 = .ok (.aload_n 0, 1) := by decide +kernel
theorem dL_law_505 : decode cL_law 505 = .ok (.iload 4, 2) := by decide +kernel
theorem dL_law_507 : decode cL_law 507 = .ok (.iconst 2, 1) := by decide +kernel
theorem dL_law_508 : decode cL_law 508 = .ok (.iadd, 1) := by decide +kernel
theorem dL_law_509 : decode cL_law 509 = .ok (.iaload, 1) := by decide +kernel
theorem dL_law_510 : decode cL_law 510 = .ok (.aload_n 3, 1) := by decide +kernel
theorem dL_law_511 : decode cL_law 511 = .ok (.invokestatic 116, 3) := by decide +kernel
theorem dL_law_514 : decode cL_law 514 = .ok (.istore 5, 2) := by decide +kernel
theorem dL_law_516 : decode cL_law 516 = .ok (.aload_n 2, 1) := by decide +kernel
theorem dL_law_517 : decode cL_law 517 = .ok (.aload_n 0, 1) := by decide +kernel
theorem dL_law_518 : decode cL_law 518 = .ok (.iload 4, 2) := by decide +kernel
theorem dL_law_520 : decode cL_law 520 = .ok (.iconst 1, 1) := by decide +kernel
theorem dL_law_521 : decode cL_law 521 = .ok (.iadd, 1) := by decide +kernel
theorem dL_law_522 : decode cL_law 522 = .ok (.iaload, 1) := by decide +kernel
theorem dL_law_523 : decode cL_law 523 = .ok (.aload_n 0, 1) := by decide +kernel
theorem dL_law_524 : decode cL_law 524 = .ok (.iload 4, 2) := by decide +kernel
theorem dL_law_526 : decode cL_law 526 = .ok (.iconst 2, 1) := by decide +kernel
theorem dL_law_527 : decode cL_law 527 = .ok (.iadd, 1) := by decide +kernel
theorem dL_law_528 : decode cL_law 528 = .ok (.iaload, 1) := by decide +kernel
theorem dL_law_529 : decode cL_law 529 = .ok (.invokevirtual 118, 3) := by decide +kernel
theorem dL_law_532 : decode cL_law 532 = .ok (.istore 6, 2) := by decide +kernel
theorem dL_law_534 : decode cL_law 534 = .ok (.aload_n 2, 1) := by decide +kernel
theorem dL_law_535 : decode cL_law 535 = .ok (.invokevirtual 95, 3) := by decide +kernel
theorem dL_law_538 : decode cL_law 538 = .ok (.iload 5, 2) := by decide +kernel
theorem dL_law_540 : decode cL_law 540 = .ok (.if_icmp .eq 5, 3) := by decide +kernel
theorem dL_law_543 : decode cL_law 543 = .ok (.iconst 0, 1) := by decide +kernel
theorem dL_law_544 : decode cL_law 544 = .ok (.ireturn, 1) := by decide +kernel
theorem dL_law_545 : decode cL_law 545 = .ok (.iload 5, 2) := by decide +kernel
theorem dL_law_547 : decode cL_law 547 = .ok (.ifCond .ne 15, 3) := by decide +kernel
theorem dL_law_550 : decode cL_law 550 = .ok (.aload_n 3, 1) := by decide +kernel
theorem dL_law_551 : decode cL_law 551 = .ok (.iconst 0, 1) := by decide +kernel
theorem dL_law_552 : decode cL_law 552 = .ok (.laload, 1) := by decide +kernel
theorem dL_law_553 : decode cL_law 553 = .ok (.iload 6, 2) := by decide +kernel
theorem dL_law_555 : decode cL_law 555 = .ok (.i2l, 1) := by decide +kernel
theorem dL_law_556 : decode cL_law 556 = .ok (.lcmp, 1) := by decide +kernel
theorem dL_law_557 : decode cL_law 557 = .ok (.ifCond .eq 5, 3) := by decide +kernel
theorem dL_law_560 : decode cL_law 560 = .ok (.iconst 0, 1) := by decide +kernel
theorem dL_law_561 : decode cL_law 561 = .ok (.ireturn, 1) := by decide +kernel
theorem dL_law_562 : decode cL_law 562 = .ok (.goto 1036, 3) := by decide +kernel
theorem dL_law_565 : decode cL_law 565 = .ok (.aload_n 1, 1) := by decide +kernel
theorem dL_law_566 : decode cL_law 566 = .ok (.aload_n 0, 1) := by decide +kernel
theorem dL_law_567 : decode cL_law 567 = .ok (.iload 4, 2) := by decide +kernel
theorem dL_law_569 : decode cL_law 569 = .ok (.iconst 1, 1) := by decide +kernel
theorem dL_law_570 : decode cL_law 570 = .ok (.iadd, 1) := by decide +kernel
theorem dL_law_571 : decode cL_law 571 = .ok (.iaload, 1) := by decide +kernel
theorem dL_law_572 : decode cL_law 572 = .ok (.aload_n 3, 1) := by decide +kernel
theorem dL_law_573 : decode cL_law 573 = .ok (.invokestatic 119, 3) := by decide +kernel
theorem dL_law_576 : decode cL_law 576 = .ok (.istore 5, 2) := by decide +kernel
theorem dL_law_578 : decode cL_law 578 = .ok (.aload_n 2, 1) := by decide +kernel
theorem dL_law_579 : decode cL_law 579 = .ok (.aload_n 0, 1) := by decide +kernel
theorem dL_law_580 : decode cL_law 580 = .ok (.iload 4, 2) := by decide +kernel
theorem dL_law_582 : decode cL_law 582 = .ok (.iconst 1, 1) := by decide +kernel
theorem dL_law_583 : decode cL_law 583 = .ok (.iadd, 1) := by decide +kernel
theorem dL_law_584 : decode cL_law 584 = .ok (.iaload, 1) := by decide +kernel
theorem dL_law_585 : decode cL_law 585 = .ok (.invokevirtual 121, 3) := by decide +kernel
theorem dL_law_588 : decode cL_law 588 = .ok (.istore 6, 2) := by decide +kernel
theorem dL_law_590 : decode cL_law 590 = .ok (.aload_n 2, 1) := by decide +kernel
theorem dL_law_591 : decode cL_law 591 = .ok (.invokevirtual 95, 3) := by decide +kernel
theorem dL_law_594 : decode cL_law 594 = .ok (.iload 5, 2) := by decide +kernel
theorem dL_law_596 : decode cL_law 596 = .ok (.if_icmp .eq 5, 3) := by decide +kernel
theorem dL_law_599 : decode cL_law 599 = .ok (.iconst 0, 1) := by decide +kernel
theorem dL_law_600 : decode cL_law 600 = .ok (.ireturn, 1) := by decide +kernel
theorem dL_law_601 : decode cL_law 601 = .ok (.iload 5, 2) := by decide +kernel
theorem dL_law_603 : decode cL_law 603 = .ok (.ifCond .ne 15, 3) := by decide +kernel
theorem dL_law_606 : decode cL_law 606 = .ok (.aload_n 3, 1) := by decide +kernel
theorem dL_law_607 : decode cL_law 607 = .ok (.iconst 0, 1) := by decide +kernel
theorem dL_law_608 : decode cL_law 608 = .ok (.laload, 1) := by decide +kernel
theorem dL_law_609 : decode cL_law 609 = .ok (.iload 6, 2) := by decide +kernel
theorem dL_law_611 : decode cL_law 611 = .ok (.i2l, 1) := by decide +kernel
theorem dL_law_612 : decode cL_law 612 = .ok (.lcmp, 1) := by decide +kernel
theorem dL_law_613 : decode cL_law 613 = .ok (.ifCond .eq 5, 3) := by decide +kernel
theorem dL_law_616 : decode cL_law 616 = .ok (.iconst 0, 1) := by decide +kernel
theorem dL_law_617 : decode cL_law 617 = .ok (.ireturn, 1) := by decide +kernel
theorem dL_law_618 : decode cL_law 618 = .ok (.goto 980, 3) := by decide +kernel
theorem dL_law_621 : decode cL_law 621 = .ok (.aload_n 1, 1) := by decide +kernel
theorem dL_law_622 : decode cL_law 622 = .ok (.aload_n 3, 1) := by decide +kernel
theorem dL_law_623 : decode cL_law 623 = .ok (.invokestatic 122, 3) := by decide +kernel
theorem dL_law_626 : decode cL_law 626 = .ok (.istore 5, 2) := by decide +kernel
theorem dL_law_628 : decode cL_law 628 = .ok (.aload_n 2, 1) := by decide +kernel
theorem dL_law_629 : decode cL_law 629 = .ok (.invokevirtual 125, 3) := by decide +kernel
theorem dL_law_632 : decode cL_law 632 = .ok (.istore 6, 2) := by decide +kernel
theorem dL_law_634 : decode cL_law 634 = .ok (.aload_n 2, 1) := by decide +kernel
theorem dL_law_635 : decode cL_law 635 = .ok (.invokevirtual 95, 3) := by decide +kernel
theorem dL_law_638 : decode cL_law 638 = .ok (.iload 5, 2) := by decide +kernel
theorem dL_law_640 : decode cL_law 640 = .ok (.if_icmp .eq 5, 3) := by decide +kernel
theorem dL_law_643 : decode cL_law 643 = .ok (.iconst 0, 1) := by decide +kernel
theorem dL_law_644 : decode cL_law 644 = .ok (.ireturn, 1) := by decide +kernel
theorem dL_law_645 : decode cL_law 645 = .ok (.iload 5, 2) := by decide +kernel
theorem dL_law_647 : decode cL_law 647 = .ok (.ifCond .ne 15, 3) := by decide +kernel
theorem dL_law_650 : decode cL_law 650 = .ok (.aload_n 3, 1) := by decide +kernel
theorem dL_law_651 : decode cL_law 651 = .ok (.iconst 0, 1) := by decide +kernel
theorem dL_law_652 : decode cL_law 652 = .ok (.laload, 1) := by decide +kernel
theorem dL_law_653 : decode cL_law 653 = .ok (.iload 6, 2) := by decide +kernel
theorem dL_law_655 : decode cL_law 655 = .ok (.i2l, 1) := by decide +kernel
theorem dL_law_656 : decode cL_law 656 = .ok (.lcmp, 1) := by decide +kernel
theorem dL_law_657 : decode cL_law 657 = .ok (.ifCond .eq 5, 3) := by decide +kernel
theorem dL_law_660 : decode cL_law 660 = .ok (.iconst 0, 1) := by decide +kernel
theorem dL_law_661 : decode cL_law 661 = .ok (.ireturn, 1) := by decide +kernel
theorem dL_law_662 : decode cL_law 662 = .ok (.goto 936, 3) := by decide +kernel
theorem dL_law_665 : decode cL_law 665 = .ok (.aload_n 1, 1) := by decide +kernel
theorem dL_law_666 : decode cL_law 666 = .ok (.aload_n 0, 1) := by decide +kernel
theorem dL_law_667 : decode cL_law 667 = .ok (.iload 4, 2) := by decide +kernel
theorem dL_law_669 : decode cL_law 669 = .ok (.iconst 1, 1) := by decide +kernel
theorem dL_law_670 : decode cL_law 670 = .ok (.iadd, 1) := by decide +kernel
theorem dL_law_671 : decode cL_law 671 = .ok (.iaload, 1) := by decide +kernel
theorem dL_law_672 : decode cL_law 672 = .ok (.aload_n 3, 1) := by decide +kernel
theorem dL_law_673 : decode cL_law 673 = .ok (.invokestatic 126, 3) := by decide +kernel
theorem dL_law_676 : decode cL_law 676 = .ok (.istore 5, 2) := by decide +kernel
theorem dL_law_678 : decode cL_law 678 = .ok (.aload_n 2, 1) := by decide +kernel
theorem dL_law_679 : decode cL_law 679 = .ok (.aload_n 0, 1) := by decide +kernel
theorem dL_law_680 : decode cL_law 680 = .ok (.iload 4, 2) := by decide +kernel
theorem dL_law_682 : decode cL_law 682 = .ok (.iconst 1, 1) := by decide +kernel
theorem dL_law_683 : decode cL_law 683 = .ok (.iadd, 1) := by decide +kernel
theorem dL_law_684 : decode cL_law 684 = .ok (.iaload, 1) := by decide +kernel
theorem dL_law_685 : decode cL_law 685 = .ok (.invokevirtual 128, 3) := by decide +kernel
theorem dL_law_688 : decode cL_law 688 = .ok (.istore 6, 2) := by decide +kernel
theorem dL_law_690 : decode cL_law 690 = .ok (.aload_n 2, 1) := by decide +kernel
theorem dL_law_691 : decode cL_law 691 = .ok (.invokevirtual 95, 3) := by decide +kernel
theorem dL_law_694 : decode cL_law 694 = .ok (.iload 5, 2) := by decide +kernel
theorem dL_law_696 : decode cL_law 696 = .ok (.if_icmp .eq 5, 3) := by decide +kernel
theorem dL_law_699 : decode cL_law 699 = .ok (.iconst 0, 1) := by decide +kernel
theorem dL_law_700 : decode cL_law 700 = .ok (.ireturn, 1) := by decide +kernel
theorem dL_law_701 : decode cL_law 701 = .ok (.iload 5, 2) := by decide +kernel
theorem dL_law_703 : decode cL_law 703 = .ok (.ifCond .ne 15, 3) := by decide +kernel
theorem dL_law_706 : decode cL_law 706 = .ok (.aload_n 3, 1) := by decide +kernel
theorem dL_law_707 : decode cL_law 707 = .ok (.iconst 0, 1) := by decide +kernel
theorem dL_law_708 : decode cL_law 708 = .ok (.laload, 1) := by decide +kernel
theorem dL_law_709 : decode cL_law 709 = .ok (.iload 6, 2) := by decide +kernel
theorem dL_law_711 : decode cL_law 711 = .ok (.i2l, 1) := by decide +kernel
theorem dL_law_712 : decode cL_law 712 = .ok (.lcmp, 1) := by decide +kernel
theorem dL_law_713 : decode cL_law 713 = .ok (.ifCond .eq 5, 3) := by decide +kernel
theorem dL_law_716 : decode cL_law 716 = .ok (.iconst 0, 1) := by decide +kernel
theorem dL_law_717 : decode cL_law 717 = .ok (.ireturn, 1) := by decide +kernel
theorem dL_law_718 : decode cL_law 718 = .ok (.goto 880, 3) := by decide +kernel
theorem dL_law_721 : decode cL_law 721 = .ok (.aload_n 1, 1) := by decide +kernel
theorem dL_law_722 : decode cL_law 722 = .ok (.aload_n 0, 1) := by decide +kernel
theorem dL_law_723 : decode cL_law 723 = .ok (.iload 4, 2) := by decide +kernel
theorem dL_law_725 : decode cL_law 725 = .ok (.iconst 1, 1) := by decide +kernel
theorem dL_law_726 : decode cL_law 726 = .ok (.iadd, 1) := by decide +kernel
theorem dL_law_727 : decode cL_law 727 = .ok (.iaload, 1) := by decide +kernel
theorem dL_law_728 : decode cL_law 728 = .ok (.aload_n 3, 1) := by decide +kernel
theorem dL_law_729 : decode cL_law 729 = .ok (.invokestatic 129, 3) := by decide +kernel
theorem dL_law_732 : decode cL_law 732 = .ok (.istore 5, 2) := by decide +kernel
theorem dL_law_734 : decode cL_law 734 = .ok (.aload_n 2, 1) := by decide +kernel
theorem dL_law_735 : decode cL_law 735 = .ok (.aload_n 0, 1) := by decide +kernel
theorem dL_law_736 : decode cL_law 736 = .ok (.iload 4, 2) := by decide +kernel
theorem dL_law_738 : decode cL_law 738 = .ok (.iconst 1, 1) := by decide +kernel
theorem dL_law_739 : decode cL_law 739 = .ok (.iadd, 1) := by decide +kernel
theorem dL_law_740 : decode cL_law 740 = .ok (.iaload, 1) := by decide +kernel
theorem dL_law_741 : decode cL_law 741 = .ok (.invokevirtual 131, 3) := by decide +kernel
theorem dL_law_744 : decode cL_law 744 = .ok (.istore 6, 2) := by decide +kernel
theorem dL_law_746 : decode cL_law 746 = .ok (.aload_n 2, 1) := by decide +kernel
theorem dL_law_747 : decode cL_law 747 = .ok (.invokevirtual 95, 3) := by decide +kernel
theorem dL_law_750 : decode cL_law 750 = .ok (.iload 5, 2) := by decide +kernel
theorem dL_law_752 : decode cL_law 752 = .ok (.if_icmp .eq 5, 3) := by decide +kernel
theorem dL_law_755 : decode cL_law 755 = .ok (.iconst 0, 1) := by decide +kernel
theorem dL_law_756 : decode cL_law 756 = .ok (.ireturn, 1) := by decide +kernel
theorem dL_law_757 : decode cL_law 757 = .ok (.iload 5, 2) := by decide +kernel
theorem dL_law_759 : decode cL_law 759 = .ok (.ifCond .ne 15, 3) := by decide +kernel
theorem dL_law_762 : decode cL_law 762 = .ok (.aload_n 3, 1) := by decide +kernel
theorem dL_law_763 : decode cL_law 763 = .ok (.iconst 0, 1) := by decide +kernel
theorem dL_law_764 : decode cL_law 764 = .ok (.laload, 1) := by decide +kernel
theorem dL_law_765 : decode cL_law 765 = .ok (.iload 6, 2) := by decide +kernel
theorem dL_law_767 : decode cL_law 767 = .ok (.i2l, 1) := by decide +kernel
theorem dL_law_768 : decode cL_law 768 = .ok (.lcmp, 1) := by decide +kernel
theorem dL_law_769 : decode cL_law 769 = .ok (.ifCond .eq 5, 3) := by decide +kernel
theorem dL_law_772 : decode cL_law 772 = .ok (.iconst 0, 1) := by decide +kernel
theorem dL_law_773 : decode cL_law 773 = .ok (.ireturn, 1) := by decide +kernel
theorem dL_law_774 : decode cL_law 774 = .ok (.goto 824, 3) := by decide +kernel
theorem dL_law_777 : decode cL_law 777 = .ok (.aload_n 1, 1) := by decide +kernel
theorem dL_law_778 : decode cL_law 778 = .ok (.invokevirtual 132, 3) := by decide +kernel
theorem dL_law_781 : decode cL_law 781 = .ok (.aload_n 2, 1) := by decide +kernel
theorem dL_law_782 : decode cL_law 782 = .ok (.invokevirtual 135, 3) := by decide +kernel
theorem dL_law_785 : decode cL_law 785 = .ok (.if_icmp .eq 813, 3) := by decide +kernel
theorem dL_law_788 : decode cL_law 788 = .ok (.iconst 0, 1) := by decide +kernel
theorem dL_law_789 : decode cL_law 789 = .ok (.ireturn, 1) := by decide +kernel
theorem dL_law_790 : decode cL_law 790 = .ok (.aload_n 1, 1) := by decide +kernel
theorem dL_law_791 : decode cL_law 791 = .ok (.invokevirtual 136, 3) := by decide +kernel
theorem dL_law_794 : decode cL_law 794 = .ok (.aload_n 2, 1) := by decide +kernel
theorem dL_law_795 : decode cL_law 795 = .ok (.invokevirtual 139, 3) := by decide +kernel
theorem dL_law_798 : decode cL_law 798 = .ok (.if_icmp .eq 800, 3) := by decide +kernel
theorem dL_law_801 : decode cL_law 801 = .ok (.iconst 0, 1) := by decide +kernel
theorem dL_law_802 : decode cL_law 802 = .ok (.ireturn, 1) := by decide +kernel
theorem dL_law_803 : decode cL_law 803 = .ok (.aload_n 1, 1) := by decide +kernel
theorem dL_law_804 : decode cL_law 804 = .ok (.aload_n 3, 1) := by decide +kernel
theorem dL_law_805 : decode cL_law 805 = .ok (.invokestatic 140, 3) := by decide +kernel
theorem dL_law_808 : decode cL_law 808 = .ok (.istore 5, 2) := by decide +kernel
theorem dL_law_810 : decode cL_law 810 = .ok (.aload_n 2, 1) := by decide +kernel
theorem dL_law_811 : decode cL_law 811 = .ok (.invokevirtual 142, 3) := by decide +kernel
theorem dL_law_814 : decode cL_law 814 = .ok (.istore 6, 2) := by decide +kernel
theorem dL_law_816 : decode cL_law 816 = .ok (.aload_n 2, 1) := by decide +kernel
theorem dL_law_817 : decode cL_law 817 = .ok (.invokevirtual 95, 3) := by decide +kernel
theorem dL_law_820 : decode cL_law 820 = .ok (.iload 5, 2) := by decide +kernel
theorem dL_law_822 : decode cL_law 822 = .ok (.if_icmp .eq 5, 3) := by decide +kernel
theorem dL_law_825 : decode cL_law 825 = .ok (.iconst 0, 1) := by decide +kernel
theorem dL_law_826 : decode cL_law 826 = .ok (.ireturn, 1) := by decide +kernel
theorem dL_law_827 : decode cL_law 827 = .ok (.iload 5, 2) := by decide +kernel
theorem dL_law_829 : decode cL_law 829 = .ok (.ifCond .ne 15, 3) := by decide +kernel
theorem dL_law_832 : decode cL_law 832 = .ok (.aload_n 3, 1) := by decide +kernel
theorem dL_law_833 : decode cL_law 833 = .ok (.iconst 0, 1) := by decide +kernel
theorem dL_law_834 : decode cL_law 834 = .ok (.laload, 1) := by decide +kernel
theorem dL_law_835 : decode cL_law 835 = .ok (.iload 6, 2) := by decide +kernel
theorem dL_law_837 : decode cL_law 837 = .ok (.i2l, 1) := by decide +kernel
theorem dL_law_838 : decode cL_law 838 = .ok (.lcmp, 1) := by decide +kernel
theorem dL_law_839 : decode cL_law 839 = .ok (.ifCond .eq 5, 3) := by decide +kernel
theorem dL_law_842 : decode cL_law 842 = .ok (.iconst 0, 1) := by decide +kernel
theorem dL_law_843 : decode cL_law 843 = .ok (.ireturn, 1) := by decide +kernel
theorem dL_law_844 : decode cL_law 844 = .ok (.goto 754, 3) := by decide +kernel
theorem dL_law_847 : decode cL_law 847 = .ok (.aload_n 1, 1) := by decide +kernel
theorem dL_law_848 : decode cL_law 848 = .ok (.invokevirtual 143, 3) := by decide +kernel
theorem dL_law_851 : decode cL_law 851 = .ok (.aload_n 2, 1) := by decide +kernel
theorem dL_law_852 : decode cL_law 852 = .ok (.invokevirtual 146, 3) := by decide +kernel
theorem dL_law_855 : decode cL_law 855 = .ok (.if_icmp .eq 743, 3) := by decide +kernel
theorem dL_law_858 : decode cL_law 858 = .ok (.iconst 0, 1) := by decide +kernel
theorem dL_law_859 : decode cL_law 859 = .ok (.ireturn, 1) := by decide +kernel
theorem dL_law_860 : decode cL_law 860 = .ok (.aload_n 1, 1) := by decide +kernel
theorem dL_law_861 : decode cL_law 861 = .ok (.aload_n 3, 1) := by decide +kernel
theorem dL_law_862 : decode cL_law 862 = .ok (.invokestatic 147, 3) := by decide +kernel
theorem dL_law_865 : decode cL_law 865 = .ok (.istore 5, 2) := by decide +kernel
theorem dL_law_867 : decode cL_law 867 = .ok (.aload_n 2, 1) := by decide +kernel
theorem dL_law_868 : decode cL_law 868 = .ok (.invokevirtual 149, 3) := by decide +kernel
theorem dL_law_871 : decode cL_law 871 = .ok (.istore 6, 2) := by decide +kernel
theorem dL_law_873 : decode cL_law 873 = .ok (.aload_n 2, 1) := by decide +kernel
theorem dL_law_874 : decode cL_law 874 = .ok (.invokevirtual 95, 3) := by decide +kernel
theorem dL_law_877 : decode cL_law 877 = .ok (.iload 5, 2) := by decide +kernel
theorem dL_law_879 : decode cL_law 879 = .ok (.if_icmp .eq 5, 3) := by decide +kernel
theorem dL_law_882 : decode cL_law 882 = .ok (.iconst 0, 1) := by decide +kernel
theorem dL_law_883 : decode cL_law 883 = .ok (.ireturn, 1) := by decide +kernel
theorem dL_law_884 : decode cL_law 884 = .ok (.iload 5, 2) := by decide +kernel
theorem dL_law_886 : decode cL_law 886 = .ok (.ifCond .ne 15, 3) := by decide +kernel
theorem dL_law_889 : decode cL_law 889 = .ok (.aload_n 3, 1) := by decide +kernel
theorem dL_law_890 : decode cL_law 890 = .ok (.iconst 0, 1) := by decide +kernel
theorem dL_law_891 : decode cL_law 891 = .ok (.laload, 1) := by decide +kernel
theorem dL_law_892 : decode cL_law 892 = .ok (.iload 6, 2) := by decide +kernel
theorem dL_law_894 : decode cL_law 894 = .ok (.i2l, 1) := by decide +kernel
theorem dL_law_895 : decode cL_law 895 = .ok (.lcmp, 1) := by decide +kernel
theorem dL_law_896 : decode cL_law 896 = .ok (.ifCond .eq 5, 3) := by decide +kernel
theorem dL_law_899 : decode cL_law 899 = .ok (.iconst 0, 1) := by decide +kernel
theorem dL_law_900 : decode cL_law 900 = .ok (.ireturn, 1) := by decide +kernel
theorem dL_law_901 : decode cL_law 901 = .ok (.goto 697, 3) := by decide +kernel
theorem dL_law_904 : decode cL_law 904 = .ok (.aload_n 1, 1) := by decide +kernel
theorem dL_law_905 : decode cL_law 905 = .ok (.aload_n 3, 1) := by decide +kernel
theorem dL_law_906 : decode cL_law 906 = .ok (.invokestatic 150, 3) := by decide +kernel
theorem dL_law_909 : decode cL_law 909 = .ok (.istore 5, 2) := by decide +kernel
theorem dL_law_911 : decode cL_law 911 = .ok (.aload_n 2, 1) := by decide +kernel
theorem dL_law_912 : decode cL_law 912 = .ok (.invokevirtual 152, 3) := by decide +kernel
theorem dL_law_915 : decode cL_law 915 = .ok (.istore 6, 2) := by decide +kernel
theorem dL_law_917 : decode cL_law 917 = .ok (.aload_n 2, 1) := by decide +kernel
theorem dL_law_918 : decode cL_law 918 = .ok (.invokevirtual 95, 3) := by decide +kernel
theorem dL_law_921 : decode cL_law 921 = .ok (.iload 5, 2) := by decide +kernel
theorem dL_law_923 : decode cL_law 923 = .ok (.if_icmp .eq 5, 3) := by decide +kernel
theorem dL_law_926 : decode cL_law 926 = .ok (.iconst 0, 1) := by decide +kernel
theorem dL_law_927 : decode cL_law 927 = .ok (.ireturn, 1) := by decide +kernel
theorem dL_law_928 : decode cL_law 928 = .ok (.iload 5, 2) := by decide +kernel
theorem dL_law_930 : decode cL_law 930 = .ok (.ifCond .ne 15, 3) := by decide +kernel
theorem dL_law_933 : decode cL_law 933 = .ok (.aload_n 3, 1) := by decide +kernel
theorem dL_law_934 : decode cL_law 934 = .ok (.iconst 0, 1) := by decide +kernel
theorem dL_law_935 : decode cL_law 935 = .ok (.laload, 1) := by decide +kernel
theorem dL_law_936 : decode cL_law 936 = .ok (.iload 6, 2) := by decide +kernel
theorem dL_law_938 : decode cL_law 938 = .ok (.i2l, 1) := by decide +kernel
theorem dL_law_939 : decode cL_law 939 = .ok (.lcmp, 1) := by decide +kernel
theorem dL_law_940 : decode cL_law 940 = .ok (.ifCond .eq 5, 3) := by decide +kernel
theorem dL_law_943 : decode cL_law 943 = .ok (.iconst 0, 1) := by decide +kernel
theorem dL_law_944 : decode cL_law 944 = .ok (.ireturn, 1) := by decide +kernel
theorem dL_law_945 : decode cL_law 945 = .ok (.goto 653, 3) := by decide +kernel
theorem dL_law_948 : decode cL_law 948 = .ok (.aload_n 1, 1) := by decide +kernel
theorem dL_law_949 : decode cL_law 949 = .ok (.aload_n 0, 1) := by decide +kernel
theorem dL_law_950 : decode cL_law 950 = .ok (.iload 4, 2) := by decide +kernel
theorem dL_law_952 : decode cL_law 952 = .ok (.iconst 1, 1) := by decide +kernel
theorem dL_law_953 : decode cL_law 953 = .ok (.iadd, 1) := by decide +kernel
theorem dL_law_954 : decode cL_law 954 = .ok (.iaload, 1) := by decide +kernel
theorem dL_law_955 : decode cL_law 955 = .ok (.aload_n 0, 1) := by decide +kernel
theorem dL_law_956 : decode cL_law 956 = .ok (.iload 4, 2) := by decide +kernel
theorem dL_law_958 : decode cL_law 958 = .ok (.iconst 2, 1) := by decide +kernel
theorem dL_law_959 : decode cL_law 959 = .ok (.iadd, 1) := by decide +kernel
theorem dL_law_960 : decode cL_law 960 = .ok (.iaload, 1) := by decide +kernel
theorem dL_law_961 : decode cL_law 961 = .ok (.aload_n 3, 1) := by decide +kernel
theorem dL_law_962 : decode cL_law 962 = .ok (.invokestatic 153, 3) := by decide +kernel
theorem dL_law_965 : decode cL_law 965 = .ok (.istore 5, 2) := by decide +kernel
theorem dL_law_967 : decode cL_law 967 = .ok (.aload_n 2, 1) := by decide +kernel
theorem dL_law_968 : decode cL_law 968 = .ok (.aload_n 0, 1) := by decide +kernel
theorem dL_law_969 : decode cL_law 969 = .ok (.iload 4, 2) := by decide +kernel
theorem dL_law_971 : decode cL_law 971 = .ok (.iconst 1, 1) := by decide +kernel
theorem dL_law_972 : decode cL_law 972 = .ok (.iadd, 1) := by decide +kernel
theorem dL_law_973 : decode cL_law 973 = .ok (.iaload, 1) := by decide +kernel
theorem dL_law_974 : decode cL_law 974 = .ok (.aload_n 0, 1) := by decide +kernel
theorem dL_law_975 : decode cL_law 975 = .ok (.iload 4, 2) := by decide +kernel
theorem dL_law_977 : decode cL_law 977 = .ok (.iconst 2, 1) := by decide +kernel
theorem dL_law_978 : decode cL_law 978 = .ok (.iadd, 1) := by decide +kernel
theorem dL_law_979 : decode cL_law 979 = .ok (.iaload, 1) := by decide +kernel
theorem dL_law_980 : decode cL_law 980 = .ok (.invokevirtual 155, 3) := by decide +kernel
theorem dL_law_983 : decode cL_law 983 = .ok (.istore 6, 2) := by decide +kernel
theorem dL_law_985 : decode cL_law 985 = .ok (.aload_n 2, 1) := by decide +kernel
theorem dL_law_986 : decode cL_law 986 = .ok (.invokevirtual 95, 3) := by decide +kernel
theorem dL_law_989 : decode cL_law 989 = .ok (.iload 5, 2) := by decide +kernel
theorem dL_law_991 : decode cL_law 991 = .ok (.if_icmp .eq 5, 3) := by decide +kernel
theorem dL_law_994 : decode cL_law 994 = .ok (.iconst 0, 1) := by decide +kernel
theorem dL_law_995 : decode cL_law 995 = .ok (.ireturn, 1) := by decide +kernel
theorem dL_law_996 : decode cL_law 996 = .ok (.iload 5, 2) := by decide +kernel
theorem dL_law_998 : decode cL_law 998 = .ok (.ifCond .ne 15, 3) := by decide +kernel
theorem dL_law_1001 : decode cL_law 1001 = .ok (.aload_n 3, 1) := by decide +kernel
theorem dL_law_1002 : decode cL_law 1002 = .ok (.iconst 0, 1) := by decide +kernel
theorem dL_law_1003 : decode cL_law 1003 = .ok (.laload, 1) := by decide +kernel
theorem dL_law_1004 : decode cL_law 1004 = .ok (.iload 6, 2) := by decide +kernel
theorem dL_law_1006 : decode cL_law 1006 = .ok (.i2l, 1) := by decide +kernel
theorem dL_law_1007 : decode cL_law 1007 = .ok (.lcmp, 1) := by decide +kernel
theorem dL_law_1008 : decode cL_law 1008 = .ok (.ifCond .eq 5, 3) := by decide +kernel
theorem dL_law_1011 : decode cL_law 1011 = .ok (.iconst 0, 1) := by decide +kernel
theorem dL_law_1012 : decode cL_law 1012 = .ok (.ireturn, 1) := by decide +kernel
theorem dL_law_1013 : decode cL_law 1013 = .ok (.goto 585, 3) := by decide +kernel
theorem dL_law_1016 : decode cL_law 1016 = .ok (.aload_n 1, 1) := by decide +kernel
theorem dL_law_1017 : decode cL_law 1017 = .ok (.aload_n 0, 1) := by decide +kernel
theorem dL_law_1018 : decode cL_law 1018 = .ok (.iload 4, 2) := by decide +kernel
theorem dL_law_1020 : decode cL_law 1020 = .ok (.iconst 1, 1) := by decide +kernel
theorem dL_law_1021 : decode cL_law 1021 = .ok (.iadd, 1) := by decide +kernel
theorem dL_law_1022 : decode cL_law 1022 = .ok (.iaload, 1) := by decide +kernel
theorem dL_law_1023 : decode cL_law 1023 = .ok (.aload_n 0, 1) := by decide +kernel
theorem dL_law_1024 : decode cL_law 1024 = .ok (.iload 4, 2) := by decide +kernel
theorem dL_law_1026 : decode cL_law 1026 = .ok (.iconst 2, 1) := by decide +kernel
theorem dL_law_1027 : decode cL_law 1027 = .ok (.iadd, 1) := by decide +kernel
theorem dL_law_1028 : decode cL_law 1028 = .ok (.iaload, 1) := by decide +kernel
theorem dL_law_1029 : decode cL_law 1029 = .ok (.aload_n 3, 1) := by decide +kernel
theorem dL_law_1030 : decode cL_law 1030 = .ok (.invokestatic 156, 3) := by decide +kernel
theorem dL_law_1033 : decode cL_law 1033 = .ok (.istore 5, 2) := by decide +kernel
theorem dL_law_1035 : decode cL_law 1035 = .ok (.aload_n 2, 1) := by decide +kernel
theorem dL_law_1036 : decode cL_law 1036 = .ok (.aload_n 0, 1) := by decide +kernel
theorem dL_law_1037 : decode cL_law 1037 = .ok (.iload 4, 2) := by decide +kernel
theorem dL_law_1039 : decode cL_law 1039 = .ok (.iconst 1, 1) := by decide +kernel
theorem dL_law_1040 : decode cL_law 1040 = .ok (.iadd, 1) := by decide +kernel
theorem dL_law_1041 : decode cL_law 1041 = .ok (.iaload, 1) := by decide +kernel
theorem dL_law_1042 : decode cL_law 1042 = .ok (.aload_n 0, 1) := by decide +kernel
theorem dL_law_1043 : decode cL_law 1043 = .ok (.iload 4, 2) := by decide +kernel
theorem dL_law_1045 : decode cL_law 1045 = .ok (.iconst 2, 1) := by decide +kernel
theorem dL_law_1046 : decode cL_law 1046 = .ok (.iadd, 1) := by decide +kernel
theorem dL_law_1047 : decode cL_law 1047 = .ok (.iaload, 1) := by decide +kernel
theorem dL_law_1048 : decode cL_law 1048 = .ok (.invokevirtual 158, 3) := by decide +kernel
theorem dL_law_1051 : decode cL_law 1051 = .ok (.istore 6, 2) := by decide +kernel
theorem dL_law_1053 : decode cL_law 1053 = .ok (.aload_n 2, 1) := by decide +kernel
theorem dL_law_1054 : decode cL_law 1054 = .ok (.invokevirtual 95, 3) := by decide +kernel
theorem dL_law_1057 : decode cL_law 1057 = .ok (.iload 5, 2) := by decide +kernel
theorem dL_law_1059 : decode cL_law 1059 = .ok (.if_icmp .eq 5, 3) := by decide +kernel
theorem dL_law_1062 : decode cL_law 1062 = .ok (.iconst 0, 1) := by decide +kernel
theorem dL_law_1063 : decode cL_law 1063 = .ok (.ireturn, 1) := by decide +kernel
theorem dL_law_1064 : decode cL_law 1064 = .ok (.iload 5, 2) := by decide +kernel
theorem dL_law_1066 : decode cL_law 1066 = .ok (.ifCond .ne 15, 3) := by decide +kernel
theorem dL_law_1069 : decode cL_law 1069 = .ok (.aload_n 3, 1) := by decide +kernel
theorem dL_law_1070 : decode cL_law 1070 = .ok (.iconst 0, 1) := by decide +kernel
theorem dL_law_1071 : decode cL_law 1071 = .ok (.laload, 1) := by decide +kernel
theorem dL_law_1072 : decode cL_law 1072 = .ok (.iload 6, 2) := by decide +kernel
theorem dL_law_1074 : decode cL_law 1074 = .ok (.i2l, 1) := by decide +kernel
theorem dL_law_1075 : decode cL_law 1075 = .ok (.lcmp, 1) := by decide +kernel
theorem dL_law_1076 : decode cL_law 1076 = .ok (.ifCond .eq 5, 3) := by decide +kernel
theorem dL_law_1079 : decode cL_law 1079 = .ok (.iconst 0, 1) := by decide +kernel
theorem dL_law_1080 : decode cL_law 1080 = .ok (.ireturn, 1) := by decide +kernel
theorem dL_law_1081 : decode cL_law 1081 = .ok (.goto 517, 3) := by decide +kernel
theorem dL_law_1084 : decode cL_law 1084 = .ok (.aload_n 1, 1) := by decide +kernel
theorem dL_law_1085 : decode cL_law 1085 = .ok (.aload_n 0, 1) := by decide +kernel
theorem dL_law_1086 : decode cL_law 1086 = .ok (.iload 4, 2) := by decide +kernel
theorem dL_law_1088 : decode cL_law 1088 = .ok (.iconst 1, 1) := by decide +kernel
theorem dL_law_1089 : decode cL_law 1089 = .ok (.iadd, 1) := by decide +kernel
theorem dL_law_1090 : decode cL_law 1090 = .ok (.iaload, 1) := by decide +kernel
theorem dL_law_1091 : decode cL_law 1091 = .ok (.aload_n 0, 1) := by decide +kernel
theorem dL_law_1092 : decode cL_law 1092 = .ok (.iload 4, 2) := by decide +kernel
theorem dL_law_1094 : decode cL_law 1094 = .ok (.iconst 2, 1) := by decide +kernel
theorem dL_law_1095 : decode cL_law 1095 = .ok (.iadd, 1) := by decide +kernel
theorem dL_law_1096 : decode cL_law 1096 = .ok (.iaload, 1) := by decide +kernel
theorem dL_law_1097 : decode cL_law 1097 = .ok (.aload_n 3, 1) := by decide +kernel
theorem dL_law_1098 : decode cL_law 1098 = .ok (.invokestatic 159, 3) := by decide +kernel
theorem dL_law_1101 : decode cL_law 1101 = .ok (.istore 5, 2) := by decide +kernel
theorem dL_law_1103 : decode cL_law 1103 = .ok (.aload_n 2, 1) := by decide +kernel
theorem dL_law_1104 : decode cL_law 1104 = .ok (.aload_n 0, 1) := by decide +kernel
theorem dL_law_1105 : decode cL_law 1105 = .ok (.iload 4, 2) := by decide +kernel
theorem dL_law_1107 : decode cL_law 1107 = .ok (.iconst 1, 1) := by decide +kernel
theorem dL_law_1108 : decode cL_law 1108 = .ok (.iadd, 1) := by decide +kernel
theorem dL_law_1109 : decode cL_law 1109 = .ok (.iaload, 1) := by decide +kernel
theorem dL_law_1110 : decode cL_law 1110 = .ok (.aload_n 0, 1) := by decide +kernel
theorem dL_law_1111 : decode cL_law 1111 = .ok (.iload 4, 2) := by decide +kernel
theorem dL_law_1113 : decode cL_law 1113 = .ok (.iconst 2, 1) := by decide +kernel
theorem dL_law_1114 : decode cL_law 1114 = .ok (.iadd, 1) := by decide +kernel
theorem dL_law_1115 : decode cL_law 1115 = .ok (.iaload, 1) := by decide +kernel
theorem dL_law_1116 : decode cL_law 1116 = .ok (.invokevirtual 161, 3) := by decide +kernel
theorem dL_law_1119 : decode cL_law 1119 = .ok (.istore 6, 2) := by decide +kernel
theorem dL_law_1121 : decode cL_law 1121 = .ok (.aload_n 2, 1) := by decide +kernel
theorem dL_law_1122 : decode cL_law 1122 = .ok (.invokevirtual 95, 3) := by decide +kernel
theorem dL_law_1125 : decode cL_law 1125 = .ok (.iload 5, 2) := by decide +kernel
theorem dL_law_1127 : decode cL_law 1127 = .ok (.if_icmp .eq 5, 3) := by decide +kernel
theorem dL_law_1130 : decode cL_law 1130 = .ok (.iconst 0, 1) := by decide +kernel
theorem dL_law_1131 : decode cL_law 1131 = .ok (.ireturn, 1) := by decide +kernel
theorem dL_law_1132 : decode cL_law 1132 = .ok (.iload 5, 2) := by decide +kernel
theorem dL_law_1134 : decode cL_law 1134 = .ok (.ifCond .ne 15, 3) := by decide +kernel
theorem dL_law_1137 : decode cL_law 1137 = .ok (.aload_n 3, 1) := by decide +kernel
theorem dL_law_1138 : decode cL_law 1138 = .ok (.iconst 0, 1) := by decide +kernel
theorem dL_law_1139 : decode cL_law 1139 = .ok (.laload, 1) := by decide +kernel
theorem dL_law_1140 : decode cL_law 1140 = .ok (.iload 6, 2) := by decide +kernel
theorem dL_law_1142 : decode cL_law 1142 = .ok (.i2l, 1) := by decide +kernel
theorem dL_law_1143 : decode cL_law 1143 = .ok (.lcmp, 1) := by decide +kernel
theorem dL_law_1144 : decode cL_law 1144 = .ok (.ifCond .eq 5, 3) := by decide +kernel
theorem dL_law_1147 : decode cL_law 1147 = .ok (.iconst 0, 1) := by decide +kernel
theorem dL_law_1148 : decode cL_law 1148 = .ok (.ireturn, 1) := by decide +kernel
theorem dL_law_1149 : decode cL_law 1149 = .ok (.goto 449, 3) := by decide +kernel
theorem dL_law_1152 : decode cL_law 1152 = .ok (.aload_n 1, 1) := by decide +kernel
theorem dL_law_1153 : decode cL_law 1153 = .ok (.aload_n 0, 1) := by decide +kernel
theorem dL_law_1154 : decode cL_law 1154 = .ok (.iload 4, 2) := by decide +kernel
theorem dL_law_1156 : decode cL_law 1156 = .ok (.iconst 1, 1) := by decide +kernel
theorem dL_law_1157 : decode cL_law 1157 = .ok (.iadd, 1) := by decide +kernel
theorem dL_law_1158 : decode cL_law 1158 = .ok (.iaload, 1) := by decide +kernel
theorem dL_law_1159 : decode cL_law 1159 = .ok (.aload_n 3, 1) := by decide +kernel
theorem dL_law_1160 : decode cL_law 1160 = .ok (.invokestatic 162, 3) := by decide +kernel
theorem dL_law_1163 : decode cL_law 1163 = .ok (.istore 5, 2) := by decide +kernel
theorem dL_law_1165 : decode cL_law 1165 = .ok (.aload_n 2, 1) := by decide +kernel
theorem dL_law_1166 : decode cL_law 1166 = .ok (.aload_n 0, 1) := by decide +kernel
theorem dL_law_1167 : decode cL_law 1167 = .ok (.iload 4, 2) := by decide +kernel
theorem dL_law_1169 : decode cL_law 1169 = .ok (.iconst 1, 1) := by decide +kernel
theorem dL_law_1170 : decode cL_law 1170 = .ok (.iadd, 1) := by decide +kernel
theorem dL_law_1171 : decode cL_law 1171 = .ok (.iaload, 1) := by decide +kernel
theorem dL_law_1172 : decode cL_law 1172 = .ok (.invokevirtual 164, 3) := by decide +kernel
theorem dL_law_1175 : decode cL_law 1175 = .ok (.istore 6, 2) := by decide +kernel
theorem dL_law_1177 : decode cL_law 1177 = .ok (.aload_n 2, 1) := by decide +kernel
theorem dL_law_1178 : decode cL_law 1178 = .ok (.invokevirtual 95, 3) := by decide +kernel
theorem dL_law_1181 : decode cL_law 1181 = .ok (.iload 5, 2) := by decide +kernel
theorem dL_law_1183 : decode cL_law 1183 = .ok (.if_icmp .eq 5, 3) := by decide +kernel
theorem dL_law_1186 : decode cL_law 1186 = .ok (.iconst 0, 1) := by decide +kernel
theorem dL_law_1187 : decode cL_law 1187 = .ok (.ireturn, 1) := by decide +kernel
theorem dL_law_1188 : decode cL_law 1188 = .ok (.iload 5, 2) := by decide +kernel
theorem dL_law_1190 : decode cL_law 1190 = .ok (.ifCond .ne 15, 3) := by decide +kernel
theorem dL_law_1193 : decode cL_law 1193 = .ok (.aload_n 3, 1) := by decide +kernel
theorem dL_law_1194 : decode cL_law 1194 = .ok (.iconst 0, 1) := by decide +kernel
theorem dL_law_1195 : decode cL_law 1195 = .ok (.laload, 1) := by decide +kernel
theorem dL_law_1196 : decode cL_law 1196 = .ok (.iload 6, 2) := by decide +kernel
theorem dL_law_1198 : decode cL_law 1198 = .ok (.i2l, 1) := by decide +kernel
theorem dL_law_1199 : decode cL_law 1199 = .ok (.lcmp, 1) := by decide +kernel
theorem dL_law_1200 : decode cL_law 1200 = .ok (.ifCond .eq 5, 3) := by decide +kernel
theorem dL_law_1203 : decode cL_law 1203 = .ok (.iconst 0, 1) := by decide +kernel
theorem dL_law_1204 : decode cL_law 1204 = .ok (.ireturn, 1) := by decide +kernel
theorem dL_law_1205 : decode cL_law 1205 = .ok (.goto 393, 3) := by decide +kernel
theorem dL_law_1208 : decode cL_law 1208 = .ok (.aload_n 1, 1) := by decide +kernel
theorem dL_law_1209 : decode cL_law 1209 = .ok (.aload_n 0, 1) := by decide +kernel
theorem dL_law_1210 : decode cL_law 1210 = .ok (.iload 4, 2) := by decide +kernel
theorem dL_law_1212 : decode cL_law 1212 = .ok (.iconst 1, 1) := by decide +kernel
theorem dL_law_1213 : decode cL_law 1213 = .ok (.iadd, 1) := by decide +kernel
theorem dL_law_1214 : decode cL_law 1214 = .ok (.iaload, 1) := by decide +kernel
theorem dL_law_1215 : decode cL_law 1215 = .ok (.aload_n 3, 1) := by decide +kernel
theorem dL_law_1216 : decode cL_law 1216 = .ok (.invokestatic 165, 3) := by decide +kernel
theorem dL_law_1219 : decode cL_law 1219 = .ok (.istore 5, 2) := by decide +kernel
theorem dL_law_1221 : decode cL_law 1221 = .ok (.aload_n 2, 1) := by decide +kernel
theorem dL_law_1222 : decode cL_law 1222 = .ok (.aload_n 0, 1) := by decide +kernel
theorem dL_law_1223 : decode cL_law 1223 = .ok (.iload 4, 2) := by decide +kernel
theorem dL_law_1225 : decode cL_law 1225 = .ok (.iconst 1, 1) := by decide +kernel
theorem dL_law_1226 : decode cL_law 1226 = .ok (.iadd, 1) := by decide +kernel
theorem dL_law_1227 : decode cL_law 1227 = .ok (.iaload, 1) := by decide +kernel
theorem dL_law_1228 : decode cL_law 1228 = .ok (.invokevirtual 167, 3) := by decide +kernel
theorem dL_law_1231 : decode cL_law 1231 = .ok (.istore 6, 2) := by decide +kernel
theorem dL_law_1233 : decode cL_law 1233 = .ok (.aload_n 2, 1) := by decide +kernel
theorem dL_law_1234 : decode cL_law 1234 = .ok (.invokevirtual 95, 3) := by decide +kernel
theorem dL_law_1237 : decode cL_law 1237 = .ok (.iload 5, 2) := by decide +kernel
theorem dL_law_1239 : decode cL_law 1239 = .ok (.if_icmp .eq 5, 3) := by decide +kernel
theorem dL_law_1242 : decode cL_law 1242 = .ok (.iconst 0, 1) := by decide +kernel
theorem dL_law_1243 : decode cL_law 1243 = .ok (.ireturn, 1) := by decide +kernel
theorem dL_law_1244 : decode cL_law 1244 = .ok (.iload 5, 2) := by decide +kernel
theorem dL_law_1246 : decode cL_law 1246 = .ok (.ifCond .ne 15, 3) := by decide +kernel
theorem dL_law_1249 : decode cL_law 1249 = .ok (.aload_n 3, 1) := by decide +kernel
theorem dL_law_1250 : decode cL_law 1250 = .ok (.iconst 0, 1) := by decide +kernel
theorem dL_law_1251 : decode cL_law 1251 = .ok (.laload, 1) := by decide +kernel
theorem dL_law_1252 : decode cL_law 1252 = .ok (.iload 6, 2) := by decide +kernel
theorem dL_law_1254 : decode cL_law 1254 = .ok (.i2l, 1) := by decide +kernel
theorem dL_law_1255 : decode cL_law 1255 = .ok (.lcmp, 1) := by decide +kernel
theorem dL_law_1256 : decode cL_law 1256 = .ok (.ifCond .eq 5, 3) := by decide +kernel
theorem dL_law_1259 : decode cL_law 1259 = .ok (.iconst 0, 1) := by decide +kernel
theorem dL_law_1260 : decode cL_law 1260 = .ok (.ireturn, 1) := by decide +kernel
theorem dL_law_1261 : decode cL_law 1261 = .ok (.goto 337, 3) := by decide +kernel
theorem dL_law_1264 : decode cL_law 1264 = .ok (.aload_n 1, 1) := by decide +kernel
theorem dL_law_1265 : decode cL_law 1265 = .ok (.aload_n 0, 1) := by decide +kernel
theorem dL_law_1266 : decode cL_law 1266 = .ok (.iload 4, 2) := by decide +kernel
theorem dL_law_1268 : decode cL_law 1268 = .ok (.iconst 1, 1) := by decide +kernel
theorem dL_law_1269 : decode cL_law 1269 = .ok (.iadd, 1) := by decide +kernel
theorem dL_law_1270 : decode cL_law 1270 = .ok (.iaload, 1) := by decide +kernel
theorem dL_law_1271 : decode cL_law 1271 = .ok (.aload_n 3, 1) := by decide +kernel
theorem dL_law_1272 : decode cL_law 1272 = .ok (.invokestatic 168, 3) := by decide +kernel
theorem dL_law_1275 : decode cL_law 1275 = .ok (.istore 5, 2) := by decide +kernel
theorem dL_law_1277 : decode cL_law 1277 = .ok (.aload_n 2, 1) := by decide +kernel
theorem dL_law_1278 : decode cL_law 1278 = .ok (.aload_n 0, 1) := by decide +kernel
theorem dL_law_1279 : decode cL_law 1279 = .ok (.iload 4, 2) := by decide +kernel
theorem dL_law_1281 : decode cL_law 1281 = .ok (.iconst 1, 1) := by decide +kernel
theorem dL_law_1282 : decode cL_law 1282 = .ok (.iadd, 1) := by decide +kernel
theorem dL_law_1283 : decode cL_law 1283 = .ok (.iaload, 1) := by decide +kernel
theorem dL_law_1284 : decode cL_law 1284 = .ok (.invokevirtual 170, 3) := by decide +kernel
theorem dL_law_1287 : decode cL_law 1287 = .ok (.istore 6, 2) := by decide +kernel
theorem dL_law_1289 : decode cL_law 1289 = .ok (.aload_n 2, 1) := by decide +kernel
theorem dL_law_1290 : decode cL_law 1290 = .ok (.invokevirtual 95, 3) := by decide +kernel
theorem dL_law_1293 : decode cL_law 1293 = .ok (.iload 5, 2) := by decide +kernel
theorem dL_law_1295 : decode cL_law 1295 = .ok (.if_icmp .eq 5, 3) := by decide +kernel
theorem dL_law_1298 : decode cL_law 1298 = .ok (.iconst 0, 1) := by decide +kernel
theorem dL_law_1299 : decode cL_law 1299 = .ok (.ireturn, 1) := by decide +kernel
theorem dL_law_1300 : decode cL_law 1300 = .ok (.iload 5, 2) := by decide +kernel
theorem dL_law_1302 : decode cL_law 1302 = .ok (.ifCond .ne 15, 3) := by decide +kernel
theorem dL_law_1305 : decode cL_law 1305 = .ok (.aload_n 3, 1) := by decide +kernel
theorem dL_law_1306 : decode cL_law 1306 = .ok (.iconst 0, 1) := by decide +kernel
theorem dL_law_1307 : decode cL_law 1307 = .ok (.laload, 1) := by decide +kernel
theorem dL_law_1308 : decode cL_law 1308 = .ok (.iload 6, 2) := by decide +kernel
theorem dL_law_1310 : decode cL_law 1310 = .ok (.i2l, 1) := by decide +kernel
theorem dL_law_1311 : decode cL_law 1311 = .ok (.lcmp, 1) := by decide +kernel
theorem dL_law_1312 : decode cL_law 1312 = .ok (.ifCond .eq 5, 3) := by decide +kernel
theorem dL_law_1315 : decode cL_law 1315 = .ok (.iconst 0, 1) := by decide +kernel
theorem dL_law_1316 : decode cL_law 1316 = .ok (.ireturn, 1) := by decide +kernel
theorem dL_law_1317 : decode cL_law 1317 = .ok (.goto 281, 3) := by decide +kernel
theorem dL_law_1320 : decode cL_law 1320 = .ok (.aload_n 1, 1) := by decide +kernel
theorem dL_law_1321 : decode cL_law 1321 = .ok (.aload_n 0, 1) := by decide +kernel
theorem dL_law_1322 : decode cL_law 1322 = .ok (.iload 4, 2) := by decide +kernel
theorem dL_law_1324 : decode cL_law 1324 = .ok (.iconst 1, 1) := by decide +kernel
theorem dL_law_1325 : decode cL_law 1325 = .ok (.iadd, 1) := by decide +kernel
theorem dL_law_1326 : decode cL_law 1326 = .ok (.iaload, 1) := by decide +kernel
theorem dL_law_1327 : decode cL_law 1327 = .ok (.aload_n 3, 1) := by decide +kernel
theorem dL_law_1328 : decode cL_law 1328 = .ok (.invokestatic 171, 3) := by decide +kernel
theorem dL_law_1331 : decode cL_law 1331 = .ok (.istore 5, 2) := by decide +kernel
theorem dL_law_1333 : decode cL_law 1333 = .ok (.aload_n 2, 1) := by decide +kernel
theorem dL_law_1334 : decode cL_law 1334 = .ok (.aload_n 0, 1) := by decide +kernel
theorem dL_law_1335 : decode cL_law 1335 = .ok (.iload 4, 2) := by decide +kernel
theorem dL_law_1337 : decode cL_law 1337 = .ok (.iconst 1, 1) := by decide +kernel
theorem dL_law_1338 : decode cL_law 1338 = .ok (.iadd, 1) := by decide +kernel
theorem dL_law_1339 : decode cL_law 1339 = .ok (.iaload, 1) := by decide +kernel
theorem dL_law_1340 : decode cL_law 1340 = .ok (.invokevirtual 173, 3) := by decide +kernel
theorem dL_law_1343 : decode cL_law 1343 = .ok (.istore 6, 2) := by decide +kernel
theorem dL_law_1345 : decode cL_law 1345 = .ok (.aload_n 2, 1) := by decide +kernel
theorem dL_law_1346 : decode cL_law 1346 = .ok (.invokevirtual 95, 3) := by decide +kernel
theorem dL_law_1349 : decode cL_law 1349 = .ok (.iload 5, 2) := by decide +kernel
theorem dL_law_1351 : decode cL_law 1351 = .ok (.if_icmp .eq 5, 3) := by decide +kernel
theorem dL_law_1354 : decode cL_law 1354 = .ok (.iconst 0, 1) := by decide +kernel
theorem dL_law_1355 : decode cL_law 1355 = .ok (.ireturn, 1) := by decide +kernel
theorem dL_law_1356 : decode cL_law 1356 = .ok (.iload 5, 2) := by decide +kernel
theorem dL_law_1358 : decode cL_law 1358 = .ok (.ifCond .ne 15, 3) := by decide +kernel
theorem dL_law_1361 : decode cL_law 1361 = .ok (.aload_n 3, 1) := by decide +kernel
theorem dL_law_1362 : decode cL_law 1362 = .ok (.iconst 0, 1) := by decide +kernel
theorem dL_law_1363 : decode cL_law 1363 = .ok (.laload, 1) := by decide +kernel
theorem dL_law_1364 : decode cL_law 1364 = .ok (.iload 6, 2) := by decide +kernel
theorem dL_law_1366 : decode cL_law 1366 = .ok (.i2l, 1) := by decide +kernel
theorem dL_law_1367 : decode cL_law 1367 = .ok (.lcmp, 1) := by decide +kernel
theorem dL_law_1368 : decode cL_law 1368 = .ok (.ifCond .eq 5, 3) := by decide +kernel
theorem dL_law_1371 : decode cL_law 1371 = .ok (.iconst 0, 1) := by decide +kernel
theorem dL_law_1372 : decode cL_law 1372 = .ok (.ireturn, 1) := by decide +kernel
theorem dL_law_1373 : decode cL_law 1373 = .ok (.goto 225, 3) := by decide +kernel
theorem dL_law_1376 : decode cL_law 1376 = .ok (.aload_n 1, 1) := by decide +kernel
theorem dL_law_1377 : decode cL_law 1377 = .ok (.aload_n 0, 1) := by decide +kernel
theorem dL_law_1378 : decode cL_law 1378 = .ok (.iload 4, 2) := by decide +kernel
theorem dL_law_1380 : decode cL_law 1380 = .ok (.iconst 1, 1) := by decide +kernel
theorem dL_law_1381 : decode cL_law 1381 = .ok (.iadd, 1) := by decide +kernel
theorem dL_law_1382 : decode cL_law 1382 = .ok (.iaload, 1) := by decide +kernel
theorem dL_law_1383 : decode cL_law 1383 = .ok (.aload_n 0, 1) := by decide +kernel
theorem dL_law_1384 : decode cL_law 1384 = .ok (.iload 4, 2) := by decide +kernel
theorem dL_law_1386 : decode cL_law 1386 = .ok (.iconst 2, 1) := by decide +kernel
theorem dL_law_1387 : decode cL_law 1387 = .ok (.iadd, 1) := by decide +kernel
theorem dL_law_1388 : decode cL_law 1388 = .ok (.iaload, 1) := by decide +kernel
theorem dL_law_1389 : decode cL_law 1389 = .ok (.aload_n 3, 1) := by decide +kernel
theorem dL_law_1390 : decode cL_law 1390 = .ok (.invokestatic 174, 3) := by decide +kernel
theorem dL_law_1393 : decode cL_law 1393 = .ok (.istore 5, 2) := by decide +kernel
theorem dL_law_1395 : decode cL_law 1395 = .ok (.aload_n 2, 1) := by decide +kernel
theorem dL_law_1396 : decode cL_law 1396 = .ok (.aload_n 0, 1) := by decide +kernel
theorem dL_law_1397 : decode cL_law 1397 = .ok (.iload 4, 2) := by decide +kernel
theorem dL_law_1399 : decode cL_law 1399 = .ok (.iconst 1, 1) := by decide +kernel
theorem dL_law_1400 : decode cL_law 1400 = .ok (.iadd, 1) := by decide +kernel
theorem dL_law_1401 : decode cL_law 1401 = .ok (.iaload, 1) := by decide +kernel
theorem dL_law_1402 : decode cL_law 1402 = .ok (.aload_n 0, 1) := by decide +kernel
theorem dL_law_1403 : decode cL_law 1403 = .ok (.iload 4, 2) := by decide +kernel
theorem dL_law_1405 : decode cL_law 1405 = .ok (.iconst 2, 1) := by decide +kernel
theorem dL_law_1406 : decode cL_law 1406 = .ok (.iadd, 1) := by decide +kernel
theorem dL_law_1407 : decode cL_law 1407 = .ok (.iaload, 1) := by decide +kernel
theorem dL_law_1408 : decode cL_law 1408 = .ok (.invokevirtual 176, 3) := by decide +kernel
theorem dL_law_1411 : decode cL_law 1411 = .ok (.istore 6, 2) := by decide +kernel
theorem dL_law_1413 : decode cL_law 1413 = .ok (.aload_n 2, 1) := by decide +kernel
theorem dL_law_1414 : decode cL_law 1414 = .ok (.invokevirtual 95, 3) := by decide +kernel
theorem dL_law_1417 : decode cL_law 1417 = .ok (.iload 5, 2) := by decide +kernel
theorem dL_law_1419 : decode cL_law 1419 = .ok (.if_icmp .eq 5, 3) := by decide +kernel
theorem dL_law_1422 : decode cL_law 1422 = .ok (.iconst 0, 1) := by decide +kernel
theorem dL_law_1423 : decode cL_law 1423 = .ok (.ireturn, 1) := by decide +kernel
theorem dL_law_1424 : decode cL_law 1424 = .ok (.iload 5, 2) := by decide +kernel
theorem dL_law_1426 : decode cL_law 1426 = .ok (.ifCond .ne 15, 3) := by decide +kernel
theorem dL_law_1429 : decode cL_law 1429 = .ok (.aload_n 3, 1) := by decide +kernel
theorem dL_law_1430 : decode cL_law 1430 = .ok (.iconst 0, 1) := by decide +kernel
theorem dL_law_1431 : decode cL_law 1431 = .ok (.laload, 1) := by decide +kernel
theorem dL_law_1432 : decode cL_law 1432 = .ok (.iload 6, 2) := by decide +kernel
theorem dL_law_1434 : decode cL_law 1434 = .ok (.i2l, 1) := by decide +kernel
theorem dL_law_1435 : decode cL_law 1435 = .ok (.lcmp, 1) := by decide +kernel
theorem dL_law_1436 : decode cL_law 1436 = .ok (.ifCond .eq 5, 3) := by decide +kernel
theorem dL_law_1439 : decode cL_law 1439 = .ok (.iconst 0, 1) := by decide +kernel
theorem dL_law_1440 : decode cL_law 1440 = .ok (.ireturn, 1) := by decide +kernel
theorem dL_law_1441 : decode cL_law 1441 = .ok (.goto 157, 3) := by decide +kernel
theorem dL_law_1444 : decode cL_law 1444 = .ok (.aload_n 1, 1) := by decide +kernel
theorem dL_law_1445 : decode cL_law 1445 = .ok (.aload_n 0, 1) := by decide +kernel
theorem dL_law_1446 : decode cL_law 1446 = .ok (.iload 4, 2) := by decide +kernel
theorem dL_law_1448 : decode cL_law 1448 = .ok (.iconst 1, 1) := by decide +kernel
theorem dL_law_1449 : decode cL_law 1449 = .ok (.iadd, 1) := by decide +kernel
theorem dL_law_1450 : decode cL_law 1450 = .ok (.iaload, 1) := by decide +kernel
theorem dL_law_1451 : decode cL_law 1451 = .ok (.aload_n 3, 1) := by decide +kernel
theorem dL_law_1452 : decode cL_law 1452 = .ok (.invokestatic 177, 3) := by decide +kernel
theorem dL_law_1455 : decode cL_law 1455 = .ok (.istore 5, 2) := by decide +kernel
theorem dL_law_1457 : decode cL_law 1457 = .ok (.aload_n 2, 1) := by decide +kernel
theorem dL_law_1458 : decode cL_law 1458 = .ok (.aload_n 0, 1) := by decide +kernel
theorem dL_law_1459 : decode cL_law 1459 = .ok (.iload 4, 2) := by decide +kernel
theorem dL_law_1461 : decode cL_law 1461 = .ok (.iconst 1, 1) := by decide +kernel
theorem dL_law_1462 : decode cL_law 1462 = .ok (.iadd, 1) := by decide +kernel
theorem dL_law_1463 : decode cL_law 1463 = .ok (.iaload, 1) := by decide +kernel
theorem dL_law_1464 : decode cL_law 1464 = .ok (.invokevirtual 179, 3) := by decide +kernel
theorem dL_law_1467 : decode cL_law 1467 = .ok (.istore 6, 2) := by decide +kernel
theorem dL_law_1469 : decode cL_law 1469 = .ok (.aload_n 2, 1) := by decide +kernel
theorem dL_law_1470 : decode cL_law 1470 = .ok (.invokevirtual 95, 3) := by decide +kernel
theorem dL_law_1473 : decode cL_law 1473 = .ok (.iload 5, 2) := by decide +kernel
theorem dL_law_1475 : decode cL_law 1475 = .ok (.if_icmp .eq 5, 3) := by decide +kernel
theorem dL_law_1478 : decode cL_law 1478 = .ok (.iconst 0, 1) := by decide +kernel
theorem dL_law_1479 : decode cL_law 1479 = .ok (.ireturn, 1) := by decide +kernel
theorem dL_law_1480 : decode cL_law 1480 = .ok (.iload 5, 2) := by decide +kernel
theorem dL_law_1482 : decode cL_law 1482 = .ok (.ifCond .ne 15, 3) := by decide +kernel
theorem dL_law_1485 : decode cL_law 1485 = .ok (.aload_n 3, 1) := by decide +kernel
theorem dL_law_1486 : decode cL_law 1486 = .ok (.iconst 0, 1) := by decide +kernel
theorem dL_law_1487 : decode cL_law 1487 = .ok (.laload, 1) := by decide +kernel
theorem dL_law_1488 : decode cL_law 1488 = .ok (.iload 6, 2) := by decide +kernel
theorem dL_law_1490 : decode cL_law 1490 = .ok (.i2l, 1) := by decide +kernel
theorem dL_law_1491 : decode cL_law 1491 = .ok (.lcmp, 1) := by decide +kernel
theorem dL_law_1492 : decode cL_law 1492 = .ok (.ifCond .eq 5, 3) := by decide +kernel
theorem dL_law_1495 : decode cL_law 1495 = .ok (.iconst 0, 1) := by decide +kernel
theorem dL_law_1496 : decode cL_law 1496 = .ok (.ireturn, 1) := by decide +kernel
theorem dL_law_1497 : decode cL_law 1497 = .ok (.goto 101, 3) := by decide +kernel
theorem dL_law_1500 : decode cL_law 1500 = .ok (.aload_n 1, 1) := by decide +kernel
theorem dL_law_1501 : decode cL_law 1501 = .ok (.invokevirtual 180, 3) := by decide +kernel
theorem dL_law_1504 : decode cL_law 1504 = .ok (.dstore 5, 2) := by decide +kernel
theorem dL_law_1506 : decode cL_law 1506 = .ok (.aload_n 2, 1) := by decide +kernel
theorem dL_law_1507 : decode cL_law 1507 = .ok (.invokevirtual 184, 3) := by decide +kernel
theorem dL_law_1510 : decode cL_law 1510 = .ok (.dstore 7, 2) := by decide +kernel
theorem dL_law_1512 : decode cL_law 1512 = .ok (.dload 5, 2) := by decide +kernel
theorem dL_law_1514 : decode cL_law 1514 = .ok (.dload 7, 2) := by decide +kernel
theorem dL_law_1516 : decode cL_law 1516 = .ok (.dcmp .l, 1) := by decide +kernel
theorem dL_law_1517 : decode cL_law 1517 = .ok (.ifCond .eq 21, 3) := by decide +kernel
theorem dL_law_1520 : decode cL_law 1520 = .ok (.dload 5, 2) := by decide +kernel
theorem dL_law_1522 : decode cL_law 1522 = .ok (.dload 5, 2) := by decide +kernel
theorem dL_law_1524 : decode cL_law 1524 = .ok (.dcmp .l, 1) := by decide +kernel
theorem dL_law_1525 : decode cL_law 1525 = .ok (.ifCond .eq 11, 3) := by decide +kernel
theorem dL_law_1528 : decode cL_law 1528 = .ok (.dload 7, 2) := by decide +kernel
theorem dL_law_1530 : decode cL_law 1530 = .ok (.dload 7, 2) := by decide +kernel
theorem dL_law_1532 : decode cL_law 1532 = .ok (.dcmp .l, 1) := by decide +kernel
theorem dL_law_1533 : decode cL_law 1533 = .ok (.ifCond .ne 5, 3) := by decide +kernel
theorem dL_law_1536 : decode cL_law 1536 = .ok (.iconst 0, 1) := by decide +kernel
theorem dL_law_1537 : decode cL_law 1537 = .ok (.ireturn, 1) := by decide +kernel
theorem dL_law_1538 : decode cL_law 1538 = .ok (.goto 60, 3) := by decide +kernel
theorem dL_law_1541 : decode cL_law 1541 = .ok (.aload_n 1, 1) := by decide +kernel
theorem dL_law_1542 : decode cL_law 1542 = .ok (.invokevirtual 185, 3) := by decide +kernel
theorem dL_law_1545 : decode cL_law 1545 = .ok (.f2d, 1) := by decide +kernel
theorem dL_law_1546 : decode cL_law 1546 = .ok (.dstore 5, 2) := by decide +kernel
theorem dL_law_1548 : decode cL_law 1548 = .ok (.aload_n 2, 1) := by decide +kernel
theorem dL_law_1549 : decode cL_law 1549 = .ok (.invokevirtual 189, 3) := by decide +kernel
theorem dL_law_1552 : decode cL_law 1552 = .ok (.f2d, 1) := by decide +kernel
theorem dL_law_1553 : decode cL_law 1553 = .ok (.dstore 7, 2) := by decide +kernel
theorem dL_law_1555 : decode cL_law 1555 = .ok (.dload 5, 2) := by decide +kernel
theorem dL_law_1557 : decode cL_law 1557 = .ok (.dload 7, 2) := by decide +kernel
theorem dL_law_1559 : decode cL_law 1559 = .ok (.dcmp .l, 1) := by decide +kernel
theorem dL_law_1560 : decode cL_law 1560 = .ok (.ifCond .eq 21, 3) := by decide +kernel
theorem dL_law_1563 : decode cL_law 1563 = .ok (.dload 5, 2) := by decide +kernel
theorem dL_law_1565 : decode cL_law 1565 = .ok (.dload 5, 2) := by decide +kernel
theorem dL_law_1567 : decode cL_law 1567 = .ok (.dcmp .l, 1) := by decide +kernel
theorem dL_law_1568 : decode cL_law 1568 = .ok (.ifCond .eq 11, 3) := by decide +kernel
theorem dL_law_1571 : decode cL_law 1571 = .ok (.dload 7, 2) := by decide +kernel
theorem dL_law_1573 : decode cL_law 1573 = .ok (.dload 7, 2) := by decide +kernel
theorem dL_law_1575 : decode cL_law 1575 = .ok (.dcmp .l, 1) := by decide +kernel
theorem dL_law_1576 : decode cL_law 1576 = .ok (.ifCond .ne 5, 3) := by decide +kernel
theorem dL_law_1579 : decode cL_law 1579 = .ok (.iconst 0, 1) := by decide +kernel
theorem dL_law_1580 : decode cL_law 1580 = .ok (.ireturn, 1) := by decide +kernel
theorem dL_law_1581 : decode cL_law 1581 = .ok (.goto 17, 3) := by decide +kernel
theorem dL_law_1584 : decode cL_law 1584 = .ok (.aload_n 1, 1) := by decide +kernel
theorem dL_law_1585 : decode cL_law 1585 = .ok (.invokevirtual 190, 3) := by decide +kernel
theorem dL_law_1588 : decode cL_law 1588 = .ok (.aload_n 2, 1) := by decide +kernel
theorem dL_law_1589 : decode cL_law 1589 = .ok (.invokevirtual 194, 3) := by decide +kernel
theorem dL_law_1592 : decode cL_law 1592 = .ok (.lcmp, 1) := by decide +kernel
theorem dL_law_1593 : decode cL_law 1593 = .ok (.ifCond .eq 5, 3) := by decide +kernel
theorem dL_law_1596 : decode cL_law 1596 = .ok (.iconst 0, 1) := by decide +kernel
theorem dL_law_1597 : decode cL_law 1597 = .ok (.ireturn, 1) := by decide +kernel
theorem dL_law_1598 : decode cL_law 1598 = .ok (.iinc 4 4, 3) := by decide +kernel
theorem dL_law_1601 : decode cL_law 1601 = .ok (.goto (-1578), 3) := by decide +kernel
theorem dL_law_1604 : decode cL_law 1604 = .ok (.iconst 1, 1) := by decide +kernel
theorem dL_law_1605 : decode cL_law 1605 = .ok (.ireturn, 1) := by decide +kernel
