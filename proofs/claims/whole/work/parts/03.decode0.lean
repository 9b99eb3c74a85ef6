theorem dX0_init_0 : decode cX0_init 0 = .ok (.aload_n 0, 1) := by decide +kernel
theorem dX0_init_1 : decode cX0_init 1 = .ok (.invokespecial 3, 3) := by decide +kernel
theorem dX0_init_4 : decode cX0_init 4 = .ok (.aload_n 0, 1) := by decide +kernel
theorem dX0_init_5 : decode cX0_init 5 = .ok (.bipush 6, 2) := by decide +kernel
theorem dX0_init_7 : decode cX0_init 7 = .ok (.anewarray 9, 3) := by decide +kernel
theorem dX0_init_10 : decode cX0_init 10 = .ok (.putfield 11, 3) := by decide +kernel
theorem dX0_init_13 : decode cX0_init 13 = .ok (.iconst 0, 1) := by decide +kernel
theorem dX0_init_14 : decode cX0_init 14 = .ok (.istore_n 1, 1) := by decide +kernel
theorem dX0_init_15 : decode cX0_init 15 = .ok (.iload_n 1, 1) := by decide +kernel
theorem dX0_init_16 : decode cX0_init 16 = .ok (.bipush 6, 2) := by decide +kernel
theorem dX0_init_18 : decode cX0_init 18 = .ok (.if_icmp .ge 22, 3) := by decide +kernel
theorem dX0_init_21 : decode cX0_init 21 = .ok (.aload_n 0, 1) := by decide +kernel
theorem dX0_init_22 : decode cX0_init 22 = .ok (.getfield 11, 3) := by decide +kernel
theorem dX0_init_25 : decode cX0_init 25 = .ok (.iload_n 1, 1) := by decide +kernel
theorem dX0_init_26 : decode cX0_init 26 = .ok (.new 9, 3) := by decide +kernel
theorem dX0_init_29 : decode cX0_init 29 = .ok (.dup, 1) := by decide +kernel
theorem dX0_init_30 : decode cX0_init 30 = .ok (.invokespecial 17, 3) := by decide +kernel
theorem dX0_init_33 : decode cX0_init 33 = .ok (.aastore, 1) := by decide +kernel
theorem dX0_init_34 : decode cX0_init 34 = .ok (.iinc 1 1, 3) := by decide +kernel
theorem dX0_init_37 : decode cX0_init 37 = .ok (.goto (-22), 3) := by decide +kernel
theorem dX0_init_40 : decode cX0_init 40 = .ok (.return_, 1) := by decide +kernel
theorem dX0_push_0 : decode cX0_push 0 = .ok (.aload_n 0, 1) := by decide +kernel
theorem dX0_push_1 : decode cX0_push 1 = .ok (.getfield 18, 3) := by decide +kernel
theorem dX0_push_4 : decode cX0_push 4 = .ok (.bipush 6, 2) := by decide +kernel
theorem dX0_push_6 : decode cX0_push 6 = .ok (.if_icmp .lt 7, 3) := by decide +kernel
theorem dX0_push_9 : decode cX0_push 9 = .ok (.aload_n 0, 1) := by decide +kernel
theorem dX0_push_10 : decode cX0_push 10 = .ok (.invokevirtual 22, 3) := by decide +kernel
theorem dX0_push_13 : decode cX0_push 13 = .ok (.aload_n 0, 1) := by decide +kernel
theorem dX0_push_14 : decode cX0_push 14 = .ok (.getfield 18, 3) := by decide +kernel
theorem dX0_push_17 : decode cX0_push 17 = .ok (.ifCond .lt 47, 3) := by decide +kernel
theorem dX0_push_20 : decode cX0_push 20 = .ok (.aload_n 0, 1) := by decide +kernel
theorem dX0_push_21 : decode cX0_push 21 = .ok (.getfield 18, 3) := by decide +kernel
theorem dX0_push_24 : decode cX0_push 24 = .ok (.bipush 6, 2) := by decide +kernel
theorem dX0_push_26 : decode cX0_push 26 = .ok (.if_icmp .ge 38, 3) := by decide +kernel
theorem dX0_push_29 : decode cX0_push 29 = .ok (.aload_n 0, 1) := by decide +kernel
theorem dX0_push_30 : decode cX0_push 30 = .ok (.getfield 11, 3) := by decide +kernel
theorem dX0_push_33 : decode cX0_push 33 = .ok (.aload_n 0, 1) := by decide +kernel
theorem dX0_push_34 : decode cX0_push 34 = .ok (.getfield 18, 3) := by decide +kernel
theorem dX0_push_37 : decode cX0_push 37 = .ok (.aaload, 1) := by decide +kernel
theorem dX0_push_38 : decode cX0_push 38 = .ok (.ifnull 26, 3) := by decide +kernel
theorem dX0_push_41 : decode cX0_push 41 = .ok (.aload_n 0, 1) := by decide +kernel
theorem dX0_push_42 : decode cX0_push 42 = .ok (.getfield 11, 3) := by decide +kernel
theorem dX0_push_45 : decode cX0_push 45 = .ok (.aload_n 0, 1) := by decide +kernel
theorem dX0_push_46 : decode cX0_push 46 = .ok (.getfield 18, 3) := by decide +kernel
theorem dX0_push_49 : decode cX0_push 49 = .ok (.aaload, 1) := by decide +kernel
theorem dX0_push_50 : decode cX0_push 50 = .ok (.aload_n 1, 1) := by decide +kernel
theorem dX0_push_51 : decode cX0_push 51 = .ok (.invokevirtual 25, 3) := by decide +kernel
theorem dX0_push_54 : decode cX0_push 54 = .ok (.aload_n 0, 1) := by decide +kernel
theorem dX0_push_55 : decode cX0_push 55 = .ok (.dup, 1) := by decide +kernel
theorem dX0_push_56 : decode cX0_push 56 = .ok (.getfield 18, 3) := by decide +kernel
theorem dX0_push_59 : decode cX0_push 59 = .ok (.iconst 1, 1) := by decide +kernel
theorem dX0_push_60 : decode cX0_push 60 = .ok (.iadd, 1) := by decide +kernel
theorem dX0_push_61 : decode cX0_push 61 = .ok (.putfield 18, 3) := by decide +kernel
theorem dX0_push_64 : decode cX0_push 64 = .ok (.return_, 1) := by decide +kernel
theorem dX0_pop_0 : decode cX0_pop 0 = .ok (.aload_n 0, 1) := by decide +kernel
theorem dX0_pop_1 : decode cX0_pop 1 = .ok (.getfield 18, 3) := by decide +kernel
theorem dX0_pop_4 : decode cX0_pop 4 = .ok (.iconst 1, 1) := by decide +kernel
theorem dX0_pop_5 : decode cX0_pop 5 = .ok (.isub, 1) := by decide +kernel
theorem dX0_pop_6 : decode cX0_pop 6 = .ok (.istore_n 2, 1) := by decide +kernel
theorem dX0_pop_7 : decode cX0_pop 7 = .ok (.iload_n 2, 1) := by decide +kernel
theorem dX0_pop_8 : decode cX0_pop 8 = .ok (.ifCond .lt 33, 3) := by decide +kernel
theorem dX0_pop_11 : decode cX0_pop 11 = .ok (.iload_n 2, 1) := by decide +kernel
theorem dX0_pop_12 : decode cX0_pop 12 = .ok (.bipush 6, 2) := by decide +kernel
theorem dX0_pop_14 : decode cX0_pop 14 = .ok (.if_icmp .ge 27, 3) := by decide +kernel
theorem dX0_pop_17 : decode cX0_pop 17 = .ok (.aload_n 0, 1) := by decide +kernel
theorem dX0_pop_18 : decode cX0_pop 18 = .ok (.getfield 11, 3) := by decide +kernel
theorem dX0_pop_21 : decode cX0_pop 21 = .ok (.iload_n 2, 1) := by decide +kernel
theorem dX0_pop_22 : decode cX0_pop 22 = .ok (.aaload, 1) := by decide +kernel
theorem dX0_pop_23 : decode cX0_pop 23 = .ok (.ifnull 18, 3) := by decide +kernel
theorem dX0_pop_26 : decode cX0_pop 26 = .ok (.aload_n 1, 1) := by decide +kernel
theorem dX0_pop_27 : decode cX0_pop 27 = .ok (.aload_n 0, 1) := by decide +kernel
theorem dX0_pop_28 : decode cX0_pop 28 = .ok (.getfield 11, 3) := by decide +kernel
theorem dX0_pop_31 : decode cX0_pop 31 = .ok (.iload_n 2, 1) := by decide +kernel
theorem dX0_pop_32 : decode cX0_pop 32 = .ok (.aaload, 1) := by decide +kernel
theorem dX0_pop_33 : decode cX0_pop 33 = .ok (.invokevirtual 25, 3) := by decide +kernel
theorem dX0_pop_36 : decode cX0_pop 36 = .ok (.aload_n 0, 1) := by decide +kernel
theorem dX0_pop_37 : decode cX0_pop 37 = .ok (.iload_n 2, 1) := by decide +kernel
theorem dX0_pop_38 : decode cX0_pop 38 = .ok (.putfield 18, 3) := by decide +kernel
theorem dX0_pop_41 : decode cX0_pop 41 = .ok (.return_, 1) := by decide +kernel
theorem dX0_dropOldest_0 : decode cX0_dropOldest 0 = .ok (.aload_n 0, 1) := by decide +kernel
theorem dX0_dropOldest_1 : decode cX0_dropOldest 1 = .ok (.getfield 11, 3) := by decide +kernel
theorem dX0_dropOldest_4 : decode cX0_dropOldest 4 = .ok (.iconst 0, 1) := by decide +kernel
theorem dX0_dropOldest_5 : decode cX0_dropOldest 5 = .ok (.aaload, 1) := by decide +kernel
theorem dX0_dropOldest_6 : decode cX0_dropOldest 6 = .ok (.astore_n 1, 1) := by decide +kernel
theorem dX0_dropOldest_7 : decode cX0_dropOldest 7 = .ok (.iconst 1, 1) := by decide +kernel
theorem dX0_dropOldest_8 : decode cX0_dropOldest 8 = .ok (.istore_n 2, 1) := by decide +kernel
theorem dX0_dropOldest_9 : decode cX0_dropOldest 9 = .ok (.iload_n 2, 1) := by decide +kernel
theorem dX0_dropOldest_10 : decode cX0_dropOldest 10 = .ok (.bipush 6, 2) := by decide +kernel
theorem dX0_dropOldest_12 : decode cX0_dropOldest 12 = .ok (.if_icmp .ge 23, 3) := by decide +kernel
theorem dX0_dropOldest_15 : decode cX0_dropOldest 15 = .ok (.aload_n 0, 1) := by decide +kernel
theorem dX0_dropOldest_16 : decode cX0_dropOldest 16 = .ok (.getfield 11, 3) := by decide +kernel
theorem dX0_dropOldest_19 : decode cX0_dropOldest 19 = .ok (.iload_n 2, 1) := by decide +kernel
theorem dX0_dropOldest_20 : decode cX0_dropOldest 20 = .ok (.iconst 1, 1) := by decide +kernel
theorem dX0_dropOldest_21 : decode cX0_dropOldest 21 = .ok (.isub, 1) := by decide +kernel
theorem dX0_dropOldest_22 : decode cX0_dropOldest 22 = .ok (.aload_n 0, 1) := by decide +kernel
theorem dX0_dropOldest_23 : decode cX0_dropOldest 23 = .ok (.getfield 11, 3) := by decide +kernel
theorem dX0_dropOldest_26 : decode cX0_dropOldest 26 = .ok (.iload_n 2, 1) := by decide +kernel
theorem dX0_dropOldest_27 : decode cX0_dropOldest 27 = .ok (.aaload, 1) := by decide +kernel
theorem dX0_dropOldest_28 : decode cX0_dropOldest 28 = .ok (.aastore, 1) := by decide +kernel
theorem dX0_dropOldest_29 : decode cX0_dropOldest 29 = .ok (.iinc 2 1, 3) := by decide +kernel
theorem dX0_dropOldest_32 : decode cX0_dropOldest 32 = .ok (.goto (-23), 3) := by decide +kernel
theorem dX0_dropOldest_35 : decode cX0_dropOldest 35 = .ok (.aload_n 0, 1) := by decide +kernel
theorem dX0_dropOldest_36 : decode cX0_dropOldest 36 = .ok (.getfield 11, 3) := by decide +kernel
theorem dX0_dropOldest_39 : decode cX0_dropOldest 39 = .ok (.iconst 5, 1) := by decide +kernel
theorem dX0_dropOldest_40 : decode cX0_dropOldest 40 = .ok (.aload_n 1, 1) := by decide +kernel
theorem dX0_dropOldest_41 : decode cX0_dropOldest 41 = .ok (.aastore, 1) := by decide +kernel
theorem dX0_dropOldest_42 : decode cX0_dropOldest 42 = .ok (.aload_n 0, 1) := by decide +kernel
theorem dX0_dropOldest_43 : decode cX0_dropOldest 43 = .ok (.iconst 5, 1) := by decide +kernel
theorem dX0_dropOldest_44 : decode cX0_dropOldest 44 = .ok (.putfield 18, 3) := by decide +kernel
theorem dX0_dropOldest_47 : decode cX0_dropOldest 47 = .ok (.return_, 1) := by decide +kernel
theorem dX1_init_0 : decode cX1_init 0 = .ok (.aload_n 0, 1) := by decide +kernel
theorem dX1_init_1 : decode cX1_init 1 = .ok (.invokespecial 3, 3) := by decide +kernel
theorem dX1_init_4 : decode cX1_init 4 = .ok (.aload_n 0, 1) := by decide +kernel
theorem dX1_init_5 : decode cX1_init 5 = .ok (.iconst 3, 1) := by decide +kernel
theorem dX1_init_6 : decode cX1_init 6 = .ok (.newarray .int, 2) := by decide +kernel
theorem dX1_init_8 : decode cX1_init 8 = .ok (.putfield 9, 3) := by decide +kernel
theorem dX1_init_11 : decode cX1_init 11 = .ok (.aload_n 0, 1) := by decide +kernel
theorem dX1_init_12 : decode cX1_init 12 = .ok (.iconst 3, 1) := by decide +kernel
theorem dX1_init_13 : decode cX1_init 13 = .ok (.newarray .int, 2) := by decide +kernel
theorem dX1_init_15 : decode cX1_init 15 = .ok (.putfield 15, 3) := by decide +kernel
theorem dX1_init_18 : decode cX1_init 18 = .ok (.return_, 1) := by decide +kernel
theorem dX1_perform_0 : decode cX1_perform 0 = .ok (.aload_n 0, 1) := by decide +kernel
theorem dX1_perform_1 : decode cX1_perform 1 = .ok (.iconst 0, 1) := by decide +kernel
theorem dX1_perform_2 : decode cX1_perform 2 = .ok (.putfield 18, 3) := by decide +kernel
theorem dX1_perform_5 : decode cX1_perform 5 = .ok (.aload_n 0, 1) := by decide +kernel
theorem dX1_perform_6 : decode cX1_perform 6 = .ok (.iconst 0, 1) := by decide +kernel
theorem dX1_perform_7 : decode cX1_perform 7 = .ok (.putfield 22, 3) := by decide +kernel
theorem dX1_perform_10 : decode cX1_perform 10 = .ok (.aload_n 0, 1) := by decide +kernel
theorem dX1_perform_11 : decode cX1_perform 11 = .ok (.iconst 0, 1) := by decide +kernel
theorem dX1_perform_12 : decode cX1_perform 12 = .ok (.putfield 25, 3) := by decide +kernel
theorem dX1_perform_15 : decode cX1_perform 15 = .ok (.iconst 0, 1) := by decide +kernel
theorem dX1_perform_16 : decode cX1_perform 16 = .ok (.istore_n 3, 1) := by decide +kernel
theorem dX1_perform_17 : decode cX1_perform 17 = .ok (.iconst 0, 1) := by decide +kernel
theorem dX1_perform_18 : decode cX1_perform 18 = .ok (.istore 4, 2) := by decide +kernel
theorem dX1_perform_20 : decode cX1_perform 20 = .ok (.iload 4, 2) := by decide +kernel
theorem dX1_perform_22 : decode cX1_perform 22 = .ok (.ldc 28, 2) := by decide +kernel
theorem dX1_perform_24 : decode cX1_perform 24 = .ok (.if_icmp .ge 75, 3) := by decide +kernel
theorem dX1_perform_27 : decode cX1_perform 27 = .ok (.iload_n 3, 1) := by decide +kernel
theorem dX1_perform_28 : decode cX1_perform 28 = .ok (.aload_n 1, 1) := by decide +kernel
theorem dX1_perform_29 : decode cX1_perform 29 = .ok (.getfield 29, 3) := by decide +kernel
theorem dX1_perform_32 : decode cX1_perform 32 = .ok (.if_icmp .ge 67, 3) := by decide +kernel
theorem dX1_perform_35 : decode cX1_perform 35 = .ok (.aload_n 0, 1) := by decide +kernel
theorem dX1_perform_36 : decode cX1_perform 36 = .ok (.getfield 25, 3) := by decide +kernel
theorem dX1_perform_39 : decode cX1_perform 39 = .ok (.ifCond .ne 60, 3) := by decide +kernel
theorem dX1_perform_42 : decode cX1_perform 42 = .ok (.aload_n 1, 1) := by decide +kernel
theorem dX1_perform_43 : decode cX1_perform 43 = .ok (.iload_n 3, 1) := by decide +kernel
theorem dX1_perform_44 : decode cX1_perform 44 = .ok (.invokevirtual 34, 3) := by decide +kernel
theorem dX1_perform_47 : decode cX1_perform 47 = .ok (.istore 5, 2) := by decide +kernel
theorem dX1_perform_49 : decode cX1_perform 49 = .ok (.iload 5, 2) := by decide +kernel
theorem dX1_perform_51 : decode cX1_perform 51 = .ok (.bipush 43, 2) := by decide +kernel
theorem dX1_perform_53 : decode cX1_perform 53 = .ok (.if_icmp .eq 10, 3) := by decide +kernel
theorem dX1_perform_56 : decode cX1_perform 56 = .ok (.iload 5, 2) := by decide +kernel
theorem dX1_perform_58 : decode cX1_perform 58 = .ok (.bipush 45, 2) := by decide +kernel
theorem dX1_perform_60 : decode cX1_perform 60 = .ok (.if_icmp .ne 7, 3) := by decide +kernel
theorem dX1_perform_63 : decode cX1_perform 63 = .ok (.iconst 1, 1) := by decide +kernel
theorem dX1_perform_64 : decode cX1_perform 64 = .ok (.goto 4, 3) := by decide +kernel
theorem dX1_perform_67 : decode cX1_perform 67 = .ok (.iconst 0, 1) := by decide +kernel
theorem dX1_perform_68 : decode cX1_perform 68 = .ok (.istore 6, 2) := by decide +kernel
theorem dX1_perform_70 : decode cX1_perform 70 = .ok (.iload 6, 2) := by decide +kernel
theorem dX1_perform_72 : decode cX1_perform 72 = .ok (.ifCond .eq 13, 3) := by decide +kernel
theorem dX1_perform_75 : decode cX1_perform 75 = .ok (.aload_n 0, 1) := by decide +kernel
theorem dX1_perform_76 : decode cX1_perform 76 = .ok (.aload_n 1, 1) := by decide +kernel
theorem dX1_perform_77 : decode cX1_perform 77 = .ok (.iload_n 3, 1) := by decide +kernel
theorem dX1_perform_78 : decode cX1_perform 78 = .ok (.aload_n 2, 1) := by decide +kernel
theorem dX1_perform_79 : decode cX1_perform 79 = .ok (.invokevirtual 38, 3) := by decide +kernel
theorem dX1_perform_82 : decode cX1_perform 82 = .ok (.goto 10, 3) := by decide +kernel
theorem dX1_perform_85 : decode cX1_perform 85 = .ok (.aload_n 0, 1) := by decide +kernel
theorem dX1_perform_86 : decode cX1_perform 86 = .ok (.aload_n 1, 1) := by decide +kernel
theorem dX1_perform_87 : decode cX1_perform 87 = .ok (.iload_n 3, 1) := by decide +kernel
theorem dX1_perform_88 : decode cX1_perform 88 = .ok (.aload_n 2, 1) := by decide +kernel
theorem dX1_perform_89 : decode cX1_perform 89 = .ok (.invokevirtual 42, 3) := by decide +kernel
theorem dX1_perform_92 : decode cX1_perform 92 = .ok (.istore_n 3, 1) := by decide +kernel
theorem dX1_perform_93 : decode cX1_perform 93 = .ok (.iinc 4 1, 3) := by decide +kernel
theorem dX1_perform_96 : decode cX1_perform 96 = .ok (.goto (-76), 3) := by decide +kernel
theorem dX1_perform_99 : decode cX1_perform 99 = .ok (.aload_n 2, 1) := by decide +kernel
theorem dX1_perform_100 : decode cX1_perform 100 = .ok (.aload_n 0, 1) := by decide +kernel
theorem dX1_perform_101 : decode cX1_perform 101 = .ok (.getfield 25, 3) := by decide +kernel
theorem dX1_perform_104 : decode cX1_perform 104 = .ok (.putfield 45, 3) := by decide +kernel
theorem dX1_perform_107 : decode cX1_perform 107 = .ok (.aload_n 0, 1) := by decide +kernel
theorem dX1_perform_108 : decode cX1_perform 108 = .ok (.getfield 22, 3) := by decide +kernel
theorem dX1_perform_111 : decode cX1_perform 111 = .ok (.ireturn, 1) := by decide +kernel
theorem dX1_doOther_0 : decode cX1_doOther 0 = .ok (.aload_n 1, 1) := by decide +kernel
theorem dX1_doOther_1 : decode cX1_doOther 1 = .ok (.iload_n 2, 1) := by decide +kernel
theorem dX1_doOther_2 : decode cX1_doOther 2 = .ok (.invokevirtual 34, 3) := by decide +kernel
theorem dX1_doOther_5 : decode cX1_doOther 5 = .ok (.lookupswitch 73 #[(40, 62), (107, 35), (108, 53)], 35) := by decide +kernel
theorem dX1_doOther_40 : decode cX1_doOther 40 = .ok (.aload_n 3, 1) := by decide +kernel
theorem dX1_doOther_41 : decode cX1_doOther 41 = .ok (.getfield 50, 3) := by decide +kernel
theorem dX1_doOther_44 : decode cX1_doOther 44 = .ok (.aload_n 1, 1) := by decide +kernel
theorem dX1_doOther_45 : decode cX1_doOther 45 = .ok (.iload_n 2, 1) := by decide +kernel
theorem dX1_doOther_46 : decode cX1_doOther 46 = .ok (.iconst 1, 1) := by decide +kernel
theorem dX1_doOther_47 : decode cX1_doOther 47 = .ok (.iadd, 1) := by decide +kernel
theorem dX1_doOther_48 : decode cX1_doOther 48 = .ok (.invokevirtual 54, 3) := by decide +kernel
theorem dX1_doOther_51 : decode cX1_doOther 51 = .ok (.invokevirtual 57, 3) := by decide +kernel
theorem dX1_doOther_54 : decode cX1_doOther 54 = .ok (.iload_n 2, 1) := by decide +kernel
theorem dX1_doOther_55 : decode cX1_doOther 55 = .ok (.iconst 2, 1) := by decide +kernel
theorem dX1_doOther_56 : decode cX1_doOther 56 = .ok (.iadd, 1) := by decide +kernel
theorem dX1_doOther_57 : decode cX1_doOther 57 = .ok (.ireturn, 1) := by decide +kernel
theorem dX1_doOther_58 : decode cX1_doOther 58 = .ok (.aload_n 3, 1) := by decide +kernel
theorem dX1_doOther_59 : decode cX1_doOther 59 = .ok (.iconst 1, 1) := by decide +kernel
theorem dX1_doOther_60 : decode cX1_doOther 60 = .ok (.putfield 63, 3) := by decide +kernel
theorem dX1_doOther_63 : decode cX1_doOther 63 = .ok (.iload_n 2, 1) := by decide +kernel
theorem dX1_doOther_64 : decode cX1_doOther 64 = .ok (.iconst 1, 1) := by decide +kernel
theorem dX1_doOther_65 : decode cX1_doOther 65 = .ok (.iadd, 1) := by decide +kernel
theorem dX1_doOther_66 : decode cX1_doOther 66 = .ok (.ireturn, 1) := by decide +kernel
theorem dX1_doOther_67 : decode cX1_doOther 67 = .ok (.aload_n 0, 1) := by decide +kernel
theorem dX1_doOther_68 : decode cX1_doOther 68 = .ok (.iload_n 2, 1) := by decide +kernel
theorem dX1_doOther_69 : decode cX1_doOther 69 = .ok (.iconst 1, 1) := by decide +kernel
theorem dX1_doOther_70 : decode cX1_doOther 70 = .ok (.iadd, 1) := by decide +kernel
theorem dX1_doOther_71 : decode cX1_doOther 71 = .ok (.invokevirtual 67, 3) := by decide +kernel
theorem dX1_doOther_74 : decode cX1_doOther 74 = .ok (.iload_n 2, 1) := by decide +kernel
theorem dX1_doOther_75 : decode cX1_doOther 75 = .ok (.iconst 1, 1) := by decide +kernel
theorem dX1_doOther_76 : decode cX1_doOther 76 = .ok (.iadd, 1) := by decide +kernel
theorem dX1_doOther_77 : decode cX1_doOther 77 = .ok (.ireturn, 1) := by decide +kernel
theorem dX1_doOther_78 : decode cX1_doOther 78 = .ok (.aload_n 0, 1) := by decide +kernel
theorem dX1_doOther_79 : decode cX1_doOther 79 = .ok (.aload_n 1, 1) := by decide +kernel
theorem dX1_doOther_80 : decode cX1_doOther 80 = .ok (.iload_n 2, 1) := by decide +kernel
theorem dX1_doOther_81 : decode cX1_doOther 81 = .ok (.iconst 1, 1) := by decide +kernel
theorem dX1_doOther_82 : decode cX1_doOther 82 = .ok (.iadd, 1) := by decide +kernel
theorem dX1_doOther_83 : decode cX1_doOther 83 = .ok (.invokevirtual 54, 3) := by decide +kernel
theorem dX1_doOther_86 : decode cX1_doOther 86 = .ok (.iload_n 2, 1) := by decide +kernel
theorem dX1_doOther_87 : decode cX1_doOther 87 = .ok (.iconst 2, 1) := by decide +kernel
theorem dX1_doOther_88 : decode cX1_doOther 88 = .ok (.iadd, 1) := by decide +kernel
theorem dX1_doOther_89 : decode cX1_doOther 89 = .ok (.invokevirtual 70, 3) := by decide +kernel
theorem dX1_doOther_92 : decode cX1_doOther 92 = .ok (.ireturn, 1) := by decide +kernel
theorem dX1_doTurn_0 : decode cX1_doTurn 0 = .ok (.aload_n 1, 1) := by decide +kernel
theorem dX1_doTurn_1 : decode cX1_doTurn 1 = .ok (.iload_n 2, 1) := by decide +kernel
theorem dX1_doTurn_2 : decode cX1_doTurn 2 = .ok (.invokevirtual 34, 3) := by decide +kernel
theorem dX1_doTurn_5 : decode cX1_doTurn 5 = .ok (.bipush 43, 2) := by decide +kernel
theorem dX1_doTurn_7 : decode cX1_doTurn 7 = .ok (.if_icmp .ne 7, 3) := by decide +kernel
theorem dX1_doTurn_10 : decode cX1_doTurn 10 = .ok (.iconst 1, 1) := by decide +kernel
theorem dX1_doTurn_11 : decode cX1_doTurn 11 = .ok (.goto 4, 3) := by decide +kernel
theorem dX1_doTurn_14 : decode cX1_doTurn 14 = .ok (.iconst (-1), 1) := by decide +kernel
theorem dX1_doTurn_15 : decode cX1_doTurn 15 = .ok (.istore 4, 2) := by decide +kernel
theorem dX1_doTurn_17 : decode cX1_doTurn 17 = .ok (.aload_n 1, 1) := by decide +kernel
theorem dX1_doTurn_18 : decode cX1_doTurn 18 = .ok (.iload_n 2, 1) := by decide +kernel
theorem dX1_doTurn_19 : decode cX1_doTurn 19 = .ok (.iconst 1, 1) := by decide +kernel
theorem dX1_doTurn_20 : decode cX1_doTurn 20 = .ok (.iadd, 1) := by decide +kernel
theorem dX1_doTurn_21 : decode cX1_doTurn 21 = .ok (.invokevirtual 54, 3) := by decide +kernel
theorem dX1_doTurn_24 : decode cX1_doTurn 24 = .ok (.istore 5, 2) := by decide +kernel
theorem dX1_doTurn_26 : decode cX1_doTurn 26 = .ok (.aload_n 1, 1) := by decide +kernel
theorem dX1_doTurn_27 : decode cX1_doTurn 27 = .ok (.iload_n 2, 1) := by decide +kernel
theorem dX1_doTurn_28 : decode cX1_doTurn 28 = .ok (.iconst 2, 1) := by decide +kernel
theorem dX1_doTurn_29 : decode cX1_doTurn 29 = .ok (.iadd, 1) := by decide +kernel
theorem dX1_doTurn_30 : decode cX1_doTurn 30 = .ok (.invokevirtual 54, 3) := by decide +kernel
theorem dX1_doTurn_33 : decode cX1_doTurn 33 = .ok (.istore 6, 2) := by decide +kernel
theorem dX1_doTurn_35 : decode cX1_doTurn 35 = .ok (.iload 6, 2) := by decide +kernel
theorem dX1_doTurn_37 : decode cX1_doTurn 37 = .ok (.iconst (-1), 1) := by decide +kernel
theorem dX1_doTurn_38 : decode cX1_doTurn 38 = .ok (.if_icmp .ne 8, 3) := by decide +kernel
theorem dX1_doTurn_41 : decode cX1_doTurn 41 = .ok (.iload 5, 2) := by decide +kernel
theorem dX1_doTurn_43 : decode cX1_doTurn 43 = .ok (.goto 11, 3) := by decide +kernel
theorem dX1_doTurn_46 : decode cX1_doTurn 46 = .ok (.iload 5, 2) := by decide +kernel
theorem dX1_doTurn_48 : decode cX1_doTurn 48 = .ok (.bipush 10, 2) := by decide +kernel
theorem dX1_doTurn_50 : decode cX1_doTurn 50 = .ok (.imul, 1) := by decide +kernel
theorem dX1_doTurn_51 : decode cX1_doTurn 51 = .ok (.iload 6, 2) := by decide +kernel
theorem dX1_doTurn_53 : decode cX1_doTurn 53 = .ok (.iadd, 1) := by decide +kernel
theorem dX1_doTurn_54 : decode cX1_doTurn 54 = .ok (.istore 7, 2) := by decide +kernel
theorem dX1_doTurn_56 : decode cX1_doTurn 56 = .ok (.iconst 0, 1) := by decide +kernel
theorem dX1_doTurn_57 : decode cX1_doTurn 57 = .ok (.istore 8, 2) := by decide +kernel
theorem dX1_doTurn_59 : decode cX1_doTurn 59 = .ok (.iload 8, 2) := by decide +kernel
theorem dX1_doTurn_61 : decode cX1_doTurn 61 = .ok (.iload 7, 2) := by decide +kernel
theorem dX1_doTurn_63 : decode cX1_doTurn 63 = .ok (.if_icmp .ge 67, 3) := by decide +kernel
theorem dX1_doTurn_66 : decode cX1_doTurn 66 = .ok (.aload_n 0, 1) := by decide +kernel
theorem dX1_doTurn_67 : decode cX1_doTurn 67 = .ok (.getfield 25, 3) := by decide +kernel
theorem dX1_doTurn_70 : decode cX1_doTurn 70 = .ok (.ifCond .ne 60, 3) := by decide +kernel
theorem dX1_doTurn_73 : decode cX1_doTurn 73 = .ok (.aload_n 0, 1) := by decide +kernel
theorem dX1_doTurn_74 : decode cX1_doTurn 74 = .ok (.aload_n 0, 1) := by decide +kernel
theorem dX1_doTurn_75 : decode cX1_doTurn 75 = .ok (.getfield 22, 3) := by decide +kernel
theorem dX1_doTurn_78 : decode cX1_doTurn 78 = .ok (.sipush 2000, 3) := by decide +kernel
theorem dX1_doTurn_81 : decode cX1_doTurn 81 = .ok (.if_icmp .lt 7, 3) := by decide +kernel
theorem dX1_doTurn_84 : decode cX1_doTurn 84 = .ok (.iconst 5, 1) := by decide +kernel
theorem dX1_doTurn_85 : decode cX1_doTurn 85 = .ok (.goto 13, 3) := by decide +kernel
theorem dX1_doTurn_88 : decode cX1_doTurn 88 = .ok (.aload_n 3, 1) := by decide +kernel
theorem dX1_doTurn_89 : decode cX1_doTurn 89 = .ok (.aload_n 3, 1) := by decide +kernel
theorem dX1_doTurn_90 : decode cX1_doTurn 90 = .ok (.getfield 50, 3) := by decide +kernel
theorem dX1_doTurn_93 : decode cX1_doTurn 93 = .ok (.iload 4, 2) := by decide +kernel
theorem dX1_doTurn_95 : decode cX1_doTurn 95 = .ok (.invokevirtual 74, 3) := by decide +kernel
theorem dX1_doTurn_98 : decode cX1_doTurn 98 = .ok (.putfield 25, 3) := by decide +kernel
theorem dX1_doTurn_101 : decode cX1_doTurn 101 = .ok (.aload_n 0, 1) := by decide +kernel
theorem dX1_doTurn_102 : decode cX1_doTurn 102 = .ok (.getfield 25, 3) := by decide +kernel
theorem dX1_doTurn_105 : decode cX1_doTurn 105 = .ok (.ifCond .ne 19, 3) := by decide +kernel
theorem dX1_doTurn_108 : decode cX1_doTurn 108 = .ok (.aload_n 3, 1) := by decide +kernel
theorem dX1_doTurn_109 : decode cX1_doTurn 109 = .ok (.iload 4, 2) := by decide +kernel
theorem dX1_doTurn_111 : decode cX1_doTurn 111 = .ok (.invokevirtual 78, 3) := by decide +kernel
theorem dX1_doTurn_114 : decode cX1_doTurn 114 = .ok (.aload_n 0, 1) := by decide +kernel
theorem dX1_doTurn_115 : decode cX1_doTurn 115 = .ok (.dup, 1) := by decide +kernel
theorem dX1_doTurn_116 : decode cX1_doTurn 116 = .ok (.getfield 22, 3) := by decide +kernel
theorem dX1_doTurn_119 : decode cX1_doTurn 119 = .ok (.iconst 1, 1) := by decide +kernel
theorem dX1_doTurn_120 : decode cX1_doTurn 120 = .ok (.iadd, 1) := by decide +kernel
theorem dX1_doTurn_121 : decode cX1_doTurn 121 = .ok (.putfield 22, 3) := by decide +kernel
theorem dX1_doTurn_124 : decode cX1_doTurn 124 = .ok (.iinc 8 1, 3) := by decide +kernel
theorem dX1_doTurn_127 : decode cX1_doTurn 127 = .ok (.goto (-68), 3) := by decide +kernel
theorem dX1_doTurn_130 : decode cX1_doTurn 130 = .ok (.iload 6, 2) := by decide +kernel
theorem dX1_doTurn_132 : decode cX1_doTurn 132 = .ok (.iconst (-1), 1) := by decide +kernel
theorem dX1_doTurn_133 : decode cX1_doTurn 133 = .ok (.if_icmp .ne 9, 3) := by decide +kernel
theorem dX1_doTurn_136 : decode cX1_doTurn 136 = .ok (.iload_n 2, 1) := by decide +kernel
theorem dX1_doTurn_137 : decode cX1_doTurn 137 = .ok (.iconst 2, 1) := by decide +kernel
theorem dX1_doTurn_138 : decode cX1_doTurn 138 = .ok (.iadd, 1) := by decide +kernel
theorem dX1_doTurn_139 : decode cX1_doTurn 139 = .ok (.goto 6, 3) := by decide +kernel
theorem dX1_doTurn_142 : decode cX1_doTurn 142 = .ok (.iload_n 2, 1) := by decide +kernel
theorem dX1_doTurn_143 : decode cX1_doTurn 143 = .ok (.iconst 3, 1) := by decide +kernel
theorem dX1_doTurn_144 : decode cX1_doTurn 144 = .ok (.iadd, 1) := by decide +kernel
theorem dX1_doTurn_145 : decode cX1_doTurn 145 = .ok (.ireturn, 1) := by decide +kernel
theorem dX1_openBracket_0 : decode cX1_openBracket 0 = .ok (.aload_n 0, 1) := by decide +kernel
theorem dX1_openBracket_1 : decode cX1_openBracket 1 = .ok (.getfield 18, 3) := by decide +kernel
theorem dX1_openBracket_4 : decode cX1_openBracket 4 = .ok (.ifCond .lt 41, 3) := by decide +kernel
theorem dX1_openBracket_7 : decode cX1_openBracket 7 = .ok (.aload_n 0, 1) := by decide +kernel
theorem dX1_openBracket_8 : decode cX1_openBracket 8 = .ok (.getfield 18, 3) := by decide +kernel
theorem dX1_openBracket_11 : decode cX1_openBracket 11 = .ok (.iconst 3, 1) := by decide +kernel
theorem dX1_openBracket_12 : decode cX1_openBracket 12 = .ok (.if_icmp .ge 33, 3) := by decide +kernel
theorem dX1_openBracket_15 : decode cX1_openBracket 15 = .ok (.aload_n 0, 1) := by decide +kernel
theorem dX1_openBracket_16 : decode cX1_openBracket 16 = .ok (.getfield 9, 3) := by decide +kernel
theorem dX1_openBracket_19 : decode cX1_openBracket 19 = .ok (.aload_n 0, 1) := by decide +kernel
theorem dX1_openBracket_20 : decode cX1_openBracket 20 = .ok (.getfield 18, 3) := by decide +kernel
theorem dX1_openBracket_23 : decode cX1_openBracket 23 = .ok (.iload_n 1, 1) := by decide +kernel
theorem dX1_openBracket_24 : decode cX1_openBracket 24 = .ok (.iastore, 1) := by decide +kernel
theorem dX1_openBracket_25 : decode cX1_openBracket 25 = .ok (.aload_n 0, 1) := by decide +kernel
theorem dX1_openBracket_26 : decode cX1_openBracket 26 = .ok (.getfield 15, 3) := by decide +kernel
theorem dX1_openBracket_29 : decode cX1_openBracket 29 = .ok (.aload_n 0, 1) := by decide +kernel
theorem dX1_openBracket_30 : decode cX1_openBracket 30 = .ok (.getfield 18, 3) := by decide +kernel
theorem dX1_openBracket_33 : decode cX1_openBracket 33 = .ok (.iconst 0, 1) := by decide +kernel
theorem dX1_openBracket_34 : decode cX1_openBracket 34 = .ok (.iastore, 1) := by decide +kernel
theorem dX1_openBracket_35 : decode cX1_openBracket 35 = .ok (.aload_n 0, 1) := by decide +kernel
theorem dX1_openBracket_36 : decode cX1_openBracket 36 = .ok (.dup, 1) := by decide +kernel
theorem dX1_openBracket_37 : decode cX1_openBracket 37 = .ok (.getfield 18, 3) := by decide +kernel
theorem dX1_openBracket_40 : decode cX1_openBracket 40 = .ok (.iconst 1, 1) := by decide +kernel
theorem dX1_openBracket_41 : decode cX1_openBracket 41 = .ok (.iadd, 1) := by decide +kernel
theorem dX1_openBracket_42 : decode cX1_openBracket 42 = .ok (.putfield 18, 3) := by decide +kernel
theorem dX1_openBracket_45 : decode cX1_openBracket 45 = .ok (.return_, 1) := by decide +kernel
theorem dX1_closeBracket_0 : decode cX1_closeBracket 0 = .ok (.aload_n 0, 1) := by decide +kernel
theorem dX1_closeBracket_1 : decode cX1_closeBracket 1 = .ok (.getfield 18, 3) := by decide +kernel
theorem dX1_closeBracket_4 : decode cX1_closeBracket 4 = .ok (.iconst 1, 1) := by decide +kernel
theorem dX1_closeBracket_5 : decode cX1_closeBracket 5 = .ok (.isub, 1) := by decide +kernel
theorem dX1_closeBracket_6 : decode cX1_closeBracket 6 = .ok (.istore_n 3, 1) := by decide +kernel
theorem dX1_closeBracket_7 : decode cX1_closeBracket 7 = .ok (.iload_n 3, 1) := by decide +kernel
theorem dX1_closeBracket_8 : decode cX1_closeBracket 8 = .ok (.ifCond .lt 8, 3) := by decide +kernel
theorem dX1_closeBracket_11 : decode cX1_closeBracket 11 = .ok (.iload_n 3, 1) := by decide +kernel
theorem dX1_closeBracket_12 : decode cX1_closeBracket 12 = .ok (.iconst 3, 1) := by decide +kernel
theorem dX1_closeBracket_13 : decode cX1_closeBracket 13 = .ok (.if_icmp .lt 5, 3) := by decide +kernel
theorem dX1_closeBracket_16 : decode cX1_closeBracket 16 = .ok (.iload_n 2, 1) := by decide +kernel
theorem dX1_closeBracket_17 : decode cX1_closeBracket 17 = .ok (.ireturn, 1) := by decide +kernel
theorem dX1_closeBracket_18 : decode cX1_closeBracket 18 = .ok (.aload_n 0, 1) := by decide +kernel
theorem dX1_closeBracket_19 : decode cX1_closeBracket 19 = .ok (.getfield 15, 3) := by decide +kernel
theorem dX1_closeBracket_22 : decode cX1_closeBracket 22 = .ok (.iload_n 3, 1) := by decide +kernel
theorem dX1_closeBracket_23 : decode cX1_closeBracket 23 = .ok (.dup2, 1) := by decide +kernel
theorem dX1_closeBracket_24 : decode cX1_closeBracket 24 = .ok (.iaload, 1) := by decide +kernel
theorem dX1_closeBracket_25 : decode cX1_closeBracket 25 = .ok (.iconst 1, 1) := by decide +kernel
theorem dX1_closeBracket_26 : decode cX1_closeBracket 26 = .ok (.iadd, 1) := by decide +kernel
theorem dX1_closeBracket_27 : decode cX1_closeBracket 27 = .ok (.iastore, 1) := by decide +kernel
theorem dX1_closeBracket_28 : decode cX1_closeBracket 28 = .ok (.aload_n 0, 1) := by decide +kernel
theorem dX1_closeBracket_29 : decode cX1_closeBracket 29 = .ok (.getfield 15, 3) := by decide +kernel
theorem dX1_closeBracket_32 : decode cX1_closeBracket 32 = .ok (.iload_n 3, 1) := by decide +kernel
theorem dX1_closeBracket_33 : decode cX1_closeBracket 33 = .ok (.iaload, 1) := by decide +kernel
theorem dX1_closeBracket_34 : decode cX1_closeBracket 34 = .ok (.iload_n 1, 1) := by decide +kernel
theorem dX1_closeBracket_35 : decode cX1_closeBracket 35 = .ok (.if_icmp .ge 10, 3) := by decide +kernel
theorem dX1_closeBracket_38 : decode cX1_closeBracket 38 = .ok (.aload_n 0, 1) := by decide +kernel
theorem dX1_closeBracket_39 : decode cX1_closeBracket 39 = .ok (.getfield 9, 3) := by decide +kernel
theorem dX1_closeBracket_42 : decode cX1_closeBracket 42 = .ok (.iload_n 3, 1) := by decide +kernel
theorem dX1_closeBracket_43 : decode cX1_closeBracket 43 = .ok (.iaload, 1) := by decide +kernel
theorem dX1_closeBracket_44 : decode cX1_closeBracket 44 = .ok (.ireturn, 1) := by decide +kernel
theorem dX1_closeBracket_45 : decode cX1_closeBracket 45 = .ok (.aload_n 0, 1) := by decide +kernel
theorem dX1_closeBracket_46 : decode cX1_closeBracket 46 = .ok (.iload_n 3, 1) := by decide +kernel
theorem dX1_closeBracket_47 : decode cX1_closeBracket 47 = .ok (.putfield 18, 3) := by decide +kernel
theorem dX1_closeBracket_50 : decode cX1_closeBracket 50 = .ok (.iload_n 2, 1) := by decide +kernel
theorem dX1_closeBracket_51 : decode cX1_closeBracket 51 = .ok (.ireturn, 1) := by decide +kernel
theorem dX2_init_0 : decode cX2_init 0 = .ok (.aload_n 0, 1) := by decide +kernel
theorem dX2_init_1 : decode cX2_init 1 = .ok (.invokespecial 3, 3) := by decide +kernel
theorem dX2_init_4 : decode cX2_init 4 = .ok (.aload_n 0, 1) := by decide +kernel
theorem dX2_init_5 : decode cX2_init 5 = .ok (.new 9, 3) := by decide +kernel
theorem dX2_init_8 : decode cX2_init 8 = .ok (.dup, 1) := by decide +kernel
theorem dX2_init_9 : decode cX2_init 9 = .ok (.invokespecial 11, 3) := by decide +kernel
theorem dX2_init_12 : decode cX2_init 12 = .ok (.putfield 12, 3) := by decide +kernel
theorem dX2_init_15 : decode cX2_init 15 = .ok (.aload_n 0, 1) := by decide +kernel
theorem dX2_init_16 : decode cX2_init 16 = .ok (.bipush 60, 2) := by decide +kernel
theorem dX2_init_18 : decode cX2_init 18 = .ok (.newarray .boolean, 2) := by decide +kernel
theorem dX2_init_20 : decode cX2_init 20 = .ok (.putfield 18, 3) := by decide +kernel
theorem dX2_init_23 : decode cX2_init 23 = .ok (.aload_n 0, 1) := by decide +kernel
theorem dX2_init_24 : decode cX2_init 24 = .ok (.bipush 30, 2) := by decide +kernel
theorem dX2_init_26 : decode cX2_init 26 = .ok (.newarray .int, 2) := by decide +kernel
theorem dX2_init_28 : decode cX2_init 28 = .ok (.putfield 22, 3) := by decide +kernel
theorem dX2_init_31 : decode cX2_init 31 = .ok (.aload_n 0, 1) := by decide +kernel
theorem dX2_init_32 : decode cX2_init 32 = .ok (.iconst 4, 1) := by decide +kernel
theorem dX2_init_33 : decode cX2_init 33 = .ok (.putfield 26, 3) := by decide +kernel
theorem dX2_init_36 : decode cX2_init 36 = .ok (.return_, 1) := by decide +kernel
theorem dX2_copy_0 : decode cX2_copy 0 = .ok (.aload_n 0, 1) := by decide +kernel
theorem dX2_copy_1 : decode cX2_copy 1 = .ok (.getfield 12, 3) := by decide +kernel
theorem dX2_copy_4 : decode cX2_copy 4 = .ok (.aload_n 1, 1) := by decide +kernel
theorem dX2_copy_5 : decode cX2_copy 5 = .ok (.getfield 12, 3) := by decide +kernel
theorem dX2_copy_8 : decode cX2_copy 8 = .ok (.invokevirtual 30, 3) := by decide +kernel
theorem dX2_copy_11 : decode cX2_copy 11 = .ok (.iconst 0, 1) := by decide +kernel
theorem dX2_copy_12 : decode cX2_copy 12 = .ok (.istore_n 2, 1) := by decide +kernel
theorem dX2_copy_13 : decode cX2_copy 13 = .ok (.iload_n 2, 1) := by decide +kernel
theorem dX2_copy_14 : decode cX2_copy 14 = .ok (.bipush 60, 2) := by decide +kernel
theorem dX2_copy_16 : decode cX2_copy 16 = .ok (.if_icmp .ge 21, 3) := by decide +kernel
theorem dX2_copy_19 : decode cX2_copy 19 = .ok (.aload_n 0, 1) := by decide +kernel
theorem dX2_copy_20 : decode cX2_copy 20 = .ok (.getfield 18, 3) := by decide +kernel
theorem dX2_copy_23 : decode cX2_copy 23 = .ok (.iload_n 2, 1) := by decide +kernel
theorem dX2_copy_24 : decode cX2_copy 24 = .ok (.aload_n 1, 1) := by decide +kernel
theorem dX2_copy_25 : decode cX2_copy 25 = .ok (.getfield 18, 3) := by decide +kernel
theorem dX2_copy_28 : decode cX2_copy 28 = .ok (.iload_n 2, 1) := by decide +kernel
theorem dX2_copy_29 : decode cX2_copy 29 = .ok (.baload, 1) := by decide +kernel
theorem dX2_copy_30 : decode cX2_copy 30 = .ok (.bastore, 1) := by decide +kernel
theorem dX2_copy_31 : decode cX2_copy 31 = .ok (.iinc 2 1, 3) := by decide +kernel
theorem dX2_copy_34 : decode cX2_copy 34 = .ok (.goto (-21), 3) := by decide +kernel
theorem dX2_copy_37 : decode cX2_copy 37 = .ok (.aload_n 1, 1) := by decide +kernel
theorem dX2_copy_38 : decode cX2_copy 38 = .ok (.getfield 22, 3) := by decide +kernel
theorem dX2_copy_41 : decode cX2_copy 41 = .ok (.iconst 0, 1) := by decide +kernel
theorem dX2_copy_42 : decode cX2_copy 42 = .ok (.aload_n 0, 1) := by decide +kernel
theorem dX2_copy_43 : decode cX2_copy 43 = .ok (.getfield 22, 3) := by decide +kernel
theorem dX2_copy_46 : decode cX2_copy 46 = .ok (.iconst 0, 1) := by decide +kernel
theorem dX2_copy_47 : decode cX2_copy 47 = .ok (.bipush 30, 2) := by decide +kernel
theorem dX2_copy_49 : decode cX2_copy 49 = .ok (.invokestatic 34, 3) := by decide +kernel
theorem dX2_copy_52 : decode cX2_copy 52 = .ok (.aload_n 0, 1) := by decide +kernel
theorem dX2_copy_53 : decode cX2_copy 53 = .ok (.aload_n 1, 1) := by decide +kernel
theorem dX2_copy_54 : decode cX2_copy 54 = .ok (.getfield 40, 3) := by decide +kernel
theorem dX2_copy_57 : decode cX2_copy 57 = .ok (.putfield 40, 3) := by decide +kernel
theorem dX2_copy_60 : decode cX2_copy 60 = .ok (.aload_n 0, 1) := by decide +kernel
theorem dX2_copy_61 : decode cX2_copy 61 = .ok (.aload_n 1, 1) := by decide +kernel
theorem dX2_copy_62 : decode cX2_copy 62 = .ok (.getfield 43, 3) := by decide +kernel
theorem dX2_copy_65 : decode cX2_copy 65 = .ok (.putfield 43, 3) := by decide +kernel
theorem dX2_copy_68 : decode cX2_copy 68 = .ok (.aload_n 0, 1) := by decide +kernel
theorem dX2_copy_69 : decode cX2_copy 69 = .ok (.aload_n 1, 1) := by decide +kernel
theorem dX2_copy_70 : decode cX2_copy 70 = .ok (.getfield 46, 3) := by decide +kernel
theorem dX2_copy_73 : decode cX2_copy 73 = .ok (.putfield 46, 3) := by decide +kernel
theorem dX2_copy_76 : decode cX2_copy 76 = .ok (.aload_n 0, 1) := by decide +kernel
theorem dX2_copy_77 : decode cX2_copy 77 = .ok (.aload_n 1, 1) := by decide +kernel
theorem dX2_copy_78 : decode cX2_copy 78 = .ok (.getfield 50, 3) := by decide +kernel
theorem dX2_copy_81 : decode cX2_copy 81 = .ok (.putfield 50, 3) := by decide +kernel
theorem dX2_copy_84 : decode cX2_copy 84 = .ok (.aload_n 0, 1) := by decide +kernel
theorem dX2_copy_85 : decode cX2_copy 85 = .ok (.aload_n 1, 1) := by decide +kernel
theorem dX2_copy_86 : decode cX2_copy 86 = .ok (.getfield 53, 3) := by decide +kernel
theorem dX2_copy_89 : decode cX2_copy 89 = .ok (.putfield 53, 3) := by decide +kernel
theorem dX2_copy_92 : decode cX2_copy 92 = .ok (.aload_n 0, 1) := by decide +kernel
theorem dX2_copy_93 : decode cX2_copy 93 = .ok (.aload_n 1, 1) := by decide +kernel
theorem dX2_copy_94 : decode cX2_copy 94 = .ok (.getfield 26, 3) := by decide +kernel
theorem dX2_copy_97 : decode cX2_copy 97 = .ok (.putfield 26, 3) := by decide +kernel
theorem dX2_copy_100 : decode cX2_copy 100 = .ok (.aload_n 0, 1) := by decide +kernel
theorem dX2_copy_101 : decode cX2_copy 101 = .ok (.aload_n 1, 1) := by decide +kernel
theorem dX2_copy_102 : decode cX2_copy 102 = .ok (.getfield 56, 3) := by decide +kernel
theorem dX2_copy_105 : decode cX2_copy 105 = .ok (.putfield 56, 3) := by decide +kernel
theorem dX2_copy_108 : decode cX2_copy 108 = .ok (.return_, 1) := by decide +kernel
theorem dX2_place_0 : decode cX2_place 0 = .ok (.aload_n 0, 1) := by decide +kernel
theorem dX2_place_1 : decode cX2_place 1 = .ok (.getfield 43, 3) := by decide +kernel
theorem dX2_place_4 : decode cX2_place 4 = .ok (.bipush 60, 2) := by decide +kernel
theorem dX2_place_6 : decode cX2_place 6 = .ok (.invokestatic 59, 3) := by decide +kernel
theorem dX2_place_9 : decode cX2_place 9 = .ok (.ireturn, 1) := by decide +kernel
theorem dX2_isCaught_0 : decode cX2_isCaught 0 = .ok (.aload_n 0, 1) := by decide +kernel
theorem dX2_isCaught_1 : decode cX2_isCaught 1 = .ok (.invokevirtual 63, 3) := by decide +kernel
theorem dX2_isCaught_4 : decode cX2_isCaught 4 = .ok (.istore_n 1, 1) := by decide +kernel
theorem dX2_isCaught_5 : decode cX2_isCaught 5 = .ok (.aload_n 0, 1) := by decide +kernel
theorem dX2_isCaught_6 : decode cX2_isCaught 6 = .ok (.getfield 46, 3) := by decide +kernel
theorem dX2_isCaught_9 : decode cX2_isCaught 9 = .ok (.ifCond .ne 26, 3) := by decide +kernel
theorem dX2_isCaught_12 : decode cX2_isCaught 12 = .ok (.iload_n 1, 1) := by decide +kernel
theorem dX2_isCaught_13 : decode cX2_isCaught 13 = .ok (.ifCond .lt 22, 3) := by decide +kernel
theorem dX2_isCaught_16 : decode cX2_isCaught 16 = .ok (.iload_n 1, 1) := by decide +kernel
theorem dX2_isCaught_17 : decode cX2_isCaught 17 = .ok (.bipush 60, 2) := by decide +kernel
theorem dX2_isCaught_19 : decode cX2_isCaught 19 = .ok (.if_icmp .ge 16, 3) := by decide +kernel
theorem dX2_isCaught_22 : decode cX2_isCaught 22 = .ok (.aload_n 0, 1) := by decide +kernel
theorem dX2_isCaught_23 : decode cX2_isCaught 23 = .ok (.getfield 18, 3) := by decide +kernel
theorem dX2_isCaught_26 : decode cX2_isCaught 26 = .ok (.iload_n 1, 1) := by decide +kernel
theorem dX2_isCaught_27 : decode cX2_isCaught 27 = .ok (.baload, 1) := by decide +kernel
theorem dX2_isCaught_28 : decode cX2_isCaught 28 = .ok (.ifCond .eq 7, 3) := by decide +kernel
theorem dX2_isCaught_31 : decode cX2_isCaught 31 = .ok (.iconst 1, 1) := by decide +kernel
theorem dX2_isCaught_32 : decode cX2_isCaught 32 = .ok (.goto 4, 3) := by decide +kernel
theorem dX2_isCaught_35 : decode cX2_isCaught 35 = .ok (.iconst 0, 1) := by decide +kernel
theorem dX2_isCaught_36 : decode cX2_isCaught 36 = .ok (.ireturn, 1) := by decide +kernel
theorem dX2_countStops_0 : decode cX2_countStops 0 = .ok (.iconst 0, 1) := by decide +kernel
theorem dX2_countStops_1 : decode cX2_countStops 1 = .ok (.istore_n 1, 1) := by decide +kernel
theorem dX2_countStops_2 : decode cX2_countStops 2 = .ok (.iconst 0, 1) := by decide +kernel
theorem dX2_countStops_3 : decode cX2_countStops 3 = .ok (.istore_n 2, 1) := by decide +kernel
theorem dX2_countStops_4 : decode cX2_countStops 4 = .ok (.iload_n 2, 1) := by decide +kernel
theorem dX2_countStops_5 : decode cX2_countStops 5 = .ok (.bipush 60, 2) := by decide +kernel
theorem dX2_countStops_7 : decode cX2_countStops 7 = .ok (.if_icmp .ge 21, 3) := by decide +kernel
theorem dX2_countStops_10 : decode cX2_countStops 10 = .ok (.iload_n 1, 1) := by decide +kernel
theorem dX2_countStops_11 : decode cX2_countStops 11 = .ok (.aload_n 0, 1) := by decide +kernel
theorem dX2_countStops_12 : decode cX2_countStops 12 = .ok (.getfield 18, 3) := by decide +kernel
theorem dX2_countStops_15 : decode cX2_countStops 15 = .ok (.iload_n 2, 1) := by decide +kernel
theorem dX2_countStops_16 : decode cX2_countStops 16 = .ok (.baload, 1) := by decide +kernel
theorem dX2_countStops_17 : decode cX2_countStops 17 = .ok (.invokestatic 67, 3) := by decide +kernel
theorem dX2_countStops_20 : decode cX2_countStops 20 = .ok (.iadd, 1) := by decide +kernel
theorem dX2_countStops_21 : decode cX2_countStops 21 = .ok (.istore_n 1, 1) := by decide +kernel
theorem dX2_countStops_22 : decode cX2_countStops 22 = .ok (.iinc 2 1, 3) := by decide +kernel
theorem dX2_countStops_25 : decode cX2_countStops 25 = .ok (.goto (-21), 3) := by decide +kernel
theorem dX2_countStops_28 : decode cX2_countStops 28 = .ok (.iload_n 1, 1) := by decide +kernel
theorem dX2_countStops_29 : decode cX2_countStops 29 = .ok (.ireturn, 1) := by decide +kernel
theorem dX2_reasonAgainst_0 : decode cX2_reasonAgainst 0 = .ok (.aload_n 1, 1) := by decide +kernel
theorem dX2_reasonAgainst_1 : decode cX2_reasonAgainst 1 = .ok (.iload_n 2, 1) := by decide +kernel
theorem dX2_reasonAgainst_2 : decode cX2_reasonAgainst 2 = .ok (.aload_n 0, 1) := by decide +kernel
theorem dX2_reasonAgainst_3 : decode cX2_reasonAgainst 3 = .ok (.getfield 26, 3) := by decide +kernel
theorem dX2_reasonAgainst_6 : decode cX2_reasonAgainst 6 = .ok (.invokevirtual 71, 3) := by decide +kernel
theorem dX2_reasonAgainst_9 : decode cX2_reasonAgainst 9 = .ok (.istore_n 3, 1) := by decide +kernel
theorem dX2_reasonAgainst_10 : decode cX2_reasonAgainst 10 = .ok (.iload_n 3, 1) := by decide +kernel
theorem dX2_reasonAgainst_11 : decode cX2_reasonAgainst 11 = .ok (.ifCond .eq 5, 3) := by decide +kernel
theorem dX2_reasonAgainst_14 : decode cX2_reasonAgainst 14 = .ok (.iload_n 3, 1) := by decide +kernel
theorem dX2_reasonAgainst_15 : decode cX2_reasonAgainst 15 = .ok (.ireturn, 1) := by decide +kernel
theorem dX2_reasonAgainst_16 : decode cX2_reasonAgainst 16 = .ok (.aload_n 0, 1) := by decide +kernel
theorem dX2_reasonAgainst_17 : decode cX2_reasonAgainst 17 = .ok (.invokevirtual 74, 3) := by decide +kernel
theorem dX2_reasonAgainst_20 : decode cX2_reasonAgainst 20 = .ok (.ifCond .eq 5, 3) := by decide +kernel
theorem dX2_reasonAgainst_23 : decode cX2_reasonAgainst 23 = .ok (.iconst 3, 1) := by decide +kernel
theorem dX2_reasonAgainst_24 : decode cX2_reasonAgainst 24 = .ok (.ireturn, 1) := by decide +kernel
theorem dX2_reasonAgainst_25 : decode cX2_reasonAgainst 25 = .ok (.aload_n 0, 1) := by decide +kernel
theorem dX2_reasonAgainst_26 : decode cX2_reasonAgainst 26 = .ok (.getfield 43, 3) := by decide +kernel
theorem dX2_reasonAgainst_29 : decode cX2_reasonAgainst 29 = .ok (.iload_n 2, 1) := by decide +kernel
theorem dX2_reasonAgainst_30 : decode cX2_reasonAgainst 30 = .ok (.iadd, 1) := by decide +kernel
theorem dX2_reasonAgainst_31 : decode cX2_reasonAgainst 31 = .ok (.istore 4, 2) := by decide +kernel
theorem dX2_reasonAgainst_33 : decode cX2_reasonAgainst 33 = .ok (.iload 4, 2) := by decide +kernel
theorem dX2_reasonAgainst_35 : decode cX2_reasonAgainst 35 = .ok (.sipush 9999, 3) := by decide +kernel
theorem dX2_reasonAgainst_38 : decode cX2_reasonAgainst 38 = .ok (.if_icmp .gt 11, 3) := by decide +kernel
theorem dX2_reasonAgainst_41 : decode cX2_reasonAgainst 41 = .ok (.iload 4, 2) := by decide +kernel
theorem dX2_reasonAgainst_43 : decode cX2_reasonAgainst 43 = .ok (.sipush (-9999), 3) := by decide +kernel
theorem dX2_reasonAgainst_46 : decode cX2_reasonAgainst 46 = .ok (.if_icmp .ge 7, 3) := by decide +kernel
theorem dX2_reasonAgainst_49 : decode cX2_reasonAgainst 49 = .ok (.iconst 4, 1) := by decide +kernel
theorem dX2_reasonAgainst_50 : decode cX2_reasonAgainst 50 = .ok (.goto 4, 3) := by decide +kernel
theorem dX2_reasonAgainst_53 : decode cX2_reasonAgainst 53 = .ok (.iconst 0, 1) := by decide +kernel
theorem dX2_reasonAgainst_54 : decode cX2_reasonAgainst 54 = .ok (.ireturn, 1) := by decide +kernel
theorem dX2_makeStep_0 : decode cX2_makeStep 0 = .ok (.aload_n 0, 1) := by decide +kernel
theorem dX2_makeStep_1 : decode cX2_makeStep 1 = .ok (.getfield 12, 3) := by decide +kernel
theorem dX2_makeStep_4 : decode cX2_makeStep 4 = .ok (.iload_n 1, 1) := by decide +kernel
theorem dX2_makeStep_5 : decode cX2_makeStep 5 = .ok (.invokevirtual 78, 3) := by decide +kernel
theorem dX2_makeStep_8 : decode cX2_makeStep 8 = .ok (.aload_n 0, 1) := by decide +kernel
theorem dX2_makeStep_9 : decode cX2_makeStep 9 = .ok (.dup, 1) := by decide +kernel
theorem dX2_makeStep_10 : decode cX2_makeStep 10 = .ok (.getfield 43, 3) := by decide +kernel
theorem dX2_makeStep_13 : decode cX2_makeStep 13 = .ok (.iload_n 1, 1) := by decide +kernel
theorem dX2_makeStep_14 : decode cX2_makeStep 14 = .ok (.iadd, 1) := by decide +kernel
theorem dX2_makeStep_15 : decode cX2_makeStep 15 = .ok (.putfield 43, 3) := by decide +kernel
theorem dX2_makeStep_18 : decode cX2_makeStep 18 = .ok (.aload_n 0, 1) := by decide +kernel
theorem dX2_makeStep_19 : decode cX2_makeStep 19 = .ok (.iconst 0, 1) := by decide +kernel
theorem dX2_makeStep_20 : decode cX2_makeStep 20 = .ok (.putfield 46, 3) := by decide +kernel
theorem dX2_makeStep_23 : decode cX2_makeStep 23 = .ok (.iload_n 1, 1) := by decide +kernel
theorem dX2_makeStep_24 : decode cX2_makeStep 24 = .ok (.ifCond .le 16, 3) := by decide +kernel
theorem dX2_makeStep_27 : decode cX2_makeStep 27 = .ok (.aload_n 0, 1) := by decide +kernel
theorem dX2_makeStep_28 : decode cX2_makeStep 28 = .ok (.dup, 1) := by decide +kernel
theorem dX2_makeStep_29 : decode cX2_makeStep 29 = .ok (.getfield 50, 3) := by decide +kernel
theorem dX2_makeStep_32 : decode cX2_makeStep 32 = .ok (.iconst 1, 1) := by decide +kernel
theorem dX2_makeStep_33 : decode cX2_makeStep 33 = .ok (.iadd, 1) := by decide +kernel
theorem dX2_makeStep_34 : decode cX2_makeStep 34 = .ok (.putfield 50, 3) := by decide +kernel
theorem dX2_makeStep_37 : decode cX2_makeStep 37 = .ok (.goto 13, 3) := by decide +kernel
theorem dX2_makeStep_40 : decode cX2_makeStep 40 = .ok (.aload_n 0, 1) := by decide +kernel
theorem dX2_makeStep_41 : decode cX2_makeStep 41 = .ok (.dup, 1) := by decide +kernel
theorem dX2_makeStep_42 : decode cX2_makeStep 42 = .ok (.getfield 53, 3) := by decide +kernel
theorem dX2_makeStep_45 : decode cX2_makeStep 45 = .ok (.iconst 1, 1) := by decide +kernel
theorem dX2_makeStep_46 : decode cX2_makeStep 46 = .ok (.iadd, 1) := by decide +kernel
theorem dX2_makeStep_47 : decode cX2_makeStep 47 = .ok (.putfield 53, 3) := by decide +kernel
theorem dX2_makeStep_50 : decode cX2_makeStep 50 = .ok (.return_, 1) := by decide +kernel
theorem dX2_addScene_0 : decode cX2_addScene 0 = .ok (.aload_n 0, 1) := by decide +kernel
theorem dX2_addScene_1 : decode cX2_addScene 1 = .ok (.getfield 40, 3) := by decide +kernel
theorem dX2_addScene_4 : decode cX2_addScene 4 = .ok (.ifCond .lt 12, 3) := by decide +kernel
theorem dX2_addScene_7 : decode cX2_addScene 7 = .ok (.aload_n 0, 1) := by decide +kernel
theorem dX2_addScene_8 : decode cX2_addScene 8 = .ok (.getfield 40, 3) := by decide +kernel
theorem dX2_addScene_11 : decode cX2_addScene 11 = .ok (.bipush 6, 2) := by decide +kernel
theorem dX2_addScene_13 : decode cX2_addScene 13 = .ok (.if_icmp .lt 4, 3) := by decide +kernel
theorem dX2_addScene_16 : decode cX2_addScene 16 = .ok (.return_, 1) := by decide +kernel
theorem dX2_addScene_17 : decode cX2_addScene 17 = .ok (.iconst 0, 1) := by decide +kernel
theorem dX2_addScene_18 : decode cX2_addScene 18 = .ok (.istore_n 1, 1) := by decide +kernel
theorem dX2_addScene_19 : decode cX2_addScene 19 = .ok (.iload_n 1, 1) := by decide +kernel
theorem dX2_addScene_20 : decode cX2_addScene 20 = .ok (.iconst 5, 1) := by decide +kernel
theorem dX2_addScene_21 : decode cX2_addScene 21 = .ok (.if_icmp .ge 31, 3) := by decide +kernel
theorem dX2_addScene_24 : decode cX2_addScene 24 = .ok (.aload_n 0, 1) := by decide +kernel
theorem dX2_addScene_25 : decode cX2_addScene 25 = .ok (.getfield 22, 3) := by decide +kernel
theorem dX2_addScene_28 : decode cX2_addScene 28 = .ok (.aload_n 0, 1) := by decide +kernel
theorem dX2_addScene_29 : decode cX2_addScene 29 = .ok (.getfield 40, 3) := by decide +kernel
theorem dX2_addScene_32 : decode cX2_addScene 32 = .ok (.iconst 5, 1) := by decide +kernel
theorem dX2_addScene_33 : decode cX2_addScene 33 = .ok (.imul, 1) := by decide +kernel
theorem dX2_addScene_34 : decode cX2_addScene 34 = .ok (.iload_n 1, 1) := by decide +kernel
theorem dX2_addScene_35 : decode cX2_addScene 35 = .ok (.iadd, 1) := by decide +kernel
theorem dX2_addScene_36 : decode cX2_addScene 36 = .ok (.aload_n 0, 1) := by decide +kernel
theorem dX2_addScene_37 : decode cX2_addScene 37 = .ok (.getfield 12, 3) := by decide +kernel
theorem dX2_addScene_40 : decode cX2_addScene 40 = .ok (.iload_n 1, 1) := by decide +kernel
theorem dX2_addScene_41 : decode cX2_addScene 41 = .ok (.iconst 0, 1) := by decide +kernel
theorem dX2_addScene_42 : decode cX2_addScene 42 = .ok (.invokevirtual 82, 3) := by decide +kernel
theorem dX2_addScene_45 : decode cX2_addScene 45 = .ok (.iastore, 1) := by decide +kernel
theorem dX2_addScene_46 : decode cX2_addScene 46 = .ok (.iinc 1 1, 3) := by decide +kernel
theorem dX2_addScene_49 : decode cX2_addScene 49 = .ok (.goto (-30), 3) := by decide +kernel
theorem dX2_addScene_52 : decode cX2_addScene 52 = .ok (.aload_n 0, 1) := by decide +kernel
theorem dX2_addScene_53 : decode cX2_addScene 53 = .ok (.dup, 1) := by decide +kernel
theorem dX2_addScene_54 : decode cX2_addScene 54 = .ok (.getfield 40, 3) := by decide +kernel
theorem dX2_addScene_57 : decode cX2_addScene 57 = .ok (.iconst 1, 1) := by decide +kernel
theorem dX2_addScene_58 : decode cX2_addScene 58 = .ok (.iadd, 1) := by decide +kernel
theorem dX2_addScene_59 : decode cX2_addScene 59 = .ok (.putfield 40, 3) := by decide +kernel
theorem dX2_addScene_62 : decode cX2_addScene 62 = .ok (.return_, 1) := by decide +kernel
theorem dX2_dropScene_0 : decode cX2_dropScene 0 = .ok (.iload_n 1, 1) := by decide +kernel
theorem dX2_dropScene_1 : decode cX2_dropScene 1 = .ok (.iconst 1, 1) := by decide +kernel
theorem dX2_dropScene_2 : decode cX2_dropScene 2 = .ok (.iadd, 1) := by decide +kernel
theorem dX2_dropScene_3 : decode cX2_dropScene 3 = .ok (.istore_n 2, 1) := by decide +kernel
theorem dX2_dropScene_4 : decode cX2_dropScene 4 = .ok (.iload_n 2, 1) := by decide +kernel
theorem dX2_dropScene_5 : decode cX2_dropScene 5 = .ok (.aload_n 0, 1) := by decide +kernel
theorem dX2_dropScene_6 : decode cX2_dropScene 6 = .ok (.getfield 40, 3) := by decide +kernel
theorem dX2_dropScene_9 : decode cX2_dropScene 9 = .ok (.if_icmp .ge 29, 3) := by decide +kernel
theorem dX2_dropScene_12 : decode cX2_dropScene 12 = .ok (.aload_n 0, 1) := by decide +kernel
theorem dX2_dropScene_13 : decode cX2_dropScene 13 = .ok (.getfield 22, 3) := by decide +kernel
theorem dX2_dropScene_16 : decode cX2_dropScene 16 = .ok (.iload_n 2, 1) := by decide +kernel
theorem dX2_dropScene_17 : decode cX2_dropScene 17 = .ok (.iconst 5, 1) := by decide +kernel
theorem dX2_dropScene_18 : decode cX2_dropScene 18 = .ok (.imul, 1) := by decide +kernel
theorem dX2_dropScene_19 : decode cX2_dropScene 19 = .ok (.aload_n 0, 1) := by decide +kernel
theorem dX2_dropScene_20 : decode cX2_dropScene 20 = .ok (.getfield 22, 3) := by decide +kernel
theorem dX2_dropScene_23 : decode cX2_dropScene 23 = .ok (.iload_n 2, 1) := by decide +kernel
theorem dX2_dropScene_24 : decode cX2_dropScene 24 = .ok (.iconst 1, 1) := by decide +kernel
theorem dX2_dropScene_25 : decode cX2_dropScene 25 = .ok (.isub, 1) := by decide +kernel
theorem dX2_dropScene_26 : decode cX2_dropScene 26 = .ok (.iconst 5, 1) := by decide +kernel
theorem dX2_dropScene_27 : decode cX2_dropScene 27 = .ok (.imul, 1) := by decide +kernel
theorem dX2_dropScene_28 : decode cX2_dropScene 28 = .ok (.iconst 5, 1) := by decide +kernel
theorem dX2_dropScene_29 : decode cX2_dropScene 29 = .ok (.invokestatic 34, 3) := by decide +kernel
theorem dX2_dropScene_32 : decode cX2_dropScene 32 = .ok (.iinc 2 1, 3) := by decide +kernel
theorem dX2_dropScene_35 : decode cX2_dropScene 35 = .ok (.goto (-31), 3) := by decide +kernel
theorem dX2_dropScene_38 : decode cX2_dropScene 38 = .ok (.aload_n 0, 1) := by decide +kernel
theorem dX2_dropScene_39 : decode cX2_dropScene 39 = .ok (.dup, 1) := by decide +kernel
theorem dX2_dropScene_40 : decode cX2_dropScene 40 = .ok (.getfield 40, 3) := by decide +kernel
theorem dX2_dropScene_43 : decode cX2_dropScene 43 = .ok (.iconst 1, 1) := by decide +kernel
theorem dX2_dropScene_44 : decode cX2_dropScene 44 = .ok (.isub, 1) := by decide +kernel
theorem dX2_dropScene_45 : decode cX2_dropScene 45 = .ok (.putfield 40, 3) := by decide +kernel
theorem dX2_dropScene_48 : decode cX2_dropScene 48 = .ok (.return_, 1) := by decide +kernel
theorem dX2_heightInScene_0 : decode cX2_heightInScene 0 = .ok (.iload_n 1, 1) := by decide +kernel
theorem dX2_heightInScene_1 : decode cX2_heightInScene 1 = .ok (.ifCond .lt 20, 3) := by decide +kernel
theorem dX2_heightInScene_4 : decode cX2_heightInScene 4 = .ok (.iload_n 1, 1) := by decide +kernel
theorem dX2_heightInScene_5 : decode cX2_heightInScene 5 = .ok (.bipush 6, 2) := by decide +kernel
theorem dX2_heightInScene_7 : decode cX2_heightInScene 7 = .ok (.if_icmp .ge 14, 3) := by decide +kernel
theorem dX2_heightInScene_10 : decode cX2_heightInScene 10 = .ok (.iload_n 2, 1) := by decide +kernel
theorem dX2_heightInScene_11 : decode cX2_heightInScene 11 = .ok (.invokestatic 85, 3) := by decide +kernel
theorem dX2_heightInScene_14 : decode cX2_heightInScene 14 = .ok (.ifCond .eq 7, 3) := by decide +kernel
theorem dX2_heightInScene_17 : decode cX2_heightInScene 17 = .ok (.iconst 1, 1) := by decide +kernel
theorem dX2_heightInScene_18 : decode cX2_heightInScene 18 = .ok (.goto 4, 3) := by decide +kernel
theorem dX2_heightInScene_21 : decode cX2_heightInScene 21 = .ok (.iconst 0, 1) := by decide +kernel
theorem dX2_heightInScene_22 : decode cX2_heightInScene 22 = .ok (.istore_n 3, 1) := by decide +kernel
theorem dX2_heightInScene_23 : decode cX2_heightInScene 23 = .ok (.iload_n 3, 1) := by decide +kernel
theorem dX2_heightInScene_24 : decode cX2_heightInScene 24 = .ok (.ifCond .eq 16, 3) := by decide +kernel
theorem dX2_heightInScene_27 : decode cX2_heightInScene 27 = .ok (.aload_n 0, 1) := by decide +kernel
theorem dX2_heightInScene_28 : decode cX2_heightInScene 28 = .ok (.getfield 22, 3) := by decide +kernel
theorem dX2_heightInScene_31 : decode cX2_heightInScene 31 = .ok (.iload_n 1, 1) := by decide +kernel
theorem dX2_heightInScene_32 : decode cX2_heightInScene 32 = .ok (.iconst 5, 1) := by decide +kernel
theorem dX2_heightInScene_33 : decode cX2_heightInScene 33 = .ok (.imul, 1) := by decide +kernel
theorem dX2_heightInScene_34 : decode cX2_heightInScene 34 = .ok (.iload_n 2, 1) := by decide +kernel
theorem dX2_heightInScene_35 : decode cX2_heightInScene 35 = .ok (.iadd, 1) := by decide +kernel
theorem dX2_heightInScene_36 : decode cX2_heightInScene 36 = .ok (.iaload, 1) := by decide +kernel
theorem dX2_heightInScene_37 : decode cX2_heightInScene 37 = .ok (.goto 4, 3) := by decide +kernel
theorem dX2_heightInScene_40 : decode cX2_heightInScene 40 = .ok (.iconst 0, 1) := by decide +kernel
theorem dX2_heightInScene_41 : decode cX2_heightInScene 41 = .ok (.ireturn, 1) := by decide +kernel
theorem dX2_faultOfScene_0 : decode cX2_faultOfScene 0 = .ok (.aload_n 0, 1) := by decide +kernel
theorem dX2_faultOfScene_1 : decode cX2_faultOfScene 1 = .ok (.iload_n 1, 1) := by decide +kernel
theorem dX2_faultOfScene_2 : decode cX2_faultOfScene 2 = .ok (.iconst 0, 1) := by decide +kernel
theorem dX2_faultOfScene_3 : decode cX2_faultOfScene 3 = .ok (.invokevirtual 89, 3) := by decide +kernel
theorem dX2_faultOfScene_6 : decode cX2_faultOfScene 6 = .ok (.aload_n 0, 1) := by decide +kernel
theorem dX2_faultOfScene_7 : decode cX2_faultOfScene 7 = .ok (.iload_n 1, 1) := by decide +kernel
theorem dX2_faultOfScene_8 : decode cX2_faultOfScene 8 = .ok (.iconst 1, 1) := by decide +kernel
theorem dX2_faultOfScene_9 : decode cX2_faultOfScene 9 = .ok (.invokevirtual 89, 3) := by decide +kernel
theorem dX2_faultOfScene_12 : decode cX2_faultOfScene 12 = .ok (.aload_n 0, 1) := by decide +kernel
theorem dX2_faultOfScene_13 : decode cX2_faultOfScene 13 = .ok (.iload_n 1, 1) := by decide +kernel
theorem dX2_faultOfScene_14 : decode cX2_faultOfScene 14 = .ok (.iconst 2, 1) := by decide +kernel
theorem dX2_faultOfScene_15 : decode cX2_faultOfScene 15 = .ok (.invokevirtual 89, 3) := by decide +kernel
theorem dX2_faultOfScene_18 : decode cX2_faultOfScene 18 = .ok (.aload_n 0, 1) := by decide +kernel
theorem dX2_faultOfScene_19 : decode cX2_faultOfScene 19 = .ok (.iload_n 1, 1) := by decide +kernel
theorem dX2_faultOfScene_20 : decode cX2_faultOfScene 20 = .ok (.iconst 3, 1) := by decide +kernel
theorem dX2_faultOfScene_21 : decode cX2_faultOfScene 21 = .ok (.invokevirtual 89, 3) := by decide +kernel
theorem dX2_faultOfScene_24 : decode cX2_faultOfScene 24 = .ok (.aload_n 0, 1) := by decide +kernel
theorem dX2_faultOfScene_25 : decode cX2_faultOfScene 25 = .ok (.iload_n 1, 1) := by decide +kernel
theorem dX2_faultOfScene_26 : decode cX2_faultOfScene 26 = .ok (.iconst 4, 1) := by decide +kernel
theorem dX2_faultOfScene_27 : decode cX2_faultOfScene 27 = .ok (.invokevirtual 89, 3) := by decide +kernel
theorem dX2_faultOfScene_30 : decode cX2_faultOfScene 30 = .ok (.aload_n 0, 1) := by decide +kernel
theorem dX2_faultOfScene_31 : decode cX2_faultOfScene 31 = .ok (.getfield 26, 3) := by decide +kernel
theorem dX2_faultOfScene_34 : decode cX2_faultOfScene 34 = .ok (.invokestatic 92, 3) := by decide +kernel
theorem dX2_faultOfScene_37 : decode cX2_faultOfScene 37 = .ok (.ireturn, 1) := by decide +kernel
theorem dX2_isSceneBehind_0 : decode cX2_isSceneBehind 0 = .ok (.iconst 0, 1) := by decide +kernel
theorem dX2_isSceneBehind_1 : decode cX2_isSceneBehind 1 = .ok (.istore_n 3, 1) := by decide +kernel
theorem dX2_isSceneBehind_2 : decode cX2_isSceneBehind 2 = .ok (.iload_n 3, 1) := by decide +kernel
theorem dX2_isSceneBehind_3 : decode cX2_isSceneBehind 3 = .ok (.iconst 5, 1) := by decide +kernel
theorem dX2_isSceneBehind_4 : decode cX2_isSceneBehind 4 = .ok (.if_icmp .ge 29, 3) := by decide +kernel
theorem dX2_isSceneBehind_7 : decode cX2_isSceneBehind 7 = .ok (.aload_n 0, 1) := by decide +kernel
theorem dX2_isSceneBehind_8 : decode cX2_isSceneBehind 8 = .ok (.getfield 12, 3) := by decide +kernel
theorem dX2_isSceneBehind_11 : decode cX2_isSceneBehind 11 = .ok (.iload_n 3, 1) := by decide +kernel
theorem dX2_isSceneBehind_12 : decode cX2_isSceneBehind 12 = .ok (.iload_n 2, 1) := by decide +kernel
theorem dX2_isSceneBehind_13 : decode cX2_isSceneBehind 13 = .ok (.invokevirtual 82, 3) := by decide +kernel
theorem dX2_isSceneBehind_16 : decode cX2_isSceneBehind 16 = .ok (.aload_n 0, 1) := by decide +kernel
theorem dX2_isSceneBehind_17 : decode cX2_isSceneBehind 17 = .ok (.iload_n 1, 1) := by decide +kernel
theorem dX2_isSceneBehind_18 : decode cX2_isSceneBehind 18 = .ok (.iload_n 3, 1) := by decide +kernel
theorem dX2_isSceneBehind_19 : decode cX2_isSceneBehind 19 = .ok (.invokevirtual 89, 3) := by decide +kernel
theorem dX2_isSceneBehind_22 : decode cX2_isSceneBehind 22 = .ok (.if_icmp .eq 5, 3) := by decide +kernel
theorem dX2_isSceneBehind_25 : decode cX2_isSceneBehind 25 = .ok (.iconst 0, 1) := by decide +kernel
theorem dX2_isSceneBehind_26 : decode cX2_isSceneBehind 26 = .ok (.ireturn, 1) := by decide +kernel
theorem dX2_isSceneBehind_27 : decode cX2_isSceneBehind 27 = .ok (.iinc 3 1, 3) := by decide +kernel
theorem dX2_isSceneBehind_30 : decode cX2_isSceneBehind 30 = .ok (.goto (-28), 3) := by decide +kernel
theorem dX2_isSceneBehind_33 : decode cX2_isSceneBehind 33 = .ok (.iconst 1, 1) := by decide +kernel
theorem dX2_isSceneBehind_34 : decode cX2_isSceneBehind 34 = .ok (.ireturn, 1) := by decide +kernel
theorem dX3_init_0 : decode cX3_init 0 = .ok (.aload_n 0, 1) := by decide +kernel
theorem dX3_init_1 : decode cX3_init 1 = .ok (.invokespecial 3, 3) := by decide +kernel
theorem dX3_init_4 : decode cX3_init 4 = .ok (.aload_n 0, 1) := by decide +kernel
theorem dX3_init_5 : decode cX3_init 5 = .ok (.bipush 60, 2) := by decide +kernel
theorem dX3_init_7 : decode cX3_init 7 = .ok (.newarray .int, 2) := by decide +kernel
theorem dX3_init_9 : decode cX3_init 9 = .ok (.putfield 9, 3) := by decide +kernel
theorem dX3_init_12 : decode cX3_init 12 = .ok (.return_, 1) := by decide +kernel
theorem dX3_add_0 : decode cX3_add 0 = .ok (.aload_n 0, 1) := by decide +kernel
theorem dX3_add_1 : decode cX3_add 1 = .ok (.getfield 15, 3) := by decide +kernel
theorem dX3_add_4 : decode cX3_add 4 = .ok (.ifCond .lt 32, 3) := by decide +kernel
theorem dX3_add_7 : decode cX3_add 7 = .ok (.aload_n 0, 1) := by decide +kernel
theorem dX3_add_8 : decode cX3_add 8 = .ok (.getfield 15, 3) := by decide +kernel
theorem dX3_add_11 : decode cX3_add 11 = .ok (.bipush 60, 2) := by decide +kernel
theorem dX3_add_13 : decode cX3_add 13 = .ok (.if_icmp .ge 23, 3) := by decide +kernel
theorem dX3_add_16 : decode cX3_add 16 = .ok (.aload_n 0, 1) := by decide +kernel
theorem dX3_add_17 : decode cX3_add 17 = .ok (.getfield 9, 3) := by decide +kernel
theorem dX3_add_20 : decode cX3_add 20 = .ok (.aload_n 0, 1) := by decide +kernel
theorem dX3_add_21 : decode cX3_add 21 = .ok (.getfield 15, 3) := by decide +kernel
theorem dX3_add_24 : decode cX3_add 24 = .ok (.iload_n 1, 1) := by decide +kernel
theorem dX3_add_25 : decode cX3_add 25 = .ok (.iastore, 1) := by decide +kernel
theorem dX3_add_26 : decode cX3_add 26 = .ok (.aload_n 0, 1) := by decide +kernel
theorem dX3_add_27 : decode cX3_add 27 = .ok (.dup, 1) := by decide +kernel
theorem dX3_add_28 : decode cX3_add 28 = .ok (.getfield 15, 3) := by decide +kernel
theorem dX3_add_31 : decode cX3_add 31 = .ok (.iconst 1, 1) := by decide +kernel
theorem dX3_add_32 : decode cX3_add 32 = .ok (.iadd, 1) := by decide +kernel
theorem dX3_add_33 : decode cX3_add 33 = .ok (.putfield 15, 3) := by decide +kernel
theorem dX3_add_36 : decode cX3_add 36 = .ok (.return_, 1) := by decide +kernel
theorem dX3_codeAt_0 : decode cX3_codeAt 0 = .ok (.iload_n 1, 1) := by decide +kernel
theorem dX3_codeAt_1 : decode cX3_codeAt 1 = .ok (.ifCond .lt 26, 3) := by decide +kernel
theorem dX3_codeAt_4 : decode cX3_codeAt 4 = .ok (.iload_n 1, 1) := by decide +kernel
theorem dX3_codeAt_5 : decode cX3_codeAt 5 = .ok (.aload_n 0, 1) := by decide +kernel
theorem dX3_codeAt_6 : decode cX3_codeAt 6 = .ok (.getfield 15, 3) := by decide +kernel
theorem dX3_codeAt_9 : decode cX3_codeAt 9 = .ok (.if_icmp .ge 18, 3) := by decide +kernel
theorem dX3_codeAt_12 : decode cX3_codeAt 12 = .ok (.iload_n 1, 1) := by decide +kernel
theorem dX3_codeAt_13 : decode cX3_codeAt 13 = .ok (.bipush 60, 2) := by decide +kernel
theorem dX3_codeAt_15 : decode cX3_codeAt 15 = .ok (.if_icmp .ge 12, 3) := by decide +kernel
theorem dX3_codeAt_18 : decode cX3_codeAt 18 = .ok (.aload_n 0, 1) := by decide +kernel
theorem dX3_codeAt_19 : decode cX3_codeAt 19 = .ok (.getfield 9, 3) := by decide +kernel
theorem dX3_codeAt_22 : decode cX3_codeAt 22 = .ok (.iload_n 1, 1) := by decide +kernel
theorem dX3_codeAt_23 : decode cX3_codeAt 23 = .ok (.iaload, 1) := by decide +kernel
theorem dX3_codeAt_24 : decode cX3_codeAt 24 = .ok (.goto 4, 3) := by decide +kernel
theorem dX3_codeAt_27 : decode cX3_codeAt 27 = .ok (.iconst 0, 1) := by decide +kernel
theorem dX3_codeAt_28 : decode cX3_codeAt 28 = .ok (.ireturn, 1) := by decide +kernel
theorem dX3_figureAt_0 : decode cX3_figureAt 0 = .ok (.aload_n 0, 1) := by decide +kernel
theorem dX3_figureAt_1 : decode cX3_figureAt 1 = .ok (.iload_n 1, 1) := by decide +kernel
theorem dX3_figureAt_2 : decode cX3_figureAt 2 = .ok (.invokevirtual 19, 3) := by decide +kernel
theorem dX3_figureAt_5 : decode cX3_figureAt 5 = .ok (.istore_n 2, 1) := by decide +kernel
theorem dX3_figureAt_6 : decode cX3_figureAt 6 = .ok (.iload_n 2, 1) := by decide +kernel
theorem dX3_figureAt_7 : decode cX3_figureAt 7 = .ok (.bipush 48, 2) := by decide +kernel
theorem dX3_figureAt_9 : decode cX3_figureAt 9 = .ok (.if_icmp .lt 16, 3) := by decide +kernel
theorem dX3_figureAt_12 : decode cX3_figureAt 12 = .ok (.iload_n 2, 1) := by decide +kernel
theorem dX3_figureAt_13 : decode cX3_figureAt 13 = .ok (.bipush 57, 2) := by decide +kernel
theorem dX3_figureAt_15 : decode cX3_figureAt 15 = .ok (.if_icmp .gt 10, 3) := by decide +kernel
theorem dX3_figureAt_18 : decode cX3_figureAt 18 = .ok (.iload_n 2, 1) := by decide +kernel
theorem dX3_figureAt_19 : decode cX3_figureAt 19 = .ok (.bipush 48, 2) := by decide +kernel
theorem dX3_figureAt_21 : decode cX3_figureAt 21 = .ok (.isub, 1) := by decide +kernel
theorem dX3_figureAt_22 : decode cX3_figureAt 22 = .ok (.goto 4, 3) := by decide +kernel
theorem dX3_figureAt_25 : decode cX3_figureAt 25 = .ok (.iconst (-1), 1) := by decide +kernel
theorem dX3_figureAt_26 : decode cX3_figureAt 26 = .ok (.ireturn, 1) := by decide +kernel
theorem dX3_read_0 : decode cX3_read 0 = .ok (.aload_n 0, 1) := by decide +kernel
theorem dX3_read_1 : decode cX3_read 1 = .ok (.iconst 0, 1) := by decide +kernel
theorem dX3_read_2 : decode cX3_read 2 = .ok (.putfield 23, 3) := by decide +kernel
theorem dX3_read_5 : decode cX3_read 5 = .ok (.aload_n 0, 1) := by decide +kernel
theorem dX3_read_6 : decode cX3_read 6 = .ok (.iconst 0, 1) := by decide +kernel
theorem dX3_read_7 : decode cX3_read 7 = .ok (.putfield 26, 3) := by decide +kernel
theorem dX3_read_10 : decode cX3_read 10 = .ok (.iconst 0, 1) := by decide +kernel
theorem dX3_read_11 : decode cX3_read 11 = .ok (.istore_n 1, 1) := by decide +kernel
theorem dX3_read_12 : decode cX3_read 12 = .ok (.iload_n 1, 1) := by decide +kernel
theorem dX3_read_13 : decode cX3_read 13 = .ok (.aload_n 0, 1) := by decide +kernel
theorem dX3_read_14 : decode cX3_read 14 = .ok (.getfield 15, 3) := by decide +kernel
theorem dX3_read_17 : decode cX3_read 17 = .ok (.if_icmp .ge 33, 3) := by decide +kernel
theorem dX3_read_20 : decode cX3_read 20 = .ok (.aload_n 0, 1) := by decide +kernel
theorem dX3_read_21 : decode cX3_read 21 = .ok (.aload_n 0, 1) := by decide +kernel
theorem dX3_read_22 : decode cX3_read 22 = .ok (.aload_n 0, 1) := by decide +kernel
theorem dX3_read_23 : decode cX3_read 23 = .ok (.iload_n 1, 1) := by decide +kernel
theorem dX3_read_24 : decode cX3_read 24 = .ok (.invokevirtual 19, 3) := by decide +kernel
theorem dX3_read_27 : decode cX3_read 27 = .ok (.invokevirtual 29, 3) := by decide +kernel
theorem dX3_read_30 : decode cX3_read 30 = .ok (.putfield 23, 3) := by decide +kernel
theorem dX3_read_33 : decode cX3_read 33 = .ok (.aload_n 0, 1) := by decide +kernel
theorem dX3_read_34 : decode cX3_read 34 = .ok (.getfield 23, 3) := by decide +kernel
theorem dX3_read_37 : decode cX3_read 37 = .ok (.bipush 6, 2) := by decide +kernel
theorem dX3_read_39 : decode cX3_read 39 = .ok (.if_icmp .ne 5, 3) := by decide +kernel
theorem dX3_read_42 : decode cX3_read 42 = .ok (.iload_n 1, 1) := by decide +kernel
theorem dX3_read_43 : decode cX3_read 43 = .ok (.ireturn, 1) := by decide +kernel
theorem dX3_read_44 : decode cX3_read 44 = .ok (.iinc 1 1, 3) := by decide +kernel
theorem dX3_read_47 : decode cX3_read 47 = .ok (.goto (-35), 3) := by decide +kernel
theorem dX3_read_50 : decode cX3_read 50 = .ok (.aload_n 0, 1) := by decide +kernel
theorem dX3_read_51 : decode cX3_read 51 = .ok (.getfield 15, 3) := by decide +kernel
theorem dX3_read_54 : decode cX3_read 54 = .ok (.ireturn, 1) := by decide +kernel
theorem dX3_isComplete_0 : decode cX3_isComplete 0 = .ok (.aload_n 0, 1) := by decide +kernel
theorem dX3_isComplete_1 : decode cX3_isComplete 1 = .ok (.invokevirtual 32, 3) := by decide +kernel
theorem dX3_isComplete_4 : decode cX3_isComplete 4 = .ok (.aload_n 0, 1) := by decide +kernel
theorem dX3_isComplete_5 : decode cX3_isComplete 5 = .ok (.getfield 15, 3) := by decide +kernel
theorem dX3_isComplete_8 : decode cX3_isComplete 8 = .ok (.if_icmp .ne 30, 3) := by decide +kernel
theorem dX3_isComplete_11 : decode cX3_isComplete 11 = .ok (.aload_n 0, 1) := by decide +kernel
theorem dX3_isComplete_12 : decode cX3_isComplete 12 = .ok (.getfield 26, 3) := by decide +kernel
theorem dX3_isComplete_15 : decode cX3_isComplete 15 = .ok (.ifCond .ne 23, 3) := by decide +kernel
theorem dX3_isComplete_18 : decode cX3_isComplete 18 = .ok (.aload_n 0, 1) := by decide +kernel
theorem dX3_isComplete_19 : decode cX3_isComplete 19 = .ok (.getfield 23, 3) := by decide +kernel
theorem dX3_isComplete_22 : decode cX3_isComplete 22 = .ok (.iconst 3, 1) := by decide +kernel
theorem dX3_isComplete_23 : decode cX3_isComplete 23 = .ok (.if_icmp .eq 11, 3) := by decide +kernel
theorem dX3_isComplete_26 : decode cX3_isComplete 26 = .ok (.aload_n 0, 1) := by decide +kernel
theorem dX3_isComplete_27 : decode cX3_isComplete 27 = .ok (.getfield 23, 3) := by decide +kernel
theorem dX3_isComplete_30 : decode cX3_isComplete 30 = .ok (.iconst 2, 1) := by decide +kernel
theorem dX3_isComplete_31 : decode cX3_isComplete 31 = .ok (.if_icmp .ne 7, 3) := by decide +kernel
theorem dX3_isComplete_34 : decode cX3_isComplete 34 = .ok (.iconst 1, 1) := by decide +kernel
theorem dX3_isComplete_35 : decode cX3_isComplete 35 = .ok (.goto 4, 3) := by decide +kernel
theorem dX3_isComplete_38 : decode cX3_isComplete 38 = .ok (.iconst 0, 1) := by decide +kernel
theorem dX3_isComplete_39 : decode cX3_isComplete 39 = .ok (.ireturn, 1) := by decide +kernel
theorem dX3_awaitedBehind_0 : decode cX3_awaitedBehind 0 = .ok (.aload_n 0, 1) := by decide +kernel
theorem dX3_awaitedBehind_1 : decode cX3_awaitedBehind 1 = .ok (.getfield 23, 3) := by decide +kernel
theorem dX3_awaitedBehind_4 : decode cX3_awaitedBehind 4 = .ok (.tableswitch 145 1 5 #[36, 62, 103, 109, 127], 36) := by decide +kernel
theorem dX3_awaitedBehind_40 : decode cX3_awaitedBehind 40 = .ok (.aload_n 0, 1) := by decide +kernel
theorem dX3_awaitedBehind_41 : decode cX3_awaitedBehind 41 = .ok (.iload_n 1, 1) := by decide +kernel
theorem dX3_awaitedBehind_42 : decode cX3_awaitedBehind 42 = .ok (.bipush 48, 2) := by decide +kernel
theorem dX3_awaitedBehind_44 : decode cX3_awaitedBehind 44 = .ok (.isub, 1) := by decide +kernel
theorem dX3_awaitedBehind_45 : decode cX3_awaitedBehind 45 = .ok (.putfield 36, 3) := by decide +kernel
theorem dX3_awaitedBehind_48 : decode cX3_awaitedBehind 48 = .ok (.iload_n 1, 1) := by decide +kernel
theorem dX3_awaitedBehind_49 : decode cX3_awaitedBehind 49 = .ok (.bipush 49, 2) := by decide +kernel
theorem dX3_awaitedBehind_51 : decode cX3_awaitedBehind 51 = .ok (.bipush 57, 2) := by decide +kernel
theorem dX3_awaitedBehind_53 : decode cX3_awaitedBehind 53 = .ok (.invokestatic 39, 3) := by decide +kernel
theorem dX3_awaitedBehind_56 : decode cX3_awaitedBehind 56 = .ok (.ifCond .eq 7, 3) := by decide +kernel
theorem dX3_awaitedBehind_59 : decode cX3_awaitedBehind 59 = .ok (.iconst 2, 1) := by decide +kernel
theorem dX3_awaitedBehind_60 : decode cX3_awaitedBehind 60 = .ok (.goto 5, 3) := by decide +kernel
theorem dX3_awaitedBehind_63 : decode cX3_awaitedBehind 63 = .ok (.bipush 6, 2) := by decide +kernel
theorem dX3_awaitedBehind_65 : decode cX3_awaitedBehind 65 = .ok (.ireturn, 1) := by decide +kernel
theorem dX3_awaitedBehind_66 : decode cX3_awaitedBehind 66 = .ok (.iload_n 1, 1) := by decide +kernel
theorem dX3_awaitedBehind_67 : decode cX3_awaitedBehind 67 = .ok (.bipush 48, 2) := by decide +kernel
theorem dX3_awaitedBehind_69 : decode cX3_awaitedBehind 69 = .ok (.bipush 57, 2) := by decide +kernel
theorem dX3_awaitedBehind_71 : decode cX3_awaitedBehind 71 = .ok (.invokestatic 39, 3) := by decide +kernel
theorem dX3_awaitedBehind_74 : decode cX3_awaitedBehind 74 = .ok (.ifCond .eq 27, 3) := by decide +kernel
theorem dX3_awaitedBehind_77 : decode cX3_awaitedBehind 77 = .ok (.aload_n 0, 1) := by decide +kernel
theorem dX3_awaitedBehind_78 : decode cX3_awaitedBehind 78 = .ok (.getfield 36, 3) := by decide +kernel
theorem dX3_awaitedBehind_81 : decode cX3_awaitedBehind 81 = .ok (.bipush 10, 2) := by decide +kernel
theorem dX3_awaitedBehind_83 : decode cX3_awaitedBehind 83 = .ok (.imul, 1) := by decide +kernel
theorem dX3_awaitedBehind_84 : decode cX3_awaitedBehind 84 = .ok (.iload_n 1, 1) := by decide +kernel
theorem dX3_awaitedBehind_85 : decode cX3_awaitedBehind 85 = .ok (.iadd, 1) := by decide +kernel
theorem dX3_awaitedBehind_86 : decode cX3_awaitedBehind 86 = .ok (.bipush 48, 2) := by decide +kernel
theorem dX3_awaitedBehind_88 : decode cX3_awaitedBehind 88 = .ok (.isub, 1) := by decide +kernel
theorem dX3_awaitedBehind_89 : decode cX3_awaitedBehind 89 = .ok (.bipush 60, 2) := by decide +kernel
theorem dX3_awaitedBehind_91 : decode cX3_awaitedBehind 91 = .ok (.if_icmp .gt 7, 3) := by decide +kernel
theorem dX3_awaitedBehind_94 : decode cX3_awaitedBehind 94 = .ok (.iconst 3, 1) := by decide +kernel
theorem dX3_awaitedBehind_95 : decode cX3_awaitedBehind 95 = .ok (.goto 5, 3) := by decide +kernel
theorem dX3_awaitedBehind_98 : decode cX3_awaitedBehind 98 = .ok (.bipush 6, 2) := by decide +kernel
theorem dX3_awaitedBehind_100 : decode cX3_awaitedBehind 100 = .ok (.ireturn, 1) := by decide +kernel
theorem dX3_awaitedBehind_101 : decode cX3_awaitedBehind 101 = .ok (.aload_n 0, 1) := by decide +kernel
theorem dX3_awaitedBehind_102 : decode cX3_awaitedBehind 102 = .ok (.iload_n 1, 1) := by decide +kernel
theorem dX3_awaitedBehind_103 : decode cX3_awaitedBehind 103 = .ok (.invokevirtual 43, 3) := by decide +kernel
theorem dX3_awaitedBehind_106 : decode cX3_awaitedBehind 106 = .ok (.ireturn, 1) := by decide +kernel
theorem dX3_awaitedBehind_107 : decode cX3_awaitedBehind 107 = .ok (.aload_n 0, 1) := by decide +kernel
theorem dX3_awaitedBehind_108 : decode cX3_awaitedBehind 108 = .ok (.iload_n 1, 1) := by decide +kernel
theorem dX3_awaitedBehind_109 : decode cX3_awaitedBehind 109 = .ok (.invokevirtual 43, 3) := by decide +kernel
theorem dX3_awaitedBehind_112 : decode cX3_awaitedBehind 112 = .ok (.ireturn, 1) := by decide +kernel
theorem dX3_awaitedBehind_113 : decode cX3_awaitedBehind 113 = .ok (.iload_n 1, 1) := by decide +kernel
theorem dX3_awaitedBehind_114 : decode cX3_awaitedBehind 114 = .ok (.bipush 48, 2) := by decide +kernel
theorem dX3_awaitedBehind_116 : decode cX3_awaitedBehind 116 = .ok (.bipush 52, 2) := by decide +kernel
theorem dX3_awaitedBehind_118 : decode cX3_awaitedBehind 118 = .ok (.invokestatic 39, 3) := by decide +kernel
theorem dX3_awaitedBehind_121 : decode cX3_awaitedBehind 121 = .ok (.ifCond .eq 7, 3) := by decide +kernel
theorem dX3_awaitedBehind_124 : decode cX3_awaitedBehind 124 = .ok (.iconst 3, 1) := by decide +kernel
theorem dX3_awaitedBehind_125 : decode cX3_awaitedBehind 125 = .ok (.goto 5, 3) := by decide +kernel
theorem dX3_awaitedBehind_128 : decode cX3_awaitedBehind 128 = .ok (.bipush 6, 2) := by decide +kernel
theorem dX3_awaitedBehind_130 : decode cX3_awaitedBehind 130 = .ok (.ireturn, 1) := by decide +kernel
theorem dX3_awaitedBehind_131 : decode cX3_awaitedBehind 131 = .ok (.iload_n 1, 1) := by decide +kernel
theorem dX3_awaitedBehind_132 : decode cX3_awaitedBehind 132 = .ok (.bipush 50, 2) := by decide +kernel
theorem dX3_awaitedBehind_134 : decode cX3_awaitedBehind 134 = .ok (.bipush 57, 2) := by decide +kernel
theorem dX3_awaitedBehind_136 : decode cX3_awaitedBehind 136 = .ok (.invokestatic 39, 3) := by decide +kernel
theorem dX3_awaitedBehind_139 : decode cX3_awaitedBehind 139 = .ok (.ifCond .eq 7, 3) := by decide +kernel
theorem dX3_awaitedBehind_142 : decode cX3_awaitedBehind 142 = .ok (.iconst 3, 1) := by decide +kernel
theorem dX3_awaitedBehind_143 : decode cX3_awaitedBehind 143 = .ok (.goto 5, 3) := by decide +kernel
theorem dX3_awaitedBehind_146 : decode cX3_awaitedBehind 146 = .ok (.bipush 6, 2) := by decide +kernel
theorem dX3_awaitedBehind_148 : decode cX3_awaitedBehind 148 = .ok (.ireturn, 1) := by decide +kernel
theorem dX3_awaitedBehind_149 : decode cX3_awaitedBehind 149 = .ok (.aload_n 0, 1) := by decide +kernel
theorem dX3_awaitedBehind_150 : decode cX3_awaitedBehind 150 = .ok (.iload_n 1, 1) := by decide +kernel
theorem dX3_awaitedBehind_151 : decode cX3_awaitedBehind 151 = .ok (.invokevirtual 46, 3) := by decide +kernel
theorem dX3_awaitedBehind_154 : decode cX3_awaitedBehind 154 = .ok (.ireturn, 1) := by decide +kernel
theorem dX3_awaitedBehindPart_0 : decode cX3_awaitedBehindPart 0 = .ok (.iload_n 1, 1) := by decide +kernel
theorem dX3_awaitedBehindPart_1 : decode cX3_awaitedBehindPart 1 = .ok (.bipush 41, 2) := by decide +kernel
theorem dX3_awaitedBehindPart_3 : decode cX3_awaitedBehindPart 3 = .ok (.if_icmp .eq 9, 3) := by decide +kernel
theorem dX3_awaitedBehindPart_6 : decode cX3_awaitedBehindPart 6 = .ok (.aload_n 0, 1) := by decide +kernel
theorem dX3_awaitedBehindPart_7 : decode cX3_awaitedBehindPart 7 = .ok (.iload_n 1, 1) := by decide +kernel
theorem dX3_awaitedBehindPart_8 : decode cX3_awaitedBehindPart 8 = .ok (.invokevirtual 46, 3) := by decide +kernel
theorem dX3_awaitedBehindPart_11 : decode cX3_awaitedBehindPart 11 = .ok (.ireturn, 1) := by decide +kernel
theorem dX3_awaitedBehindPart_12 : decode cX3_awaitedBehindPart 12 = .ok (.aload_n 0, 1) := by decide +kernel
theorem dX3_awaitedBehindPart_13 : decode cX3_awaitedBehindPart 13 = .ok (.getfield 26, 3) := by decide +kernel
theorem dX3_awaitedBehindPart_16 : decode cX3_awaitedBehindPart 16 = .ok (.iconst 1, 1) := by decide +kernel
theorem dX3_awaitedBehindPart_17 : decode cX3_awaitedBehindPart 17 = .ok (.if_icmp .ge 6, 3) := by decide +kernel
theorem dX3_awaitedBehindPart_20 : decode cX3_awaitedBehindPart 20 = .ok (.bipush 6, 2) := by decide +kernel
theorem dX3_awaitedBehindPart_22 : decode cX3_awaitedBehindPart 22 = .ok (.ireturn, 1) := by decide +kernel
theorem dX3_awaitedBehindPart_23 : decode cX3_awaitedBehindPart 23 = .ok (.aload_n 0, 1) := by decide +kernel
theorem dX3_awaitedBehindPart_24 : decode cX3_awaitedBehindPart 24 = .ok (.dup, 1) := by decide +kernel
theorem dX3_awaitedBehindPart_25 : decode cX3_awaitedBehindPart 25 = .ok (.getfield 26, 3) := by decide +kernel
theorem dX3_awaitedBehindPart_28 : decode cX3_awaitedBehindPart 28 = .ok (.iconst 1, 1) := by decide +kernel
theorem dX3_awaitedBehindPart_29 : decode cX3_awaitedBehindPart 29 = .ok (.isub, 1) := by decide +kernel
theorem dX3_awaitedBehindPart_30 : decode cX3_awaitedBehindPart 30 = .ok (.putfield 26, 3) := by decide +kernel
theorem dX3_awaitedBehindPart_33 : decode cX3_awaitedBehindPart 33 = .ok (.iconst 5, 1) := by decide +kernel
theorem dX3_awaitedBehindPart_34 : decode cX3_awaitedBehindPart 34 = .ok (.ireturn, 1) := by decide +kernel
theorem dX3_awaitedInPart_0 : decode cX3_awaitedInPart 0 = .ok (.iload_n 1, 1) := by decide +kernel
theorem dX3_awaitedInPart_1 : decode cX3_awaitedInPart 1 = .ok (.lookupswitch 82 #[(40, 57), (43, 51), (45, 51), (107, 53), (108, 55)], 51) := by decide +kernel
theorem dX3_awaitedInPart_52 : decode cX3_awaitedInPart 52 = .ok (.iconst 1, 1) := by decide +kernel
theorem dX3_awaitedInPart_53 : decode cX3_awaitedInPart 53 = .ok (.ireturn, 1) := by decide +kernel
theorem dX3_awaitedInPart_54 : decode cX3_awaitedInPart 54 = .ok (.iconst 4, 1) := by decide +kernel
theorem dX3_awaitedInPart_55 : decode cX3_awaitedInPart 55 = .ok (.ireturn, 1) := by decide +kernel
theorem dX3_awaitedInPart_56 : decode cX3_awaitedInPart 56 = .ok (.iconst 3, 1) := by decide +kernel
theorem dX3_awaitedInPart_57 : decode cX3_awaitedInPart 57 = .ok (.ireturn, 1) := by decide +kernel
theorem dX3_awaitedInPart_58 : decode cX3_awaitedInPart 58 = .ok (.aload_n 0, 1) := by decide +kernel
theorem dX3_awaitedInPart_59 : decode cX3_awaitedInPart 59 = .ok (.dup, 1) := by decide +kernel
theorem dX3_awaitedInPart_60 : decode cX3_awaitedInPart 60 = .ok (.getfield 26, 3) := by decide +kernel
theorem dX3_awaitedInPart_63 : decode cX3_awaitedInPart 63 = .ok (.iconst 1, 1) := by decide +kernel
theorem dX3_awaitedInPart_64 : decode cX3_awaitedInPart 64 = .ok (.iadd, 1) := by decide +kernel
theorem dX3_awaitedInPart_65 : decode cX3_awaitedInPart 65 = .ok (.putfield 26, 3) := by decide +kernel
theorem dX3_awaitedInPart_68 : decode cX3_awaitedInPart 68 = .ok (.aload_n 0, 1) := by decide +kernel
theorem dX3_awaitedInPart_69 : decode cX3_awaitedInPart 69 = .ok (.getfield 26, 3) := by decide +kernel
theorem dX3_awaitedInPart_72 : decode cX3_awaitedInPart 72 = .ok (.iconst 3, 1) := by decide +kernel
theorem dX3_awaitedInPart_73 : decode cX3_awaitedInPart 73 = .ok (.if_icmp .gt 7, 3) := by decide +kernel
theorem dX3_awaitedInPart_76 : decode cX3_awaitedInPart 76 = .ok (.iconst 0, 1) := by decide +kernel
theorem dX3_awaitedInPart_77 : decode cX3_awaitedInPart 77 = .ok (.goto 5, 3) := by decide +kernel
theorem dX3_awaitedInPart_80 : decode cX3_awaitedInPart 80 = .ok (.bipush 6, 2) := by decide +kernel
theorem dX3_awaitedInPart_82 : decode cX3_awaitedInPart 82 = .ok (.ireturn, 1) := by decide +kernel
theorem dX3_awaitedInPart_83 : decode cX3_awaitedInPart 83 = .ok (.bipush 6, 2) := by decide +kernel
theorem dX3_awaitedInPart_85 : decode cX3_awaitedInPart 85 = .ok (.ireturn, 1) := by decide +kernel
theorem dX3_isBetween_0 : decode cX3_isBetween 0 = .ok (.iload_n 0, 1) := by decide +kernel
theorem dX3_isBetween_1 : decode cX3_isBetween 1 = .ok (.iload_n 1, 1) := by decide +kernel
theorem dX3_isBetween_2 : decode cX3_isBetween 2 = .ok (.if_icmp .lt 12, 3) := by decide +kernel
theorem dX3_isBetween_5 : decode cX3_isBetween 5 = .ok (.iload_n 0, 1) := by decide +kernel
theorem dX3_isBetween_6 : decode cX3_isBetween 6 = .ok (.iload_n 2, 1) := by decide +kernel
theorem dX3_isBetween_7 : decode cX3_isBetween 7 = .ok (.if_icmp .gt 7, 3) := by decide +kernel
theorem dX3_isBetween_10 : decode cX3_isBetween 10 = .ok (.iconst 1, 1) := by decide +kernel
theorem dX3_isBetween_11 : decode cX3_isBetween 11 = .ok (.goto 4, 3) := by decide +kernel
theorem dX3_isBetween_14 : decode cX3_isBetween 14 = .ok (.iconst 0, 1) := by decide +kernel
theorem dX3_isBetween_15 : decode cX3_isBetween 15 = .ok (.ireturn, 1) := by decide +kernel
theorem dX4_init_0 : decode cX4_init 0 = .ok (.aload_n 0, 1) := by decide +kernel
theorem dX4_init_1 : decode cX4_init 1 = .ok (.invokespecial 3, 3) := by decide +kernel
theorem dX4_init_4 : decode cX4_init 4 = .ok (.aload_n 0, 1) := by decide +kernel
theorem dX4_init_5 : decode cX4_init 5 = .ok (.iconst 5, 1) := by decide +kernel
theorem dX4_init_6 : decode cX4_init 6 = .ok (.newarray .int, 2) := by decide +kernel
theorem dX4_init_8 : decode cX4_init 8 = .ok (.putfield 9, 3) := by decide +kernel
theorem dX4_init_11 : decode cX4_init 11 = .ok (.aload_n 0, 1) := by decide +kernel
theorem dX4_init_12 : decode cX4_init 12 = .ok (.iconst 5, 1) := by decide +kernel
theorem dX4_init_13 : decode cX4_init 13 = .ok (.newarray .int, 2) := by decide +kernel
theorem dX4_init_15 : decode cX4_init 15 = .ok (.putfield 15, 3) := by decide +kernel
theorem dX4_init_18 : decode cX4_init 18 = .ok (.aload_n 0, 1) := by decide +kernel
theorem dX4_init_19 : decode cX4_init 19 = .ok (.iconst 5, 1) := by decide +kernel
theorem dX4_init_20 : decode cX4_init 20 = .ok (.newarray .boolean, 2) := by decide +kernel
theorem dX4_init_22 : decode cX4_init 22 = .ok (.putfield 18, 3) := by decide +kernel
theorem dX4_init_25 : decode cX4_init 25 = .ok (.aload_n 0, 1) := by decide +kernel
theorem dX4_init_26 : decode cX4_init 26 = .ok (.iconst 5, 1) := by decide +kernel
theorem dX4_init_27 : decode cX4_init 27 = .ok (.newarray .int, 2) := by decide +kernel
theorem dX4_init_29 : decode cX4_init 29 = .ok (.putfield 22, 3) := by decide +kernel
theorem dX4_init_32 : decode cX4_init 32 = .ok (.aload_n 0, 1) := by decide +kernel
theorem dX4_init_33 : decode cX4_init 33 = .ok (.iconst 5, 1) := by decide +kernel
theorem dX4_init_34 : decode cX4_init 34 = .ok (.newarray .int, 2) := by decide +kernel
theorem dX4_init_36 : decode cX4_init 36 = .ok (.putfield 25, 3) := by decide +kernel
theorem dX4_init_39 : decode cX4_init 39 = .ok (.aload_n 0, 1) := by decide +kernel
theorem dX4_init_40 : decode cX4_init 40 = .ok (.bipush 60, 2) := by decide +kernel
theorem dX4_init_42 : decode cX4_init 42 = .ok (.newarray .int, 2) := by decide +kernel
theorem dX4_init_44 : decode cX4_init 44 = .ok (.putfield 28, 3) := by decide +kernel
theorem dX4_init_47 : decode cX4_init 47 = .ok (.iconst 0, 1) := by decide +kernel
theorem dX4_init_48 : decode cX4_init 48 = .ok (.istore_n 1, 1) := by decide +kernel
theorem dX4_init_49 : decode cX4_init 49 = .ok (.iload_n 1, 1) := by decide +kernel
theorem dX4_init_50 : decode cX4_init 50 = .ok (.iconst 5, 1) := by decide +kernel
theorem dX4_init_51 : decode cX4_init 51 = .ok (.if_icmp .ge 57, 3) := by decide +kernel
theorem dX4_init_54 : decode cX4_init 54 = .ok (.aload_n 0, 1) := by decide +kernel
theorem dX4_init_55 : decode cX4_init 55 = .ok (.getfield 9, 3) := by decide +kernel
theorem dX4_init_58 : decode cX4_init 58 = .ok (.iload_n 1, 1) := by decide +kernel
theorem dX4_init_59 : decode cX4_init 59 = .ok (.getstatic 31, 3) := by decide +kernel
theorem dX4_init_62 : decode cX4_init 62 = .ok (.iload_n 1, 1) := by decide +kernel
theorem dX4_init_63 : decode cX4_init 63 = .ok (.iaload, 1) := by decide +kernel
theorem dX4_init_64 : decode cX4_init 64 = .ok (.iastore, 1) := by decide +kernel
theorem dX4_init_65 : decode cX4_init 65 = .ok (.aload_n 0, 1) := by decide +kernel
theorem dX4_init_66 : decode cX4_init 66 = .ok (.getfield 18, 3) := by decide +kernel
theorem dX4_init_69 : decode cX4_init 69 = .ok (.iload_n 1, 1) := by decide +kernel
theorem dX4_init_70 : decode cX4_init 70 = .ok (.iconst 1, 1) := by decide +kernel
theorem dX4_init_71 : decode cX4_init 71 = .ok (.bastore, 1) := by decide +kernel
theorem dX4_init_72 : decode cX4_init 72 = .ok (.iconst 0, 1) := by decide +kernel
theorem dX4_init_73 : decode cX4_init 73 = .ok (.istore_n 2, 1) := by decide +kernel
theorem dX4_init_74 : decode cX4_init 74 = .ok (.iload_n 2, 1) := by decide +kernel
theorem dX4_init_75 : decode cX4_init 75 = .ok (.bipush 12, 2) := by decide +kernel
theorem dX4_init_77 : decode cX4_init 77 = .ok (.if_icmp .ge 25, 3) := by decide +kernel
theorem dX4_init_80 : decode cX4_init 80 = .ok (.aload_n 0, 1) := by decide +kernel
theorem dX4_init_81 : decode cX4_init 81 = .ok (.getfield 28, 3) := by decide +kernel
theorem dX4_init_84 : decode cX4_init 84 = .ok (.iload_n 1, 1) := by decide +kernel
theorem dX4_init_85 : decode cX4_init 85 = .ok (.bipush 12, 2) := by decide +kernel
theorem dX4_init_87 : decode cX4_init 87 = .ok (.imul, 1) := by decide +kernel
theorem dX4_init_88 : decode cX4_init 88 = .ok (.iload_n 2, 1) := by decide +kernel
theorem dX4_init_89 : decode cX4_init 89 = .ok (.iadd, 1) := by decide +kernel
theorem dX4_init_90 : decode cX4_init 90 = .ok (.iload_n 1, 1) := by decide +kernel
theorem dX4_init_91 : decode cX4_init 91 = .ok (.iload_n 2, 1) := by decide +kernel
theorem dX4_init_92 : decode cX4_init 92 = .ok (.invokestatic 34, 3) := by decide +kernel
theorem dX4_init_95 : decode cX4_init 95 = .ok (.iastore, 1) := by decide +kernel
theorem dX4_init_96 : decode cX4_init 96 = .ok (.iinc 2 1, 3) := by decide +kernel
theorem dX4_init_99 : decode cX4_init 99 = .ok (.goto (-25), 3) := by decide +kernel
theorem dX4_init_102 : decode cX4_init 102 = .ok (.iinc 1 1, 3) := by decide +kernel
theorem dX4_init_105 : decode cX4_init 105 = .ok (.goto (-56), 3) := by decide +kernel
theorem dX4_init_108 : decode cX4_init 108 = .ok (.return_, 1) := by decide +kernel
theorem dX4_firstHeight_0 : decode cX4_firstHeight 0 = .ok (.iload_n 0, 1) := by decide +kernel
theorem dX4_firstHeight_1 : decode cX4_firstHeight 1 = .ok (.iconst 4, 1) := by decide +kernel
theorem dX4_firstHeight_2 : decode cX4_firstHeight 2 = .ok (.if_icmp .ne 25, 3) := by decide +kernel
theorem dX4_firstHeight_5 : decode cX4_firstHeight 5 = .ok (.iload_n 1, 1) := by decide +kernel
theorem dX4_firstHeight_6 : decode cX4_firstHeight 6 = .ok (.ifCond .lt 19, 3) := by decide +kernel
theorem dX4_firstHeight_9 : decode cX4_firstHeight 9 = .ok (.iload_n 1, 1) := by decide +kernel
theorem dX4_firstHeight_10 : decode cX4_firstHeight 10 = .ok (.getstatic 38, 3) := by decide +kernel
theorem dX4_firstHeight_13 : decode cX4_firstHeight 13 = .ok (.arraylength, 1) := by decide +kernel
theorem dX4_firstHeight_14 : decode cX4_firstHeight 14 = .ok (.if_icmp .ge 11, 3) := by decide +kernel
theorem dX4_firstHeight_17 : decode cX4_firstHeight 17 = .ok (.getstatic 38, 3) := by decide +kernel
theorem dX4_firstHeight_20 : decode cX4_firstHeight 20 = .ok (.iload_n 1, 1) := by decide +kernel
theorem dX4_firstHeight_21 : decode cX4_firstHeight 21 = .ok (.iaload, 1) := by decide +kernel
theorem dX4_firstHeight_22 : decode cX4_firstHeight 22 = .ok (.goto 4, 3) := by decide +kernel
theorem dX4_firstHeight_25 : decode cX4_firstHeight 25 = .ok (.iconst 0, 1) := by decide +kernel
theorem dX4_firstHeight_26 : decode cX4_firstHeight 26 = .ok (.ireturn, 1) := by decide +kernel
theorem dX4_firstHeight_27 : decode cX4_firstHeight 27 = .ok (.iload_n 0, 1) := by decide +kernel
theorem dX4_firstHeight_28 : decode cX4_firstHeight 28 = .ok (.iconst 2, 1) := by decide +kernel
theorem dX4_firstHeight_29 : decode cX4_firstHeight 29 = .ok (.if_icmp .ge 8, 3) := by decide +kernel
theorem dX4_firstHeight_32 : decode cX4_firstHeight 32 = .ok (.bipush 9, 2) := by decide +kernel
theorem dX4_firstHeight_34 : decode cX4_firstHeight 34 = .ok (.goto 4, 3) := by decide +kernel
theorem dX4_firstHeight_37 : decode cX4_firstHeight 37 = .ok (.iconst 0, 1) := by decide +kernel
theorem dX4_firstHeight_38 : decode cX4_firstHeight 38 = .ok (.ireturn, 1) := by decide +kernel
theorem dX4_copy_0 : decode cX4_copy 0 = .ok (.iconst 0, 1) := by decide +kernel
theorem dX4_copy_1 : decode cX4_copy 1 = .ok (.istore_n 2, 1) := by decide +kernel
theorem dX4_copy_2 : decode cX4_copy 2 = .ok (.iload_n 2, 1) := by decide +kernel
theorem dX4_copy_3 : decode cX4_copy 3 = .ok (.iconst 5, 1) := by decide +kernel
theorem dX4_copy_4 : decode cX4_copy 4 = .ok (.if_icmp .ge 69, 3) := by decide +kernel
theorem dX4_copy_7 : decode cX4_copy 7 = .ok (.aload_n 0, 1) := by decide +kernel
theorem dX4_copy_8 : decode cX4_copy 8 = .ok (.getfield 9, 3) := by decide +kernel
theorem dX4_copy_11 : decode cX4_copy 11 = .ok (.iload_n 2, 1) := by decide +kernel
theorem dX4_copy_12 : decode cX4_copy 12 = .ok (.aload_n 1, 1) := by decide +kernel
theorem dX4_copy_13 : decode cX4_copy 13 = .ok (.getfield 9, 3) := by decide +kernel
theorem dX4_copy_16 : decode cX4_copy 16 = .ok (.iload_n 2, 1) := by decide +kernel
theorem dX4_copy_17 : decode cX4_copy 17 = .ok (.iaload, 1) := by decide +kernel
theorem dX4_copy_18 : decode cX4_copy 18 = .ok (.iastore, 1) := by decide +kernel
theorem dX4_copy_19 : decode cX4_copy 19 = .ok (.aload_n 0, 1) := by decide +kernel
theorem dX4_copy_20 : decode cX4_copy 20 = .ok (.getfield 15, 3) := by decide +kernel
theorem dX4_copy_23 : decode cX4_copy 23 = .ok (.iload_n 2, 1) := by decide +kernel
theorem dX4_copy_24 : decode cX4_copy 24 = .ok (.aload_n 1, 1) := by decide +kernel
theorem dX4_copy_25 : decode cX4_copy 25 = .ok (.getfield 15, 3) := by decide +kernel
theorem dX4_copy_28 : decode cX4_copy 28 = .ok (.iload_n 2, 1) := by decide +kernel
theorem dX4_copy_29 : decode cX4_copy 29 = .ok (.iaload, 1) := by decide +kernel
theorem dX4_copy_30 : decode cX4_copy 30 = .ok (.iastore, 1) := by decide +kernel
theorem dX4_copy_31 : decode cX4_copy 31 = .ok (.aload_n 0, 1) := by decide +kernel
theorem dX4_copy_32 : decode cX4_copy 32 = .ok (.getfield 18, 3) := by decide +kernel
theorem dX4_copy_35 : decode cX4_copy 35 = .ok (.iload_n 2, 1) := by decide +kernel
theorem dX4_copy_36 : decode cX4_copy 36 = .ok (.aload_n 1, 1) := by decide +kernel
theorem dX4_copy_37 : decode cX4_copy 37 = .ok (.getfield 18, 3) := by decide +kernel
theorem dX4_copy_40 : decode cX4_copy 40 = .ok (.iload_n 2, 1) := by decide +kernel
theorem dX4_copy_41 : decode cX4_copy 41 = .ok (.baload, 1) := by decide +kernel
theorem dX4_copy_42 : decode cX4_copy 42 = .ok (.bastore, 1) := by decide +kernel
theorem dX4_copy_43 : decode cX4_copy 43 = .ok (.aload_n 0, 1) := by decide +kernel
theorem dX4_copy_44 : decode cX4_copy 44 = .ok (.getfield 22, 3) := by decide +kernel
theorem dX4_copy_47 : decode cX4_copy 47 = .ok (.iload_n 2, 1) := by decide +kernel
theorem dX4_copy_48 : decode cX4_copy 48 = .ok (.aload_n 1, 1) := by decide +kernel
theorem dX4_copy_49 : decode cX4_copy 49 = .ok (.getfield 22, 3) := by decide +kernel
theorem dX4_copy_52 : decode cX4_copy 52 = .ok (.iload_n 2, 1) := by decide +kernel
theorem dX4_copy_53 : decode cX4_copy 53 = .ok (.iaload, 1) := by decide +kernel
theorem dX4_copy_54 : decode cX4_copy 54 = .ok (.iastore, 1) := by decide +kernel
theorem dX4_copy_55 : decode cX4_copy 55 = .ok (.aload_n 0, 1) := by decide +kernel
theorem dX4_copy_56 : decode cX4_copy 56 = .ok (.getfield 25, 3) := by decide +kernel
theorem dX4_copy_59 : decode cX4_copy 59 = .ok (.iload_n 2, 1) := by decide +kernel
theorem dX4_copy_60 : decode cX4_copy 60 = .ok (.aload_n 1, 1) := by decide +kernel
theorem dX4_copy_61 : decode cX4_copy 61 = .ok (.getfield 25, 3) := by decide +kernel
theorem dX4_copy_64 : decode cX4_copy 64 = .ok (.iload_n 2, 1) := by decide +kernel
theorem dX4_copy_65 : decode cX4_copy 65 = .ok (.iaload, 1) := by decide +kernel
theorem dX4_copy_66 : decode cX4_copy 66 = .ok (.iastore, 1) := by decide +kernel
theorem dX4_copy_67 : decode cX4_copy 67 = .ok (.iinc 2 1, 3) := by decide +kernel
theorem dX4_copy_70 : decode cX4_copy 70 = .ok (.goto (-68), 3) := by decide +kernel
theorem dX4_copy_73 : decode cX4_copy 73 = .ok (.aload_n 1, 1) := by decide +kernel
theorem dX4_copy_74 : decode cX4_copy 74 = .ok (.getfield 28, 3) := by decide +kernel
theorem dX4_copy_77 : decode cX4_copy 77 = .ok (.iconst 0, 1) := by decide +kernel
theorem dX4_copy_78 : decode cX4_copy 78 = .ok (.aload_n 0, 1) := by decide +kernel
theorem dX4_copy_79 : decode cX4_copy 79 = .ok (.getfield 28, 3) := by decide +kernel
theorem dX4_copy_82 : decode cX4_copy 82 = .ok (.iconst 0, 1) := by decide +kernel
theorem dX4_copy_83 : decode cX4_copy 83 = .ok (.bipush 60, 2) := by decide +kernel
theorem dX4_copy_85 : decode cX4_copy 85 = .ok (.invokestatic 41, 3) := by decide +kernel
theorem dX4_copy_88 : decode cX4_copy 88 = .ok (.return_, 1) := by decide +kernel
theorem dX4_heightAt_0 : decode cX4_heightAt 0 = .ok (.iload_n 1, 1) := by decide +kernel
theorem dX4_heightAt_1 : decode cX4_heightAt 1 = .ok (.bipush 12, 2) := by decide +kernel
theorem dX4_heightAt_3 : decode cX4_heightAt 3 = .ok (.imul, 1) := by decide +kernel
theorem dX4_heightAt_4 : decode cX4_heightAt 4 = .ok (.iload_n 2, 1) := by decide +kernel
theorem dX4_heightAt_5 : decode cX4_heightAt 5 = .ok (.iadd, 1) := by decide +kernel
theorem dX4_heightAt_6 : decode cX4_heightAt 6 = .ok (.istore_n 3, 1) := by decide +kernel
theorem dX4_heightAt_7 : decode cX4_heightAt 7 = .ok (.iload_n 3, 1) := by decide +kernel
theorem dX4_heightAt_8 : decode cX4_heightAt 8 = .ok (.ifCond .lt 21, 3) := by decide +kernel
theorem dX4_heightAt_11 : decode cX4_heightAt 11 = .ok (.iload_n 3, 1) := by decide +kernel
theorem dX4_heightAt_12 : decode cX4_heightAt 12 = .ok (.aload_n 0, 1) := by decide +kernel
theorem dX4_heightAt_13 : decode cX4_heightAt 13 = .ok (.getfield 28, 3) := by decide +kernel
theorem dX4_heightAt_16 : decode cX4_heightAt 16 = .ok (.arraylength, 1) := by decide +kernel
theorem dX4_heightAt_17 : decode cX4_heightAt 17 = .ok (.if_icmp .ge 12, 3) := by decide +kernel
theorem dX4_heightAt_20 : decode cX4_heightAt 20 = .ok (.aload_n 0, 1) := by decide +kernel
theorem dX4_heightAt_21 : decode cX4_heightAt 21 = .ok (.getfield 28, 3) := by decide +kernel
theorem dX4_heightAt_24 : decode cX4_heightAt 24 = .ok (.iload_n 3, 1) := by decide +kernel
theorem dX4_heightAt_25 : decode cX4_heightAt 25 = .ok (.iaload, 1) := by decide +kernel
theorem dX4_heightAt_26 : decode cX4_heightAt 26 = .ok (.goto 4, 3) := by decide +kernel
theorem dX4_heightAt_29 : decode cX4_heightAt 29 = .ok (.iconst 0, 1) := by decide +kernel
theorem dX4_heightAt_30 : decode cX4_heightAt 30 = .ok (.ireturn, 1) := by decide +kernel
theorem dX4_putHeight_0 : decode cX4_putHeight 0 = .ok (.iload_n 1, 1) := by decide +kernel
theorem dX4_putHeight_1 : decode cX4_putHeight 1 = .ok (.bipush 12, 2) := by decide +kernel
theorem dX4_putHeight_3 : decode cX4_putHeight 3 = .ok (.imul, 1) := by decide +kernel
theorem dX4_putHeight_4 : decode cX4_putHeight 4 = .ok (.iload_n 2, 1) := by decide +kernel
theorem dX4_putHeight_5 : decode cX4_putHeight 5 = .ok (.iadd, 1) := by decide +kernel
theorem dX4_putHeight_6 : decode cX4_putHeight 6 = .ok (.istore 4, 2) := by decide +kernel
theorem dX4_putHeight_8 : decode cX4_putHeight 8 = .ok (.iload 4, 2) := by decide +kernel
theorem dX4_putHeight_10 : decode cX4_putHeight 10 = .ok (.ifCond .lt 21, 3) := by decide +kernel
theorem dX4_putHeight_13 : decode cX4_putHeight 13 = .ok (.iload 4, 2) := by decide +kernel
theorem dX4_putHeight_15 : decode cX4_putHeight 15 = .ok (.aload_n 0, 1) := by decide +kernel
theorem dX4_putHeight_16 : decode cX4_putHeight 16 = .ok (.getfield 28, 3) := by decide +kernel
theorem dX4_putHeight_19 : decode cX4_putHeight 19 = .ok (.arraylength, 1) := by decide +kernel
theorem dX4_putHeight_20 : decode cX4_putHeight 20 = .ok (.if_icmp .ge 11, 3) := by decide +kernel
theorem dX4_putHeight_23 : decode cX4_putHeight 23 = .ok (.aload_n 0, 1) := by decide +kernel
theorem dX4_putHeight_24 : decode cX4_putHeight 24 = .ok (.getfield 28, 3) := by decide +kernel
theorem dX4_putHeight_27 : decode cX4_putHeight 27 = .ok (.iload 4, 2) := by decide +kernel
theorem dX4_putHeight_29 : decode cX4_putHeight 29 = .ok (.iload_n 3, 1) := by decide +kernel
theorem dX4_putHeight_30 : decode cX4_putHeight 30 = .ok (.iastore, 1) := by decide +kernel
theorem dX4_putHeight_31 : decode cX4_putHeight 31 = .ok (.return_, 1) := by decide +kernel
theorem dX4_switchClutch_0 : decode cX4_switchClutch 0 = .ok (.iload_n 1, 1) := by decide +kernel
theorem dX4_switchClutch_1 : decode cX4_switchClutch 1 = .ok (.invokestatic 47, 3) := by decide +kernel
theorem dX4_switchClutch_4 : decode cX4_switchClutch 4 = .ok (.ifCond .eq 23, 3) := by decide +kernel
theorem dX4_switchClutch_7 : decode cX4_switchClutch 7 = .ok (.aload_n 0, 1) := by decide +kernel
theorem dX4_switchClutch_8 : decode cX4_switchClutch 8 = .ok (.getfield 18, 3) := by decide +kernel
theorem dX4_switchClutch_11 : decode cX4_switchClutch 11 = .ok (.iload_n 1, 1) := by decide +kernel
theorem dX4_switchClutch_12 : decode cX4_switchClutch 12 = .ok (.aload_n 0, 1) := by decide +kernel
theorem dX4_switchClutch_13 : decode cX4_switchClutch 13 = .ok (.getfield 18, 3) := by decide +kernel
theorem dX4_switchClutch_16 : decode cX4_switchClutch 16 = .ok (.iload_n 1, 1) := by decide +kernel
theorem dX4_switchClutch_17 : decode cX4_switchClutch 17 = .ok (.baload, 1) := by decide +kernel
theorem dX4_switchClutch_18 : decode cX4_switchClutch 18 = .ok (.ifCond .ne 7, 3) := by decide +kernel
theorem dX4_switchClutch_21 : decode cX4_switchClutch 21 = .ok (.iconst 1, 1) := by decide +kernel
theorem dX4_switchClutch_22 : decode cX4_switchClutch 22 = .ok (.goto 4, 3) := by decide +kernel
theorem dX4_switchClutch_25 : decode cX4_switchClutch 25 = .ok (.iconst 0, 1) := by decide +kernel
theorem dX4_switchClutch_26 : decode cX4_switchClutch 26 = .ok (.bastore, 1) := by decide +kernel
theorem dX4_switchClutch_27 : decode cX4_switchClutch 27 = .ok (.return_, 1) := by decide +kernel
theorem dX4_turnLocked_0 : decode cX4_turnLocked 0 = .ok (.iconst 0, 1) := by decide +kernel
theorem dX4_turnLocked_1 : decode cX4_turnLocked 1 = .ok (.istore_n 2, 1) := by decide +kernel
theorem dX4_turnLocked_2 : decode cX4_turnLocked 2 = .ok (.iload_n 2, 1) := by decide +kernel
theorem dX4_turnLocked_3 : decode cX4_turnLocked 3 = .ok (.iconst 5, 1) := by decide +kernel
theorem dX4_turnLocked_4 : decode cX4_turnLocked 4 = .ok (.if_icmp .ge 51, 3) := by decide +kernel
theorem dX4_turnLocked_7 : decode cX4_turnLocked 7 = .ok (.aload_n 0, 1) := by decide +kernel
theorem dX4_turnLocked_8 : decode cX4_turnLocked 8 = .ok (.getfield 18, 3) := by decide +kernel
theorem dX4_turnLocked_11 : decode cX4_turnLocked 11 = .ok (.iload_n 2, 1) := by decide +kernel
theorem dX4_turnLocked_12 : decode cX4_turnLocked 12 = .ok (.baload, 1) := by decide +kernel
theorem dX4_turnLocked_13 : decode cX4_turnLocked 13 = .ok (.ifCond .eq 36, 3) := by decide +kernel
theorem dX4_turnLocked_16 : decode cX4_turnLocked 16 = .ok (.aload_n 0, 1) := by decide +kernel
theorem dX4_turnLocked_17 : decode cX4_turnLocked 17 = .ok (.getfield 15, 3) := by decide +kernel
theorem dX4_turnLocked_20 : decode cX4_turnLocked 20 = .ok (.iload_n 2, 1) := by decide +kernel
theorem dX4_turnLocked_21 : decode cX4_turnLocked 21 = .ok (.aload_n 0, 1) := by decide +kernel
theorem dX4_turnLocked_22 : decode cX4_turnLocked 22 = .ok (.getfield 15, 3) := by decide +kernel
theorem dX4_turnLocked_25 : decode cX4_turnLocked 25 = .ok (.iload_n 2, 1) := by decide +kernel
theorem dX4_turnLocked_26 : decode cX4_turnLocked 26 = .ok (.iaload, 1) := by decide +kernel
theorem dX4_turnLocked_27 : decode cX4_turnLocked 27 = .ok (.iload_n 1, 1) := by decide +kernel
theorem dX4_turnLocked_28 : decode cX4_turnLocked 28 = .ok (.iadd, 1) := by decide +kernel
theorem dX4_turnLocked_29 : decode cX4_turnLocked 29 = .ok (.aload_n 0, 1) := by decide +kernel
theorem dX4_turnLocked_30 : decode cX4_turnLocked 30 = .ok (.getfield 9, 3) := by decide +kernel
theorem dX4_turnLocked_33 : decode cX4_turnLocked 33 = .ok (.iload_n 2, 1) := by decide +kernel
theorem dX4_turnLocked_34 : decode cX4_turnLocked 34 = .ok (.iaload, 1) := by decide +kernel
theorem dX4_turnLocked_35 : decode cX4_turnLocked 35 = .ok (.invokestatic 51, 3) := by decide +kernel
theorem dX4_turnLocked_38 : decode cX4_turnLocked 38 = .ok (.iastore, 1) := by decide +kernel
theorem dX4_turnLocked_39 : decode cX4_turnLocked 39 = .ok (.aload_n 0, 1) := by decide +kernel
theorem dX4_turnLocked_40 : decode cX4_turnLocked 40 = .ok (.getfield 22, 3) := by decide +kernel
theorem dX4_turnLocked_43 : decode cX4_turnLocked 43 = .ok (.iload_n 2, 1) := by decide +kernel
theorem dX4_turnLocked_44 : decode cX4_turnLocked 44 = .ok (.dup2, 1) := by decide +kernel
theorem dX4_turnLocked_45 : decode cX4_turnLocked 45 = .ok (.iaload, 1) := by decide +kernel
theorem dX4_turnLocked_46 : decode cX4_turnLocked 46 = .ok (.iload_n 1, 1) := by decide +kernel
theorem dX4_turnLocked_47 : decode cX4_turnLocked 47 = .ok (.iadd, 1) := by decide +kernel
theorem dX4_turnLocked_48 : decode cX4_turnLocked 48 = .ok (.iastore, 1) := by decide +kernel
theorem dX4_turnLocked_49 : decode cX4_turnLocked 49 = .ok (.iinc 2 1, 3) := by decide +kernel
theorem dX4_turnLocked_52 : decode cX4_turnLocked 52 = .ok (.goto (-50), 3) := by decide +kernel
theorem dX4_turnLocked_55 : decode cX4_turnLocked 55 = .ok (.return_, 1) := by decide +kernel
theorem dX4_turnByHand_0 : decode cX4_turnByHand 0 = .ok (.aload_n 0, 1) := by decide +kernel
theorem dX4_turnByHand_1 : decode cX4_turnByHand 1 = .ok (.getfield 15, 3) := by decide +kernel
theorem dX4_turnByHand_4 : decode cX4_turnByHand 4 = .ok (.iload_n 1, 1) := by decide +kernel
theorem dX4_turnByHand_5 : decode cX4_turnByHand 5 = .ok (.aload_n 0, 1) := by decide +kernel
theorem dX4_turnByHand_6 : decode cX4_turnByHand 6 = .ok (.getfield 15, 3) := by decide +kernel
theorem dX4_turnByHand_9 : decode cX4_turnByHand 9 = .ok (.iload_n 1, 1) := by decide +kernel
theorem dX4_turnByHand_10 : decode cX4_turnByHand 10 = .ok (.iaload, 1) := by decide +kernel
theorem dX4_turnByHand_11 : decode cX4_turnByHand 11 = .ok (.iload_n 2, 1) := by decide +kernel
theorem dX4_turnByHand_12 : decode cX4_turnByHand 12 = .ok (.iadd, 1) := by decide +kernel
theorem dX4_turnByHand_13 : decode cX4_turnByHand 13 = .ok (.aload_n 0, 1) := by decide +kernel
theorem dX4_turnByHand_14 : decode cX4_turnByHand 14 = .ok (.getfield 9, 3) := by decide +kernel
theorem dX4_turnByHand_17 : decode cX4_turnByHand 17 = .ok (.iload_n 1, 1) := by decide +kernel
theorem dX4_turnByHand_18 : decode cX4_turnByHand 18 = .ok (.iaload, 1) := by decide +kernel
theorem dX4_turnByHand_19 : decode cX4_turnByHand 19 = .ok (.invokestatic 51, 3) := by decide +kernel
theorem dX4_turnByHand_22 : decode cX4_turnByHand 22 = .ok (.iastore, 1) := by decide +kernel
theorem dX4_turnByHand_23 : decode cX4_turnByHand 23 = .ok (.aload_n 0, 1) := by decide +kernel
theorem dX4_turnByHand_24 : decode cX4_turnByHand 24 = .ok (.getfield 25, 3) := by decide +kernel
theorem dX4_turnByHand_27 : decode cX4_turnByHand 27 = .ok (.iload_n 1, 1) := by decide +kernel
theorem dX4_turnByHand_28 : decode cX4_turnByHand 28 = .ok (.dup2, 1) := by decide +kernel
theorem dX4_turnByHand_29 : decode cX4_turnByHand 29 = .ok (.iaload, 1) := by decide +kernel
theorem dX4_turnByHand_30 : decode cX4_turnByHand 30 = .ok (.iload_n 2, 1) := by decide +kernel
theorem dX4_turnByHand_31 : decode cX4_turnByHand 31 = .ok (.iadd, 1) := by decide +kernel
theorem dX4_turnByHand_32 : decode cX4_turnByHand 32 = .ok (.iastore, 1) := by decide +kernel
theorem dX4_turnByHand_33 : decode cX4_turnByHand 33 = .ok (.return_, 1) := by decide +kernel
theorem dX4_giveTeeth_0 : decode cX4_giveTeeth 0 = .ok (.aload_n 0, 1) := by decide +kernel
theorem dX4_giveTeeth_1 : decode cX4_giveTeeth 1 = .ok (.iload_n 1, 1) := by decide +kernel
theorem dX4_giveTeeth_2 : decode cX4_giveTeeth 2 = .ok (.iconst 0, 1) := by decide +kernel
theorem dX4_giveTeeth_3 : decode cX4_giveTeeth 3 = .ok (.invokevirtual 54, 3) := by decide +kernel
theorem dX4_giveTeeth_6 : decode cX4_giveTeeth 6 = .ok (.istore_n 3, 1) := by decide +kernel
theorem dX4_giveTeeth_7 : decode cX4_giveTeeth 7 = .ok (.iconst 0, 1) := by decide +kernel
theorem dX4_giveTeeth_8 : decode cX4_giveTeeth 8 = .ok (.istore 4, 2) := by decide +kernel
theorem dX4_giveTeeth_10 : decode cX4_giveTeeth 10 = .ok (.iload 4, 2) := by decide +kernel
theorem dX4_giveTeeth_12 : decode cX4_giveTeeth 12 = .ok (.iload_n 2, 1) := by decide +kernel
theorem dX4_giveTeeth_13 : decode cX4_giveTeeth 13 = .ok (.if_icmp .ge 17, 3) := by decide +kernel
theorem dX4_giveTeeth_16 : decode cX4_giveTeeth 16 = .ok (.aload_n 0, 1) := by decide +kernel
theorem dX4_giveTeeth_17 : decode cX4_giveTeeth 17 = .ok (.iload_n 1, 1) := by decide +kernel
theorem dX4_giveTeeth_18 : decode cX4_giveTeeth 18 = .ok (.iload 4, 2) := by decide +kernel
theorem dX4_giveTeeth_20 : decode cX4_giveTeeth 20 = .ok (.iload_n 3, 1) := by decide +kernel
theorem dX4_giveTeeth_21 : decode cX4_giveTeeth 21 = .ok (.invokevirtual 57, 3) := by decide +kernel
theorem dX4_giveTeeth_24 : decode cX4_giveTeeth 24 = .ok (.iinc 4 1, 3) := by decide +kernel
theorem dX4_giveTeeth_27 : decode cX4_giveTeeth 27 = .ok (.goto (-17), 3) := by decide +kernel
theorem dX4_giveTeeth_30 : decode cX4_giveTeeth 30 = .ok (.aload_n 0, 1) := by decide +kernel
theorem dX4_giveTeeth_31 : decode cX4_giveTeeth 31 = .ok (.getfield 9, 3) := by decide +kernel
theorem dX4_giveTeeth_34 : decode cX4_giveTeeth 34 = .ok (.iload_n 1, 1) := by decide +kernel
theorem dX4_giveTeeth_35 : decode cX4_giveTeeth 35 = .ok (.iload_n 2, 1) := by decide +kernel
theorem dX4_giveTeeth_36 : decode cX4_giveTeeth 36 = .ok (.iastore, 1) := by decide +kernel
theorem dX4_giveTeeth_37 : decode cX4_giveTeeth 37 = .ok (.aload_n 0, 1) := by decide +kernel
theorem dX4_giveTeeth_38 : decode cX4_giveTeeth 38 = .ok (.getfield 15, 3) := by decide +kernel
theorem dX4_giveTeeth_41 : decode cX4_giveTeeth 41 = .ok (.iload_n 1, 1) := by decide +kernel
theorem dX4_giveTeeth_42 : decode cX4_giveTeeth 42 = .ok (.iconst 0, 1) := by decide +kernel
theorem dX4_giveTeeth_43 : decode cX4_giveTeeth 43 = .ok (.iastore, 1) := by decide +kernel
theorem dX4_giveTeeth_44 : decode cX4_giveTeeth 44 = .ok (.aload_n 0, 1) := by decide +kernel
theorem dX4_giveTeeth_45 : decode cX4_giveTeeth 45 = .ok (.getfield 22, 3) := by decide +kernel
theorem dX4_giveTeeth_48 : decode cX4_giveTeeth 48 = .ok (.iload_n 1, 1) := by decide +kernel
theorem dX4_giveTeeth_49 : decode cX4_giveTeeth 49 = .ok (.iconst 0, 1) := by decide +kernel
theorem dX4_giveTeeth_50 : decode cX4_giveTeeth 50 = .ok (.iastore, 1) := by decide +kernel
theorem dX4_giveTeeth_51 : decode cX4_giveTeeth 51 = .ok (.aload_n 0, 1) := by decide +kernel
theorem dX4_giveTeeth_52 : decode cX4_giveTeeth 52 = .ok (.getfield 25, 3) := by decide +kernel
theorem dX4_giveTeeth_55 : decode cX4_giveTeeth 55 = .ok (.iload_n 1, 1) := by decide +kernel
theorem dX4_giveTeeth_56 : decode cX4_giveTeeth 56 = .ok (.iconst 0, 1) := by decide +kernel
theorem dX4_giveTeeth_57 : decode cX4_giveTeeth 57 = .ok (.iastore, 1) := by decide +kernel
theorem dX4_giveTeeth_58 : decode cX4_giveTeeth 58 = .ok (.return_, 1) := by decide +kernel
theorem dX4_heightBehind_0 : decode cX4_heightBehind 0 = .ok (.aload_n 0, 1) := by decide +kernel
theorem dX4_heightBehind_1 : decode cX4_heightBehind 1 = .ok (.getfield 18, 3) := by decide +kernel
theorem dX4_heightBehind_4 : decode cX4_heightBehind 4 = .ok (.iload_n 1, 1) := by decide +kernel
theorem dX4_heightBehind_5 : decode cX4_heightBehind 5 = .ok (.baload, 1) := by decide +kernel
theorem dX4_heightBehind_6 : decode cX4_heightBehind 6 = .ok (.ifCond .eq 7, 3) := by decide +kernel
theorem dX4_heightBehind_9 : decode cX4_heightBehind 9 = .ok (.iload_n 2, 1) := by decide +kernel
theorem dX4_heightBehind_10 : decode cX4_heightBehind 10 = .ok (.goto 4, 3) := by decide +kernel
theorem dX4_heightBehind_13 : decode cX4_heightBehind 13 = .ok (.iconst 0, 1) := by decide +kernel
theorem dX4_heightBehind_14 : decode cX4_heightBehind 14 = .ok (.istore_n 3, 1) := by decide +kernel
theorem dX4_heightBehind_15 : decode cX4_heightBehind 15 = .ok (.aload_n 0, 1) := by decide +kernel
theorem dX4_heightBehind_16 : decode cX4_heightBehind 16 = .ok (.iload_n 1, 1) := by decide +kernel
theorem dX4_heightBehind_17 : decode cX4_heightBehind 17 = .ok (.aload_n 0, 1) := by decide +kernel
theorem dX4_heightBehind_18 : decode cX4_heightBehind 18 = .ok (.getfield 15, 3) := by decide +kernel
theorem dX4_heightBehind_21 : decode cX4_heightBehind 21 = .ok (.iload_n 1, 1) := by decide +kernel
theorem dX4_heightBehind_22 : decode cX4_heightBehind 22 = .ok (.iaload, 1) := by decide +kernel
theorem dX4_heightBehind_23 : decode cX4_heightBehind 23 = .ok (.iload_n 3, 1) := by decide +kernel
theorem dX4_heightBehind_24 : decode cX4_heightBehind 24 = .ok (.iadd, 1) := by decide +kernel
theorem dX4_heightBehind_25 : decode cX4_heightBehind 25 = .ok (.aload_n 0, 1) := by decide +kernel
theorem dX4_heightBehind_26 : decode cX4_heightBehind 26 = .ok (.getfield 9, 3) := by decide +kernel
theorem dX4_heightBehind_29 : decode cX4_heightBehind 29 = .ok (.iload_n 1, 1) := by decide +kernel
theorem dX4_heightBehind_30 : decode cX4_heightBehind 30 = .ok (.iaload, 1) := by decide +kernel
theorem dX4_heightBehind_31 : decode cX4_heightBehind 31 = .ok (.invokestatic 51, 3) := by decide +kernel
theorem dX4_heightBehind_34 : decode cX4_heightBehind 34 = .ok (.invokevirtual 61, 3) := by decide +kernel
theorem dX4_heightBehind_37 : decode cX4_heightBehind 37 = .ok (.ireturn, 1) := by decide +kernel
theorem dX4_faultBehind_0 : decode cX4_faultBehind 0 = .ok (.aload_n 0, 1) := by decide +kernel
theorem dX4_faultBehind_1 : decode cX4_faultBehind 1 = .ok (.iconst 0, 1) := by decide +kernel
theorem dX4_faultBehind_2 : decode cX4_faultBehind 2 = .ok (.iload_n 1, 1) := by decide +kernel
theorem dX4_faultBehind_3 : decode cX4_faultBehind 3 = .ok (.invokevirtual 54, 3) := by decide +kernel
theorem dX4_faultBehind_6 : decode cX4_faultBehind 6 = .ok (.aload_n 0, 1) := by decide +kernel
theorem dX4_faultBehind_7 : decode cX4_faultBehind 7 = .ok (.iconst 1, 1) := by decide +kernel
theorem dX4_faultBehind_8 : decode cX4_faultBehind 8 = .ok (.iload_n 1, 1) := by decide +kernel
theorem dX4_faultBehind_9 : decode cX4_faultBehind 9 = .ok (.invokevirtual 54, 3) := by decide +kernel
theorem dX4_faultBehind_12 : decode cX4_faultBehind 12 = .ok (.aload_n 0, 1) := by decide +kernel
theorem dX4_faultBehind_13 : decode cX4_faultBehind 13 = .ok (.iconst 2, 1) := by decide +kernel
theorem dX4_faultBehind_14 : decode cX4_faultBehind 14 = .ok (.iload_n 1, 1) := by decide +kernel
theorem dX4_faultBehind_15 : decode cX4_faultBehind 15 = .ok (.invokevirtual 54, 3) := by decide +kernel
theorem dX4_faultBehind_18 : decode cX4_faultBehind 18 = .ok (.aload_n 0, 1) := by decide +kernel
theorem dX4_faultBehind_19 : decode cX4_faultBehind 19 = .ok (.iconst 3, 1) := by decide +kernel
theorem dX4_faultBehind_20 : decode cX4_faultBehind 20 = .ok (.iload_n 1, 1) := by decide +kernel
theorem dX4_faultBehind_21 : decode cX4_faultBehind 21 = .ok (.invokevirtual 54, 3) := by decide +kernel
theorem dX4_faultBehind_24 : decode cX4_faultBehind 24 = .ok (.aload_n 0, 1) := by decide +kernel
theorem dX4_faultBehind_25 : decode cX4_faultBehind 25 = .ok (.iconst 4, 1) := by decide +kernel
theorem dX4_faultBehind_26 : decode cX4_faultBehind 26 = .ok (.iload_n 1, 1) := by decide +kernel
theorem dX4_faultBehind_27 : decode cX4_faultBehind 27 = .ok (.invokevirtual 54, 3) := by decide +kernel
theorem dX4_faultBehind_30 : decode cX4_faultBehind 30 = .ok (.iload_n 2, 1) := by decide +kernel
theorem dX4_faultBehind_31 : decode cX4_faultBehind 31 = .ok (.invokestatic 64, 3) := by decide +kernel
theorem dX4_faultBehind_34 : decode cX4_faultBehind 34 = .ok (.ireturn, 1) := by decide +kernel
theorem dX4_topByDeeds_0 : decode cX4_topByDeeds 0 = .ok (.aload_n 0, 1) := by decide +kernel
theorem dX4_topByDeeds_1 : decode cX4_topByDeeds 1 = .ok (.getfield 22, 3) := by decide +kernel
theorem dX4_topByDeeds_4 : decode cX4_topByDeeds 4 = .ok (.iload_n 1, 1) := by decide +kernel
theorem dX4_topByDeeds_5 : decode cX4_topByDeeds 5 = .ok (.iaload, 1) := by decide +kernel
theorem dX4_topByDeeds_6 : decode cX4_topByDeeds 6 = .ok (.aload_n 0, 1) := by decide +kernel
theorem dX4_topByDeeds_7 : decode cX4_topByDeeds 7 = .ok (.getfield 25, 3) := by decide +kernel
theorem dX4_topByDeeds_10 : decode cX4_topByDeeds 10 = .ok (.iload_n 1, 1) := by decide +kernel
theorem dX4_topByDeeds_11 : decode cX4_topByDeeds 11 = .ok (.iaload, 1) := by decide +kernel
theorem dX4_topByDeeds_12 : decode cX4_topByDeeds 12 = .ok (.iadd, 1) := by decide +kernel
theorem dX4_topByDeeds_13 : decode cX4_topByDeeds 13 = .ok (.aload_n 0, 1) := by decide +kernel
theorem dX4_topByDeeds_14 : decode cX4_topByDeeds 14 = .ok (.getfield 9, 3) := by decide +kernel
theorem dX4_topByDeeds_17 : decode cX4_topByDeeds 17 = .ok (.iload_n 1, 1) := by decide +kernel
theorem dX4_topByDeeds_18 : decode cX4_topByDeeds 18 = .ok (.iaload, 1) := by decide +kernel
theorem dX4_topByDeeds_19 : decode cX4_topByDeeds 19 = .ok (.invokestatic 51, 3) := by decide +kernel
theorem dX4_topByDeeds_22 : decode cX4_topByDeeds 22 = .ok (.ireturn, 1) := by decide +kernel
theorem dX4_hasTopsOf_0 : decode cX4_hasTopsOf 0 = .ok (.iconst 0, 1) := by decide +kernel
theorem dX4_hasTopsOf_1 : decode cX4_hasTopsOf 1 = .ok (.istore_n 2, 1) := by decide +kernel
theorem dX4_hasTopsOf_2 : decode cX4_hasTopsOf 2 = .ok (.iload_n 2, 1) := by decide +kernel
theorem dX4_hasTopsOf_3 : decode cX4_hasTopsOf 3 = .ok (.iconst 5, 1) := by decide +kernel
theorem dX4_hasTopsOf_4 : decode cX4_hasTopsOf 4 = .ok (.if_icmp .ge 26, 3) := by decide +kernel
theorem dX4_hasTopsOf_7 : decode cX4_hasTopsOf 7 = .ok (.aload_n 0, 1) := by decide +kernel
theorem dX4_hasTopsOf_8 : decode cX4_hasTopsOf 8 = .ok (.getfield 15, 3) := by decide +kernel
theorem dX4_hasTopsOf_11 : decode cX4_hasTopsOf 11 = .ok (.iload_n 2, 1) := by decide +kernel
theorem dX4_hasTopsOf_12 : decode cX4_hasTopsOf 12 = .ok (.iaload, 1) := by decide +kernel
theorem dX4_hasTopsOf_13 : decode cX4_hasTopsOf 13 = .ok (.aload_n 1, 1) := by decide +kernel
theorem dX4_hasTopsOf_14 : decode cX4_hasTopsOf 14 = .ok (.getfield 15, 3) := by decide +kernel
theorem dX4_hasTopsOf_17 : decode cX4_hasTopsOf 17 = .ok (.iload_n 2, 1) := by decide +kernel
theorem dX4_hasTopsOf_18 : decode cX4_hasTopsOf 18 = .ok (.iaload, 1) := by decide +kernel
theorem dX4_hasTopsOf_19 : decode cX4_hasTopsOf 19 = .ok (.if_icmp .eq 5, 3) := by decide +kernel
theorem dX4_hasTopsOf_22 : decode cX4_hasTopsOf 22 = .ok (.iconst 0, 1) := by decide +kernel
theorem dX4_hasTopsOf_23 : decode cX4_hasTopsOf 23 = .ok (.ireturn, 1) := by decide +kernel
theorem dX4_hasTopsOf_24 : decode cX4_hasTopsOf 24 = .ok (.iinc 2 1, 3) := by decide +kernel
theorem dX4_hasTopsOf_27 : decode cX4_hasTopsOf 27 = .ok (.goto (-25), 3) := by decide +kernel
theorem dX4_hasTopsOf_30 : decode cX4_hasTopsOf 30 = .ok (.iconst 1, 1) := by decide +kernel
theorem dX4_hasTopsOf_31 : decode cX4_hasTopsOf 31 = .ok (.ireturn, 1) := by decide +kernel
theorem dX4_roundByTeeth_0 : decode cX4_roundByTeeth 0 = .ok (.iconst 1, 1) := by decide +kernel
theorem dX4_roundByTeeth_1 : decode cX4_roundByTeeth 1 = .ok (.istore_n 1, 1) := by decide +kernel
theorem dX4_roundByTeeth_2 : decode cX4_roundByTeeth 2 = .ok (.iconst 0, 1) := by decide +kernel
theorem dX4_roundByTeeth_3 : decode cX4_roundByTeeth 3 = .ok (.istore_n 2, 1) := by decide +kernel
theorem dX4_roundByTeeth_4 : decode cX4_roundByTeeth 4 = .ok (.iload_n 2, 1) := by decide +kernel
theorem dX4_roundByTeeth_5 : decode cX4_roundByTeeth 5 = .ok (.iconst 5, 1) := by decide +kernel
theorem dX4_roundByTeeth_6 : decode cX4_roundByTeeth 6 = .ok (.if_icmp .ge 29, 3) := by decide +kernel
theorem dX4_roundByTeeth_9 : decode cX4_roundByTeeth 9 = .ok (.aload_n 0, 1) := by decide +kernel
theorem dX4_roundByTeeth_10 : decode cX4_roundByTeeth 10 = .ok (.getfield 18, 3) := by decide +kernel
theorem dX4_roundByTeeth_13 : decode cX4_roundByTeeth 13 = .ok (.iload_n 2, 1) := by decide +kernel
theorem dX4_roundByTeeth_14 : decode cX4_roundByTeeth 14 = .ok (.baload, 1) := by decide +kernel
theorem dX4_roundByTeeth_15 : decode cX4_roundByTeeth 15 = .ok (.ifCond .eq 14, 3) := by decide +kernel
theorem dX4_roundByTeeth_18 : decode cX4_roundByTeeth 18 = .ok (.iload_n 1, 1) := by decide +kernel
theorem dX4_roundByTeeth_19 : decode cX4_roundByTeeth 19 = .ok (.aload_n 0, 1) := by decide +kernel
theorem dX4_roundByTeeth_20 : decode cX4_roundByTeeth 20 = .ok (.getfield 9, 3) := by decide +kernel
theorem dX4_roundByTeeth_23 : decode cX4_roundByTeeth 23 = .ok (.iload_n 2, 1) := by decide +kernel
theorem dX4_roundByTeeth_24 : decode cX4_roundByTeeth 24 = .ok (.iaload, 1) := by decide +kernel
theorem dX4_roundByTeeth_25 : decode cX4_roundByTeeth 25 = .ok (.invokestatic 68, 3) := by decide +kernel
theorem dX4_roundByTeeth_28 : decode cX4_roundByTeeth 28 = .ok (.istore_n 1, 1) := by decide +kernel
theorem dX4_roundByTeeth_29 : decode cX4_roundByTeeth 29 = .ok (.iinc 2 1, 3) := by decide +kernel
theorem dX4_roundByTeeth_32 : decode cX4_roundByTeeth 32 = .ok (.goto (-28), 3) := by decide +kernel
theorem dX4_roundByTeeth_35 : decode cX4_roundByTeeth 35 = .ok (.iload_n 1, 1) := by decide +kernel
theorem dX4_roundByTeeth_36 : decode cX4_roundByTeeth 36 = .ok (.ireturn, 1) := by decide +kernel
theorem dX4_leastMultiple_0 : decode cX4_leastMultiple 0 = .ok (.iconst 1, 1) := by decide +kernel
theorem dX4_leastMultiple_1 : decode cX4_leastMultiple 1 = .ok (.istore_n 2, 1) := by decide +kernel
theorem dX4_leastMultiple_2 : decode cX4_leastMultiple 2 = .ok (.iload_n 2, 1) := by decide +kernel
theorem dX4_leastMultiple_3 : decode cX4_leastMultiple 3 = .ok (.iload_n 1, 1) := by decide +kernel
theorem dX4_leastMultiple_4 : decode cX4_leastMultiple 4 = .ok (.if_icmp .ge 23, 3) := by decide +kernel
theorem dX4_leastMultiple_7 : decode cX4_leastMultiple 7 = .ok (.iload_n 0, 1) := by decide +kernel
theorem dX4_leastMultiple_8 : decode cX4_leastMultiple 8 = .ok (.iload_n 2, 1) := by decide +kernel
theorem dX4_leastMultiple_9 : decode cX4_leastMultiple 9 = .ok (.imul, 1) := by decide +kernel
theorem dX4_leastMultiple_10 : decode cX4_leastMultiple 10 = .ok (.iload_n 1, 1) := by decide +kernel
theorem dX4_leastMultiple_11 : decode cX4_leastMultiple 11 = .ok (.invokestatic 51, 3) := by decide +kernel
theorem dX4_leastMultiple_14 : decode cX4_leastMultiple 14 = .ok (.ifCond .ne 7, 3) := by decide +kernel
theorem dX4_leastMultiple_17 : decode cX4_leastMultiple 17 = .ok (.iload_n 0, 1) := by decide +kernel
theorem dX4_leastMultiple_18 : decode cX4_leastMultiple 18 = .ok (.iload_n 2, 1) := by decide +kernel
theorem dX4_leastMultiple_19 : decode cX4_leastMultiple 19 = .ok (.imul, 1) := by decide +kernel
theorem dX4_leastMultiple_20 : decode cX4_leastMultiple 20 = .ok (.ireturn, 1) := by decide +kernel
theorem dX4_leastMultiple_21 : decode cX4_leastMultiple 21 = .ok (.iinc 2 1, 3) := by decide +kernel
theorem dX4_leastMultiple_24 : decode cX4_leastMultiple 24 = .ok (.goto (-22), 3) := by decide +kernel
theorem dX4_leastMultiple_27 : decode cX4_leastMultiple 27 = .ok (.iload_n 0, 1) := by decide +kernel
theorem dX4_leastMultiple_28 : decode cX4_leastMultiple 28 = .ok (.iload_n 1, 1) := by decide +kernel
theorem dX4_leastMultiple_29 : decode cX4_leastMultiple 29 = .ok (.imul, 1) := by decide +kernel
theorem dX4_leastMultiple_30 : decode cX4_leastMultiple 30 = .ok (.ireturn, 1) := by decide +kernel
theorem dX4_countLocked_0 : decode cX4_countLocked 0 = .ok (.iconst 0, 1) := by decide +kernel
theorem dX4_countLocked_1 : decode cX4_countLocked 1 = .ok (.istore_n 1, 1) := by decide +kernel
theorem dX4_countLocked_2 : decode cX4_countLocked 2 = .ok (.iconst 0, 1) := by decide +kernel
theorem dX4_countLocked_3 : decode cX4_countLocked 3 = .ok (.istore_n 2, 1) := by decide +kernel
theorem dX4_countLocked_4 : decode cX4_countLocked 4 = .ok (.iload_n 2, 1) := by decide +kernel
theorem dX4_countLocked_5 : decode cX4_countLocked 5 = .ok (.iconst 5, 1) := by decide +kernel
theorem dX4_countLocked_6 : decode cX4_countLocked 6 = .ok (.if_icmp .ge 21, 3) := by decide +kernel
theorem dX4_countLocked_9 : decode cX4_countLocked 9 = .ok (.iload_n 1, 1) := by decide +kernel
theorem dX4_countLocked_10 : decode cX4_countLocked 10 = .ok (.aload_n 0, 1) := by decide +kernel
theorem dX4_countLocked_11 : decode cX4_countLocked 11 = .ok (.getfield 18, 3) := by decide +kernel
theorem dX4_countLocked_14 : decode cX4_countLocked 14 = .ok (.iload_n 2, 1) := by decide +kernel
theorem dX4_countLocked_15 : decode cX4_countLocked 15 = .ok (.baload, 1) := by decide +kernel
theorem dX4_countLocked_16 : decode cX4_countLocked 16 = .ok (.invokestatic 71, 3) := by decide +kernel
theorem dX4_countLocked_19 : decode cX4_countLocked 19 = .ok (.iadd, 1) := by decide +kernel
theorem dX4_countLocked_20 : decode cX4_countLocked 20 = .ok (.istore_n 1, 1) := by decide +kernel
theorem dX4_countLocked_21 : decode cX4_countLocked 21 = .ok (.iinc 2 1, 3) := by decide +kernel
theorem dX4_countLocked_24 : decode cX4_countLocked 24 = .ok (.goto (-20), 3) := by decide +kernel
theorem dX4_countLocked_27 : decode cX4_countLocked 27 = .ok (.iload_n 1, 1) := by decide +kernel
theorem dX4_countLocked_28 : decode cX4_countLocked 28 = .ok (.ireturn, 1) := by decide +kernel
theorem dX4_countOut_0 : decode cX4_countOut 0 = .ok (.iconst 0, 1) := by decide +kernel
theorem dX4_countOut_1 : decode cX4_countOut 1 = .ok (.istore_n 1, 1) := by decide +kernel
theorem dX4_countOut_2 : decode cX4_countOut 2 = .ok (.iconst 0, 1) := by decide +kernel
theorem dX4_countOut_3 : decode cX4_countOut 3 = .ok (.istore_n 2, 1) := by decide +kernel
theorem dX4_countOut_4 : decode cX4_countOut 4 = .ok (.iload_n 2, 1) := by decide +kernel
theorem dX4_countOut_5 : decode cX4_countOut 5 = .ok (.iconst 5, 1) := by decide +kernel
theorem dX4_countOut_6 : decode cX4_countOut 6 = .ok (.if_icmp .ge 30, 3) := by decide +kernel
theorem dX4_countOut_9 : decode cX4_countOut 9 = .ok (.iload_n 1, 1) := by decide +kernel
theorem dX4_countOut_10 : decode cX4_countOut 10 = .ok (.aload_n 0, 1) := by decide +kernel
theorem dX4_countOut_11 : decode cX4_countOut 11 = .ok (.iload_n 2, 1) := by decide +kernel
theorem dX4_countOut_12 : decode cX4_countOut 12 = .ok (.iconst 0, 1) := by decide +kernel
theorem dX4_countOut_13 : decode cX4_countOut 13 = .ok (.invokevirtual 54, 3) := by decide +kernel
theorem dX4_countOut_16 : decode cX4_countOut 16 = .ok (.iconst 5, 1) := by decide +kernel
theorem dX4_countOut_17 : decode cX4_countOut 17 = .ok (.if_icmp .lt 7, 3) := by decide +kernel
theorem dX4_countOut_20 : decode cX4_countOut 20 = .ok (.iconst 1, 1) := by decide +kernel
theorem dX4_countOut_21 : decode cX4_countOut 21 = .ok (.goto 4, 3) := by decide +kernel
theorem dX4_countOut_24 : decode cX4_countOut 24 = .ok (.iconst 0, 1) := by decide +kernel
theorem dX4_countOut_25 : decode cX4_countOut 25 = .ok (.invokestatic 71, 3) := by decide +kernel
theorem dX4_countOut_28 : decode cX4_countOut 28 = .ok (.iadd, 1) := by decide +kernel
theorem dX4_countOut_29 : decode cX4_countOut 29 = .ok (.istore_n 1, 1) := by decide +kernel
theorem dX4_countOut_30 : decode cX4_countOut 30 = .ok (.iinc 2 1, 3) := by decide +kernel
theorem dX4_countOut_33 : decode cX4_countOut 33 = .ok (.goto (-29), 3) := by decide +kernel
theorem dX4_countOut_36 : decode cX4_countOut 36 = .ok (.iload_n 1, 1) := by decide +kernel
theorem dX4_countOut_37 : decode cX4_countOut 37 = .ok (.ireturn, 1) := by decide +kernel
theorem dX4_countHighTeeth_0 : decode cX4_countHighTeeth 0 = .ok (.iconst 0, 1) := by decide +kernel
theorem dX4_countHighTeeth_1 : decode cX4_countHighTeeth 1 = .ok (.istore_n 2, 1) := by decide +kernel
theorem dX4_countHighTeeth_2 : decode cX4_countHighTeeth 2 = .ok (.iconst 0, 1) := by decide +kernel
theorem dX4_countHighTeeth_3 : decode cX4_countHighTeeth 3 = .ok (.istore_n 3, 1) := by decide +kernel
theorem dX4_countHighTeeth_4 : decode cX4_countHighTeeth 4 = .ok (.iload_n 3, 1) := by decide +kernel
theorem dX4_countHighTeeth_5 : decode cX4_countHighTeeth 5 = .ok (.aload_n 0, 1) := by decide +kernel
theorem dX4_countHighTeeth_6 : decode cX4_countHighTeeth 6 = .ok (.getfield 9, 3) := by decide +kernel
theorem dX4_countHighTeeth_9 : decode cX4_countHighTeeth 9 = .ok (.iload_n 1, 1) := by decide +kernel
theorem dX4_countHighTeeth_10 : decode cX4_countHighTeeth 10 = .ok (.iaload, 1) := by decide +kernel
theorem dX4_countHighTeeth_11 : decode cX4_countHighTeeth 11 = .ok (.if_icmp .ge 30, 3) := by decide +kernel
theorem dX4_countHighTeeth_14 : decode cX4_countHighTeeth 14 = .ok (.iload_n 2, 1) := by decide +kernel
theorem dX4_countHighTeeth_15 : decode cX4_countHighTeeth 15 = .ok (.aload_n 0, 1) := by decide +kernel
theorem dX4_countHighTeeth_16 : decode cX4_countHighTeeth 16 = .ok (.iload_n 1, 1) := by decide +kernel
theorem dX4_countHighTeeth_17 : decode cX4_countHighTeeth 17 = .ok (.iload_n 3, 1) := by decide +kernel
theorem dX4_countHighTeeth_18 : decode cX4_countHighTeeth 18 = .ok (.invokevirtual 61, 3) := by decide +kernel
theorem dX4_countHighTeeth_21 : decode cX4_countHighTeeth 21 = .ok (.iconst 5, 1) := by decide +kernel
theorem dX4_countHighTeeth_22 : decode cX4_countHighTeeth 22 = .ok (.if_icmp .lt 7, 3) := by decide +kernel
theorem dX4_countHighTeeth_25 : decode cX4_countHighTeeth 25 = .ok (.iconst 1, 1) := by decide +kernel
theorem dX4_countHighTeeth_26 : decode cX4_countHighTeeth 26 = .ok (.goto 4, 3) := by decide +kernel
theorem dX4_countHighTeeth_29 : decode cX4_countHighTeeth 29 = .ok (.iconst 0, 1) := by decide +kernel
theorem dX4_countHighTeeth_30 : decode cX4_countHighTeeth 30 = .ok (.invokestatic 71, 3) := by decide +kernel
theorem dX4_countHighTeeth_33 : decode cX4_countHighTeeth 33 = .ok (.iadd, 1) := by decide +kernel
theorem dX4_countHighTeeth_34 : decode cX4_countHighTeeth 34 = .ok (.istore_n 2, 1) := by decide +kernel
theorem dX4_countHighTeeth_35 : decode cX4_countHighTeeth 35 = .ok (.iinc 3 1, 3) := by decide +kernel
theorem dX4_countHighTeeth_38 : decode cX4_countHighTeeth 38 = .ok (.goto (-34), 3) := by decide +kernel
theorem dX4_countHighTeeth_41 : decode cX4_countHighTeeth 41 = .ok (.iload_n 2, 1) := by decide +kernel
theorem dX4_countHighTeeth_42 : decode cX4_countHighTeeth 42 = .ok (.ireturn, 1) := by decide +kernel
theorem dX5_init_0 : decode cX5_init 0 = .ok (.aload_n 0, 1) := by decide +kernel
theorem dX5_init_1 : decode cX5_init 1 = .ok (.invokespecial 1, 3) := by decide +kernel
theorem dX5_init_4 : decode cX5_init 4 = .ok (.aload_n 0, 1) := by decide +kernel
theorem dX5_init_5 : decode cX5_init 5 = .ok (.new 7, 3) := by decide +kernel
theorem dX5_init_8 : decode cX5_init 8 = .ok (.dup, 1) := by decide +kernel
theorem dX5_init_9 : decode cX5_init 9 = .ok (.invokespecial 9, 3) := by decide +kernel
theorem dX5_init_12 : decode cX5_init 12 = .ok (.putfield 10, 3) := by decide +kernel
theorem dX5_init_15 : decode cX5_init 15 = .ok (.aload_n 0, 1) := by decide +kernel
theorem dX5_init_16 : decode cX5_init 16 = .ok (.new 7, 3) := by decide +kernel
theorem dX5_init_19 : decode cX5_init 19 = .ok (.dup, 1) := by decide +kernel
theorem dX5_init_20 : decode cX5_init 20 = .ok (.invokespecial 9, 3) := by decide +kernel
theorem dX5_init_23 : decode cX5_init 23 = .ok (.putfield 16, 3) := by decide +kernel
theorem dX5_init_26 : decode cX5_init 26 = .ok (.aload_n 0, 1) := by decide +kernel
theorem dX5_init_27 : decode cX5_init 27 = .ok (.iconst 0, 1) := by decide +kernel
theorem dX5_init_28 : decode cX5_init 28 = .ok (.putfield 19, 3) := by decide +kernel
theorem dX5_init_31 : decode cX5_init 31 = .ok (.aload_n 0, 1) := by decide +kernel
theorem dX5_init_32 : decode cX5_init 32 = .ok (.new 23, 3) := by decide +kernel
theorem dX5_init_35 : decode cX5_init 35 = .ok (.dup, 1) := by decide +kernel
theorem dX5_init_36 : decode cX5_init 36 = .ok (.invokespecial 25, 3) := by decide +kernel
theorem dX5_init_39 : decode cX5_init 39 = .ok (.putfield 26, 3) := by decide +kernel
theorem dX5_init_42 : decode cX5_init 42 = .ok (.aload_n 0, 1) := by decide +kernel
theorem dX5_init_43 : decode cX5_init 43 = .ok (.new 30, 3) := by decide +kernel
theorem dX5_init_46 : decode cX5_init 46 = .ok (.dup, 1) := by decide +kernel
theorem dX5_init_47 : decode cX5_init 47 = .ok (.invokespecial 32, 3) := by decide +kernel
theorem dX5_init_50 : decode cX5_init 50 = .ok (.putfield 33, 3) := by decide +kernel
theorem dX5_init_53 : decode cX5_init 53 = .ok (.aload_n 0, 1) := by decide +kernel
theorem dX5_init_54 : decode cX5_init 54 = .ok (.new 37, 3) := by decide +kernel
theorem dX5_init_57 : decode cX5_init 57 = .ok (.dup, 1) := by decide +kernel
theorem dX5_init_58 : decode cX5_init 58 = .ok (.invokespecial 39, 3) := by decide +kernel
theorem dX5_init_61 : decode cX5_init 61 = .ok (.putfield 40, 3) := by decide +kernel
theorem dX5_init_64 : decode cX5_init 64 = .ok (.aload_n 0, 1) := by decide +kernel
theorem dX5_init_65 : decode cX5_init 65 = .ok (.new 44, 3) := by decide +kernel
theorem dX5_init_68 : decode cX5_init 68 = .ok (.dup, 1) := by decide +kernel
theorem dX5_init_69 : decode cX5_init 69 = .ok (.invokespecial 46, 3) := by decide +kernel
theorem dX5_init_72 : decode cX5_init 72 = .ok (.putfield 47, 3) := by decide +kernel
theorem dX5_init_75 : decode cX5_init 75 = .ok (.return_, 1) := by decide +kernel
theorem dX5_turn_0 : decode cX5_turn 0 = .ok (.iload_n 1, 1) := by decide +kernel
theorem dX5_turn_1 : decode cX5_turn 1 = .ok (.ifCond .eq 15, 3) := by decide +kernel
theorem dX5_turn_4 : decode cX5_turn 4 = .ok (.iload_n 1, 1) := by decide +kernel
theorem dX5_turn_5 : decode cX5_turn 5 = .ok (.bipush (-60), 2) := by decide +kernel
theorem dX5_turn_7 : decode cX5_turn 7 = .ok (.if_icmp .lt 9, 3) := by decide +kernel
theorem dX5_turn_10 : decode cX5_turn 10 = .ok (.iload_n 1, 1) := by decide +kernel
theorem dX5_turn_11 : decode cX5_turn 11 = .ok (.bipush 60, 2) := by decide +kernel
theorem dX5_turn_13 : decode cX5_turn 13 = .ok (.if_icmp .le 13, 3) := by decide +kernel
theorem dX5_turn_16 : decode cX5_turn 16 = .ok (.new 51, 3) := by decide +kernel
theorem dX5_turn_19 : decode cX5_turn 19 = .ok (.dup, 1) := by decide +kernel
theorem dX5_turn_20 : decode cX5_turn 20 = .ok (.ldc 53, 2) := by decide +kernel
theorem dX5_turn_22 : decode cX5_turn 22 = .ok (.invokespecial 55, 3) := by decide +kernel
theorem dX5_turn_25 : decode cX5_turn 25 = .ok (.athrow, 1) := by decide +kernel
theorem dX5_turn_26 : decode cX5_turn 26 = .ok (.aload_n 0, 1) := by decide +kernel
theorem dX5_turn_27 : decode cX5_turn 27 = .ok (.getfield 26, 3) := by decide +kernel
theorem dX5_turn_30 : decode cX5_turn 30 = .ok (.aload_n 0, 1) := by decide +kernel
theorem dX5_turn_31 : decode cX5_turn 31 = .ok (.getfield 10, 3) := by decide +kernel
theorem dX5_turn_34 : decode cX5_turn 34 = .ok (.invokevirtual 58, 3) := by decide +kernel
theorem dX5_turn_37 : decode cX5_turn 37 = .ok (.iload_n 1, 1) := by decide +kernel
theorem dX5_turn_38 : decode cX5_turn 38 = .ok (.ifCond .le 7, 3) := by decide +kernel
theorem dX5_turn_41 : decode cX5_turn 41 = .ok (.iconst 1, 1) := by decide +kernel
theorem dX5_turn_42 : decode cX5_turn 42 = .ok (.goto 4, 3) := by decide +kernel
theorem dX5_turn_45 : decode cX5_turn 45 = .ok (.iconst (-1), 1) := by decide +kernel
theorem dX5_turn_46 : decode cX5_turn 46 = .ok (.istore_n 2, 1) := by decide +kernel
theorem dX5_turn_47 : decode cX5_turn 47 = .ok (.iload_n 1, 1) := by decide +kernel
theorem dX5_turn_48 : decode cX5_turn 48 = .ok (.ifCond .le 7, 3) := by decide +kernel
theorem dX5_turn_51 : decode cX5_turn 51 = .ok (.iload_n 1, 1) := by decide +kernel
theorem dX5_turn_52 : decode cX5_turn 52 = .ok (.goto 5, 3) := by decide +kernel
theorem dX5_turn_55 : decode cX5_turn 55 = .ok (.iload_n 1, 1) := by decide +kernel
theorem dX5_turn_56 : decode cX5_turn 56 = .ok (.ineg, 1) := by decide +kernel
theorem dX5_turn_57 : decode cX5_turn 57 = .ok (.istore_n 3, 1) := by decide +kernel
theorem dX5_turn_58 : decode cX5_turn 58 = .ok (.iconst 0, 1) := by decide +kernel
theorem dX5_turn_59 : decode cX5_turn 59 = .ok (.istore 4, 2) := by decide +kernel
theorem dX5_turn_61 : decode cX5_turn 61 = .ok (.iload 4, 2) := by decide +kernel
theorem dX5_turn_63 : decode cX5_turn 63 = .ok (.iload_n 3, 1) := by decide +kernel
theorem dX5_turn_64 : decode cX5_turn 64 = .ok (.if_icmp .ge 38, 3) := by decide +kernel
theorem dX5_turn_67 : decode cX5_turn 67 = .ok (.aload_n 0, 1) := by decide +kernel
theorem dX5_turn_68 : decode cX5_turn 68 = .ok (.getfield 10, 3) := by decide +kernel
theorem dX5_turn_71 : decode cX5_turn 71 = .ok (.aload_n 0, 1) := by decide +kernel
theorem dX5_turn_72 : decode cX5_turn 72 = .ok (.getfield 10, 3) := by decide +kernel
theorem dX5_turn_75 : decode cX5_turn 75 = .ok (.getfield 62, 3) := by decide +kernel
theorem dX5_turn_78 : decode cX5_turn 78 = .ok (.iload_n 2, 1) := by decide +kernel
theorem dX5_turn_79 : decode cX5_turn 79 = .ok (.invokevirtual 65, 3) := by decide +kernel
theorem dX5_turn_82 : decode cX5_turn 82 = .ok (.ifCond .eq 6, 3) := by decide +kernel
theorem dX5_turn_85 : decode cX5_turn 85 = .ok (.iload 4, 2) := by decide +kernel
theorem dX5_turn_87 : decode cX5_turn 87 = .ok (.ireturn, 1) := by decide +kernel
theorem dX5_turn_88 : decode cX5_turn 88 = .ok (.aload_n 0, 1) := by decide +kernel
theorem dX5_turn_89 : decode cX5_turn 89 = .ok (.getfield 10, 3) := by decide +kernel
theorem dX5_turn_92 : decode cX5_turn 92 = .ok (.iload_n 2, 1) := by decide +kernel
theorem dX5_turn_93 : decode cX5_turn 93 = .ok (.invokevirtual 69, 3) := by decide +kernel
theorem dX5_turn_96 : decode cX5_turn 96 = .ok (.iinc 4 1, 3) := by decide +kernel
theorem dX5_turn_99 : decode cX5_turn 99 = .ok (.goto (-38), 3) := by decide +kernel
theorem dX5_turn_102 : decode cX5_turn 102 = .ok (.iload_n 3, 1) := by decide +kernel
theorem dX5_turn_103 : decode cX5_turn 103 = .ok (.ireturn, 1) := by decide +kernel
theorem dX5_lift_0 : decode cX5_lift 0 = .ok (.aload_n 0, 1) := by decide +kernel
theorem dX5_lift_1 : decode cX5_lift 1 = .ok (.getfield 26, 3) := by decide +kernel
theorem dX5_lift_4 : decode cX5_lift 4 = .ok (.aload_n 0, 1) := by decide +kernel
theorem dX5_lift_5 : decode cX5_lift 5 = .ok (.getfield 10, 3) := by decide +kernel
theorem dX5_lift_8 : decode cX5_lift 8 = .ok (.invokevirtual 58, 3) := by decide +kernel
theorem dX5_lift_11 : decode cX5_lift 11 = .ok (.aload_n 0, 1) := by decide +kernel
theorem dX5_lift_12 : decode cX5_lift 12 = .ok (.getfield 10, 3) := by decide +kernel
theorem dX5_lift_15 : decode cX5_lift 15 = .ok (.invokevirtual 73, 3) := by decide +kernel
theorem dX5_lift_18 : decode cX5_lift 18 = .ok (.invokestatic 77, 3) := by decide +kernel
theorem dX5_lift_21 : decode cX5_lift 21 = .ok (.istore_n 1, 1) := by decide +kernel
theorem dX5_lift_22 : decode cX5_lift 22 = .ok (.aload_n 0, 1) := by decide +kernel
theorem dX5_lift_23 : decode cX5_lift 23 = .ok (.getfield 10, 3) := by decide +kernel
theorem dX5_lift_26 : decode cX5_lift 26 = .ok (.iconst 1, 1) := by decide +kernel
theorem dX5_lift_27 : decode cX5_lift 27 = .ok (.putfield 81, 3) := by decide +kernel
theorem dX5_lift_30 : decode cX5_lift 30 = .ok (.iload_n 1, 1) := by decide +kernel
theorem dX5_lift_31 : decode cX5_lift 31 = .ok (.ireturn, 1) := by decide +kernel
theorem dX5_stop_0 : decode cX5_stop 0 = .ok (.iload_n 1, 1) := by decide +kernel
theorem dX5_stop_1 : decode cX5_stop 1 = .ok (.ifCond .lt 9, 3) := by decide +kernel
theorem dX5_stop_4 : decode cX5_stop 4 = .ok (.iload_n 1, 1) := by decide +kernel
theorem dX5_stop_5 : decode cX5_stop 5 = .ok (.bipush 60, 2) := by decide +kernel
theorem dX5_stop_7 : decode cX5_stop 7 = .ok (.if_icmp .lt 13, 3) := by decide +kernel
theorem dX5_stop_10 : decode cX5_stop 10 = .ok (.new 84, 3) := by decide +kernel
theorem dX5_stop_13 : decode cX5_stop 13 = .ok (.dup, 1) := by decide +kernel
theorem dX5_stop_14 : decode cX5_stop 14 = .ok (.ldc 86, 2) := by decide +kernel
theorem dX5_stop_16 : decode cX5_stop 16 = .ok (.invokespecial 88, 3) := by decide +kernel
theorem dX5_stop_19 : decode cX5_stop 19 = .ok (.athrow, 1) := by decide +kernel
theorem dX5_stop_20 : decode cX5_stop 20 = .ok (.aload_n 0, 1) := by decide +kernel
theorem dX5_stop_21 : decode cX5_stop 21 = .ok (.getfield 26, 3) := by decide +kernel
theorem dX5_stop_24 : decode cX5_stop 24 = .ok (.aload_n 0, 1) := by decide +kernel
theorem dX5_stop_25 : decode cX5_stop 25 = .ok (.getfield 10, 3) := by decide +kernel
theorem dX5_stop_28 : decode cX5_stop 28 = .ok (.invokevirtual 58, 3) := by decide +kernel
theorem dX5_stop_31 : decode cX5_stop 31 = .ok (.aload_n 0, 1) := by decide +kernel
theorem dX5_stop_32 : decode cX5_stop 32 = .ok (.getfield 10, 3) := by decide +kernel
theorem dX5_stop_35 : decode cX5_stop 35 = .ok (.getfield 89, 3) := by decide +kernel
theorem dX5_stop_38 : decode cX5_stop 38 = .ok (.iload_n 1, 1) := by decide +kernel
theorem dX5_stop_39 : decode cX5_stop 39 = .ok (.aload_n 0, 1) := by decide +kernel
theorem dX5_stop_40 : decode cX5_stop 40 = .ok (.getfield 10, 3) := by decide +kernel
theorem dX5_stop_43 : decode cX5_stop 43 = .ok (.getfield 89, 3) := by decide +kernel
theorem dX5_stop_46 : decode cX5_stop 46 = .ok (.iload_n 1, 1) := by decide +kernel
theorem dX5_stop_47 : decode cX5_stop 47 = .ok (.baload, 1) := by decide +kernel
theorem dX5_stop_48 : decode cX5_stop 48 = .ok (.ifCond .ne 7, 3) := by decide +kernel
theorem dX5_stop_51 : decode cX5_stop 51 = .ok (.iconst 1, 1) := by decide +kernel
theorem dX5_stop_52 : decode cX5_stop 52 = .ok (.goto 4, 3) := by decide +kernel
theorem dX5_stop_55 : decode cX5_stop 55 = .ok (.iconst 0, 1) := by decide +kernel
theorem dX5_stop_56 : decode cX5_stop 56 = .ok (.bastore, 1) := by decide +kernel
theorem dX5_stop_57 : decode cX5_stop 57 = .ok (.aload_n 0, 1) := by decide +kernel
theorem dX5_stop_58 : decode cX5_stop 58 = .ok (.getfield 10, 3) := by decide +kernel
theorem dX5_stop_61 : decode cX5_stop 61 = .ok (.invokevirtual 93, 3) := by decide +kernel
theorem dX5_stop_64 : decode cX5_stop 64 = .ok (.ireturn, 1) := by decide +kernel
theorem dX5_clutch_0 : decode cX5_clutch 0 = .ok (.iload_n 1, 1) := by decide +kernel
theorem dX5_clutch_1 : decode cX5_clutch 1 = .ok (.invokestatic 97, 3) := by decide +kernel
theorem dX5_clutch_4 : decode cX5_clutch 4 = .ok (.ifCond .ne 13, 3) := by decide +kernel
theorem dX5_clutch_7 : decode cX5_clutch 7 = .ok (.new 84, 3) := by decide +kernel
theorem dX5_clutch_10 : decode cX5_clutch 10 = .ok (.dup, 1) := by decide +kernel
theorem dX5_clutch_11 : decode cX5_clutch 11 = .ok (.ldc 101, 2) := by decide +kernel
theorem dX5_clutch_13 : decode cX5_clutch 13 = .ok (.invokespecial 88, 3) := by decide +kernel
theorem dX5_clutch_16 : decode cX5_clutch 16 = .ok (.athrow, 1) := by decide +kernel
theorem dX5_clutch_17 : decode cX5_clutch 17 = .ok (.aload_n 0, 1) := by decide +kernel
theorem dX5_clutch_18 : decode cX5_clutch 18 = .ok (.getfield 26, 3) := by decide +kernel
theorem dX5_clutch_21 : decode cX5_clutch 21 = .ok (.aload_n 0, 1) := by decide +kernel
theorem dX5_clutch_22 : decode cX5_clutch 22 = .ok (.getfield 10, 3) := by decide +kernel
theorem dX5_clutch_25 : decode cX5_clutch 25 = .ok (.invokevirtual 58, 3) := by decide +kernel
theorem dX5_clutch_28 : decode cX5_clutch 28 = .ok (.aload_n 0, 1) := by decide +kernel
theorem dX5_clutch_29 : decode cX5_clutch 29 = .ok (.getfield 10, 3) := by decide +kernel
theorem dX5_clutch_32 : decode cX5_clutch 32 = .ok (.getfield 62, 3) := by decide +kernel
theorem dX5_clutch_35 : decode cX5_clutch 35 = .ok (.iload_n 1, 1) := by decide +kernel
theorem dX5_clutch_36 : decode cX5_clutch 36 = .ok (.invokevirtual 103, 3) := by decide +kernel
theorem dX5_clutch_39 : decode cX5_clutch 39 = .ok (.aload_n 0, 1) := by decide +kernel
theorem dX5_clutch_40 : decode cX5_clutch 40 = .ok (.getfield 10, 3) := by decide +kernel
theorem dX5_clutch_43 : decode cX5_clutch 43 = .ok (.getfield 62, 3) := by decide +kernel
theorem dX5_clutch_46 : decode cX5_clutch 46 = .ok (.getfield 106, 3) := by decide +kernel
theorem dX5_clutch_49 : decode cX5_clutch 49 = .ok (.iload_n 1, 1) := by decide +kernel
theorem dX5_clutch_50 : decode cX5_clutch 50 = .ok (.baload, 1) := by decide +kernel
theorem dX5_clutch_51 : decode cX5_clutch 51 = .ok (.invokestatic 77, 3) := by decide +kernel
theorem dX5_clutch_54 : decode cX5_clutch 54 = .ok (.ireturn, 1) := by decide +kernel
theorem dX5_hand_0 : decode cX5_hand 0 = .ok (.iload_n 1, 1) := by decide +kernel
theorem dX5_hand_1 : decode cX5_hand 1 = .ok (.invokestatic 97, 3) := by decide +kernel
theorem dX5_hand_4 : decode cX5_hand 4 = .ok (.ifCond .ne 13, 3) := by decide +kernel
theorem dX5_hand_7 : decode cX5_hand 7 = .ok (.new 84, 3) := by decide +kernel
theorem dX5_hand_10 : decode cX5_hand 10 = .ok (.dup, 1) := by decide +kernel
theorem dX5_hand_11 : decode cX5_hand 11 = .ok (.ldc 101, 2) := by decide +kernel
theorem dX5_hand_13 : decode cX5_hand 13 = .ok (.invokespecial 88, 3) := by decide +kernel
theorem dX5_hand_16 : decode cX5_hand 16 = .ok (.athrow, 1) := by decide +kernel
theorem dX5_hand_17 : decode cX5_hand 17 = .ok (.iload_n 2, 1) := by decide +kernel
theorem dX5_hand_18 : decode cX5_hand 18 = .ok (.iconst 1, 1) := by decide +kernel
theorem dX5_hand_19 : decode cX5_hand 19 = .ok (.if_icmp .lt 9, 3) := by decide +kernel
theorem dX5_hand_22 : decode cX5_hand 22 = .ok (.iload_n 2, 1) := by decide +kernel
theorem dX5_hand_23 : decode cX5_hand 23 = .ok (.bipush 11, 2) := by decide +kernel
theorem dX5_hand_25 : decode cX5_hand 25 = .ok (.if_icmp .le 13, 3) := by decide +kernel
theorem dX5_hand_28 : decode cX5_hand 28 = .ok (.new 51, 3) := by decide +kernel
theorem dX5_hand_31 : decode cX5_hand 31 = .ok (.dup, 1) := by decide +kernel
theorem dX5_hand_32 : decode cX5_hand 32 = .ok (.ldc 109, 2) := by decide +kernel
theorem dX5_hand_34 : decode cX5_hand 34 = .ok (.invokespecial 55, 3) := by decide +kernel
theorem dX5_hand_37 : decode cX5_hand 37 = .ok (.athrow, 1) := by decide +kernel
theorem dX5_hand_38 : decode cX5_hand 38 = .ok (.aload_n 0, 1) := by decide +kernel
theorem dX5_hand_39 : decode cX5_hand 39 = .ok (.getfield 10, 3) := by decide +kernel
theorem dX5_hand_42 : decode cX5_hand 42 = .ok (.getfield 62, 3) := by decide +kernel
theorem dX5_hand_45 : decode cX5_hand 45 = .ok (.getfield 106, 3) := by decide +kernel
theorem dX5_hand_48 : decode cX5_hand 48 = .ok (.iload_n 1, 1) := by decide +kernel
theorem dX5_hand_49 : decode cX5_hand 49 = .ok (.baload, 1) := by decide +kernel
theorem dX5_hand_50 : decode cX5_hand 50 = .ok (.ifCond .eq 13, 3) := by decide +kernel
theorem dX5_hand_53 : decode cX5_hand 53 = .ok (.new 111, 3) := by decide +kernel
theorem dX5_hand_56 : decode cX5_hand 56 = .ok (.dup, 1) := by decide +kernel
theorem dX5_hand_57 : decode cX5_hand 57 = .ok (.ldc 113, 2) := by decide +kernel
theorem dX5_hand_59 : decode cX5_hand 59 = .ok (.invokespecial 115, 3) := by decide +kernel
theorem dX5_hand_62 : decode cX5_hand 62 = .ok (.athrow, 1) := by decide +kernel
theorem dX5_hand_63 : decode cX5_hand 63 = .ok (.aload_n 0, 1) := by decide +kernel
theorem dX5_hand_64 : decode cX5_hand 64 = .ok (.getfield 47, 3) := by decide +kernel
theorem dX5_hand_67 : decode cX5_hand 67 = .ok (.aload_n 0, 1) := by decide +kernel
theorem dX5_hand_68 : decode cX5_hand 68 = .ok (.getfield 10, 3) := by decide +kernel
theorem dX5_hand_71 : decode cX5_hand 71 = .ok (.getfield 62, 3) := by decide +kernel
theorem dX5_hand_74 : decode cX5_hand 74 = .ok (.invokevirtual 116, 3) := by decide +kernel
theorem dX5_hand_77 : decode cX5_hand 77 = .ok (.aload_n 0, 1) := by decide +kernel
theorem dX5_hand_78 : decode cX5_hand 78 = .ok (.getfield 47, 3) := by decide +kernel
theorem dX5_hand_81 : decode cX5_hand 81 = .ok (.iload_n 1, 1) := by decide +kernel
theorem dX5_hand_82 : decode cX5_hand 82 = .ok (.iload_n 2, 1) := by decide +kernel
theorem dX5_hand_83 : decode cX5_hand 83 = .ok (.invokevirtual 120, 3) := by decide +kernel
theorem dX5_hand_86 : decode cX5_hand 86 = .ok (.aload_n 0, 1) := by decide +kernel
theorem dX5_hand_87 : decode cX5_hand 87 = .ok (.getfield 47, 3) := by decide +kernel
theorem dX5_hand_90 : decode cX5_hand 90 = .ok (.iconst 0, 1) := by decide +kernel
theorem dX5_hand_91 : decode cX5_hand 91 = .ok (.aload_n 0, 1) := by decide +kernel
theorem dX5_hand_92 : decode cX5_hand 92 = .ok (.getfield 10, 3) := by decide +kernel
theorem dX5_hand_95 : decode cX5_hand 95 = .ok (.getfield 124, 3) := by decide +kernel
theorem dX5_hand_98 : decode cX5_hand 98 = .ok (.invokevirtual 128, 3) := by decide +kernel
theorem dX5_hand_101 : decode cX5_hand 101 = .ok (.ifCond .eq 13, 3) := by decide +kernel
theorem dX5_hand_104 : decode cX5_hand 104 = .ok (.new 111, 3) := by decide +kernel
theorem dX5_hand_107 : decode cX5_hand 107 = .ok (.dup, 1) := by decide +kernel
theorem dX5_hand_108 : decode cX5_hand 108 = .ok (.ldc 132, 2) := by decide +kernel
theorem dX5_hand_110 : decode cX5_hand 110 = .ok (.invokespecial 115, 3) := by decide +kernel
theorem dX5_hand_113 : decode cX5_hand 113 = .ok (.athrow, 1) := by decide +kernel
theorem dX5_hand_114 : decode cX5_hand 114 = .ok (.aload_n 0, 1) := by decide +kernel
theorem dX5_hand_115 : decode cX5_hand 115 = .ok (.getfield 26, 3) := by decide +kernel
theorem dX5_hand_118 : decode cX5_hand 118 = .ok (.aload_n 0, 1) := by decide +kernel
theorem dX5_hand_119 : decode cX5_hand 119 = .ok (.getfield 10, 3) := by decide +kernel
theorem dX5_hand_122 : decode cX5_hand 122 = .ok (.invokevirtual 58, 3) := by decide +kernel
theorem dX5_hand_125 : decode cX5_hand 125 = .ok (.aload_n 0, 1) := by decide +kernel
theorem dX5_hand_126 : decode cX5_hand 126 = .ok (.getfield 10, 3) := by decide +kernel
theorem dX5_hand_129 : decode cX5_hand 129 = .ok (.getfield 62, 3) := by decide +kernel
theorem dX5_hand_132 : decode cX5_hand 132 = .ok (.iload_n 1, 1) := by decide +kernel
theorem dX5_hand_133 : decode cX5_hand 133 = .ok (.iload_n 2, 1) := by decide +kernel
theorem dX5_hand_134 : decode cX5_hand 134 = .ok (.invokevirtual 120, 3) := by decide +kernel
theorem dX5_hand_137 : decode cX5_hand 137 = .ok (.aload_n 0, 1) := by decide +kernel
theorem dX5_hand_138 : decode cX5_hand 138 = .ok (.getfield 10, 3) := by decide +kernel
theorem dX5_hand_141 : decode cX5_hand 141 = .ok (.getfield 62, 3) := by decide +kernel
theorem dX5_hand_144 : decode cX5_hand 144 = .ok (.getfield 134, 3) := by decide +kernel
theorem dX5_hand_147 : decode cX5_hand 147 = .ok (.iload_n 1, 1) := by decide +kernel
theorem dX5_hand_148 : decode cX5_hand 148 = .ok (.iaload, 1) := by decide +kernel
theorem dX5_hand_149 : decode cX5_hand 149 = .ok (.ireturn, 1) := by decide +kernel
theorem dX5_file_0 : decode cX5_file 0 = .ok (.aload_n 0, 1) := by decide +kernel
theorem dX5_file_1 : decode cX5_file 1 = .ok (.iload_n 1, 1) := by decide +kernel
theorem dX5_file_2 : decode cX5_file 2 = .ok (.iload_n 2, 1) := by decide +kernel
theorem dX5_file_3 : decode cX5_file 3 = .ok (.invokevirtual 138, 3) := by decide +kernel
theorem dX5_file_6 : decode cX5_file 6 = .ok (.ifCond .ne 13, 3) := by decide +kernel
theorem dX5_file_9 : decode cX5_file 9 = .ok (.new 84, 3) := by decide +kernel
theorem dX5_file_12 : decode cX5_file 12 = .ok (.dup, 1) := by decide +kernel
theorem dX5_file_13 : decode cX5_file 13 = .ok (.ldc 142, 2) := by decide +kernel
theorem dX5_file_15 : decode cX5_file 15 = .ok (.invokespecial 88, 3) := by decide +kernel
theorem dX5_file_18 : decode cX5_file 18 = .ok (.athrow, 1) := by decide +kernel
theorem dX5_file_19 : decode cX5_file 19 = .ok (.iload_n 3, 1) := by decide +kernel
theorem dX5_file_20 : decode cX5_file 20 = .ok (.invokestatic 144, 3) := by decide +kernel
theorem dX5_file_23 : decode cX5_file 23 = .ok (.ifCond .ne 13, 3) := by decide +kernel
theorem dX5_file_26 : decode cX5_file 26 = .ok (.new 51, 3) := by decide +kernel
theorem dX5_file_29 : decode cX5_file 29 = .ok (.dup, 1) := by decide +kernel
theorem dX5_file_30 : decode cX5_file 30 = .ok (.ldc 147, 2) := by decide +kernel
theorem dX5_file_32 : decode cX5_file 32 = .ok (.invokespecial 55, 3) := by decide +kernel
theorem dX5_file_35 : decode cX5_file 35 = .ok (.athrow, 1) := by decide +kernel
theorem dX5_file_36 : decode cX5_file 36 = .ok (.aload_n 0, 1) := by decide +kernel
theorem dX5_file_37 : decode cX5_file 37 = .ok (.getfield 47, 3) := by decide +kernel
theorem dX5_file_40 : decode cX5_file 40 = .ok (.aload_n 0, 1) := by decide +kernel
theorem dX5_file_41 : decode cX5_file 41 = .ok (.getfield 10, 3) := by decide +kernel
theorem dX5_file_44 : decode cX5_file 44 = .ok (.getfield 62, 3) := by decide +kernel
theorem dX5_file_47 : decode cX5_file 47 = .ok (.invokevirtual 116, 3) := by decide +kernel
theorem dX5_file_50 : decode cX5_file 50 = .ok (.aload_n 0, 1) := by decide +kernel
theorem dX5_file_51 : decode cX5_file 51 = .ok (.getfield 47, 3) := by decide +kernel
theorem dX5_file_54 : decode cX5_file 54 = .ok (.iload_n 1, 1) := by decide +kernel
theorem dX5_file_55 : decode cX5_file 55 = .ok (.iload_n 2, 1) := by decide +kernel
theorem dX5_file_56 : decode cX5_file 56 = .ok (.iload_n 3, 1) := by decide +kernel
theorem dX5_file_57 : decode cX5_file 57 = .ok (.invokevirtual 149, 3) := by decide +kernel
theorem dX5_file_60 : decode cX5_file 60 = .ok (.aload_n 0, 1) := by decide +kernel
theorem dX5_file_61 : decode cX5_file 61 = .ok (.getfield 47, 3) := by decide +kernel
theorem dX5_file_64 : decode cX5_file 64 = .ok (.iconst 0, 1) := by decide +kernel
theorem dX5_file_65 : decode cX5_file 65 = .ok (.aload_n 0, 1) := by decide +kernel
theorem dX5_file_66 : decode cX5_file 66 = .ok (.getfield 10, 3) := by decide +kernel
theorem dX5_file_69 : decode cX5_file 69 = .ok (.getfield 124, 3) := by decide +kernel
theorem dX5_file_72 : decode cX5_file 72 = .ok (.invokevirtual 128, 3) := by decide +kernel
theorem dX5_file_75 : decode cX5_file 75 = .ok (.ifCond .eq 13, 3) := by decide +kernel
theorem dX5_file_78 : decode cX5_file 78 = .ok (.new 111, 3) := by decide +kernel
theorem dX5_file_81 : decode cX5_file 81 = .ok (.dup, 1) := by decide +kernel
theorem dX5_file_82 : decode cX5_file 82 = .ok (.ldc 132, 2) := by decide +kernel
theorem dX5_file_84 : decode cX5_file 84 = .ok (.invokespecial 115, 3) := by decide +kernel
theorem dX5_file_87 : decode cX5_file 87 = .ok (.athrow, 1) := by decide +kernel
theorem dX5_file_88 : decode cX5_file 88 = .ok (.aload_n 0, 1) := by decide +kernel
theorem dX5_file_89 : decode cX5_file 89 = .ok (.getfield 26, 3) := by decide +kernel
theorem dX5_file_92 : decode cX5_file 92 = .ok (.aload_n 0, 1) := by decide +kernel
theorem dX5_file_93 : decode cX5_file 93 = .ok (.getfield 10, 3) := by decide +kernel
theorem dX5_file_96 : decode cX5_file 96 = .ok (.invokevirtual 58, 3) := by decide +kernel
theorem dX5_file_99 : decode cX5_file 99 = .ok (.aload_n 0, 1) := by decide +kernel
theorem dX5_file_100 : decode cX5_file 100 = .ok (.getfield 10, 3) := by decide +kernel
theorem dX5_file_103 : decode cX5_file 103 = .ok (.getfield 62, 3) := by decide +kernel
theorem dX5_file_106 : decode cX5_file 106 = .ok (.iload_n 1, 1) := by decide +kernel
theorem dX5_file_107 : decode cX5_file 107 = .ok (.iload_n 2, 1) := by decide +kernel
theorem dX5_file_108 : decode cX5_file 108 = .ok (.invokevirtual 153, 3) := by decide +kernel
theorem dX5_file_111 : decode cX5_file 111 = .ok (.istore 4, 2) := by decide +kernel
theorem dX5_file_113 : decode cX5_file 113 = .ok (.aload_n 0, 1) := by decide +kernel
theorem dX5_file_114 : decode cX5_file 114 = .ok (.getfield 10, 3) := by decide +kernel
theorem dX5_file_117 : decode cX5_file 117 = .ok (.getfield 62, 3) := by decide +kernel
theorem dX5_file_120 : decode cX5_file 120 = .ok (.iload_n 1, 1) := by decide +kernel
theorem dX5_file_121 : decode cX5_file 121 = .ok (.iload_n 2, 1) := by decide +kernel
theorem dX5_file_122 : decode cX5_file 122 = .ok (.iload_n 3, 1) := by decide +kernel
theorem dX5_file_123 : decode cX5_file 123 = .ok (.invokevirtual 149, 3) := by decide +kernel
theorem dX5_file_126 : decode cX5_file 126 = .ok (.iload 4, 2) := by decide +kernel
theorem dX5_file_128 : decode cX5_file 128 = .ok (.ireturn, 1) := by decide +kernel
theorem dX5_change_0 : decode cX5_change 0 = .ok (.iload_n 1, 1) := by decide +kernel
theorem dX5_change_1 : decode cX5_change 1 = .ok (.invokestatic 97, 3) := by decide +kernel
theorem dX5_change_4 : decode cX5_change 4 = .ok (.ifCond .ne 13, 3) := by decide +kernel
theorem dX5_change_7 : decode cX5_change 7 = .ok (.new 84, 3) := by decide +kernel
theorem dX5_change_10 : decode cX5_change 10 = .ok (.dup, 1) := by decide +kernel
theorem dX5_change_11 : decode cX5_change 11 = .ok (.ldc 101, 2) := by decide +kernel
theorem dX5_change_13 : decode cX5_change 13 = .ok (.invokespecial 88, 3) := by decide +kernel
theorem dX5_change_16 : decode cX5_change 16 = .ok (.athrow, 1) := by decide +kernel
theorem dX5_change_17 : decode cX5_change 17 = .ok (.iload_n 2, 1) := by decide +kernel
theorem dX5_change_18 : decode cX5_change 18 = .ok (.iconst 2, 1) := by decide +kernel
theorem dX5_change_19 : decode cX5_change 19 = .ok (.if_icmp .lt 9, 3) := by decide +kernel
theorem dX5_change_22 : decode cX5_change 22 = .ok (.iload_n 2, 1) := by decide +kernel
theorem dX5_change_23 : decode cX5_change 23 = .ok (.bipush 12, 2) := by decide +kernel
theorem dX5_change_25 : decode cX5_change 25 = .ok (.if_icmp .le 13, 3) := by decide +kernel
theorem dX5_change_28 : decode cX5_change 28 = .ok (.new 51, 3) := by decide +kernel
theorem dX5_change_31 : decode cX5_change 31 = .ok (.dup, 1) := by decide +kernel
theorem dX5_change_32 : decode cX5_change 32 = .ok (.ldc 156, 2) := by decide +kernel
theorem dX5_change_34 : decode cX5_change 34 = .ok (.invokespecial 55, 3) := by decide +kernel
theorem dX5_change_37 : decode cX5_change 37 = .ok (.athrow, 1) := by decide +kernel
theorem dX5_change_38 : decode cX5_change 38 = .ok (.aload_n 0, 1) := by decide +kernel
theorem dX5_change_39 : decode cX5_change 39 = .ok (.getfield 26, 3) := by decide +kernel
theorem dX5_change_42 : decode cX5_change 42 = .ok (.aload_n 0, 1) := by decide +kernel
theorem dX5_change_43 : decode cX5_change 43 = .ok (.getfield 10, 3) := by decide +kernel
theorem dX5_change_46 : decode cX5_change 46 = .ok (.invokevirtual 58, 3) := by decide +kernel
theorem dX5_change_49 : decode cX5_change 49 = .ok (.aload_n 0, 1) := by decide +kernel
theorem dX5_change_50 : decode cX5_change 50 = .ok (.getfield 10, 3) := by decide +kernel
theorem dX5_change_53 : decode cX5_change 53 = .ok (.getfield 62, 3) := by decide +kernel
theorem dX5_change_56 : decode cX5_change 56 = .ok (.getfield 158, 3) := by decide +kernel
theorem dX5_change_59 : decode cX5_change 59 = .ok (.iload_n 1, 1) := by decide +kernel
theorem dX5_change_60 : decode cX5_change 60 = .ok (.iaload, 1) := by decide +kernel
theorem dX5_change_61 : decode cX5_change 61 = .ok (.istore_n 3, 1) := by decide +kernel
theorem dX5_change_62 : decode cX5_change 62 = .ok (.aload_n 0, 1) := by decide +kernel
theorem dX5_change_63 : decode cX5_change 63 = .ok (.getfield 10, 3) := by decide +kernel
theorem dX5_change_66 : decode cX5_change 66 = .ok (.getfield 62, 3) := by decide +kernel
theorem dX5_change_69 : decode cX5_change 69 = .ok (.iload_n 1, 1) := by decide +kernel
theorem dX5_change_70 : decode cX5_change 70 = .ok (.iload_n 2, 1) := by decide +kernel
theorem dX5_change_71 : decode cX5_change 71 = .ok (.invokevirtual 161, 3) := by decide +kernel
theorem dX5_change_74 : decode cX5_change 74 = .ok (.iload_n 3, 1) := by decide +kernel
theorem dX5_change_75 : decode cX5_change 75 = .ok (.ireturn, 1) := by decide +kernel
theorem dX5_set_0 : decode cX5_set 0 = .ok (.iload_n 1, 1) := by decide +kernel
theorem dX5_set_1 : decode cX5_set 1 = .ok (.invokestatic 144, 3) := by decide +kernel
theorem dX5_set_4 : decode cX5_set 4 = .ok (.ifCond .ne 13, 3) := by decide +kernel
theorem dX5_set_7 : decode cX5_set 7 = .ok (.new 51, 3) := by decide +kernel
theorem dX5_set_10 : decode cX5_set 10 = .ok (.dup, 1) := by decide +kernel
theorem dX5_set_11 : decode cX5_set 11 = .ok (.ldc 147, 2) := by decide +kernel
theorem dX5_set_13 : decode cX5_set 13 = .ok (.invokespecial 55, 3) := by decide +kernel
theorem dX5_set_16 : decode cX5_set 16 = .ok (.athrow, 1) := by decide +kernel
theorem dX5_set_17 : decode cX5_set 17 = .ok (.aload_n 0, 1) := by decide +kernel
theorem dX5_set_18 : decode cX5_set 18 = .ok (.getfield 10, 3) := by decide +kernel
theorem dX5_set_21 : decode cX5_set 21 = .ok (.getfield 62, 3) := by decide +kernel
theorem dX5_set_24 : decode cX5_set 24 = .ok (.iconst 0, 1) := by decide +kernel
theorem dX5_set_25 : decode cX5_set 25 = .ok (.iload_n 1, 1) := by decide +kernel
theorem dX5_set_26 : decode cX5_set 26 = .ok (.invokevirtual 128, 3) := by decide +kernel
theorem dX5_set_29 : decode cX5_set 29 = .ok (.ifCond .eq 13, 3) := by decide +kernel
theorem dX5_set_32 : decode cX5_set 32 = .ok (.new 111, 3) := by decide +kernel
theorem dX5_set_35 : decode cX5_set 35 = .ok (.dup, 1) := by decide +kernel
theorem dX5_set_36 : decode cX5_set 36 = .ok (.ldc 132, 2) := by decide +kernel
theorem dX5_set_38 : decode cX5_set 38 = .ok (.invokespecial 115, 3) := by decide +kernel
theorem dX5_set_41 : decode cX5_set 41 = .ok (.athrow, 1) := by decide +kernel
theorem dX5_set_42 : decode cX5_set 42 = .ok (.aload_n 0, 1) := by decide +kernel
theorem dX5_set_43 : decode cX5_set 43 = .ok (.getfield 26, 3) := by decide +kernel
theorem dX5_set_46 : decode cX5_set 46 = .ok (.aload_n 0, 1) := by decide +kernel
theorem dX5_set_47 : decode cX5_set 47 = .ok (.getfield 10, 3) := by decide +kernel
theorem dX5_set_50 : decode cX5_set 50 = .ok (.invokevirtual 58, 3) := by decide +kernel
theorem dX5_set_53 : decode cX5_set 53 = .ok (.aload_n 0, 1) := by decide +kernel
theorem dX5_set_54 : decode cX5_set 54 = .ok (.getfield 10, 3) := by decide +kernel
theorem dX5_set_57 : decode cX5_set 57 = .ok (.getfield 124, 3) := by decide +kernel
theorem dX5_set_60 : decode cX5_set 60 = .ok (.istore_n 2, 1) := by decide +kernel
theorem dX5_set_61 : decode cX5_set 61 = .ok (.aload_n 0, 1) := by decide +kernel
theorem dX5_set_62 : decode cX5_set 62 = .ok (.getfield 10, 3) := by decide +kernel
theorem dX5_set_65 : decode cX5_set 65 = .ok (.iload_n 1, 1) := by decide +kernel
theorem dX5_set_66 : decode cX5_set 66 = .ok (.putfield 124, 3) := by decide +kernel
theorem dX5_set_69 : decode cX5_set 69 = .ok (.iload_n 2, 1) := by decide +kernel
theorem dX5_set_70 : decode cX5_set 70 = .ok (.ireturn, 1) := by decide +kernel
theorem dX5_remember_0 : decode cX5_remember 0 = .ok (.aload_n 0, 1) := by decide +kernel
theorem dX5_remember_1 : decode cX5_remember 1 = .ok (.getfield 10, 3) := by decide +kernel
theorem dX5_remember_4 : decode cX5_remember 4 = .ok (.getfield 164, 3) := by decide +kernel
theorem dX5_remember_7 : decode cX5_remember 7 = .ok (.bipush 6, 2) := by decide +kernel
theorem dX5_remember_9 : decode cX5_remember 9 = .ok (.if_icmp .lt 13, 3) := by decide +kernel
theorem dX5_remember_12 : decode cX5_remember 12 = .ok (.new 111, 3) := by decide +kernel
theorem dX5_remember_15 : decode cX5_remember 15 = .ok (.dup, 1) := by decide +kernel
theorem dX5_remember_16 : decode cX5_remember 16 = .ok (.ldc 167, 2) := by decide +kernel
theorem dX5_remember_18 : decode cX5_remember 18 = .ok (.invokespecial 115, 3) := by decide +kernel
theorem dX5_remember_21 : decode cX5_remember 21 = .ok (.athrow, 1) := by decide +kernel
theorem dX5_remember_22 : decode cX5_remember 22 = .ok (.aload_n 0, 1) := by decide +kernel
theorem dX5_remember_23 : decode cX5_remember 23 = .ok (.getfield 26, 3) := by decide +kernel
theorem dX5_remember_26 : decode cX5_remember 26 = .ok (.aload_n 0, 1) := by decide +kernel
theorem dX5_remember_27 : decode cX5_remember 27 = .ok (.getfield 10, 3) := by decide +kernel
theorem dX5_remember_30 : decode cX5_remember 30 = .ok (.invokevirtual 58, 3) := by decide +kernel
theorem dX5_remember_33 : decode cX5_remember 33 = .ok (.aload_n 0, 1) := by decide +kernel
theorem dX5_remember_34 : decode cX5_remember 34 = .ok (.getfield 10, 3) := by decide +kernel
theorem dX5_remember_37 : decode cX5_remember 37 = .ok (.invokevirtual 169, 3) := by decide +kernel
theorem dX5_remember_40 : decode cX5_remember 40 = .ok (.aload_n 0, 1) := by decide +kernel
theorem dX5_remember_41 : decode cX5_remember 41 = .ok (.getfield 10, 3) := by decide +kernel
theorem dX5_remember_44 : decode cX5_remember 44 = .ok (.getfield 164, 3) := by decide +kernel
theorem dX5_remember_47 : decode cX5_remember 47 = .ok (.iconst 1, 1) := by decide +kernel
theorem dX5_remember_48 : decode cX5_remember 48 = .ok (.isub, 1) := by decide +kernel
theorem dX5_remember_49 : decode cX5_remember 49 = .ok (.ireturn, 1) := by decide +kernel
theorem dX5_forget_0 : decode cX5_forget 0 = .ok (.aload_n 0, 1) := by decide +kernel
theorem dX5_forget_1 : decode cX5_forget 1 = .ok (.iload_n 1, 1) := by decide +kernel
theorem dX5_forget_2 : decode cX5_forget 2 = .ok (.invokevirtual 172, 3) := by decide +kernel
theorem dX5_forget_5 : decode cX5_forget 5 = .ok (.ifCond .ne 13, 3) := by decide +kernel
theorem dX5_forget_8 : decode cX5_forget 8 = .ok (.new 84, 3) := by decide +kernel
theorem dX5_forget_11 : decode cX5_forget 11 = .ok (.dup, 1) := by decide +kernel
theorem dX5_forget_12 : decode cX5_forget 12 = .ok (.ldc 175, 2) := by decide +kernel
theorem dX5_forget_14 : decode cX5_forget 14 = .ok (.invokespecial 88, 3) := by decide +kernel
theorem dX5_forget_17 : decode cX5_forget 17 = .ok (.athrow, 1) := by decide +kernel
theorem dX5_forget_18 : decode cX5_forget 18 = .ok (.aload_n 0, 1) := by decide +kernel
theorem dX5_forget_19 : decode cX5_forget 19 = .ok (.getfield 26, 3) := by decide +kernel
theorem dX5_forget_22 : decode cX5_forget 22 = .ok (.aload_n 0, 1) := by decide +kernel
theorem dX5_forget_23 : decode cX5_forget 23 = .ok (.getfield 10, 3) := by decide +kernel
theorem dX5_forget_26 : decode cX5_forget 26 = .ok (.invokevirtual 58, 3) := by decide +kernel
theorem dX5_forget_29 : decode cX5_forget 29 = .ok (.aload_n 0, 1) := by decide +kernel
theorem dX5_forget_30 : decode cX5_forget 30 = .ok (.getfield 10, 3) := by decide +kernel
theorem dX5_forget_33 : decode cX5_forget 33 = .ok (.iload_n 1, 1) := by decide +kernel
theorem dX5_forget_34 : decode cX5_forget 34 = .ok (.invokevirtual 177, 3) := by decide +kernel
theorem dX5_forget_37 : decode cX5_forget 37 = .ok (.aload_n 0, 1) := by decide +kernel
theorem dX5_forget_38 : decode cX5_forget 38 = .ok (.getfield 10, 3) := by decide +kernel
theorem dX5_forget_41 : decode cX5_forget 41 = .ok (.getfield 164, 3) := by decide +kernel
theorem dX5_forget_44 : decode cX5_forget 44 = .ok (.ireturn, 1) := by decide +kernel
theorem dX5_append_0 : decode cX5_append 0 = .ok (.iload_n 1, 1) := by decide +kernel
theorem dX5_append_1 : decode cX5_append 1 = .ok (.bipush 33, 2) := by decide +kernel
theorem dX5_append_3 : decode cX5_append 3 = .ok (.if_icmp .lt 9, 3) := by decide +kernel
theorem dX5_append_6 : decode cX5_append 6 = .ok (.iload_n 1, 1) := by decide +kernel
theorem dX5_append_7 : decode cX5_append 7 = .ok (.bipush 126, 2) := by decide +kernel
theorem dX5_append_9 : decode cX5_append 9 = .ok (.if_icmp .le 13, 3) := by decide +kernel
theorem dX5_append_12 : decode cX5_append 12 = .ok (.new 51, 3) := by decide +kernel
theorem dX5_append_15 : decode cX5_append 15 = .ok (.dup, 1) := by decide +kernel
theorem dX5_append_16 : decode cX5_append 16 = .ok (.ldc 180, 2) := by decide +kernel
theorem dX5_append_18 : decode cX5_append 18 = .ok (.invokespecial 55, 3) := by decide +kernel
theorem dX5_append_21 : decode cX5_append 21 = .ok (.athrow, 1) := by decide +kernel
theorem dX5_append_22 : decode cX5_append 22 = .ok (.aload_n 0, 1) := by decide +kernel
theorem dX5_append_23 : decode cX5_append 23 = .ok (.getfield 33, 3) := by decide +kernel
theorem dX5_append_26 : decode cX5_append 26 = .ok (.getfield 182, 3) := by decide +kernel
theorem dX5_append_29 : decode cX5_append 29 = .ok (.bipush 60, 2) := by decide +kernel
theorem dX5_append_31 : decode cX5_append 31 = .ok (.if_icmp .lt 13, 3) := by decide +kernel
theorem dX5_append_34 : decode cX5_append 34 = .ok (.new 111, 3) := by decide +kernel
theorem dX5_append_37 : decode cX5_append 37 = .ok (.dup, 1) := by decide +kernel
theorem dX5_append_38 : decode cX5_append 38 = .ok (.ldc 185, 2) := by decide +kernel
theorem dX5_append_40 : decode cX5_append 40 = .ok (.invokespecial 115, 3) := by decide +kernel
theorem dX5_append_43 : decode cX5_append 43 = .ok (.athrow, 1) := by decide +kernel
theorem dX5_append_44 : decode cX5_append 44 = .ok (.aload_n 0, 1) := by decide +kernel
theorem dX5_append_45 : decode cX5_append 45 = .ok (.getfield 33, 3) := by decide +kernel
theorem dX5_append_48 : decode cX5_append 48 = .ok (.iload_n 1, 1) := by decide +kernel
theorem dX5_append_49 : decode cX5_append 49 = .ok (.invokevirtual 187, 3) := by decide +kernel
theorem dX5_append_52 : decode cX5_append 52 = .ok (.aload_n 0, 1) := by decide +kernel
theorem dX5_append_53 : decode cX5_append 53 = .ok (.getfield 33, 3) := by decide +kernel
theorem dX5_append_56 : decode cX5_append 56 = .ok (.getfield 182, 3) := by decide +kernel
theorem dX5_append_59 : decode cX5_append 59 = .ok (.ireturn, 1) := by decide +kernel
theorem dX5_clearBuffer_0 : decode cX5_clearBuffer 0 = .ok (.aload_n 0, 1) := by decide +kernel
theorem dX5_clearBuffer_1 : decode cX5_clearBuffer 1 = .ok (.getfield 33, 3) := by decide +kernel
theorem dX5_clearBuffer_4 : decode cX5_clearBuffer 4 = .ok (.getfield 182, 3) := by decide +kernel
theorem dX5_clearBuffer_7 : decode cX5_clearBuffer 7 = .ok (.istore_n 1, 1) := by decide +kernel
theorem dX5_clearBuffer_8 : decode cX5_clearBuffer 8 = .ok (.aload_n 0, 1) := by decide +kernel
theorem dX5_clearBuffer_9 : decode cX5_clearBuffer 9 = .ok (.getfield 33, 3) := by decide +kernel
theorem dX5_clearBuffer_12 : decode cX5_clearBuffer 12 = .ok (.iconst 0, 1) := by decide +kernel
theorem dX5_clearBuffer_13 : decode cX5_clearBuffer 13 = .ok (.putfield 182, 3) := by decide +kernel
theorem dX5_clearBuffer_16 : decode cX5_clearBuffer 16 = .ok (.iload_n 1, 1) := by decide +kernel
theorem dX5_clearBuffer_17 : decode cX5_clearBuffer 17 = .ok (.ireturn, 1) := by decide +kernel
theorem dX5_firstError_0 : decode cX5_firstError 0 = .ok (.aload_n 0, 1) := by decide +kernel
theorem dX5_firstError_1 : decode cX5_firstError 1 = .ok (.getfield 33, 3) := by decide +kernel
theorem dX5_firstError_4 : decode cX5_firstError 4 = .ok (.invokevirtual 190, 3) := by decide +kernel
theorem dX5_firstError_7 : decode cX5_firstError 7 = .ok (.ireturn, 1) := by decide +kernel
theorem dX5_work_0 : decode cX5_work 0 = .ok (.aload_n 0, 1) := by decide +kernel
theorem dX5_work_1 : decode cX5_work 1 = .ok (.getfield 33, 3) := by decide +kernel
theorem dX5_work_4 : decode cX5_work 4 = .ok (.invokevirtual 193, 3) := by decide +kernel
theorem dX5_work_7 : decode cX5_work 7 = .ok (.ifCond .ne 13, 3) := by decide +kernel
theorem dX5_work_10 : decode cX5_work 10 = .ok (.new 51, 3) := by decide +kernel
theorem dX5_work_13 : decode cX5_work 13 = .ok (.dup, 1) := by decide +kernel
theorem dX5_work_14 : decode cX5_work 14 = .ok (.ldc 196, 2) := by decide +kernel
theorem dX5_work_16 : decode cX5_work 16 = .ok (.invokespecial 55, 3) := by decide +kernel
theorem dX5_work_19 : decode cX5_work 19 = .ok (.athrow, 1) := by decide +kernel
theorem dX5_work_20 : decode cX5_work 20 = .ok (.aload_n 0, 1) := by decide +kernel
theorem dX5_work_21 : decode cX5_work 21 = .ok (.getfield 26, 3) := by decide +kernel
theorem dX5_work_24 : decode cX5_work 24 = .ok (.aload_n 0, 1) := by decide +kernel
theorem dX5_work_25 : decode cX5_work 25 = .ok (.getfield 10, 3) := by decide +kernel
theorem dX5_work_28 : decode cX5_work 28 = .ok (.invokevirtual 58, 3) := by decide +kernel
theorem dX5_work_31 : decode cX5_work 31 = .ok (.aload_n 0, 1) := by decide +kernel
theorem dX5_work_32 : decode cX5_work 32 = .ok (.getfield 40, 3) := by decide +kernel
theorem dX5_work_35 : decode cX5_work 35 = .ok (.aload_n 0, 1) := by decide +kernel
theorem dX5_work_36 : decode cX5_work 36 = .ok (.getfield 33, 3) := by decide +kernel
theorem dX5_work_39 : decode cX5_work 39 = .ok (.aload_n 0, 1) := by decide +kernel
theorem dX5_work_40 : decode cX5_work 40 = .ok (.getfield 10, 3) := by decide +kernel
theorem dX5_work_43 : decode cX5_work 43 = .ok (.invokevirtual 198, 3) := by decide +kernel
theorem dX5_work_46 : decode cX5_work 46 = .ok (.istore_n 1, 1) := by decide +kernel
theorem dX5_work_47 : decode cX5_work 47 = .ok (.aload_n 0, 1) := by decide +kernel
theorem dX5_work_48 : decode cX5_work 48 = .ok (.getfield 33, 3) := by decide +kernel
theorem dX5_work_51 : decode cX5_work 51 = .ok (.iconst 0, 1) := by decide +kernel
theorem dX5_work_52 : decode cX5_work 52 = .ok (.putfield 182, 3) := by decide +kernel
theorem dX5_work_55 : decode cX5_work 55 = .ok (.iload_n 1, 1) := by decide +kernel
theorem dX5_work_56 : decode cX5_work 56 = .ok (.ireturn, 1) := by decide +kernel
theorem dX5_keep_0 : decode cX5_keep 0 = .ok (.aload_n 0, 1) := by decide +kernel
theorem dX5_keep_1 : decode cX5_keep 1 = .ok (.getfield 16, 3) := by decide +kernel
theorem dX5_keep_4 : decode cX5_keep 4 = .ok (.aload_n 0, 1) := by decide +kernel
theorem dX5_keep_5 : decode cX5_keep 5 = .ok (.getfield 10, 3) := by decide +kernel
theorem dX5_keep_8 : decode cX5_keep 8 = .ok (.invokevirtual 202, 3) := by decide +kernel
theorem dX5_keep_11 : decode cX5_keep 11 = .ok (.aload_n 0, 1) := by decide +kernel
theorem dX5_keep_12 : decode cX5_keep 12 = .ok (.iconst 1, 1) := by decide +kernel
theorem dX5_keep_13 : decode cX5_keep 13 = .ok (.putfield 19, 3) := by decide +kernel
theorem dX5_keep_16 : decode cX5_keep 16 = .ok (.aload_n 0, 1) := by decide +kernel
theorem dX5_keep_17 : decode cX5_keep 17 = .ok (.getfield 10, 3) := by decide +kernel
theorem dX5_keep_20 : decode cX5_keep 20 = .ok (.getfield 164, 3) := by decide +kernel
theorem dX5_keep_23 : decode cX5_keep 23 = .ok (.ireturn, 1) := by decide +kernel
theorem dX5_goBack_0 : decode cX5_goBack 0 = .ok (.aload_n 0, 1) := by decide +kernel
theorem dX5_goBack_1 : decode cX5_goBack 1 = .ok (.getfield 19, 3) := by decide +kernel
theorem dX5_goBack_4 : decode cX5_goBack 4 = .ok (.ifCond .ne 13, 3) := by decide +kernel
theorem dX5_goBack_7 : decode cX5_goBack 7 = .ok (.new 111, 3) := by decide +kernel
theorem dX5_goBack_10 : decode cX5_goBack 10 = .ok (.dup, 1) := by decide +kernel
theorem dX5_goBack_11 : decode cX5_goBack 11 = .ok (.ldc 204, 2) := by decide +kernel
theorem dX5_goBack_13 : decode cX5_goBack 13 = .ok (.invokespecial 115, 3) := by decide +kernel
theorem dX5_goBack_16 : decode cX5_goBack 16 = .ok (.athrow, 1) := by decide +kernel
theorem dX5_goBack_17 : decode cX5_goBack 17 = .ok (.aload_n 0, 1) := by decide +kernel
theorem dX5_goBack_18 : decode cX5_goBack 18 = .ok (.getfield 26, 3) := by decide +kernel
theorem dX5_goBack_21 : decode cX5_goBack 21 = .ok (.aload_n 0, 1) := by decide +kernel
theorem dX5_goBack_22 : decode cX5_goBack 22 = .ok (.getfield 10, 3) := by decide +kernel
theorem dX5_goBack_25 : decode cX5_goBack 25 = .ok (.invokevirtual 58, 3) := by decide +kernel
theorem dX5_goBack_28 : decode cX5_goBack 28 = .ok (.aload_n 0, 1) := by decide +kernel
theorem dX5_goBack_29 : decode cX5_goBack 29 = .ok (.getfield 10, 3) := by decide +kernel
theorem dX5_goBack_32 : decode cX5_goBack 32 = .ok (.aload_n 0, 1) := by decide +kernel
theorem dX5_goBack_33 : decode cX5_goBack 33 = .ok (.getfield 16, 3) := by decide +kernel
theorem dX5_goBack_36 : decode cX5_goBack 36 = .ok (.invokevirtual 202, 3) := by decide +kernel
theorem dX5_goBack_39 : decode cX5_goBack 39 = .ok (.aload_n 0, 1) := by decide +kernel
theorem dX5_goBack_40 : decode cX5_goBack 40 = .ok (.getfield 10, 3) := by decide +kernel
theorem dX5_goBack_43 : decode cX5_goBack 43 = .ok (.getfield 164, 3) := by decide +kernel
theorem dX5_goBack_46 : decode cX5_goBack 46 = .ok (.ireturn, 1) := by decide +kernel
theorem dX5_undo_0 : decode cX5_undo 0 = .ok (.aload_n 0, 1) := by decide +kernel
theorem dX5_undo_1 : decode cX5_undo 1 = .ok (.getfield 26, 3) := by decide +kernel
theorem dX5_undo_4 : decode cX5_undo 4 = .ok (.getfield 206, 3) := by decide +kernel
theorem dX5_undo_7 : decode cX5_undo 7 = .ok (.ifCond .ne 13, 3) := by decide +kernel
theorem dX5_undo_10 : decode cX5_undo 10 = .ok (.new 111, 3) := by decide +kernel
theorem dX5_undo_13 : decode cX5_undo 13 = .ok (.dup, 1) := by decide +kernel
theorem dX5_undo_14 : decode cX5_undo 14 = .ok (.ldc 209, 2) := by decide +kernel
theorem dX5_undo_16 : decode cX5_undo 16 = .ok (.invokespecial 115, 3) := by decide +kernel
theorem dX5_undo_19 : decode cX5_undo 19 = .ok (.athrow, 1) := by decide +kernel
theorem dX5_undo_20 : decode cX5_undo 20 = .ok (.aload_n 0, 1) := by decide +kernel
theorem dX5_undo_21 : decode cX5_undo 21 = .ok (.getfield 26, 3) := by decide +kernel
theorem dX5_undo_24 : decode cX5_undo 24 = .ok (.aload_n 0, 1) := by decide +kernel
theorem dX5_undo_25 : decode cX5_undo 25 = .ok (.getfield 10, 3) := by decide +kernel
theorem dX5_undo_28 : decode cX5_undo 28 = .ok (.invokevirtual 211, 3) := by decide +kernel
theorem dX5_undo_31 : decode cX5_undo 31 = .ok (.aload_n 0, 1) := by decide +kernel
theorem dX5_undo_32 : decode cX5_undo 32 = .ok (.getfield 26, 3) := by decide +kernel
theorem dX5_undo_35 : decode cX5_undo 35 = .ok (.getfield 206, 3) := by decide +kernel
theorem dX5_undo_38 : decode cX5_undo 38 = .ok (.ireturn, 1) := by decide +kernel
theorem dX5_wheel_0 : decode cX5_wheel 0 = .ok (.iload_n 1, 1) := by decide +kernel
theorem dX5_wheel_1 : decode cX5_wheel 1 = .ok (.invokestatic 97, 3) := by decide +kernel
theorem dX5_wheel_4 : decode cX5_wheel 4 = .ok (.ifCond .ne 13, 3) := by decide +kernel
theorem dX5_wheel_7 : decode cX5_wheel 7 = .ok (.new 84, 3) := by decide +kernel
theorem dX5_wheel_10 : decode cX5_wheel 10 = .ok (.dup, 1) := by decide +kernel
theorem dX5_wheel_11 : decode cX5_wheel 11 = .ok (.ldc 101, 2) := by decide +kernel
theorem dX5_wheel_13 : decode cX5_wheel 13 = .ok (.invokespecial 88, 3) := by decide +kernel
theorem dX5_wheel_16 : decode cX5_wheel 16 = .ok (.athrow, 1) := by decide +kernel
theorem dX5_wheel_17 : decode cX5_wheel 17 = .ok (.iload_n 2, 1) := by decide +kernel
theorem dX5_wheel_18 : decode cX5_wheel 18 = .ok (.ifCond .lt 9, 3) := by decide +kernel
theorem dX5_wheel_21 : decode cX5_wheel 21 = .ok (.iload_n 2, 1) := by decide +kernel
theorem dX5_wheel_22 : decode cX5_wheel 22 = .ok (.bipush 6, 2) := by decide +kernel
theorem dX5_wheel_24 : decode cX5_wheel 24 = .ok (.if_icmp .le 13, 3) := by decide +kernel
theorem dX5_wheel_27 : decode cX5_wheel 27 = .ok (.new 51, 3) := by decide +kernel
theorem dX5_wheel_30 : decode cX5_wheel 30 = .ok (.dup, 1) := by decide +kernel
theorem dX5_wheel_31 : decode cX5_wheel 31 = .ok (.ldc 214, 2) := by decide +kernel
theorem dX5_wheel_33 : decode cX5_wheel 33 = .ok (.invokespecial 55, 3) := by decide +kernel
theorem dX5_wheel_36 : decode cX5_wheel 36 = .ok (.athrow, 1) := by decide +kernel
theorem dX5_wheel_37 : decode cX5_wheel 37 = .ok (.iload_n 2, 1) := by decide +kernel
theorem dX5_wheel_38 : decode cX5_wheel 38 = .ok (.tableswitch 130 0 5 #[38, 51, 64, 76, 89, 105], 38) := by decide +kernel
theorem dX5_wheel_76 : decode cX5_wheel 76 = .ok (.aload_n 0, 1) := by decide +kernel
theorem dX5_wheel_77 : decode cX5_wheel 77 = .ok (.getfield 10, 3) := by decide +kernel
theorem dX5_wheel_80 : decode cX5_wheel 80 = .ok (.getfield 62, 3) := by decide +kernel
theorem dX5_wheel_83 : decode cX5_wheel 83 = .ok (.getfield 158, 3) := by decide +kernel
theorem dX5_wheel_86 : decode cX5_wheel 86 = .ok (.iload_n 1, 1) := by decide +kernel
theorem dX5_wheel_87 : decode cX5_wheel 87 = .ok (.iaload, 1) := by decide +kernel
theorem dX5_wheel_88 : decode cX5_wheel 88 = .ok (.ireturn, 1) := by decide +kernel
theorem dX5_wheel_89 : decode cX5_wheel 89 = .ok (.aload_n 0, 1) := by decide +kernel
theorem dX5_wheel_90 : decode cX5_wheel 90 = .ok (.getfield 10, 3) := by decide +kernel
theorem dX5_wheel_93 : decode cX5_wheel 93 = .ok (.getfield 62, 3) := by decide +kernel
theorem dX5_wheel_96 : decode cX5_wheel 96 = .ok (.getfield 134, 3) := by decide +kernel
theorem dX5_wheel_99 : decode cX5_wheel 99 = .ok (.iload_n 1, 1) := by decide +kernel
theorem dX5_wheel_100 : decode cX5_wheel 100 = .ok (.iaload, 1) := by decide +kernel
theorem dX5_wheel_101 : decode cX5_wheel 101 = .ok (.ireturn, 1) := by decide +kernel
theorem dX5_wheel_102 : decode cX5_wheel 102 = .ok (.aload_n 0, 1) := by decide +kernel
theorem dX5_wheel_103 : decode cX5_wheel 103 = .ok (.getfield 10, 3) := by decide +kernel
theorem dX5_wheel_106 : decode cX5_wheel 106 = .ok (.getfield 62, 3) := by decide +kernel
theorem dX5_wheel_109 : decode cX5_wheel 109 = .ok (.iload_n 1, 1) := by decide +kernel
theorem dX5_wheel_110 : decode cX5_wheel 110 = .ok (.invokevirtual 216, 3) := by decide +kernel
theorem dX5_wheel_113 : decode cX5_wheel 113 = .ok (.ireturn, 1) := by decide +kernel
theorem dX5_wheel_114 : decode cX5_wheel 114 = .ok (.aload_n 0, 1) := by decide +kernel
theorem dX5_wheel_115 : decode cX5_wheel 115 = .ok (.getfield 10, 3) := by decide +kernel
theorem dX5_wheel_118 : decode cX5_wheel 118 = .ok (.getfield 62, 3) := by decide +kernel
theorem dX5_wheel_121 : decode cX5_wheel 121 = .ok (.iload_n 1, 1) := by decide +kernel
theorem dX5_wheel_122 : decode cX5_wheel 122 = .ok (.iconst 0, 1) := by decide +kernel
theorem dX5_wheel_123 : decode cX5_wheel 123 = .ok (.invokevirtual 220, 3) := by decide +kernel
theorem dX5_wheel_126 : decode cX5_wheel 126 = .ok (.ireturn, 1) := by decide +kernel
theorem dX5_wheel_127 : decode cX5_wheel 127 = .ok (.aload_n 0, 1) := by decide +kernel
theorem dX5_wheel_128 : decode cX5_wheel 128 = .ok (.getfield 10, 3) := by decide +kernel
theorem dX5_wheel_131 : decode cX5_wheel 131 = .ok (.getfield 62, 3) := by decide +kernel
theorem dX5_wheel_134 : decode cX5_wheel 134 = .ok (.getfield 106, 3) := by decide +kernel
theorem dX5_wheel_137 : decode cX5_wheel 137 = .ok (.iload_n 1, 1) := by decide +kernel
theorem dX5_wheel_138 : decode cX5_wheel 138 = .ok (.baload, 1) := by decide +kernel
theorem dX5_wheel_139 : decode cX5_wheel 139 = .ok (.invokestatic 77, 3) := by decide +kernel
theorem dX5_wheel_142 : decode cX5_wheel 142 = .ok (.ireturn, 1) := by decide +kernel
theorem dX5_wheel_143 : decode cX5_wheel 143 = .ok (.aload_n 0, 1) := by decide +kernel
theorem dX5_wheel_144 : decode cX5_wheel 144 = .ok (.getfield 10, 3) := by decide +kernel
theorem dX5_wheel_147 : decode cX5_wheel 147 = .ok (.getfield 62, 3) := by decide +kernel
theorem dX5_wheel_150 : decode cX5_wheel 150 = .ok (.iload_n 1, 1) := by decide +kernel
theorem dX5_wheel_151 : decode cX5_wheel 151 = .ok (.iconst 0, 1) := by decide +kernel
theorem dX5_wheel_152 : decode cX5_wheel 152 = .ok (.invokevirtual 220, 3) := by decide +kernel
theorem dX5_wheel_155 : decode cX5_wheel 155 = .ok (.iconst 5, 1) := by decide +kernel
theorem dX5_wheel_156 : decode cX5_wheel 156 = .ok (.if_icmp .lt 7, 3) := by decide +kernel
theorem dX5_wheel_159 : decode cX5_wheel 159 = .ok (.iconst 1, 1) := by decide +kernel
theorem dX5_wheel_160 : decode cX5_wheel 160 = .ok (.goto 4, 3) := by decide +kernel
theorem dX5_wheel_163 : decode cX5_wheel 163 = .ok (.iconst 0, 1) := by decide +kernel
theorem dX5_wheel_164 : decode cX5_wheel 164 = .ok (.invokestatic 77, 3) := by decide +kernel
theorem dX5_wheel_167 : decode cX5_wheel 167 = .ok (.ireturn, 1) := by decide +kernel
theorem dX5_wheel_168 : decode cX5_wheel 168 = .ok (.aload_n 0, 1) := by decide +kernel
theorem dX5_wheel_169 : decode cX5_wheel 169 = .ok (.getfield 10, 3) := by decide +kernel
theorem dX5_wheel_172 : decode cX5_wheel 172 = .ok (.getfield 62, 3) := by decide +kernel
theorem dX5_wheel_175 : decode cX5_wheel 175 = .ok (.iload_n 1, 1) := by decide +kernel
theorem dX5_wheel_176 : decode cX5_wheel 176 = .ok (.invokevirtual 223, 3) := by decide +kernel
theorem dX5_wheel_179 : decode cX5_wheel 179 = .ok (.ireturn, 1) := by decide +kernel
theorem dX5_tooth_0 : decode cX5_tooth 0 = .ok (.aload_n 0, 1) := by decide +kernel
theorem dX5_tooth_1 : decode cX5_tooth 1 = .ok (.iload_n 1, 1) := by decide +kernel
theorem dX5_tooth_2 : decode cX5_tooth 2 = .ok (.iload_n 2, 1) := by decide +kernel
theorem dX5_tooth_3 : decode cX5_tooth 3 = .ok (.invokevirtual 138, 3) := by decide +kernel
theorem dX5_tooth_6 : decode cX5_tooth 6 = .ok (.ifCond .ne 13, 3) := by decide +kernel
theorem dX5_tooth_9 : decode cX5_tooth 9 = .ok (.new 84, 3) := by decide +kernel
theorem dX5_tooth_12 : decode cX5_tooth 12 = .ok (.dup, 1) := by decide +kernel
theorem dX5_tooth_13 : decode cX5_tooth 13 = .ok (.ldc 142, 2) := by decide +kernel
theorem dX5_tooth_15 : decode cX5_tooth 15 = .ok (.invokespecial 88, 3) := by decide +kernel
theorem dX5_tooth_18 : decode cX5_tooth 18 = .ok (.athrow, 1) := by decide +kernel
theorem dX5_tooth_19 : decode cX5_tooth 19 = .ok (.aload_n 0, 1) := by decide +kernel
theorem dX5_tooth_20 : decode cX5_tooth 20 = .ok (.getfield 10, 3) := by decide +kernel
theorem dX5_tooth_23 : decode cX5_tooth 23 = .ok (.getfield 62, 3) := by decide +kernel
theorem dX5_tooth_26 : decode cX5_tooth 26 = .ok (.iload_n 1, 1) := by decide +kernel
theorem dX5_tooth_27 : decode cX5_tooth 27 = .ok (.iload_n 2, 1) := by decide +kernel
theorem dX5_tooth_28 : decode cX5_tooth 28 = .ok (.invokevirtual 153, 3) := by decide +kernel
theorem dX5_tooth_31 : decode cX5_tooth 31 = .ok (.ireturn, 1) := by decide +kernel
theorem dX5_scene_0 : decode cX5_scene 0 = .ok (.aload_n 0, 1) := by decide +kernel
theorem dX5_scene_1 : decode cX5_scene 1 = .ok (.iload_n 1, 1) := by decide +kernel
theorem dX5_scene_2 : decode cX5_scene 2 = .ok (.invokevirtual 172, 3) := by decide +kernel
theorem dX5_scene_5 : decode cX5_scene 5 = .ok (.ifCond .ne 13, 3) := by decide +kernel
theorem dX5_scene_8 : decode cX5_scene 8 = .ok (.new 84, 3) := by decide +kernel
theorem dX5_scene_11 : decode cX5_scene 11 = .ok (.dup, 1) := by decide +kernel
theorem dX5_scene_12 : decode cX5_scene 12 = .ok (.ldc 175, 2) := by decide +kernel
theorem dX5_scene_14 : decode cX5_scene 14 = .ok (.invokespecial 88, 3) := by decide +kernel
theorem dX5_scene_17 : decode cX5_scene 17 = .ok (.athrow, 1) := by decide +kernel
theorem dX5_scene_18 : decode cX5_scene 18 = .ok (.iload_n 2, 1) := by decide +kernel
theorem dX5_scene_19 : decode cX5_scene 19 = .ok (.ifCond .lt 9, 3) := by decide +kernel
theorem dX5_scene_22 : decode cX5_scene 22 = .ok (.iload_n 2, 1) := by decide +kernel
theorem dX5_scene_23 : decode cX5_scene 23 = .ok (.bipush 7, 2) := by decide +kernel
theorem dX5_scene_25 : decode cX5_scene 25 = .ok (.if_icmp .le 13, 3) := by decide +kernel
theorem dX5_scene_28 : decode cX5_scene 28 = .ok (.new 51, 3) := by decide +kernel
theorem dX5_scene_31 : decode cX5_scene 31 = .ok (.dup, 1) := by decide +kernel
theorem dX5_scene_32 : decode cX5_scene 32 = .ok (.ldc 226, 2) := by decide +kernel
theorem dX5_scene_34 : decode cX5_scene 34 = .ok (.invokespecial 55, 3) := by decide +kernel
theorem dX5_scene_37 : decode cX5_scene 37 = .ok (.athrow, 1) := by decide +kernel
theorem dX5_scene_38 : decode cX5_scene 38 = .ok (.iload_n 2, 1) := by decide +kernel
theorem dX5_scene_39 : decode cX5_scene 39 = .ok (.tableswitch 64 5 7 #[25, 38, 58], 25) := by decide +kernel
theorem dX5_scene_64 : decode cX5_scene 64 = .ok (.aload_n 0, 1) := by decide +kernel
theorem dX5_scene_65 : decode cX5_scene 65 = .ok (.getfield 10, 3) := by decide +kernel
theorem dX5_scene_68 : decode cX5_scene 68 = .ok (.iload_n 1, 1) := by decide +kernel
theorem dX5_scene_69 : decode cX5_scene 69 = .ok (.iconst 0, 1) := by decide +kernel
theorem dX5_scene_70 : decode cX5_scene 70 = .ok (.invokevirtual 228, 3) := by decide +kernel
theorem dX5_scene_73 : decode cX5_scene 73 = .ok (.invokestatic 77, 3) := by decide +kernel
theorem dX5_scene_76 : decode cX5_scene 76 = .ok (.ireturn, 1) := by decide +kernel
theorem dX5_scene_77 : decode cX5_scene 77 = .ok (.aload_n 0, 1) := by decide +kernel
theorem dX5_scene_78 : decode cX5_scene 78 = .ok (.getfield 10, 3) := by decide +kernel
theorem dX5_scene_81 : decode cX5_scene 81 = .ok (.iload_n 1, 1) := by decide +kernel
theorem dX5_scene_82 : decode cX5_scene 82 = .ok (.invokevirtual 231, 3) := by decide +kernel
theorem dX5_scene_85 : decode cX5_scene 85 = .ok (.ifCond .ne 7, 3) := by decide +kernel
theorem dX5_scene_88 : decode cX5_scene 88 = .ok (.iconst 1, 1) := by decide +kernel
theorem dX5_scene_89 : decode cX5_scene 89 = .ok (.goto 4, 3) := by decide +kernel
theorem dX5_scene_92 : decode cX5_scene 92 = .ok (.iconst 0, 1) := by decide +kernel
theorem dX5_scene_93 : decode cX5_scene 93 = .ok (.invokestatic 77, 3) := by decide +kernel
theorem dX5_scene_96 : decode cX5_scene 96 = .ok (.ireturn, 1) := by decide +kernel
theorem dX5_scene_97 : decode cX5_scene 97 = .ok (.aload_n 0, 1) := by decide +kernel
theorem dX5_scene_98 : decode cX5_scene 98 = .ok (.iload_n 1, 1) := by decide +kernel
theorem dX5_scene_99 : decode cX5_scene 99 = .ok (.invokevirtual 234, 3) := by decide +kernel
theorem dX5_scene_102 : decode cX5_scene 102 = .ok (.ireturn, 1) := by decide +kernel
theorem dX5_scene_103 : decode cX5_scene 103 = .ok (.aload_n 0, 1) := by decide +kernel
theorem dX5_scene_104 : decode cX5_scene 104 = .ok (.getfield 10, 3) := by decide +kernel
theorem dX5_scene_107 : decode cX5_scene 107 = .ok (.iload_n 1, 1) := by decide +kernel
theorem dX5_scene_108 : decode cX5_scene 108 = .ok (.iload_n 2, 1) := by decide +kernel
theorem dX5_scene_109 : decode cX5_scene 109 = .ok (.invokevirtual 237, 3) := by decide +kernel
theorem dX5_scene_112 : decode cX5_scene 112 = .ok (.ireturn, 1) := by decide +kernel
theorem dX5_count_0 : decode cX5_count 0 = .ok (.iload_n 1, 1) := by decide +kernel
theorem dX5_count_1 : decode cX5_count 1 = .ok (.ifCond .lt 9, 3) := by decide +kernel
theorem dX5_count_4 : decode cX5_count 4 = .ok (.iload_n 1, 1) := by decide +kernel
theorem dX5_count_5 : decode cX5_count 5 = .ok (.bipush 12, 2) := by decide +kernel
theorem dX5_count_7 : decode cX5_count 7 = .ok (.if_icmp .le 13, 3) := by decide +kernel
theorem dX5_count_10 : decode cX5_count 10 = .ok (.new 51, 3) := by decide +kernel
theorem dX5_count_13 : decode cX5_count 13 = .ok (.dup, 1) := by decide +kernel
theorem dX5_count_14 : decode cX5_count 14 = .ok (.ldc 240, 2) := by decide +kernel
theorem dX5_count_16 : decode cX5_count 16 = .ok (.invokespecial 55, 3) := by decide +kernel
theorem dX5_count_19 : decode cX5_count 19 = .ok (.athrow, 1) := by decide +kernel
theorem dX5_count_20 : decode cX5_count 20 = .ok (.iload_n 1, 1) := by decide +kernel
theorem dX5_count_21 : decode cX5_count 21 = .ok (.tableswitch 171 0 11 #[63, 71, 79, 90, 98, 106, 117, 125, 133, 144, 152, 160], 63) := by decide +kernel
theorem dX5_count_84 : decode cX5_count 84 = .ok (.aload_n 0, 1) := by decide +kernel
theorem dX5_count_85 : decode cX5_count 85 = .ok (.getfield 10, 3) := by decide +kernel
theorem dX5_count_88 : decode cX5_count 88 = .ok (.getfield 242, 3) := by decide +kernel
theorem dX5_count_91 : decode cX5_count 91 = .ok (.ireturn, 1) := by decide +kernel
theorem dX5_count_92 : decode cX5_count 92 = .ok (.aload_n 0, 1) := by decide +kernel
theorem dX5_count_93 : decode cX5_count 93 = .ok (.getfield 10, 3) := by decide +kernel
theorem dX5_count_96 : decode cX5_count 96 = .ok (.invokevirtual 245, 3) := by decide +kernel
theorem dX5_count_99 : decode cX5_count 99 = .ok (.ireturn, 1) := by decide +kernel
theorem dX5_count_100 : decode cX5_count 100 = .ok (.aload_n 0, 1) := by decide +kernel
theorem dX5_count_101 : decode cX5_count 101 = .ok (.getfield 10, 3) := by decide +kernel
theorem dX5_count_104 : decode cX5_count 104 = .ok (.invokevirtual 73, 3) := by decide +kernel
theorem dX5_count_107 : decode cX5_count 107 = .ok (.invokestatic 77, 3) := by decide +kernel
theorem dX5_count_110 : decode cX5_count 110 = .ok (.ireturn, 1) := by decide +kernel
theorem dX5_count_111 : decode cX5_count 111 = .ok (.aload_n 0, 1) := by decide +kernel
theorem dX5_count_112 : decode cX5_count 112 = .ok (.getfield 10, 3) := by decide +kernel
theorem dX5_count_115 : decode cX5_count 115 = .ok (.getfield 248, 3) := by decide +kernel
theorem dX5_count_118 : decode cX5_count 118 = .ok (.ireturn, 1) := by decide +kernel
theorem dX5_count_119 : decode cX5_count 119 = .ok (.aload_n 0, 1) := by decide +kernel
theorem dX5_count_120 : decode cX5_count 120 = .ok (.getfield 10, 3) := by decide +kernel
theorem dX5_count_123 : decode cX5_count 123 = .ok (.getfield 251, 3) := by decide +kernel
theorem dX5_count_126 : decode cX5_count 126 = .ok (.ireturn, 1) := by decide +kernel
theorem dX5_count_127 : decode cX5_count 127 = .ok (.aload_n 0, 1) := by decide +kernel
theorem dX5_count_128 : decode cX5_count 128 = .ok (.getfield 10, 3) := by decide +kernel
theorem dX5_count_131 : decode cX5_count 131 = .ok (.getfield 62, 3) := by decide +kernel
theorem dX5_count_134 : decode cX5_count 134 = .ok (.invokevirtual 254, 3) := by decide +kernel
theorem dX5_count_137 : decode cX5_count 137 = .ok (.ireturn, 1) := by decide +kernel
theorem dX5_count_138 : decode cX5_count 138 = .ok (.aload_n 0, 1) := by decide +kernel
theorem dX5_count_139 : decode cX5_count 139 = .ok (.getfield 10, 3) := by decide +kernel
theorem dX5_count_142 : decode cX5_count 142 = .ok (.invokevirtual 93, 3) := by decide +kernel
theorem dX5_count_145 : decode cX5_count 145 = .ok (.ireturn, 1) := by decide +kernel
theorem dX5_count_146 : decode cX5_count 146 = .ok (.aload_n 0, 1) := by decide +kernel
theorem dX5_count_147 : decode cX5_count 147 = .ok (.getfield 10, 3) := by decide +kernel
theorem dX5_count_150 : decode cX5_count 150 = .ok (.getfield 164, 3) := by decide +kernel
theorem dX5_count_153 : decode cX5_count 153 = .ok (.ireturn, 1) := by decide +kernel
theorem dX5_count_154 : decode cX5_count 154 = .ok (.aload_n 0, 1) := by decide +kernel
theorem dX5_count_155 : decode cX5_count 155 = .ok (.getfield 10, 3) := by decide +kernel
theorem dX5_count_158 : decode cX5_count 158 = .ok (.getfield 62, 3) := by decide +kernel
theorem dX5_count_161 : decode cX5_count 161 = .ok (.invokevirtual 257, 3) := by decide +kernel
theorem dX5_count_164 : decode cX5_count 164 = .ok (.ireturn, 1) := by decide +kernel
theorem dX5_count_165 : decode cX5_count 165 = .ok (.aload_n 0, 1) := by decide +kernel
theorem dX5_count_166 : decode cX5_count 166 = .ok (.getfield 10, 3) := by decide +kernel
theorem dX5_count_169 : decode cX5_count 169 = .ok (.getfield 124, 3) := by decide +kernel
theorem dX5_count_172 : decode cX5_count 172 = .ok (.ireturn, 1) := by decide +kernel
theorem dX5_count_173 : decode cX5_count 173 = .ok (.aload_n 0, 1) := by decide +kernel
theorem dX5_count_174 : decode cX5_count 174 = .ok (.getfield 10, 3) := by decide +kernel
theorem dX5_count_177 : decode cX5_count 177 = .ok (.getfield 260, 3) := by decide +kernel
theorem dX5_count_180 : decode cX5_count 180 = .ok (.ireturn, 1) := by decide +kernel
theorem dX5_count_181 : decode cX5_count 181 = .ok (.aload_n 0, 1) := by decide +kernel
theorem dX5_count_182 : decode cX5_count 182 = .ok (.getfield 10, 3) := by decide +kernel
theorem dX5_count_185 : decode cX5_count 185 = .ok (.getfield 81, 3) := by decide +kernel
theorem dX5_count_188 : decode cX5_count 188 = .ok (.invokestatic 77, 3) := by decide +kernel
theorem dX5_count_191 : decode cX5_count 191 = .ok (.ireturn, 1) := by decide +kernel
theorem dX5_count_192 : decode cX5_count 192 = .ok (.aload_n 0, 1) := by decide +kernel
theorem dX5_count_193 : decode cX5_count 193 = .ok (.getfield 26, 3) := by decide +kernel
theorem dX5_count_196 : decode cX5_count 196 = .ok (.getfield 206, 3) := by decide +kernel
theorem dX5_count_199 : decode cX5_count 199 = .ok (.ireturn, 1) := by decide +kernel
theorem dX5_why_0 : decode cX5_why 0 = .ok (.iload_n 1, 1) := by decide +kernel
theorem dX5_why_1 : decode cX5_why 1 = .ok (.invokestatic 263, 3) := by decide +kernel
theorem dX5_why_4 : decode cX5_why 4 = .ok (.ifCond .ne 14, 3) := by decide +kernel
theorem dX5_why_7 : decode cX5_why 7 = .ok (.new 51, 3) := by decide +kernel
theorem dX5_why_10 : decode cX5_why 10 = .ok (.dup, 1) := by decide +kernel
theorem dX5_why_11 : decode cX5_why 11 = .ok (.ldc_w 266, 3) := by decide +kernel
theorem dX5_why_14 : decode cX5_why 14 = .ok (.invokespecial 55, 3) := by decide +kernel
theorem dX5_why_17 : decode cX5_why 17 = .ok (.athrow, 1) := by decide +kernel
theorem dX5_why_18 : decode cX5_why 18 = .ok (.aload_n 0, 1) := by decide +kernel
theorem dX5_why_19 : decode cX5_why 19 = .ok (.getfield 10, 3) := by decide +kernel
theorem dX5_why_22 : decode cX5_why 22 = .ok (.aload_n 0, 1) := by decide +kernel
theorem dX5_why_23 : decode cX5_why 23 = .ok (.getfield 10, 3) := by decide +kernel
theorem dX5_why_26 : decode cX5_why 26 = .ok (.getfield 62, 3) := by decide +kernel
theorem dX5_why_29 : decode cX5_why 29 = .ok (.iload_n 1, 1) := by decide +kernel
theorem dX5_why_30 : decode cX5_why 30 = .ok (.invokestatic 268, 3) := by decide +kernel
theorem dX5_why_33 : decode cX5_why 33 = .ok (.invokevirtual 65, 3) := by decide +kernel
theorem dX5_why_36 : decode cX5_why 36 = .ok (.ireturn, 1) := by decide +kernel
theorem dX5_round_0 : decode cX5_round 0 = .ok (.iload_n 1, 1) := by decide +kernel
theorem dX5_round_1 : decode cX5_round 1 = .ok (.ifCond .lt 8, 3) := by decide +kernel
theorem dX5_round_4 : decode cX5_round 4 = .ok (.iload_n 1, 1) := by decide +kernel
theorem dX5_round_5 : decode cX5_round 5 = .ok (.iconst 1, 1) := by decide +kernel
theorem dX5_round_6 : decode cX5_round 6 = .ok (.if_icmp .le 14, 3) := by decide +kernel
theorem dX5_round_9 : decode cX5_round 9 = .ok (.new 51, 3) := by decide +kernel
