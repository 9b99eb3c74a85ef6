theorem dX0_init_0 : decode cX0_init 0 = .ok (.aload_n 0, 1) := by decide +kernel
theorem dX0_init_1 : decode cX0_init 1 = .ok (.invokespecial 3, 3) := by decide +kernel
theorem dX0_init_4 : decode cX0_init 4 = .ok (.aload_n 0, 1) := by decide +kernel
theorem dX0_init_5 : decode cX0_init 5 = .ok (.bipush 6, 2) := by decide +kernel
theorem dX0_init_7 : decode cX0_init 7 = .ok (.anewarray 9, 3) := by decide +kernel
theorem dX0_init_10 : decode cX0_init 10 = .ok (.putfield 11, 3) := by decide +kernel
theorem dX0_init_13 : decode cX0_init 13 = .ok (.iconst 0, 1) := by decide +kernel
theorem dX0_init_14 : decode cX0_init 14 = .ok (.istore_n 1, 1) := by decide +kernel
theorem dX0_init_15 : decode cX0_init 15 = .ok (.iload_n 1, 1) := by decide +kernel
theorem dX0_init_16 : decode cX0_init 16 = .ok (.bipush 6, 2) := by decide +kernel
theorem dX0_init_18 : decode cX0_init 18 = .ok (.if_icmp .ge 22, 3) := by decide +kernel
theorem dX0_init_21 : decode cX0_init 21 = .ok (.aload_n 0, 1) := by decide +kernel
theorem dX0_init_22 : decode cX0_init 22 = .ok (.getfield 11, 3) := by decide +kernel
theorem dX0_init_25 : decode cX0_init 25 = .ok (.iload_n 1, 1) := by decide +kernel
theorem dX0_init_26 : decode cX0_init 26 = .ok (.new 9, 3) := by decide +kernel
theorem dX0_init_29 : decode cX0_init 29 = .ok (.dup, 1) := by decide +kernel
theorem dX0_init_30 : decode cX0_init 30 = .ok (.invokespecial 17, 3) := by decide +kernel
theorem dX0_init_33 : decode cX0_init 33 = .ok (.aastore, 1) := by decide +kernel
theorem dX0_init_34 : decode cX0_init 34 = .ok (.iinc 1 1, 3) := by decide +kernel
theorem dX0_init_37 : decode cX0_init 37 = .ok (.goto (-22), 3) := by decide +kernel
theorem dX0_init_40 : decode cX0_init 40 = .ok (.return_, 1) := by decide +kernel
theorem dX0_push_0 : decode cX0_push 0 = .ok (.aload_n 0, 1) := by decide +kernel
theorem dX0_push_1 : decode cX0_push 1 = .ok (.getfield 18, 3) := by decide +kernel
theorem dX0_push_4 : decode cX0_push 4 = .ok (.bipush 6, 2) := by decide +kernel
theorem dX0_push_6 : decode cX0_push 6 = .ok (.if_icmp .lt 7, 3) := by decide +kernel
theorem dX0_push_9 : decode cX0_push 9 = .ok (.aload_n 0, 1) := by decide +kernel
theorem dX0_push_10 : decode cX0_push 10 = .ok (.invokevirtual 22, 3) := by decide +kernel
theorem dX0_push_13 : decode cX0_push 13 = .ok (.aload_n 0, 1) := by decide +kernel
theorem dX0_push_14 : decode cX0_push 14 = .ok (.getfield 18, 3) := by decide +kernel
theorem dX0_push_17 : decode cX0_push 17 = .ok (.ifCond .lt 47, 3) := by decide +kernel
theorem dX0_push_20 : decode cX0_push 20 = .ok (.aload_n 0, 1) := by decide +kernel
theorem dX0_push_21 : decode cX0_push 21 = .ok (.getfield 18, 3) := by decide +kernel
theorem dX0_push_24 : decode cX0_push 24 = .ok (.bipush 6, 2) := by decide +kernel
theorem dX0_push_26 : decode cX0_push 26 = .ok (.if_icmp .ge 38, 3) := by decide +kernel
theorem dX0_push_29 : decode cX0_push 29 = .ok (.aload_n 0, 1) := by decide +kernel
theorem dX0_push_30 : decode cX0_push 30 = .ok (.getfield 11, 3) := by decide +kernel
theorem dX0_push_33 : decode cX0_push 33 = .ok (.aload_n 0, 1) := by decide +kernel
theorem dX0_push_34 : decode cX0_push 34 = .ok (.getfield 18, 3) := by decide +kernel
theorem dX0_push_37 : decode cX0_push 37 = .ok (.aaload, 1) := by decide +kernel
theorem dX0_push_38 : decode cX0_push 38 = .ok (.ifnull 26, 3) := by decide +kernel
theorem dX0_push_41 : decode cX0_push 41 = .ok (.aload_n 0, 1) := by decide +kernel
theorem dX0_push_42 : decode cX0_push 42 = .ok (.getfield 11, 3) := by decide +kernel
theorem dX0_push_45 : decode cX0_push 45 = .ok (.aload_n 0, 1) := by decide +kernel
theorem dX0_push_46 : decode cX0_push 46 = .ok (.getfield 18, 3) := by decide +kernel
theorem dX0_push_49 : decode cX0_push 49 = .ok (.aaload, 1) := by decide +kernel
theorem dX0_push_50 : decode cX0_push 50 = .ok (.aload_n 1, 1) := by decide +kernel
theorem dX0_push_51 : decode cX0_push 51 = .ok (.invokevirtual 25, 3) := by decide +kernel
theorem dX0_push_54 : decode cX0_push 54 = .ok (.aload_n 0, 1) := by decide +kernel
theorem dX0_push_55 : decode cX0_push 55 = .ok (.dup, 1) := by decide +kernel
theorem dX0_push_56 : decode cX0_push 56 = .ok (.getfield 18, 3) := by decide +kernel
theorem dX0_push_59 : decode cX0_push 59 = .ok (.iconst 1, 1) := by decide +kernel
theorem dX0_push_60 : decode cX0_push 60 = .ok (.iadd, 1) := by decide +kernel
theorem dX0_push_61 : decode cX0_push 61 = .ok (.putfield 18, 3) := by decide +kernel
theorem dX0_push_64 : decode cX0_push 64 = .ok (.return_, 1) := by decide +kernel
theorem dX0_pop_0 : decode cX0_pop 0 = .ok (.aload_n 0, 1) := by decide +kernel
theorem dX0_pop_1 : decode cX0_pop 1 = .ok (.getfield 18, 3) := by decide +kernel
theorem dX0_pop_4 : decode cX0_pop 4 = .ok (.iconst 1, 1) := by decide +kernel
theorem dX0_pop_5 : decode cX0_pop 5 = .ok (.isub, 1) := by decide +kernel
theorem dX0_pop_6 : decode cX0_pop 6 = .ok (.istore_n 2, 1) := by decide +kernel
theorem dX0_pop_7 : decode cX0_pop 7 = .ok (.iload_n 2, 1) := by decide +kernel
theorem dX0_pop_8 : decode cX0_pop 8 = .ok (.ifCond .lt 33, 3) := by decide +kernel
theorem dX0_pop_11 : decode cX0_pop 11 = .ok (.iload_n 2, 1) := by decide +kernel
theorem dX0_pop_12 : decode cX0_pop 12 = .ok (.bipush 6, 2) := by decide +kernel
theorem dX0_pop_14 : decode cX0_pop 14 = .ok (.if_icmp .ge 27, 3) := by decide +kernel
theorem dX0_pop_17 : decode cX0_pop 17 = .ok (.aload_n 0, 1) := by decide +kernel
theorem dX0_pop_18 : decode cX0_pop 18 = .ok (.getfield 11, 3) := by decide +kernel
theorem dX0_pop_21 : decode cX0_pop 21 = .ok (.iload_n 2, 1) := by decide +kernel
theorem dX0_pop_22 : decode cX0_pop 22 = .ok (.aaload, 1) := by decide +kernel
theorem dX0_pop_23 : decode cX0_pop 23 = .ok (.ifnull 18, 3) := by decide +kernel
theorem dX0_pop_26 : decode cX0_pop 26 = .ok (.aload_n 1, 1) := by decide +kernel
theorem dX0_pop_27 : decode cX0_pop 27 = .ok (.aload_n 0, 1) := by decide +kernel
theorem dX0_pop_28 : decode cX0_pop 28 = .ok (.getfield 11, 3) := by decide +kernel
theorem dX0_pop_31 : decode cX0_pop 31 = .ok (.iload_n 2, 1) := by decide +kernel
theorem dX0_pop_32 : decode cX0_pop 32 = .ok (.aaload, 1) := by decide +kernel
theorem dX0_pop_33 : decode cX0_pop 33 = .ok (.invokevirtual 25, 3) := by decide +kernel
theorem dX0_pop_36 : decode cX0_pop 36 = .ok (.aload_n 0, 1) := by decide +kernel
theorem dX0_pop_37 : decode cX0_pop 37 = .ok (.iload_n 2, 1) := by decide +kernel
theorem dX0_pop_38 : decode cX0_pop 38 = .ok (.putfield 18, 3) := by decide +kernel
theorem dX0_pop_41 : decode cX0_pop 41 = .ok (.return_, 1) := by decide +kernel
theorem dX0_dropOldest_0 : decode cX0_dropOldest 0 = .ok (.aload_n 0, 1) := by decide +kernel
theorem dX0_dropOldest_1 : decode cX0_dropOldest 1 = .ok (.getfield 11, 3) := by decide +kernel
theorem dX0_dropOldest_4 : decode cX0_dropOldest 4 = .ok (.iconst 0, 1) := by decide +kernel
theorem dX0_dropOldest_5 : decode cX0_dropOldest 5 = .ok (.aaload, 1) := by decide +kernel
theorem dX0_dropOldest_6 : decode cX0_dropOldest 6 = .ok (.astore_n 1, 1) := by decide +kernel
theorem dX0_dropOldest_7 : decode cX0_dropOldest 7 = .ok (.iconst 1, 1) := by decide +kernel
theorem dX0_dropOldest_8 : decode cX0_dropOldest 8 = .ok (.istore_n 2, 1) := by decide +kernel
theorem dX0_dropOldest_9 : decode cX0_dropOldest 9 = .ok (.iload_n 2, 1) := by decide +kernel
theorem dX0_dropOldest_10 : decode cX0_dropOldest 10 = .ok (.bipush 6, 2) := by decide +kernel
theorem dX0_dropOldest_12 : decode cX0_dropOldest 12 = .ok (.if_icmp .ge 23, 3) := by decide +kernel
theorem dX0_dropOldest_15 : decode cX0_dropOldest 15 = .ok (.aload_n 0, 1) := by decide +kernel
theorem dX0_dropOldest_16 : decode cX0_dropOldest 16 = .ok (.getfield 11, 3) := by decide +kernel
theorem dX0_dropOldest_19 : decode cX0_dropOldest 19 = .ok (.iload_n 2, 1) := by decide +kernel
theorem dX0_dropOldest_20 : decode cX0_dropOldest 20 = .ok (.iconst 1, 1) := by decide +kernel
theorem dX0_dropOldest_21 : decode cX0_dropOldest 21 = .ok (.isub, 1) := by decide +kernel
theorem dX0_dropOldest_22 : decode cX0_dropOldest 22 = .ok (.aload_n 0, 1) := by decide +kernel
theorem dX0_dropOldest_23 : decode cX0_dropOldest 23 = .ok (.getfield 11, 3) := by decide +kernel
theorem dX0_dropOldest_26 : decode cX0_dropOldest 26 = .ok (.iload_n 2, 1) := by decide +kernel
theorem dX0_dropOldest_27 : decode cX0_dropOldest 27 = .ok (.aaload, 1) := by decide +kernel
theorem dX0_dropOldest_28 : decode cX0_dropOldest 28 = .ok (.aastore, 1) := by decide +kernel
theorem dX0_dropOldest_29 : decode cX0_dropOldest 29 = .ok (.iinc 2 1, 3) := by decide +kernel
theorem dX0_dropOldest_32 : decode cX0_dropOldest 32 = .ok (.goto (-23), 3) := by decide +kernel
theorem dX0_dropOldest_35 : decode cX0_dropOldest 35 = .ok (.aload_n 0, 1) := by decide +kernel
theorem dX0_dropOldest_36 : decode cX0_dropOldest 36 = .ok (.getfield 11, 3) := by decide +kernel
theorem dX0_dropOldest_39 : decode cX0_dropOldest 39 = .ok (.iconst 5, 1) := by decide +kernel
theorem dX0_dropOldest_40 : decode cX0_dropOldest 40 = .ok (.aload_n 1, 1) := by decide +kernel
theorem dX0_dropOldest_41 : decode cX0_dropOldest 41 = .ok (.aastore, 1) := by decide +kernel
theorem dX0_dropOldest_42 : decode cX0_dropOldest 42 = .ok (.aload_n 0, 1) := by decide +kernel
theorem dX0_dropOldest_43 : decode cX0_dropOldest 43 = .ok (.iconst 5, 1) := by decide +kernel
theorem dX0_dropOldest_44 : decode cX0_dropOldest 44 = .ok (.putfield 18, 3) := by decide +kernel
theorem dX0_dropOldest_47 : decode cX0_dropOldest 47 = .ok (.return_, 1) := by decide +kernel
theorem dX1_init_0 : decode cX1_init 0 = .ok (.aload_n 0, 1) := by decide +kernel
theorem dX1_init_1 : decode cX1_init 1 = .ok (.invokespecial 3, 3) := by decide +kernel
theorem dX1_init_4 : decode cX1_init 4 = .ok (.aload_n 0, 1) := by decide +kernel
theorem dX1_init_5 : decode cX1_init 5 = .ok (.iconst 3, 1) := by decide +kernel
theorem dX1_init_6 : decode cX1_init 6 = .ok (.newarray .int, 2) := by decide +kernel
theorem dX1_init_8 : decode cX1_init 8 = .ok (.putfield 9, 3) := by decide +kernel
theorem dX1_init_11 : decode cX1_init 11 = .ok (.aload_n 0, 1) := by decide +kernel
theorem dX1_init_12 : decode cX1_init 12 = .ok (.iconst 3, 1) := by decide +kernel
theorem dX1_init_13 : decode cX1_init 13 = .ok (.newarray .int, 2) := by decide +kernel
theorem dX1_init_15 : decode cX1_init 15 = .ok (.putfield 15, 3) := by decide +kernel
theorem dX1_init_18 : decode cX1_init 18 = .ok (.return_, 1) := by decide +kernel
theorem dX2_init_0 : decode cX2_init 0 = .ok (.aload_n 0, 1) := by decide +kernel
theorem dX2_init_1 : decode cX2_init 1 = .ok (.invokespecial 3, 3) := by decide +kernel
theorem dX2_init_4 : decode cX2_init 4 = .ok (.aload_n 0, 1) := by decide +kernel
theorem dX2_init_5 : decode cX2_init 5 = .ok (.new 9, 3) := by decide +kernel
theorem dX2_init_8 : decode cX2_init 8 = .ok (.dup, 1) := by decide +kernel
theorem dX2_init_9 : decode cX2_init 9 = .ok (.invokespecial 11, 3) := by decide +kernel
theorem dX2_init_12 : decode cX2_init 12 = .ok (.putfield 12, 3) := by decide +kernel
theorem dX2_init_15 : decode cX2_init 15 = .ok (.aload_n 0, 1) := by decide +kernel
theorem dX2_init_16 : decode cX2_init 16 = .ok (.bipush 60, 2) := by decide +kernel
theorem dX2_init_18 : decode cX2_init 18 = .ok (.newarray .boolean, 2) := by decide +kernel
theorem dX2_init_20 : decode cX2_init 20 = .ok (.putfield 18, 3) := by decide +kernel
theorem dX2_init_23 : decode cX2_init 23 = .ok (.aload_n 0, 1) := by decide +kernel
theorem dX2_init_24 : decode cX2_init 24 = .ok (.bipush 30, 2) := by decide +kernel
theorem dX2_init_26 : decode cX2_init 26 = .ok (.newarray .int, 2) := by decide +kernel
theorem dX2_init_28 : decode cX2_init 28 = .ok (.putfield 22, 3) := by decide +kernel
theorem dX2_init_31 : decode cX2_init 31 = .ok (.aload_n 0, 1) := by decide +kernel
theorem dX2_init_32 : decode cX2_init 32 = .ok (.iconst 4, 1) := by decide +kernel
theorem dX2_init_33 : decode cX2_init 33 = .ok (.putfield 26, 3) := by decide +kernel
theorem dX2_init_36 : decode cX2_init 36 = .ok (.return_, 1) := by decide +kernel
theorem dX2_copy_0 : decode cX2_copy 0 = .ok (.aload_n 0, 1) := by decide +kernel
theorem dX2_copy_1 : decode cX2_copy 1 = .ok (.getfield 12, 3) := by decide +kernel
theorem dX2_copy_4 : decode cX2_copy 4 = .ok (.aload_n 1, 1) := by decide +kernel
theorem dX2_copy_5 : decode cX2_copy 5 = .ok (.getfield 12, 3) := by decide +kernel
theorem dX2_copy_8 : decode cX2_copy 8 = .ok (.invokevirtual 30, 3) := by decide +kernel
theorem dX2_copy_11 : decode cX2_copy 11 = .ok (.iconst 0, 1) := by decide +kernel
theorem dX2_copy_12 : decode cX2_copy 12 = .ok (.istore_n 2, 1) := by decide +kernel
theorem dX2_copy_13 : decode cX2_copy 13 = .ok (.iload_n 2, 1) := by decide +kernel
theorem dX2_copy_14 : decode cX2_copy 14 = .ok (.bipush 60, 2) := by decide +kernel
theorem dX2_copy_16 : decode cX2_copy 16 = .ok (.if_icmp .ge 21, 3) := by decide +kernel
theorem dX2_copy_19 : decode cX2_copy 19 = .ok (.aload_n 0, 1) := by decide +kernel
theorem dX2_copy_20 : decode cX2_copy 20 = .ok (.getfield 18, 3) := by decide +kernel
theorem dX2_copy_23 : decode cX2_copy 23 = .ok (.iload_n 2, 1) := by decide +kernel
theorem dX2_copy_24 : decode cX2_copy 24 = .ok (.aload_n 1, 1) := by decide +kernel
theorem dX2_copy_25 : decode cX2_copy 25 = .ok (.getfield 18, 3) := by decide +kernel
theorem dX2_copy_28 : decode cX2_copy 28 = .ok (.iload_n 2, 1) := by decide +kernel
theorem dX2_copy_29 : decode cX2_copy 29 = .ok (.baload, 1) := by decide +kernel
theorem dX2_copy_30 : decode cX2_copy 30 = .ok (.bastore, 1) := by decide +kernel
theorem dX2_copy_31 : decode cX2_copy 31 = .ok (.iinc 2 1, 3) := by decide +kernel
theorem dX2_copy_34 : decode cX2_copy 34 = .ok (.goto (-21), 3) := by decide +kernel
theorem dX2_copy_37 : decode cX2_copy 37 = .ok (.aload_n 1, 1) := by decide +kernel
theorem dX2_copy_38 : decode cX2_copy 38 = .ok (.getfield 22, 3) := by decide +kernel
theorem dX2_copy_41 : decode cX2_copy 41 = .ok (.iconst 0, 1) := by decide +kernel
theorem dX2_copy_42 : decode cX2_copy 42 = .ok (.aload_n 0, 1) := by decide +kernel
theorem dX2_copy_43 : decode cX2_copy 43 = .ok (.getfield 22, 3) := by decide +kernel
theorem dX2_copy_46 : decode cX2_copy 46 = .ok (.iconst 0, 1) := by decide +kernel
theorem dX2_copy_47 : decode cX2_copy 47 = .ok (.bipush 30, 2) := by decide +kernel
theorem dX2_copy_49 : decode cX2_copy 49 = .ok (.invokestatic 34, 3) := by decide +kernel
theorem dX2_copy_52 : decode cX2_copy 52 = .ok (.aload_n 0, 1) := by decide +kernel
theorem dX2_copy_53 : decode cX2_copy 53 = .ok (.aload_n 1, 1) := by decide +kernel
theorem dX2_copy_54 : decode cX2_copy 54 = .ok (.getfield 40, 3) := by decide +kernel
theorem dX2_copy_57 : decode cX2_copy 57 = .ok (.putfield 40, 3) := by decide +kernel
theorem dX2_copy_60 : decode cX2_copy 60 = .ok (.aload_n 0, 1) := by decide +kernel
theorem dX2_copy_61 : decode cX2_copy 61 = .ok (.aload_n 1, 1) := by decide +kernel
theorem dX2_copy_62 : decode cX2_copy 62 = .ok (.getfield 43, 3) := by decide +kernel
theorem dX2_copy_65 : decode cX2_copy 65 = .ok (.putfield 43, 3) := by decide +kernel
theorem dX2_copy_68 : decode cX2_copy 68 = .ok (.aload_n 0, 1) := by decide +kernel
theorem dX2_copy_69 : decode cX2_copy 69 = .ok (.aload_n 1, 1) := by decide +kernel
theorem dX2_copy_70 : decode cX2_copy 70 = .ok (.getfield 46, 3) := by decide +kernel
theorem dX2_copy_73 : decode cX2_copy 73 = .ok (.putfield 46, 3) := by decide +kernel
theorem dX2_copy_76 : decode cX2_copy 76 = .ok (.aload_n 0, 1) := by decide +kernel
theorem dX2_copy_77 : decode cX2_copy 77 = .ok (.aload_n 1, 1) := by decide +kernel
theorem dX2_copy_78 : decode cX2_copy 78 = .ok (.getfield 50, 3) := by decide +kernel
theorem dX2_copy_81 : decode cX2_copy 81 = .ok (.putfield 50, 3) := by decide +kernel
theorem dX2_copy_84 : decode cX2_copy 84 = .ok (.aload_n 0, 1) := by decide +kernel
theorem dX2_copy_85 : decode cX2_copy 85 = .ok (.aload_n 1, 1) := by decide +kernel
theorem dX2_copy_86 : decode cX2_copy 86 = .ok (.getfield 53, 3) := by decide +kernel
theorem dX2_copy_89 : decode cX2_copy 89 = .ok (.putfield 53, 3) := by decide +kernel
theorem dX2_copy_92 : decode cX2_copy 92 = .ok (.aload_n 0, 1) := by decide +kernel
theorem dX2_copy_93 : decode cX2_copy 93 = .ok (.aload_n 1, 1) := by decide +kernel
theorem dX2_copy_94 : decode cX2_copy 94 = .ok (.getfield 26, 3) := by decide +kernel
theorem dX2_copy_97 : decode cX2_copy 97 = .ok (.putfield 26, 3) := by decide +kernel
theorem dX2_copy_100 : decode cX2_copy 100 = .ok (.aload_n 0, 1) := by decide +kernel
theorem dX2_copy_101 : decode cX2_copy 101 = .ok (.aload_n 1, 1) := by decide +kernel
theorem dX2_copy_102 : decode cX2_copy 102 = .ok (.getfield 56, 3) := by decide +kernel
theorem dX2_copy_105 : decode cX2_copy 105 = .ok (.putfield 56, 3) := by decide +kernel
theorem dX2_copy_108 : decode cX2_copy 108 = .ok (.return_, 1) := by decide +kernel
theorem dX2_place_0 : decode cX2_place 0 = .ok (.aload_n 0, 1) := by decide +kernel
theorem dX2_place_1 : decode cX2_place 1 = .ok (.getfield 43, 3) := by decide +kernel
theorem dX2_place_4 : decode cX2_place 4 = .ok (.bipush 60, 2) := by decide +kernel
theorem dX2_place_6 : decode cX2_place 6 = .ok (.invokestatic 59, 3) := by decide +kernel
theorem dX2_place_9 : decode cX2_place 9 = .ok (.ireturn, 1) := by decide +kernel
theorem dX2_isCaught_0 : decode cX2_isCaught 0 = .ok (.aload_n 0, 1) := by decide +kernel
theorem dX2_isCaught_1 : decode cX2_isCaught 1 = .ok (.invokevirtual 63, 3) := by decide +kernel
theorem dX2_isCaught_4 : decode cX2_isCaught 4 = .ok (.istore_n 1, 1) := by decide +kernel
theorem dX2_isCaught_5 : decode cX2_isCaught 5 = .ok (.aload_n 0, 1) := by decide +kernel
theorem dX2_isCaught_6 : decode cX2_isCaught 6 = .ok (.getfield 46, 3) := by decide +kernel
theorem dX2_isCaught_9 : decode cX2_isCaught 9 = .ok (.ifCond .ne 26, 3) := by decide +kernel
theorem dX2_isCaught_12 : decode cX2_isCaught 12 = .ok (.iload_n 1, 1) := by decide +kernel
theorem dX2_isCaught_13 : decode cX2_isCaught 13 = .ok (.ifCond .lt 22, 3) := by decide +kernel
theorem dX2_isCaught_16 : decode cX2_isCaught 16 = .ok (.iload_n 1, 1) := by decide +kernel
theorem dX2_isCaught_17 : decode cX2_isCaught 17 = .ok (.bipush 60, 2) := by decide +kernel
theorem dX2_isCaught_19 : decode cX2_isCaught 19 = .ok (.if_icmp .ge 16, 3) := by decide +kernel
theorem dX2_isCaught_22 : decode cX2_isCaught 22 = .ok (.aload_n 0, 1) := by decide +kernel
theorem dX2_isCaught_23 : decode cX2_isCaught 23 = .ok (.getfield 18, 3) := by decide +kernel
theorem dX2_isCaught_26 : decode cX2_isCaught 26 = .ok (.iload_n 1, 1) := by decide +kernel
theorem dX2_isCaught_27 : decode cX2_isCaught 27 = .ok (.baload, 1) := by decide +kernel
theorem dX2_isCaught_28 : decode cX2_isCaught 28 = .ok (.ifCond .eq 7, 3) := by decide +kernel
theorem dX2_isCaught_31 : decode cX2_isCaught 31 = .ok (.iconst 1, 1) := by decide +kernel
theorem dX2_isCaught_32 : decode cX2_isCaught 32 = .ok (.goto 4, 3) := by decide +kernel
theorem dX2_isCaught_35 : decode cX2_isCaught 35 = .ok (.iconst 0, 1) := by decide +kernel
theorem dX2_isCaught_36 : decode cX2_isCaught 36 = .ok (.ireturn, 1) := by decide +kernel
theorem dX2_countStops_0 : decode cX2_countStops 0 = .ok (.iconst 0, 1) := by decide +kernel
theorem dX2_countStops_1 : decode cX2_countStops 1 = .ok (.istore_n 1, 1) := by decide +kernel
theorem dX2_countStops_2 : decode cX2_countStops 2 = .ok (.iconst 0, 1) := by decide +kernel
theorem dX2_countStops_3 : decode cX2_countStops 3 = .ok (.istore_n 2, 1) := by decide +kernel
theorem dX2_countStops_4 : decode cX2_countStops 4 = .ok (.iload_n 2, 1) := by decide +kernel
theorem dX2_countStops_5 : decode cX2_countStops 5 = .ok (.bipush 60, 2) := by decide +kernel
theorem dX2_countStops_7 : decode cX2_countStops 7 = .ok (.if_icmp .ge 21, 3) := by decide +kernel
theorem dX2_countStops_10 : decode cX2_countStops 10 = .ok (.iload_n 1, 1) := by decide +kernel
theorem dX2_countStops_11 : decode cX2_countStops 11 = .ok (.aload_n 0, 1) := by decide +kernel
theorem dX2_countStops_12 : decode cX2_countStops 12 = .ok (.getfield 18, 3) := by decide +kernel
theorem dX2_countStops_15 : decode cX2_countStops 15 = .ok (.iload_n 2, 1) := by decide +kernel
theorem dX2_countStops_16 : decode cX2_countStops 16 = .ok (.baload, 1) := by decide +kernel
theorem dX2_countStops_17 : decode cX2_countStops 17 = .ok (.invokestatic 67, 3) := by decide +kernel
theorem dX2_countStops_20 : decode cX2_countStops 20 = .ok (.iadd, 1) := by decide +kernel
theorem dX2_countStops_21 : decode cX2_countStops 21 = .ok (.istore_n 1, 1) := by decide +kernel
theorem dX2_countStops_22 : decode cX2_countStops 22 = .ok (.iinc 2 1, 3) := by decide +kernel
theorem dX2_countStops_25 : decode cX2_countStops 25 = .ok (.goto (-21), 3) := by decide +kernel
theorem dX2_countStops_28 : decode cX2_countStops 28 = .ok (.iload_n 1, 1) := by decide +kernel
theorem dX2_countStops_29 : decode cX2_countStops 29 = .ok (.ireturn, 1) := by decide +kernel
theorem dX2_reasonAgainst_0 : decode cX2_reasonAgainst 0 = .ok (.aload_n 1, 1) := by decide +kernel
theorem dX2_reasonAgainst_1 : decode cX2_reasonAgainst 1 = .ok (.iload_n 2, 1) := by decide +kernel
theorem dX2_reasonAgainst_2 : decode cX2_reasonAgainst 2 = .ok (.aload_n 0, 1) := by decide +kernel
theorem dX2_reasonAgainst_3 : decode cX2_reasonAgainst 3 = .ok (.getfield 26, 3) := by decide +kernel
theorem dX2_reasonAgainst_6 : decode cX2_reasonAgainst 6 = .ok (.invokevirtual 71, 3) := by decide +kernel
theorem dX2_reasonAgainst_9 : decode cX2_reasonAgainst 9 = .ok (.istore_n 3, 1) := by decide +kernel
theorem dX2_reasonAgainst_10 : decode cX2_reasonAgainst 10 = .ok (.iload_n 3, 1) := by decide +kernel
theorem dX2_reasonAgainst_11 : decode cX2_reasonAgainst 11 = .ok (.ifCond .eq 5, 3) := by decide +kernel
theorem dX2_reasonAgainst_14 : decode cX2_reasonAgainst 14 = .ok (.iload_n 3, 1) := by decide +kernel
theorem dX2_reasonAgainst_15 : decode cX2_reasonAgainst 15 = .ok (.ireturn, 1) := by decide +kernel
theorem dX2_reasonAgainst_16 : decode cX2_reasonAgainst 16 = .ok (.aload_n 0, 1) := by decide +kernel
theorem dX2_reasonAgainst_17 : decode cX2_reasonAgainst 17 = .ok (.invokevirtual 74, 3) := by decide +kernel
theorem dX2_reasonAgainst_20 : decode cX2_reasonAgainst 20 = .ok (.ifCond .eq 5, 3) := by decide +kernel
theorem dX2_reasonAgainst_23 : decode cX2_reasonAgainst 23 = .ok (.iconst 3, 1) := by decide +kernel
theorem dX2_reasonAgainst_24 : decode cX2_reasonAgainst 24 = .ok (.ireturn, 1) := by decide +kernel
theorem dX2_reasonAgainst_25 : decode cX2_reasonAgainst 25 = .ok (.aload_n 0, 1) := by decide +kernel
theorem dX2_reasonAgainst_26 : decode cX2_reasonAgainst 26 = .ok (.getfield 43, 3) := by decide +kernel
theorem dX2_reasonAgainst_29 : decode cX2_reasonAgainst 29 = .ok (.iload_n 2, 1) := by decide +kernel
theorem dX2_reasonAgainst_30 : decode cX2_reasonAgainst 30 = .ok (.iadd, 1) := by decide +kernel
theorem dX2_reasonAgainst_31 : decode cX2_reasonAgainst 31 = .ok (.istore 4, 2) := by decide +kernel
theorem dX2_reasonAgainst_33 : decode cX2_reasonAgainst 33 = .ok (.iload 4, 2) := by decide +kernel
theorem dX2_reasonAgainst_35 : decode cX2_reasonAgainst 35 = .ok (.sipush 9999, 3) := by decide +kernel
theorem dX2_reasonAgainst_38 : decode cX2_reasonAgainst 38 = .ok (.if_icmp .gt 11, 3) := by decide +kernel
theorem dX2_reasonAgainst_41 : decode cX2_reasonAgainst 41 = .ok (.iload 4, 2) := by decide +kernel
theorem dX2_reasonAgainst_43 : decode cX2_reasonAgainst 43 = .ok (.sipush (-9999), 3) := by decide +kernel
theorem dX2_reasonAgainst_46 : decode cX2_reasonAgainst 46 = .ok (.if_icmp .ge 7, 3) := by decide +kernel
theorem dX2_reasonAgainst_49 : decode cX2_reasonAgainst 49 = .ok (.iconst 4, 1) := by decide +kernel
theorem dX2_reasonAgainst_50 : decode cX2_reasonAgainst 50 = .ok (.goto 4, 3) := by decide +kernel
theorem dX2_reasonAgainst_53 : decode cX2_reasonAgainst 53 = .ok (.iconst 0, 1) := by decide +kernel
theorem dX2_reasonAgainst_54 : decode cX2_reasonAgainst 54 = .ok (.ireturn, 1) := by decide +kernel
theorem dX2_makeStep_0 : decode cX2_makeStep 0 = .ok (.aload_n 0, 1) := by decide +kernel
theorem dX2_makeStep_1 : decode cX2_makeStep 1 = .ok (.getfield 12, 3) := by decide +kernel
theorem dX2_makeStep_4 : decode cX2_makeStep 4 = .ok (.iload_n 1, 1) := by decide +kernel
theorem dX2_makeStep_5 : decode cX2_makeStep 5 = .ok (.invokevirtual 78, 3) := by decide +kernel
theorem dX2_makeStep_8 : decode cX2_makeStep 8 = .ok (.aload_n 0, 1) := by decide +kernel
theorem dX2_makeStep_9 : decode cX2_makeStep 9 = .ok (.dup, 1) := by decide +kernel
theorem dX2_makeStep_10 : decode cX2_makeStep 10 = .ok (.getfield 43, 3) := by decide +kernel
theorem dX2_makeStep_13 : decode cX2_makeStep 13 = .ok (.iload_n 1, 1) := by decide +kernel
theorem dX2_makeStep_14 : decode cX2_makeStep 14 = .ok (.iadd, 1) := by decide +kernel
theorem dX2_makeStep_15 : decode cX2_makeStep 15 = .ok (.putfield 43, 3) := by decide +kernel
theorem dX2_makeStep_18 : decode cX2_makeStep 18 = .ok (.aload_n 0, 1) := by decide +kernel
theorem dX2_makeStep_19 : decode cX2_makeStep 19 = .ok (.iconst 0, 1) := by decide +kernel
theorem dX2_makeStep_20 : decode cX2_makeStep 20 = .ok (.putfield 46, 3) := by decide +kernel
theorem dX2_makeStep_23 : decode cX2_makeStep 23 = .ok (.iload_n 1, 1) := by decide +kernel
theorem dX2_makeStep_24 : decode cX2_makeStep 24 = .ok (.ifCond .le 16, 3) := by decide +kernel
theorem dX2_makeStep_27 : decode cX2_makeStep 27 = .ok (.aload_n 0, 1) := by decide +kernel
theorem dX2_makeStep_28 : decode cX2_makeStep 28 = .ok (.dup, 1) := by decide +kernel
theorem dX2_makeStep_29 : decode cX2_makeStep 29 = .ok (.getfield 50, 3) := by decide +kernel
theorem dX2_makeStep_32 : decode cX2_makeStep 32 = .ok (.iconst 1, 1) := by decide +kernel
theorem dX2_makeStep_33 : decode cX2_makeStep 33 = .ok (.iadd, 1) := by decide +kernel
theorem dX2_makeStep_34 : decode cX2_makeStep 34 = .ok (.putfield 50, 3) := by decide +kernel
theorem dX2_makeStep_37 : decode cX2_makeStep 37 = .ok (.goto 13, 3) := by decide +kernel
theorem dX2_makeStep_40 : decode cX2_makeStep 40 = .ok (.aload_n 0, 1) := by decide +kernel
theorem dX2_makeStep_41 : decode cX2_makeStep 41 = .ok (.dup, 1) := by decide +kernel
theorem dX2_makeStep_42 : decode cX2_makeStep 42 = .ok (.getfield 53, 3) := by decide +kernel
theorem dX2_makeStep_45 : decode cX2_makeStep 45 = .ok (.iconst 1, 1) := by decide +kernel
theorem dX2_makeStep_46 : decode cX2_makeStep 46 = .ok (.iadd, 1) := by decide +kernel
theorem dX2_makeStep_47 : decode cX2_makeStep 47 = .ok (.putfield 53, 3) := by decide +kernel
theorem dX2_makeStep_50 : decode cX2_makeStep 50 = .ok (.return_, 1) := by decide +kernel
theorem dX2_addScene_0 : decode cX2_addScene 0 = .ok (.aload_n 0, 1) := by decide +kernel
theorem dX2_addScene_1 : decode cX2_addScene 1 = .ok (.getfield 40, 3) := by decide +kernel
theorem dX2_addScene_4 : decode cX2_addScene 4 = .ok (.ifCond .lt 12, 3) := by decide +kernel
theorem dX2_addScene_7 : decode cX2_addScene 7 = .ok (.aload_n 0, 1) := by decide +kernel
theorem dX2_addScene_8 : decode cX2_addScene 8 = .ok (.getfield 40, 3) := by decide +kernel
theorem dX2_addScene_11 : decode cX2_addScene 11 = .ok (.bipush 6, 2) := by decide +kernel
theorem dX2_addScene_13 : decode cX2_addScene 13 = .ok (.if_icmp .lt 4, 3) := by decide +kernel
theorem dX2_addScene_16 : decode cX2_addScene 16 = .ok (.return_, 1) := by decide +kernel
theorem dX2_addScene_17 : decode cX2_addScene 17 = .ok (.iconst 0, 1) := by decide +kernel
theorem dX2_addScene_18 : decode cX2_addScene 18 = .ok (.istore_n 1, 1) := by decide +kernel
theorem dX2_addScene_19 : decode cX2_addScene 19 = .ok (.iload_n 1, 1) := by decide +kernel
theorem dX2_addScene_20 : decode cX2_addScene 20 = .ok (.iconst 5, 1) := by decide +kernel
theorem dX2_addScene_21 : decode cX2_addScene 21 = .ok (.if_icmp .ge 31, 3) := by decide +kernel
theorem dX2_addScene_24 : decode cX2_addScene 24 = .ok (.aload_n 0, 1) := by decide +kernel
theorem dX2_addScene_25 : decode cX2_addScene 25 = .ok (.getfield 22, 3) := by decide +kernel
theorem dX2_addScene_28 : decode cX2_addScene 28 = .ok (.aload_n 0, 1) := by decide +kernel
theorem dX2_addScene_29 : decode cX2_addScene 29 = .ok (.getfield 40, 3) := by decide +kernel
theorem dX2_addScene_32 : decode cX2_addScene 32 = .ok (.iconst 5, 1) := by decide +kernel
theorem dX2_addScene_33 : decode cX2_addScene 33 = .ok (.imul, 1) := by decide +kernel
theorem dX2_addScene_34 : decode cX2_addScene 34 = .ok (.iload_n 1, 1) := by decide +kernel
theorem dX2_addScene_35 : decode cX2_addScene 35 = .ok (.iadd, 1) := by decide +kernel
theorem dX2_addScene_36 : decode cX2_addScene 36 = .ok (.aload_n 0, 1) := by decide +kernel
theorem dX2_addScene_37 : decode cX2_addScene 37 = .ok (.getfield 12, 3) := by decide +kernel
theorem dX2_addScene_40 : decode cX2_addScene 40 = .ok (.iload_n 1, 1) := by decide +kernel
theorem dX2_addScene_41 : decode cX2_addScene 41 = .ok (.iconst 0, 1) := by decide +kernel
theorem dX2_addScene_42 : decode cX2_addScene 42 = .ok (.invokevirtual 82, 3) := by decide +kernel
theorem dX2_addScene_45 : decode cX2_addScene 45 = .ok (.iastore, 1) := by decide +kernel
theorem dX2_addScene_46 : decode cX2_addScene 46 = .ok (.iinc 1 1, 3) := by decide +kernel
theorem dX2_addScene_49 : decode cX2_addScene 49 = .ok (.goto (-30), 3) := by decide +kernel
theorem dX2_addScene_52 : decode cX2_addScene 52 = .ok (.aload_n 0, 1) := by decide +kernel
theorem dX2_addScene_53 : decode cX2_addScene 53 = .ok (.dup, 1) := by decide +kernel
theorem dX2_addScene_54 : decode cX2_addScene 54 = .ok (.getfield 40, 3) := by decide +kernel
theorem dX2_addScene_57 : decode cX2_addScene 57 = .ok (.iconst 1, 1) := by decide +kernel
theorem dX2_addScene_58 : decode cX2_addScene 58 = .ok (.iadd, 1) := by decide +kernel
theorem dX2_addScene_59 : decode cX2_addScene 59 = .ok (.putfield 40, 3) := by decide +kernel
theorem dX2_addScene_62 : decode cX2_addScene 62 = .ok (.return_, 1) := by decide +kernel
theorem dX2_dropScene_0 : decode cX2_dropScene 0 = .ok (.iload_n 1, 1) := by decide +kernel
theorem dX2_dropScene_1 : decode cX2_dropScene 1 = .ok (.iconst 1, 1) := by decide +kernel
theorem dX2_dropScene_2 : decode cX2_dropScene 2 = .ok (.iadd, 1) := by decide +kernel
theorem dX2_dropScene_3 : decode cX2_dropScene 3 = .ok (.istore_n 2, 1) := by decide +kernel
theorem dX2_dropScene_4 : decode cX2_dropScene 4 = .ok (.iload_n 2, 1) := by decide +kernel
theorem dX2_dropScene_5 : decode cX2_dropScene 5 = .ok (.aload_n 0, 1) := by decide +kernel
theorem dX2_dropScene_6 : decode cX2_dropScene 6 = .ok (.getfield 40, 3) := by decide +kernel
theorem dX2_dropScene_9 : decode cX2_dropScene 9 = .ok (.if_icmp .ge 29, 3) := by decide +kernel
theorem dX2_dropScene_12 : decode cX2_dropScene 12 = .ok (.aload_n 0, 1) := by decide +kernel
theorem dX2_dropScene_13 : decode cX2_dropScene 13 = .ok (.getfield 22, 3) := by decide +kernel
theorem dX2_dropScene_16 : decode cX2_dropScene 16 = .ok (.iload_n 2, 1) := by decide +kernel
theorem dX2_dropScene_17 : decode cX2_dropScene 17 = .ok (.iconst 5, 1) := by decide +kernel
theorem dX2_dropScene_18 : decode cX2_dropScene 18 = .ok (.imul, 1) := by decide +kernel
theorem dX2_dropScene_19 : decode cX2_dropScene 19 = .ok (.aload_n 0, 1) := by decide +kernel
theorem dX2_dropScene_20 : decode cX2_dropScene 20 = .ok (.getfield 22, 3) := by decide +kernel
theorem dX2_dropScene_23 : decode cX2_dropScene 23 = .ok (.iload_n 2, 1) := by decide +kernel
theorem dX2_dropScene_24 : decode cX2_dropScene 24 = .ok (.iconst 1, 1) := by decide +kernel
theorem dX2_dropScene_25 : decode cX2_dropScene 25 = .ok (.isub, 1) := by decide +kernel
theorem dX2_dropScene_26 : decode cX2_dropScene 26 = .ok (.iconst 5, 1) := by decide +kernel
theorem dX2_dropScene_27 : decode cX2_dropScene 27 = .ok (.imul, 1) := by decide +kernel
theorem dX2_dropScene_28 : decode cX2_dropScene 28 = .ok (.iconst 5, 1) := by decide +kernel
theorem dX2_dropScene_29 : decode cX2_dropScene 29 = .ok (.invokestatic 34, 3) := by decide +kernel
theorem dX2_dropScene_32 : decode cX2_dropScene 32 = .ok (.iinc 2 1, 3) := by decide +kernel
theorem dX2_dropScene_35 : decode cX2_dropScene 35 = .ok (.goto (-31), 3) := by decide +kernel
theorem dX2_dropScene_38 : decode cX2_dropScene 38 = .ok (.aload_n 0, 1) := by decide +kernel
theorem dX2_dropScene_39 : decode cX2_dropScene 39 = .ok (.dup, 1) := by decide +kernel
theorem dX2_dropScene_40 : decode cX2_dropScene 40 = .ok (.getfield 40, 3) := by decide +kernel
theorem dX2_dropScene_43 : decode cX2_dropScene 43 = .ok (.iconst 1, 1) := by decide +kernel
theorem dX2_dropScene_44 : decode cX2_dropScene 44 = .ok (.isub, 1) := by decide +kernel
theorem dX2_dropScene_45 : decode cX2_dropScene 45 = .ok (.putfield 40, 3) := by decide +kernel
theorem dX2_dropScene_48 : decode cX2_dropScene 48 = .ok (.return_, 1) := by decide +kernel
theorem dX2_heightInScene_0 : decode cX2_heightInScene 0 = .ok (.iload_n 1, 1) := by decide +kernel
theorem dX2_heightInScene_1 : decode cX2_heightInScene 1 = .ok (.ifCond .lt 20, 3) := by decide +kernel
theorem dX2_heightInScene_4 : decode cX2_heightInScene 4 = .ok (.iload_n 1, 1) := by decide +kernel
theorem dX2_heightInScene_5 : decode cX2_heightInScene 5 = .ok (.bipush 6, 2) := by decide +kernel
theorem dX2_heightInScene_7 : decode cX2_heightInScene 7 = .ok (.if_icmp .ge 14, 3) := by decide +kernel
theorem dX2_heightInScene_10 : decode cX2_heightInScene 10 = .ok (.iload_n 2, 1) := by decide +kernel
theorem dX2_heightInScene_11 : decode cX2_heightInScene 11 = .ok (.invokestatic 85, 3) := by decide +kernel
theorem dX2_heightInScene_14 : decode cX2_heightInScene 14 = .ok (.ifCond .eq 7, 3) := by decide +kernel
theorem dX2_heightInScene_17 : decode cX2_heightInScene 17 = .ok (.iconst 1, 1) := by decide +kernel
theorem dX2_heightInScene_18 : decode cX2_heightInScene 18 = .ok (.goto 4, 3) := by decide +kernel
theorem dX2_heightInScene_21 : decode cX2_heightInScene 21 = .ok (.iconst 0, 1) := by decide +kernel
theorem dX2_heightInScene_22 : decode cX2_heightInScene 22 = .ok (.istore_n 3, 1) := by decide +kernel
theorem dX2_heightInScene_23 : decode cX2_heightInScene 23 = .ok (.iload_n 3, 1) := by decide +kernel
theorem dX2_heightInScene_24 : decode cX2_heightInScene 24 = .ok (.ifCond .eq 16, 3) := by decide +kernel
theorem dX2_heightInScene_27 : decode cX2_heightInScene 27 = .ok (.aload_n 0, 1) := by decide +kernel
theorem dX2_heightInScene_28 : decode cX2_heightInScene 28 = .ok (.getfield 22, 3) := by decide +kernel
theorem dX2_heightInScene_31 : decode cX2_heightInScene 31 = .ok (.iload_n 1, 1) := by decide +kernel
theorem dX2_heightInScene_32 : decode cX2_heightInScene 32 = .ok (.iconst 5, 1) := by decide +kernel
theorem dX2_heightInScene_33 : decode cX2_heightInScene 33 = .ok (.imul, 1) := by decide +kernel
theorem dX2_heightInScene_34 : decode cX2_heightInScene 34 = .ok (.iload_n 2, 1) := by decide +kernel
theorem dX2_heightInScene_35 : decode cX2_heightInScene 35 = .ok (.iadd, 1) := by decide +kernel
theorem dX2_heightInScene_36 : decode cX2_heightInScene 36 = .ok (.iaload, 1) := by decide +kernel
theorem dX2_heightInScene_37 : decode cX2_heightInScene 37 = .ok (.goto 4, 3) := by decide +kernel
theorem dX2_heightInScene_40 : decode cX2_heightInScene 40 = .ok (.iconst 0, 1) := by decide +kernel
theorem dX2_heightInScene_41 : decode cX2_heightInScene 41 = .ok (.ireturn, 1) := by decide +kernel
theorem dX2_faultOfScene_0 : decode cX2_faultOfScene 0 = .ok (.aload_n 0, 1) := by decide +kernel
theorem dX2_faultOfScene_1 : decode cX2_faultOfScene 1 = .ok (.iload_n 1, 1) := by decide +kernel
theorem dX2_faultOfScene_2 : decode cX2_faultOfScene 2 = .ok (.iconst 0, 1) := by decide +kernel
theorem dX2_faultOfScene_3 : decode cX2_faultOfScene 3 = .ok (.invokevirtual 89, 3) := by decide +kernel
theorem dX2_faultOfScene_6 : decode cX2_faultOfScene 6 = .ok (.aload_n 0, 1) := by decide +kernel
theorem dX2_faultOfScene_7 : decode cX2_faultOfScene 7 = .ok (.iload_n 1, 1) := by decide +kernel
theorem dX2_faultOfScene_8 : decode cX2_faultOfScene 8 = .ok (.iconst 1, 1) := by decide +kernel
theorem dX2_faultOfScene_9 : decode cX2_faultOfScene 9 = .ok (.invokevirtual 89, 3) := by decide +kernel
theorem dX2_faultOfScene_12 : decode cX2_faultOfScene 12 = .ok (.aload_n 0, 1) := by decide +kernel
theorem dX2_faultOfScene_13 : decode cX2_faultOfScene 13 = .ok (.iload_n 1, 1) := by decide +kernel
theorem dX2_faultOfScene_14 : decode cX2_faultOfScene 14 = .ok (.iconst 2, 1) := by decide +kernel
theorem dX2_faultOfScene_15 : decode cX2_faultOfScene 15 = .ok (.invokevirtual 89, 3) := by decide +kernel
theorem dX2_faultOfScene_18 : decode cX2_faultOfScene 18 = .ok (.aload_n 0, 1) := by decide +kernel
theorem dX2_faultOfScene_19 : decode cX2_faultOfScene 19 = .ok (.iload_n 1, 1) := by decide +kernel
theorem dX2_faultOfScene_20 : decode cX2_faultOfScene 20 = .ok (.iconst 3, 1) := by decide +kernel
theorem dX2_faultOfScene_21 : decode cX2_faultOfScene 21 = .ok (.invokevirtual 89, 3) := by decide +kernel
theorem dX2_faultOfScene_24 : decode cX2_faultOfScene 24 = .ok (.aload_n 0, 1) := by decide +kernel
theorem dX2_faultOfScene_25 : decode cX2_faultOfScene 25 = .ok (.iload_n 1, 1) := by decide +kernel
theorem dX2_faultOfScene_26 : decode cX2_faultOfScene 26 = .ok (.iconst 4, 1) := by decide +kernel
theorem dX2_faultOfScene_27 : decode cX2_faultOfScene 27 = .ok (.invokevirtual 89, 3) := by decide +kernel
theorem dX2_faultOfScene_30 : decode cX2_faultOfScene 30 = .ok (.aload_n 0, 1) := by decide +kernel
theorem dX2_faultOfScene_31 : decode cX2_faultOfScene 31 = .ok (.getfield 26, 3) := by decide +kernel
theorem dX2_faultOfScene_34 : decode cX2_faultOfScene 34 = .ok (.invokestatic 92, 3) := by decide +kernel
theorem dX2_faultOfScene_37 : decode cX2_faultOfScene 37 = .ok (.ireturn, 1) := by decide +kernel
theorem dX2_isSceneBehind_0 : decode cX2_isSceneBehind 0 = .ok (.iconst 0, 1) := by decide +kernel
theorem dX2_isSceneBehind_1 : decode cX2_isSceneBehind 1 = .ok (.istore_n 3, 1) := by decide +kernel
theorem dX2_isSceneBehind_2 : decode cX2_isSceneBehind 2 = .ok (.iload_n 3, 1) := by decide +kernel
theorem dX2_isSceneBehind_3 : decode cX2_isSceneBehind 3 = .ok (.iconst 5, 1) := by decide +kernel
theorem dX2_isSceneBehind_4 : decode cX2_isSceneBehind 4 = .ok (.if_icmp .ge 29, 3) := by decide +kernel
theorem dX2_isSceneBehind_7 : decode cX2_isSceneBehind 7 = .ok (.aload_n 0, 1) := by decide +kernel
theorem dX2_isSceneBehind_8 : decode cX2_isSceneBehind 8 = .ok (.getfield 12, 3) := by decide +kernel
theorem dX2_isSceneBehind_11 : decode cX2_isSceneBehind 11 = .ok (.iload_n 3, 1) := by decide +kernel
theorem dX2_isSceneBehind_12 : decode cX2_isSceneBehind 12 = .ok (.iload_n 2, 1) := by decide +kernel
theorem dX2_isSceneBehind_13 : decode cX2_isSceneBehind 13 = .ok (.invokevirtual 82, 3) := by decide +kernel
theorem dX2_isSceneBehind_16 : decode cX2_isSceneBehind 16 = .ok (.aload_n 0, 1) := by decide +kernel
theorem dX2_isSceneBehind_17 : decode cX2_isSceneBehind 17 = .ok (.iload_n 1, 1) := by decide +kernel
theorem dX2_isSceneBehind_18 : decode cX2_isSceneBehind 18 = .ok (.iload_n 3, 1) := by decide +kernel
theorem dX2_isSceneBehind_19 : decode cX2_isSceneBehind 19 = .ok (.invokevirtual 89, 3) := by decide +kernel
theorem dX2_isSceneBehind_22 : decode cX2_isSceneBehind 22 = .ok (.if_icmp .eq 5, 3) := by decide +kernel
theorem dX2_isSceneBehind_25 : decode cX2_isSceneBehind 25 = .ok (.iconst 0, 1) := by decide +kernel
theorem dX2_isSceneBehind_26 : decode cX2_isSceneBehind 26 = .ok (.ireturn, 1) := by decide +kernel
theorem dX2_isSceneBehind_27 : decode cX2_isSceneBehind 27 = .ok (.iinc 3 1, 3) := by decide +kernel
theorem dX2_isSceneBehind_30 : decode cX2_isSceneBehind 30 = .ok (.goto (-28), 3) := by decide +kernel
theorem dX2_isSceneBehind_33 : decode cX2_isSceneBehind 33 = .ok (.iconst 1, 1) := by decide +kernel
theorem dX2_isSceneBehind_34 : decode cX2_isSceneBehind 34 = .ok (.ireturn, 1) := by decide +kernel
theorem dX3_init_0 : decode cX3_init 0 = .ok (.aload_n 0, 1) := by decide +kernel
theorem dX3_init_1 : decode cX3_init 1 = .ok (.invokespecial 3, 3) := by decide +kernel
theorem dX3_init_4 : decode cX3_init 4 = .ok (.aload_n 0, 1) := by decide +kernel
theorem dX3_init_5 : decode cX3_init 5 = .ok (.bipush 60, 2) := by decide +kernel
theorem dX3_init_7 : decode cX3_init 7 = .ok (.newarray .int, 2) := by decide +kernel
theorem dX3_init_9 : decode cX3_init 9 = .ok (.putfield 9, 3) := by decide +kernel
theorem dX3_init_12 : decode cX3_init 12 = .ok (.return_, 1) := by decide +kernel
theorem dX4_init_0 : decode cX4_init 0 = .ok (.aload_n 0, 1) := by decide +kernel
theorem dX4_init_1 : decode cX4_init 1 = .ok (.invokespecial 3, 3) := by decide +kernel
theorem dX4_init_4 : decode cX4_init 4 = .ok (.aload_n 0, 1) := by decide +kernel
theorem dX4_init_5 : decode cX4_init 5 = .ok (.iconst 5, 1) := by decide +kernel
theorem dX4_init_6 : decode cX4_init 6 = .ok (.newarray .int, 2) := by decide +kernel
theorem dX4_init_8 : decode cX4_init 8 = .ok (.putfield 9, 3) := by decide +kernel
theorem dX4_init_11 : decode cX4_init 11 = .ok (.aload_n 0, 1) := by decide +kernel
theorem dX4_init_12 : decode cX4_init 12 = .ok (.iconst 5, 1) := by decide +kernel
theorem dX4_init_13 : decode cX4_init 13 = .ok (.newarray .int, 2) := by decide +kernel
theorem dX4_init_15 : decode cX4_init 15 = .ok (.putfield 15, 3) := by decide +kernel
theorem dX4_init_18 : decode cX4_init 18 = .ok (.aload_n 0, 1) := by decide +kernel
theorem dX4_init_19 : decode cX4_init 19 = .ok (.iconst 5, 1) := by decide +kernel
theorem dX4_init_20 : decode cX4_init 20 = .ok (.newarray .boolean, 2) := by decide +kernel
theorem dX4_init_22 : decode cX4_init 22 = .ok (.putfield 18, 3) := by decide +kernel
theorem dX4_init_25 : decode cX4_init 25 = .ok (.aload_n 0, 1) := by decide +kernel
theorem dX4_init_26 : decode cX4_init 26 = .ok (.iconst 5, 1) := by decide +kernel
theorem dX4_init_27 : decode cX4_init 27 = .ok (.newarray .int, 2) := by decide +kernel
theorem dX4_init_29 : decode cX4_init 29 = .ok (.putfield 22, 3) := by decide +kernel
theorem dX4_init_32 : decode cX4_init 32 = .ok (.aload_n 0, 1) := by decide +kernel
theorem dX4_init_33 : decode cX4_init 33 = .ok (.iconst 5, 1) := by decide +kernel
theorem dX4_init_34 : decode cX4_init 34 = .ok (.newarray .int, 2) := by decide +kernel
theorem dX4_init_36 : decode cX4_init 36 = .ok (.putfield 25, 3) := by decide +kernel
theorem dX4_init_39 : decode cX4_init 39 = .ok (.aload_n 0, 1) := by decide +kernel
theorem dX4_init_40 : decode cX4_init 40 = .ok (.bipush 60, 2) := by decide +kernel
theorem dX4_init_42 : decode cX4_init 42 = .ok (.newarray .int, 2) := by decide +kernel
theorem dX4_init_44 : decode cX4_init 44 = .ok (.putfield 28, 3) := by decide +kernel
theorem dX4_init_47 : decode cX4_init 47 = .ok (.iconst 0, 1) := by decide +kernel
theorem dX4_init_48 : decode cX4_init 48 = .ok (.istore_n 1, 1) := by decide +kernel
theorem dX4_init_49 : decode cX4_init 49 = .ok (.iload_n 1, 1) := by decide +kernel
theorem dX4_init_50 : decode cX4_init 50 = .ok (.iconst 5, 1) := by decide +kernel
theorem dX4_init_51 : decode cX4_init 51 = .ok (.if_icmp .ge 57, 3) := by decide +kernel
theorem dX4_init_54 : decode cX4_init 54 = .ok (.aload_n 0, 1) := by decide +kernel
theorem dX4_init_55 : decode cX4_init 55 = .ok (.getfield 9, 3) := by decide +kernel
theorem dX4_init_58 : decode cX4_init 58 = .ok (.iload_n 1, 1) := by decide +kernel
theorem dX4_init_59 : decode cX4_init 59 = .ok (.getstatic 31, 3) := by decide +kernel
theorem dX4_init_62 : decode cX4_init 62 = .ok (.iload_n 1, 1) := by decide +kernel
theorem dX4_init_63 : decode cX4_init 63 = .ok (.iaload, 1) := by decide +kernel
theorem dX4_init_64 : decode cX4_init 64 = .ok (.iastore, 1) := by decide +kernel
theorem dX4_init_65 : decode cX4_init 65 = .ok (.aload_n 0, 1) := by decide +kernel
theorem dX4_init_66 : decode cX4_init 66 = .ok (.getfield 18, 3) := by decide +kernel
theorem dX4_init_69 : decode cX4_init 69 = .ok (.iload_n 1, 1) := by decide +kernel
theorem dX4_init_70 : decode cX4_init 70 = .ok (.iconst 1, 1) := by decide +kernel
theorem dX4_init_71 : decode cX4_init 71 = .ok (.bastore, 1) := by decide +kernel
theorem dX4_init_72 : decode cX4_init 72 = .ok (.iconst 0, 1) := by decide +kernel
theorem dX4_init_73 : decode cX4_init 73 = .ok (.istore_n 2, 1) := by decide +kernel
theorem dX4_init_74 : decode cX4_init 74 = .ok (.iload_n 2, 1) := by decide +kernel
theorem dX4_init_75 : decode cX4_init 75 = .ok (.bipush 12, 2) := by decide +kernel
theorem dX4_init_77 : decode cX4_init 77 = .ok (.if_icmp .ge 25, 3) := by decide +kernel
theorem dX4_init_80 : decode cX4_init 80 = .ok (.aload_n 0, 1) := by decide +kernel
theorem dX4_init_81 : decode cX4_init 81 = .ok (.getfield 28, 3) := by decide +kernel
theorem dX4_init_84 : decode cX4_init 84 = .ok (.iload_n 1, 1) := by decide +kernel
theorem dX4_init_85 : decode cX4_init 85 = .ok (.bipush 12, 2) := by decide +kernel
theorem dX4_init_87 : decode cX4_init 87 = .ok (.imul, 1) := by decide +kernel
theorem dX4_init_88 : decode cX4_init 88 = .ok (.iload_n 2, 1) := by decide +kernel
theorem dX4_init_89 : decode cX4_init 89 = .ok (.iadd, 1) := by decide +kernel
theorem dX4_init_90 : decode cX4_init 90 = .ok (.iload_n 1, 1) := by decide +kernel
theorem dX4_init_91 : decode cX4_init 91 = .ok (.iload_n 2, 1) := by decide +kernel
theorem dX4_init_92 : decode cX4_init 92 = .ok (.invokestatic 34, 3) := by decide +kernel
theorem dX4_init_95 : decode cX4_init 95 = .ok (.iastore, 1) := by decide +kernel
theorem dX4_init_96 : decode cX4_init 96 = .ok (.iinc 2 1, 3) := by decide +kernel
theorem dX4_init_99 : decode cX4_init 99 = .ok (.goto (-25), 3) := by decide +kernel
theorem dX4_init_102 : decode cX4_init 102 = .ok (.iinc 1 1, 3) := by decide +kernel
theorem dX4_init_105 : decode cX4_init 105 = .ok (.goto (-56), 3) := by decide +kernel
theorem dX4_init_108 : decode cX4_init 108 = .ok (.return_, 1) := by decide +kernel
theorem dX4_firstHeight_0 : decode cX4_firstHeight 0 = .ok (.iload_n 0, 1) := by decide +kernel
theorem dX4_firstHeight_1 : decode cX4_firstHeight 1 = .ok (.iconst 4, 1) := by decide +kernel
theorem dX4_firstHeight_2 : decode cX4_firstHeight 2 = .ok (.if_icmp .ne 25, 3) := by decide +kernel
theorem dX4_firstHeight_5 : decode cX4_firstHeight 5 = .ok (.iload_n 1, 1) := by decide +kernel
theorem dX4_firstHeight_6 : decode cX4_firstHeight 6 = .ok (.ifCond .lt 19, 3) := by decide +kernel
theorem dX4_firstHeight_9 : decode cX4_firstHeight 9 = .ok (.iload_n 1, 1) := by decide +kernel
theorem dX4_firstHeight_10 : decode cX4_firstHeight 10 = .ok (.getstatic 38, 3) := by decide +kernel
theorem dX4_firstHeight_13 : decode cX4_firstHeight 13 = .ok (.arraylength, 1) := by decide +kernel
theorem dX4_firstHeight_14 : decode cX4_firstHeight 14 = .ok (.if_icmp .ge 11, 3) := by decide +kernel
theorem dX4_firstHeight_17 : decode cX4_firstHeight 17 = .ok (.getstatic 38, 3) := by decide +kernel
theorem dX4_firstHeight_20 : decode cX4_firstHeight 20 = .ok (.iload_n 1, 1) := by decide +kernel
theorem dX4_firstHeight_21 : decode cX4_firstHeight 21 = .ok (.iaload, 1) := by decide +kernel
theorem dX4_firstHeight_22 : decode cX4_firstHeight 22 = .ok (.goto 4, 3) := by decide +kernel
theorem dX4_firstHeight_25 : decode cX4_firstHeight 25 = .ok (.iconst 0, 1) := by decide +kernel
theorem dX4_firstHeight_26 : decode cX4_firstHeight 26 = .ok (.ireturn, 1) := by decide +kernel
theorem dX4_firstHeight_27 : decode cX4_firstHeight 27 = .ok (.iload_n 0, 1) := by decide +kernel
theorem dX4_firstHeight_28 : decode cX4_firstHeight 28 = .ok (.iconst 2, 1) := by decide +kernel
theorem dX4_firstHeight_29 : decode cX4_firstHeight 29 = .ok (.if_icmp .ge 8, 3) := by decide +kernel
theorem dX4_firstHeight_32 : decode cX4_firstHeight 32 = .ok (.bipush 9, 2) := by decide +kernel
theorem dX4_firstHeight_34 : decode cX4_firstHeight 34 = .ok (.goto 4, 3) := by decide +kernel
theorem dX4_firstHeight_37 : decode cX4_firstHeight 37 = .ok (.iconst 0, 1) := by decide +kernel
theorem dX4_firstHeight_38 : decode cX4_firstHeight 38 = .ok (.ireturn, 1) := by decide +kernel
theorem dX4_copy_0 : decode cX4_copy 0 = .ok (.iconst 0, 1) := by decide +kernel
theorem dX4_copy_1 : decode cX4_copy 1 = .ok (.istore_n 2, 1) := by decide +kernel
theorem dX4_copy_2 : decode cX4_copy 2 = .ok (.iload_n 2, 1) := by decide +kernel
theorem dX4_copy_3 : decode cX4_copy 3 = .ok (.iconst 5, 1) := by decide +kernel
theorem dX4_copy_4 : decode cX4_copy 4 = .ok (.if_icmp .ge 69, 3) := by decide +kernel
theorem dX4_copy_7 : decode cX4_copy 7 = .ok (.aload_n 0, 1) := by decide +kernel
theorem dX4_copy_8 : decode cX4_copy 8 = .ok (.getfield 9, 3) := by decide +kernel
theorem dX4_copy_11 : decode cX4_copy 11 = .ok (.iload_n 2, 1) := by decide +kernel
theorem dX4_copy_12 : decode cX4_copy 12 = .ok (.aload_n 1, 1) := by decide +kernel
theorem dX4_copy_13 : decode cX4_copy 13 = .ok (.getfield 9, 3) := by decide +kernel
theorem dX4_copy_16 : decode cX4_copy 16 = .ok (.iload_n 2, 1) := by decide +kernel
theorem dX4_copy_17 : decode cX4_copy 17 = .ok (.iaload, 1) := by decide +kernel
theorem dX4_copy_18 : decode cX4_copy 18 = .ok (.iastore, 1) := by decide +kernel
theorem dX4_copy_19 : decode cX4_copy 19 = .ok (.aload_n 0, 1) := by decide +kernel
theorem dX4_copy_20 : decode cX4_copy 20 = .ok (.getfield 15, 3) := by decide +kernel
theorem dX4_copy_23 : decode cX4_copy 23 = .ok (.iload_n 2, 1) := by decide +kernel
theorem dX4_copy_24 : decode cX4_copy 24 = .ok (.aload_n 1, 1) := by decide +kernel
theorem dX4_copy_25 : decode cX4_copy 25 = .ok (.getfield 15, 3) := by decide +kernel
theorem dX4_copy_28 : decode cX4_copy 28 = .ok (.iload_n 2, 1) := by decide +kernel
theorem dX4_copy_29 : decode cX4_copy 29 = .ok (.iaload, 1) := by decide +kernel
theorem dX4_copy_30 : decode cX4_copy 30 = .ok (.iastore, 1) := by decide +kernel
theorem dX4_copy_31 : decode cX4_copy 31 = .ok (.aload_n 0, 1) := by decide +kernel
theorem dX4_copy_32 : decode cX4_copy 32 = .ok (.getfield 18, 3) := by decide +kernel
theorem dX4_copy_35 : decode cX4_copy 35 = .ok (.iload_n 2, 1) := by decide +kernel
theorem dX4_copy_36 : decode cX4_copy 36 = .ok (.aload_n 1, 1) := by decide +kernel
theorem dX4_copy_37 : decode cX4_copy 37 = .ok (.getfield 18, 3) := by decide +kernel
theorem dX4_copy_40 : decode cX4_copy 40 = .ok (.iload_n 2, 1) := by decide +kernel
theorem dX4_copy_41 : decode cX4_copy 41 = .ok (.baload, 1) := by decide +kernel
theorem dX4_copy_42 : decode cX4_copy 42 = .ok (.bastore, 1) := by decide +kernel
theorem dX4_copy_43 : decode cX4_copy 43 = .ok (.aload_n 0, 1) := by decide +kernel
theorem dX4_copy_44 : decode cX4_copy 44 = .ok (.getfield 22, 3) := by decide +kernel
theorem dX4_copy_47 : decode cX4_copy 47 = .ok (.iload_n 2, 1) := by decide +kernel
theorem dX4_copy_48 : decode cX4_copy 48 = .ok (.aload_n 1, 1) := by decide +kernel
theorem dX4_copy_49 : decode cX4_copy 49 = .ok (.getfield 22, 3) := by decide +kernel
theorem dX4_copy_52 : decode cX4_copy 52 = .ok (.iload_n 2, 1) := by decide +kernel
theorem dX4_copy_53 : decode cX4_copy 53 = .ok (.iaload, 1) := by decide +kernel
theorem dX4_copy_54 : decode cX4_copy 54 = .ok (.iastore, 1) := by decide +kernel
theorem dX4_copy_55 : decode cX4_copy 55 = .ok (.aload_n 0, 1) := by decide +kernel
theorem dX4_copy_56 : decode cX4_copy 56 = .ok (.getfield 25, 3) := by decide +kernel
theorem dX4_copy_59 : decode cX4_copy 59 = .ok (.iload_n 2, 1) := by decide +kernel
theorem dX4_copy_60 : decode cX4_copy 60 = .ok (.aload_n 1, 1) := by decide +kernel
theorem dX4_copy_61 : decode cX4_copy 61 = .ok (.getfield 25, 3) := by decide +kernel
theorem dX4_copy_64 : decode cX4_copy 64 = .ok (.iload_n 2, 1) := by decide +kernel
theorem dX4_copy_65 : decode cX4_copy 65 = .ok (.iaload, 1) := by decide +kernel
theorem dX4_copy_66 : decode cX4_copy 66 = .ok (.iastore, 1) := by decide +kernel
theorem dX4_copy_67 : decode cX4_copy 67 = .ok (.iinc 2 1, 3) := by decide +kernel
theorem dX4_copy_70 : decode cX4_copy 70 = .ok (.goto (-68), 3) := by decide +kernel
theorem dX4_copy_73 : decode cX4_copy 73 = .ok (.aload_n 1, 1) := by decide +kernel
theorem dX4_copy_74 : decode cX4_copy 74 = .ok (.getfield 28, 3) := by decide +kernel
theorem dX4_copy_77 : decode cX4_copy 77 = .ok (.iconst 0, 1) := by decide +kernel
theorem dX4_copy_78 : decode cX4_copy 78 = .ok (.aload_n 0, 1) := by decide +kernel
theorem dX4_copy_79 : decode cX4_copy 79 = .ok (.getfield 28, 3) := by decide +kernel
theorem dX4_copy_82 : decode cX4_copy 82 = .ok (.iconst 0, 1) := by decide +kernel
theorem dX4_copy_83 : decode cX4_copy 83 = .ok (.bipush 60, 2) := by decide +kernel
theorem dX4_copy_85 : decode cX4_copy 85 = .ok (.invokestatic 41, 3) := by decide +kernel
theorem dX4_copy_88 : decode cX4_copy 88 = .ok (.return_, 1) := by decide +kernel
theorem dX4_heightAt_0 : decode cX4_heightAt 0 = .ok (.iload_n 1, 1) := by decide +kernel
theorem dX4_heightAt_1 : decode cX4_heightAt 1 = .ok (.bipush 12, 2) := by decide +kernel
theorem dX4_heightAt_3 : decode cX4_heightAt 3 = .ok (.imul, 1) := by decide +kernel
theorem dX4_heightAt_4 : decode cX4_heightAt 4 = .ok (.iload_n 2, 1) := by decide +kernel
theorem dX4_heightAt_5 : decode cX4_heightAt 5 = .ok (.iadd, 1) := by decide +kernel
theorem dX4_heightAt_6 : decode cX4_heightAt 6 = .ok (.istore_n 3, 1) := by decide +kernel
theorem dX4_heightAt_7 : decode cX4_heightAt 7 = .ok (.iload_n 3, 1) := by decide +kernel
theorem dX4_heightAt_8 : decode cX4_heightAt 8 = .ok (.ifCond .lt 21, 3) := by decide +kernel
theorem dX4_heightAt_11 : decode cX4_heightAt 11 = .ok (.iload_n 3, 1) := by decide +kernel
theorem dX4_heightAt_12 : decode cX4_heightAt 12 = .ok (.aload_n 0, 1) := by decide +kernel
theorem dX4_heightAt_13 : decode cX4_heightAt 13 = .ok (.getfield 28, 3) := by decide +kernel
theorem dX4_heightAt_16 : decode cX4_heightAt 16 = .ok (.arraylength, 1) := by decide +kernel
theorem dX4_heightAt_17 : decode cX4_heightAt 17 = .ok (.if_icmp .ge 12, 3) := by decide +kernel
theorem dX4_heightAt_20 : decode cX4_heightAt 20 = .ok (.aload_n 0, 1) := by decide +kernel
theorem dX4_heightAt_21 : decode cX4_heightAt 21 = .ok (.getfield 28, 3) := by decide +kernel
theorem dX4_heightAt_24 : decode cX4_heightAt 24 = .ok (.iload_n 3, 1) := by decide +kernel
theorem dX4_heightAt_25 : decode cX4_heightAt 25 = .ok (.iaload, 1) := by decide +kernel
theorem dX4_heightAt_26 : decode cX4_heightAt 26 = .ok (.goto 4, 3) := by decide +kernel
theorem dX4_heightAt_29 : decode cX4_heightAt 29 = .ok (.iconst 0, 1) := by decide +kernel
theorem dX4_heightAt_30 : decode cX4_heightAt 30 = .ok (.ireturn, 1) := by decide +kernel
theorem dX4_putHeight_0 : decode cX4_putHeight 0 = .ok (.iload_n 1, 1) := by decide +kernel
theorem dX4_putHeight_1 : decode cX4_putHeight 1 = .ok (.bipush 12, 2) := by decide +kernel
theorem dX4_putHeight_3 : decode cX4_putHeight 3 = .ok (.imul, 1) := by decide +kernel
theorem dX4_putHeight_4 : decode cX4_putHeight 4 = .ok (.iload_n 2, 1) := by decide +kernel
theorem dX4_putHeight_5 : decode cX4_putHeight 5 = .ok (.iadd, 1) := by decide +kernel
theorem dX4_putHeight_6 : decode cX4_putHeight 6 = .ok (.istore 4, 2) := by decide +kernel
theorem dX4_putHeight_8 : decode cX4_putHeight 8 = .ok (.iload 4, 2) := by decide +kernel
theorem dX4_putHeight_10 : decode cX4_putHeight 10 = .ok (.ifCond .lt 21, 3) := by decide +kernel
theorem dX4_putHeight_13 : decode cX4_putHeight 13 = .ok (.iload 4, 2) := by decide +kernel
theorem dX4_putHeight_15 : decode cX4_putHeight 15 = .ok (.aload_n 0, 1) := by decide +kernel
theorem dX4_putHeight_16 : decode cX4_putHeight 16 = .ok (.getfield 28, 3) := by decide +kernel
theorem dX4_putHeight_19 : decode cX4_putHeight 19 = .ok (.arraylength, 1) := by decide +kernel
theorem dX4_putHeight_20 : decode cX4_putHeight 20 = .ok (.if_icmp .ge 11, 3) := by decide +kernel
theorem dX4_putHeight_23 : decode cX4_putHeight 23 = .ok (.aload_n 0, 1) := by decide +kernel
theorem dX4_putHeight_24 : decode cX4_putHeight 24 = .ok (.getfield 28, 3) := by decide +kernel
theorem dX4_putHeight_27 : decode cX4_putHeight 27 = .ok (.iload 4, 2) := by decide +kernel
theorem dX4_putHeight_29 : decode cX4_putHeight 29 = .ok (.iload_n 3, 1) := by decide +kernel
theorem dX4_putHeight_30 : decode cX4_putHeight 30 = .ok (.iastore, 1) := by decide +kernel
theorem dX4_putHeight_31 : decode cX4_putHeight 31 = .ok (.return_, 1) := by decide +kernel
theorem dX4_switchClutch_0 : decode cX4_switchClutch 0 = .ok (.iload_n 1, 1) := by decide +kernel
theorem dX4_switchClutch_1 : decode cX4_switchClutch 1 = .ok (.invokestatic 47, 3) := by decide +kernel
theorem dX4_switchClutch_4 : decode cX4_switchClutch 4 = .ok (.ifCond .eq 23, 3) := by decide +kernel
theorem dX4_switchClutch_7 : decode cX4_switchClutch 7 = .ok (.aload_n 0, 1) := by decide +kernel
theorem dX4_switchClutch_8 : decode cX4_switchClutch 8 = .ok (.getfield 18, 3) := by decide +kernel
theorem dX4_switchClutch_11 : decode cX4_switchClutch 11 = .ok (.iload_n 1, 1) := by decide +kernel
theorem dX4_switchClutch_12 : decode cX4_switchClutch 12 = .ok (.aload_n 0, 1) := by decide +kernel
theorem dX4_switchClutch_13 : decode cX4_switchClutch 13 = .ok (.getfield 18, 3) := by decide +kernel
theorem dX4_switchClutch_16 : decode cX4_switchClutch 16 = .ok (.iload_n 1, 1) := by decide +kernel
theorem dX4_switchClutch_17 : decode cX4_switchClutch 17 = .ok (.baload, 1) := by decide +kernel
theorem dX4_switchClutch_18 : decode cX4_switchClutch 18 = .ok (.ifCond .ne 7, 3) := by decide +kernel
theorem dX4_switchClutch_21 : decode cX4_switchClutch 21 = .ok (.iconst 1, 1) := by decide +kernel
theorem dX4_switchClutch_22 : decode cX4_switchClutch 22 = .ok (.goto 4, 3) := by decide +kernel
theorem dX4_switchClutch_25 : decode cX4_switchClutch 25 = .ok (.iconst 0, 1) := by decide +kernel
theorem dX4_switchClutch_26 : decode cX4_switchClutch 26 = .ok (.bastore, 1) := by decide +kernel
theorem dX4_switchClutch_27 : decode cX4_switchClutch 27 = .ok (.return_, 1) := by decide +kernel
theorem dX4_turnLocked_0 : decode cX4_turnLocked 0 = .ok (.iconst 0, 1) := by decide +kernel
theorem dX4_turnLocked_1 : decode cX4_turnLocked 1 = .ok (.istore_n 2, 1) := by decide +kernel
theorem dX4_turnLocked_2 : decode cX4_turnLocked 2 = .ok (.iload_n 2, 1) := by decide +kernel
theorem dX4_turnLocked_3 : decode cX4_turnLocked 3 = .ok (.iconst 5, 1) := by decide +kernel
theorem dX4_turnLocked_4 : decode cX4_turnLocked 4 = .ok (.if_icmp .ge 51, 3) := by decide +kernel
theorem dX4_turnLocked_7 : decode cX4_turnLocked 7 = .ok (.aload_n 0, 1) := by decide +kernel
theorem dX4_turnLocked_8 : decode cX4_turnLocked 8 = .ok (.getfield 18, 3) := by decide +kernel
theorem dX4_turnLocked_11 : decode cX4_turnLocked 11 = .ok (.iload_n 2, 1) := by decide +kernel
theorem dX4_turnLocked_12 : decode cX4_turnLocked 12 = .ok (.baload, 1) := by decide +kernel
theorem dX4_turnLocked_13 : decode cX4_turnLocked 13 = .ok (.ifCond .eq 36, 3) := by decide +kernel
theorem dX4_turnLocked_16 : decode cX4_turnLocked 16 = .ok (.aload_n 0, 1) := by decide +kernel
theorem dX4_turnLocked_17 : decode cX4_turnLocked 17 = .ok (.getfield 15, 3) := by decide +kernel
theorem dX4_turnLocked_20 : decode cX4_turnLocked 20 = .ok (.iload_n 2, 1) := by decide +kernel
theorem dX4_turnLocked_21 : decode cX4_turnLocked 21 = .ok (.aload_n 0, 1) := by decide +kernel
theorem dX4_turnLocked_22 : decode cX4_turnLocked 22 = .ok (.getfield 15, 3) := by decide +kernel
theorem dX4_turnLocked_25 : decode cX4_turnLocked 25 = .ok (.iload_n 2, 1) := by decide +kernel
theorem dX4_turnLocked_26 : decode cX4_turnLocked 26 = .ok (.iaload, 1) := by decide +kernel
theorem dX4_turnLocked_27 : decode cX4_turnLocked 27 = .ok (.iload_n 1, 1) := by decide +kernel
theorem dX4_turnLocked_28 : decode cX4_turnLocked 28 = .ok (.iadd, 1) := by decide +kernel
theorem dX4_turnLocked_29 : decode cX4_turnLocked 29 = .ok (.aload_n 0, 1) := by decide +kernel
theorem dX4_turnLocked_30 : decode cX4_turnLocked 30 = .ok (.getfield 9, 3) := by decide +kernel
theorem dX4_turnLocked_33 : decode cX4_turnLocked 33 = .ok (.iload_n 2, 1) := by decide +kernel
theorem dX4_turnLocked_34 : decode cX4_turnLocked 34 = .ok (.iaload, 1) := by decide +kernel
theorem dX4_turnLocked_35 : decode cX4_turnLocked 35 = .ok (.invokestatic 51, 3) := by decide +kernel
theorem dX4_turnLocked_38 : decode cX4_turnLocked 38 = .ok (.iastore, 1) := by decide +kernel
theorem dX4_turnLocked_39 : decode cX4_turnLocked 39 = .ok (.aload_n 0, 1) := by decide +kernel
theorem dX4_turnLocked_40 : decode cX4_turnLocked 40 = .ok (.getfield 22, 3) := by decide +kernel
theorem dX4_turnLocked_43 : decode cX4_turnLocked 43 = .ok (.iload_n 2, 1) := by decide +kernel
theorem dX4_turnLocked_44 : decode cX4_turnLocked 44 = .ok (.dup2, 1) := by decide +kernel
theorem dX4_turnLocked_45 : decode cX4_turnLocked 45 = .ok (.iaload, 1) := by decide +kernel
theorem dX4_turnLocked_46 : decode cX4_turnLocked 46 = .ok (.iload_n 1, 1) := by decide +kernel
theorem dX4_turnLocked_47 : decode cX4_turnLocked 47 = .ok (.iadd, 1) := by decide +kernel
theorem dX4_turnLocked_48 : decode cX4_turnLocked 48 = .ok (.iastore, 1) := by decide +kernel
theorem dX4_turnLocked_49 : decode cX4_turnLocked 49 = .ok (.iinc 2 1, 3) := by decide +kernel
theorem dX4_turnLocked_52 : decode cX4_turnLocked 52 = .ok (.goto (-50), 3) := by decide +kernel
theorem dX4_turnLocked_55 : decode cX4_turnLocked 55 = .ok (.return_, 1) := by decide +kernel
theorem dX4_turnByHand_0 : decode cX4_turnByHand 0 = .ok (.aload_n 0, 1) := by decide +kernel
theorem dX4_turnByHand_1 : decode cX4_turnByHand 1 = .ok (.getfield 15, 3) := by decide +kernel
theorem dX4_turnByHand_4 : decode cX4_turnByHand 4 = .ok (.iload_n 1, 1) := by decide +kernel
theorem dX4_turnByHand_5 : decode cX4_turnByHand 5 = .ok (.aload_n 0, 1) := by decide +kernel
theorem dX4_turnByHand_6 : decode cX4_turnByHand 6 = .ok (.getfield 15, 3) := by decide +kernel
theorem dX4_turnByHand_9 : decode cX4_turnByHand 9 = .ok (.iload_n 1, 1) := by decide +kernel
theorem dX4_turnByHand_10 : decode cX4_turnByHand 10 = .ok (.iaload, 1) := by decide +kernel
theorem dX4_turnByHand_11 : decode cX4_turnByHand 11 = .ok (.iload_n 2, 1) := by decide +kernel
theorem dX4_turnByHand_12 : decode cX4_turnByHand 12 = .ok (.iadd, 1) := by decide +kernel
theorem dX4_turnByHand_13 : decode cX4_turnByHand 13 = .ok (.aload_n 0, 1) := by decide +kernel
theorem dX4_turnByHand_14 : decode cX4_turnByHand 14 = .ok (.getfield 9, 3) := by decide +kernel
theorem dX4_turnByHand_17 : decode cX4_turnByHand 17 = .ok (.iload_n 1, 1) := by decide +kernel
theorem dX4_turnByHand_18 : decode cX4_turnByHand 18 = .ok (.iaload, 1) := by decide +kernel
theorem dX4_turnByHand_19 : decode cX4_turnByHand 19 = .ok (.invokestatic 51, 3) := by decide +kernel
theorem dX4_turnByHand_22 : decode cX4_turnByHand 22 = .ok (.iastore, 1) := by decide +kernel
theorem dX4_turnByHand_23 : decode cX4_turnByHand 23 = .ok (.aload_n 0, 1) := by decide +kernel
theorem dX4_turnByHand_24 : decode cX4_turnByHand 24 = .ok (.getfield 25, 3) := by decide +kernel
theorem dX4_turnByHand_27 : decode cX4_turnByHand 27 = .ok (.iload_n 1, 1) := by decide +kernel
theorem dX4_turnByHand_28 : decode cX4_turnByHand 28 = .ok (.dup2, 1) := by decide +kernel
theorem dX4_turnByHand_29 : decode cX4_turnByHand 29 = .ok (.iaload, 1) := by decide +kernel
theorem dX4_turnByHand_30 : decode cX4_turnByHand 30 = .ok (.iload_n 2, 1) := by decide +kernel
theorem dX4_turnByHand_31 : decode cX4_turnByHand 31 = .ok (.iadd, 1) := by decide +kernel
theorem dX4_turnByHand_32 : decode cX4_turnByHand 32 = .ok (.iastore, 1) := by decide +kernel
theorem dX4_turnByHand_33 : decode cX4_turnByHand 33 = .ok (.return_, 1) := by decide +kernel
theorem dX4_giveTeeth_0 : decode cX4_giveTeeth 0 = .ok (.aload_n 0, 1) := by decide +kernel
theorem dX4_giveTeeth_1 : decode cX4_giveTeeth 1 = .ok (.iload_n 1, 1) := by decide +kernel
theorem dX4_giveTeeth_2 : decode cX4_giveTeeth 2 = .ok (.iconst 0, 1) := by decide +kernel
theorem dX4_giveTeeth_3 : decode cX4_giveTeeth 3 = .ok (.invokevirtual 54, 3) := by decide +kernel
theorem dX4_giveTeeth_6 : decode cX4_giveTeeth 6 = .ok (.istore_n 3, 1) := by decide +kernel
theorem dX4_giveTeeth_7 : decode cX4_giveTeeth 7 = .ok (.iconst 0, 1) := by decide +kernel
theorem dX4_giveTeeth_8 : decode cX4_giveTeeth 8 = .ok (.istore 4, 2) := by decide +kernel
theorem dX4_giveTeeth_10 : decode cX4_giveTeeth 10 = .ok (.iload 4, 2) := by decide +kernel
theorem dX4_giveTeeth_12 : decode cX4_giveTeeth 12 = .ok (.iload_n 2, 1) := by decide +kernel
theorem dX4_giveTeeth_13 : decode cX4_giveTeeth 13 = .ok (.if_icmp .ge 17, 3) := by decide +kernel
theorem dX4_giveTeeth_16 : decode cX4_giveTeeth 16 = .ok (.aload_n 0, 1) := by decide +kernel
theorem dX4_giveTeeth_17 : decode cX4_giveTeeth 17 = .ok (.iload_n 1, 1) := by decide +kernel
theorem dX4_giveTeeth_18 : decode cX4_giveTeeth 18 = .ok (.iload 4, 2) := by decide +kernel
theorem dX4_giveTeeth_20 : decode cX4_giveTeeth 20 = .ok (.iload_n 3, 1) := by decide +kernel
theorem dX4_giveTeeth_21 : decode cX4_giveTeeth 21 = .ok (.invokevirtual 57, 3) := by decide +kernel
theorem dX4_giveTeeth_24 : decode cX4_giveTeeth 24 = .ok (.iinc 4 1, 3) := by decide +kernel
theorem dX4_giveTeeth_27 : decode cX4_giveTeeth 27 = .ok (.goto (-17), 3) := by decide +kernel
theorem dX4_giveTeeth_30 : decode cX4_giveTeeth 30 = .ok (.aload_n 0, 1) := by decide +kernel
theorem dX4_giveTeeth_31 : decode cX4_giveTeeth 31 = .ok (.getfield 9, 3) := by decide +kernel
theorem dX4_giveTeeth_34 : decode cX4_giveTeeth 34 = .ok (.iload_n 1, 1) := by decide +kernel
theorem dX4_giveTeeth_35 : decode cX4_giveTeeth 35 = .ok (.iload_n 2, 1) := by decide +kernel
theorem dX4_giveTeeth_36 : decode cX4_giveTeeth 36 = .ok (.iastore, 1) := by decide +kernel
theorem dX4_giveTeeth_37 : decode cX4_giveTeeth 37 = .ok (.aload_n 0, 1) := by decide +kernel
theorem dX4_giveTeeth_38 : decode cX4_giveTeeth 38 = .ok (.getfield 15, 3) := by decide +kernel
theorem dX4_giveTeeth_41 : decode cX4_giveTeeth 41 = .ok (.iload_n 1, 1) := by decide +kernel
theorem dX4_giveTeeth_42 : decode cX4_giveTeeth 42 = .ok (.iconst 0, 1) := by decide +kernel
theorem dX4_giveTeeth_43 : decode cX4_giveTeeth 43 = .ok (.iastore, 1) := by decide +kernel
theorem dX4_giveTeeth_44 : decode cX4_giveTeeth 44 = .ok (.aload_n 0, 1) := by decide +kernel
theorem dX4_giveTeeth_45 : decode cX4_giveTeeth 45 = .ok (.getfield 22, 3) := by decide +kernel
theorem dX4_giveTeeth_48 : decode cX4_giveTeeth 48 = .ok (.iload_n 1, 1) := by decide +kernel
theorem dX4_giveTeeth_49 : decode cX4_giveTeeth 49 = .ok (.iconst 0, 1) := by decide +kernel
theorem dX4_giveTeeth_50 : decode cX4_giveTeeth 50 = .ok (.iastore, 1) := by decide +kernel
theorem dX4_giveTeeth_51 : decode cX4_giveTeeth 51 = .ok (.aload_n 0, 1) := by decide +kernel
theorem dX4_giveTeeth_52 : decode cX4_giveTeeth 52 = .ok (.getfield 25, 3) := by decide +kernel
theorem dX4_giveTeeth_55 : decode cX4_giveTeeth 55 = .ok (.iload_n 1, 1) := by decide +kernel
theorem dX4_giveTeeth_56 : decode cX4_giveTeeth 56 = .ok (.iconst 0, 1) := by decide +kernel
theorem dX4_giveTeeth_57 : decode cX4_giveTeeth 57 = .ok (.iastore, 1) := by decide +kernel
theorem dX4_giveTeeth_58 : decode cX4_giveTeeth 58 = .ok (.return_, 1) := by decide +kernel
theorem dX4_heightBehind_0 : decode cX4_heightBehind 0 = .ok (.aload_n 0, 1) := by decide +kernel
theorem dX4_heightBehind_1 : decode cX4_heightBehind 1 = .ok (.getfield 18, 3) := by decide +kernel
theorem dX4_heightBehind_4 : decode cX4_heightBehind 4 = .ok (.iload_n 1, 1) := by decide +kernel
theorem dX4_heightBehind_5 : decode cX4_heightBehind 5 = .ok (.baload, 1) := by decide +kernel
theorem dX4_heightBehind_6 : decode cX4_heightBehind 6 = .ok (.ifCond .eq 7, 3) := by decide +kernel
theorem dX4_heightBehind_9 : decode cX4_heightBehind 9 = .ok (.iload_n 2, 1) := by decide +kernel
theorem dX4_heightBehind_10 : decode cX4_heightBehind 10 = .ok (.goto 4, 3) := by decide +kernel
theorem dX4_heightBehind_13 : decode cX4_heightBehind 13 = .ok (.iconst 0, 1) := by decide +kernel
theorem dX4_heightBehind_14 : decode cX4_heightBehind 14 = .ok (.istore_n 3, 1) := by decide +kernel
theorem dX4_heightBehind_15 : decode cX4_heightBehind 15 = .ok (.aload_n 0, 1) := by decide +kernel
theorem dX4_heightBehind_16 : decode cX4_heightBehind 16 = .ok (.iload_n 1, 1) := by decide +kernel
theorem dX4_heightBehind_17 : decode cX4_heightBehind 17 = .ok (.aload_n 0, 1) := by decide +kernel
theorem dX4_heightBehind_18 : decode cX4_heightBehind 18 = .ok (.getfield 15, 3) := by decide +kernel
theorem dX4_heightBehind_21 : decode cX4_heightBehind 21 = .ok (.iload_n 1, 1) := by decide +kernel
theorem dX4_heightBehind_22 : decode cX4_heightBehind 22 = .ok (.iaload, 1) := by decide +kernel
theorem dX4_heightBehind_23 : decode cX4_heightBehind 23 = .ok (.iload_n 3, 1) := by decide +kernel
theorem dX4_heightBehind_24 : decode cX4_heightBehind 24 = .ok (.iadd, 1) := by decide +kernel
theorem dX4_heightBehind_25 : decode cX4_heightBehind 25 = .ok (.aload_n 0, 1) := by decide +kernel
theorem dX4_heightBehind_26 : decode cX4_heightBehind 26 = .ok (.getfield 9, 3) := by decide +kernel
theorem dX4_heightBehind_29 : decode cX4_heightBehind 29 = .ok (.iload_n 1, 1) := by decide +kernel
theorem dX4_heightBehind_30 : decode cX4_heightBehind 30 = .ok (.iaload, 1) := by decide +kernel
theorem dX4_heightBehind_31 : decode cX4_heightBehind 31 = .ok (.invokestatic 51, 3) := by decide +kernel
theorem dX4_heightBehind_34 : decode cX4_heightBehind 34 = .ok (.invokevirtual 61, 3) := by decide +kernel
theorem dX4_heightBehind_37 : decode cX4_heightBehind 37 = .ok (.ireturn, 1) := by decide +kernel
theorem dX4_faultBehind_0 : decode cX4_faultBehind 0 = .ok (.aload_n 0, 1) := by decide +kernel
theorem dX4_faultBehind_1 : decode cX4_faultBehind 1 = .ok (.iconst 0, 1) := by decide +kernel
theorem dX4_faultBehind_2 : decode cX4_faultBehind 2 = .ok (.iload_n 1, 1) := by decide +kernel
theorem dX4_faultBehind_3 : decode cX4_faultBehind 3 = .ok (.invokevirtual 54, 3) := by decide +kernel
theorem dX4_faultBehind_6 : decode cX4_faultBehind 6 = .ok (.aload_n 0, 1) := by decide +kernel
theorem dX4_faultBehind_7 : decode cX4_faultBehind 7 = .ok (.iconst 1, 1) := by decide +kernel
theorem dX4_faultBehind_8 : decode cX4_faultBehind 8 = .ok (.iload_n 1, 1) := by decide +kernel
theorem dX4_faultBehind_9 : decode cX4_faultBehind 9 = .ok (.invokevirtual 54, 3) := by decide +kernel
theorem dX4_faultBehind_12 : decode cX4_faultBehind 12 = .ok (.aload_n 0, 1) := by decide +kernel
theorem dX4_faultBehind_13 : decode cX4_faultBehind 13 = .ok (.iconst 2, 1) := by decide +kernel
theorem dX4_faultBehind_14 : decode cX4_faultBehind 14 = .ok (.iload_n 1, 1) := by decide +kernel
theorem dX4_faultBehind_15 : decode cX4_faultBehind 15 = .ok (.invokevirtual 54, 3) := by decide +kernel
theorem dX4_faultBehind_18 : decode cX4_faultBehind 18 = .ok (.aload_n 0, 1) := by decide +kernel
theorem dX4_faultBehind_19 : decode cX4_faultBehind 19 = .ok (.iconst 3, 1) := by decide +kernel
theorem dX4_faultBehind_20 : decode cX4_faultBehind 20 = .ok (.iload_n 1, 1) := by decide +kernel
theorem dX4_faultBehind_21 : decode cX4_faultBehind 21 = .ok (.invokevirtual 54, 3) := by decide +kernel
theorem dX4_faultBehind_24 : decode cX4_faultBehind 24 = .ok (.aload_n 0, 1) := by decide +kernel
theorem dX4_faultBehind_25 : decode cX4_faultBehind 25 = .ok (.iconst 4, 1) := by decide +kernel
theorem dX4_faultBehind_26 : decode cX4_faultBehind 26 = .ok (.iload_n 1, 1) := by decide +kernel
theorem dX4_faultBehind_27 : decode cX4_faultBehind 27 = .ok (.invokevirtual 54, 3) := by decide +kernel
theorem dX4_faultBehind_30 : decode cX4_faultBehind 30 = .ok (.iload_n 2, 1) := by decide +kernel
theorem dX4_faultBehind_31 : decode cX4_faultBehind 31 = .ok (.invokestatic 64, 3) := by decide +kernel
theorem dX4_faultBehind_34 : decode cX4_faultBehind 34 = .ok (.ireturn, 1) := by decide +kernel
theorem dX4_topByDeeds_0 : decode cX4_topByDeeds 0 = .ok (.aload_n 0, 1) := by decide +kernel
theorem dX4_topByDeeds_1 : decode cX4_topByDeeds 1 = .ok (.getfield 22, 3) := by decide +kernel
theorem dX4_topByDeeds_4 : decode cX4_topByDeeds 4 = .ok (.iload_n 1, 1) := by decide +kernel
theorem dX4_topByDeeds_5 : decode cX4_topByDeeds 5 = .ok (.iaload, 1) := by decide +kernel
theorem dX4_topByDeeds_6 : decode cX4_topByDeeds 6 = .ok (.aload_n 0, 1) := by decide +kernel
theorem dX4_topByDeeds_7 : decode cX4_topByDeeds 7 = .ok (.getfield 25, 3) := by decide +kernel
theorem dX4_topByDeeds_10 : decode cX4_topByDeeds 10 = .ok (.iload_n 1, 1) := by decide +kernel
theorem dX4_topByDeeds_11 : decode cX4_topByDeeds 11 = .ok (.iaload, 1) := by decide +kernel
theorem dX4_topByDeeds_12 : decode cX4_topByDeeds 12 = .ok (.iadd, 1) := by decide +kernel
theorem dX4_topByDeeds_13 : decode cX4_topByDeeds 13 = .ok (.aload_n 0, 1) := by decide +kernel
theorem dX4_topByDeeds_14 : decode cX4_topByDeeds 14 = .ok (.getfield 9, 3) := by decide +kernel
theorem dX4_topByDeeds_17 : decode cX4_topByDeeds 17 = .ok (.iload_n 1, 1) := by decide +kernel
theorem dX4_topByDeeds_18 : decode cX4_topByDeeds 18 = .ok (.iaload, 1) := by decide +kernel
theorem dX4_topByDeeds_19 : decode cX4_topByDeeds 19 = .ok (.invokestatic 51, 3) := by decide +kernel
theorem dX4_topByDeeds_22 : decode cX4_topByDeeds 22 = .ok (.ireturn, 1) := by decide +kernel
theorem dX4_hasTopsOf_0 : decode cX4_hasTopsOf 0 = .ok (.iconst 0, 1) := by decide +kernel
theorem dX4_hasTopsOf_1 : decode cX4_hasTopsOf 1 = .ok (.istore_n 2, 1) := by decide +kernel
theorem dX4_hasTopsOf_2 : decode cX4_hasTopsOf 2 = .ok (.iload_n 2, 1) := by decide +kernel
theorem dX4_hasTopsOf_3 : decode cX4_hasTopsOf 3 = .ok (.iconst 5, 1) := by decide +kernel
theorem dX4_hasTopsOf_4 : decode cX4_hasTopsOf 4 = .ok (.if_icmp .ge 26, 3) := by decide +kernel
theorem dX4_hasTopsOf_7 : decode cX4_hasTopsOf 7 = .ok (.aload_n 0, 1) := by decide +kernel
theorem dX4_hasTopsOf_8 : decode cX4_hasTopsOf 8 = .ok (.getfield 15, 3) := by decide +kernel
theorem dX4_hasTopsOf_11 : decode cX4_hasTopsOf 11 = .ok (.iload_n 2, 1) := by decide +kernel
theorem dX4_hasTopsOf_12 : decode cX4_hasTopsOf 12 = .ok (.iaload, 1) := by decide +kernel
theorem dX4_hasTopsOf_13 : decode cX4_hasTopsOf 13 = .ok (.aload_n 1, 1) := by decide +kernel
theorem dX4_hasTopsOf_14 : decode cX4_hasTopsOf 14 = .ok (.getfield 15, 3) := by decide +kernel
theorem dX4_hasTopsOf_17 : decode cX4_hasTopsOf 17 = .ok (.iload_n 2, 1) := by decide +kernel
theorem dX4_hasTopsOf_18 : decode cX4_hasTopsOf 18 = .ok (.iaload, 1) := by decide +kernel
theorem dX4_hasTopsOf_19 : decode cX4_hasTopsOf 19 = .ok (.if_icmp .eq 5, 3) := by decide +kernel
theorem dX4_hasTopsOf_22 : decode cX4_hasTopsOf 22 = .ok (.iconst 0, 1) := by decide +kernel
theorem dX4_hasTopsOf_23 : decode cX4_hasTopsOf 23 = .ok (.ireturn, 1) := by decide +kernel
theorem dX4_hasTopsOf_24 : decode cX4_hasTopsOf 24 = .ok (.iinc 2 1, 3) := by decide +kernel
theorem dX4_hasTopsOf_27 : decode cX4_hasTopsOf 27 = .ok (.goto (-25), 3) := by decide +kernel
theorem dX4_hasTopsOf_30 : decode cX4_hasTopsOf 30 = .ok (.iconst 1, 1) := by decide +kernel
theorem dX4_hasTopsOf_31 : decode cX4_hasTopsOf 31 = .ok (.ireturn, 1) := by decide +kernel
theorem dX4_roundByTeeth_0 : decode cX4_roundByTeeth 0 = .ok (.iconst 1, 1) := by decide +kernel
theorem dX4_roundByTeeth_1 : decode cX4_roundByTeeth 1 = .ok (.istore_n 1, 1) := by decide +kernel
theorem dX4_roundByTeeth_2 : decode cX4_roundByTeeth 2 = .ok (.iconst 0, 1) := by decide +kernel
theorem dX4_roundByTeeth_3 : decode cX4_roundByTeeth 3 = .ok (.istore_n 2, 1) := by decide +kernel
theorem dX4_roundByTeeth_4 : decode cX4_roundByTeeth 4 = .ok (.iload_n 2, 1) := by decide +kernel
theorem dX4_roundByTeeth_5 : decode cX4_roundByTeeth 5 = .ok (.iconst 5, 1) := by decide +kernel
theorem dX4_roundByTeeth_6 : decode cX4_roundByTeeth 6 = .ok (.if_icmp .ge 29, 3) := by decide +kernel
theorem dX4_roundByTeeth_9 : decode cX4_roundByTeeth 9 = .ok (.aload_n 0, 1) := by decide +kernel
theorem dX4_roundByTeeth_10 : decode cX4_roundByTeeth 10 = .ok (.getfield 18, 3) := by decide +kernel
theorem dX4_roundByTeeth_13 : decode cX4_roundByTeeth 13 = .ok (.iload_n 2, 1) := by decide +kernel
theorem dX4_roundByTeeth_14 : decode cX4_roundByTeeth 14 = .ok (.baload, 1) := by decide +kernel
theorem dX4_roundByTeeth_15 : decode cX4_roundByTeeth 15 = .ok (.ifCond .eq 14, 3) := by decide +kernel
theorem dX4_roundByTeeth_18 : decode cX4_roundByTeeth 18 = .ok (.iload_n 1, 1) := by decide +kernel
theorem dX4_roundByTeeth_19 : decode cX4_roundByTeeth 19 = .ok (.aload_n 0, 1) := by decide +kernel
theorem dX4_roundByTeeth_20 : decode cX4_roundByTeeth 20 = .ok (.getfield 9, 3) := by decide +kernel
theorem dX4_roundByTeeth_23 : decode cX4_roundByTeeth 23 = .ok (.iload_n 2, 1) := by decide +kernel
theorem dX4_roundByTeeth_24 : decode cX4_roundByTeeth 24 = .ok (.iaload, 1) := by decide +kernel
theorem dX4_roundByTeeth_25 : decode cX4_roundByTeeth 25 = .ok (.invokestatic 68, 3) := by decide +kernel
theorem dX4_roundByTeeth_28 : decode cX4_roundByTeeth 28 = .ok (.istore_n 1, 1) := by decide +kernel
theorem dX4_roundByTeeth_29 : decode cX4_roundByTeeth 29 = .ok (.iinc 2 1, 3) := by decide +kernel
theorem dX4_roundByTeeth_32 : decode cX4_roundByTeeth 32 = .ok (.goto (-28), 3) := by decide +kernel
theorem dX4_roundByTeeth_35 : decode cX4_roundByTeeth 35 = .ok (.iload_n 1, 1) := by decide +kernel
theorem dX4_roundByTeeth_36 : decode cX4_roundByTeeth 36 = .ok (.ireturn, 1) := by decide +kernel
theorem dX4_leastMultiple_0 : decode cX4_leastMultiple 0 = .ok (.iconst 1, 1) := by decide +kernel
theorem dX4_leastMultiple_1 : decode cX4_leastMultiple 1 = .ok (.istore_n 2, 1) := by decide +kernel
theorem dX4_leastMultiple_2 : decode cX4_leastMultiple 2 = .ok (.iload_n 2, 1) := by decide +kernel
theorem dX4_leastMultiple_3 : decode cX4_leastMultiple 3 = .ok (.iload_n 1, 1) := by decide +kernel
theorem dX4_leastMultiple_4 : decode cX4_leastMultiple 4 = .ok (.if_icmp .ge 23, 3) := by decide +kernel
theorem dX4_leastMultiple_7 : decode cX4_leastMultiple 7 = .ok (.iload_n 0, 1) := by decide +kernel
theorem dX4_leastMultiple_8 : decode cX4_leastMultiple 8 = .ok (.iload_n 2, 1) := by decide +kernel
theorem dX4_leastMultiple_9 : decode cX4_leastMultiple 9 = .ok (.imul, 1) := by decide +kernel
theorem dX4_leastMultiple_10 : decode cX4_leastMultiple 10 = .ok (.iload_n 1, 1) := by decide +kernel
theorem dX4_leastMultiple_11 : decode cX4_leastMultiple 11 = .ok (.invokestatic 51, 3) := by decide +kernel
theorem dX4_leastMultiple_14 : decode cX4_leastMultiple 14 = .ok (.ifCond .ne 7, 3) := by decide +kernel
theorem dX4_leastMultiple_17 : decode cX4_leastMultiple 17 = .ok (.iload_n 0, 1) := by decide +kernel
theorem dX4_leastMultiple_18 : decode cX4_leastMultiple 18 = .ok (.iload_n 2, 1) := by decide +kernel
theorem dX4_leastMultiple_19 : decode cX4_leastMultiple 19 = .ok (.imul, 1) := by decide +kernel
theorem dX4_leastMultiple_20 : decode cX4_leastMultiple 20 = .ok (.ireturn, 1) := by decide +kernel
theorem dX4_leastMultiple_21 : decode cX4_leastMultiple 21 = .ok (.iinc 2 1, 3) := by decide +kernel
theorem dX4_leastMultiple_24 : decode cX4_leastMultiple 24 = .ok (.goto (-22), 3) := by decide +kernel
theorem dX4_leastMultiple_27 : decode cX4_leastMultiple 27 = .ok (.iload_n 0, 1) := by decide +kernel
theorem dX4_leastMultiple_28 : decode cX4_leastMultiple 28 = .ok (.iload_n 1, 1) := by decide +kernel
theorem dX4_leastMultiple_29 : decode cX4_leastMultiple 29 = .ok (.imul, 1) := by decide +kernel
theorem dX4_leastMultiple_30 : decode cX4_leastMultiple 30 = .ok (.ireturn, 1) := by decide +kernel
theorem dX4_countLocked_0 : decode cX4_countLocked 0 = .ok (.iconst 0, 1) := by decide +kernel
theorem dX4_countLocked_1 : decode cX4_countLocked 1 = .ok (.istore_n 1, 1) := by decide +kernel
theorem dX4_countLocked_2 : decode cX4_countLocked 2 = .ok (.iconst 0, 1) := by decide +kernel
theorem dX4_countLocked_3 : decode cX4_countLocked 3 = .ok (.istore_n 2, 1) := by decide +kernel
theorem dX4_countLocked_4 : decode cX4_countLocked 4 = .ok (.iload_n 2, 1) := by decide +kernel
theorem dX4_countLocked_5 : decode cX4_countLocked 5 = .ok (.iconst 5, 1) := by decide +kernel
theorem dX4_countLocked_6 : decode cX4_countLocked 6 = .ok (.if_icmp .ge 21, 3) := by decide +kernel
theorem dX4_countLocked_9 : decode cX4_countLocked 9 = .ok (.iload_n 1, 1) := by decide +kernel
theorem dX4_countLocked_10 : decode cX4_countLocked 10 = .ok (.aload_n 0, 1) := by decide +kernel
theorem dX4_countLocked_11 : decode cX4_countLocked 11 = .ok (.getfield 18, 3) := by decide +kernel
theorem dX4_countLocked_14 : decode cX4_countLocked 14 = .ok (.iload_n 2, 1) := by decide +kernel
theorem dX4_countLocked_15 : decode cX4_countLocked 15 = .ok (.baload, 1) := by decide +kernel
theorem dX4_countLocked_16 : decode cX4_countLocked 16 = .ok (.invokestatic 71, 3) := by decide +kernel
theorem dX4_countLocked_19 : decode cX4_countLocked 19 = .ok (.iadd, 1) := by decide +kernel
theorem dX4_countLocked_20 : decode cX4_countLocked 20 = .ok (.istore_n 1, 1) := by decide +kernel
theorem dX4_countLocked_21 : decode cX4_countLocked 21 = .ok (.iinc 2 1, 3) := by decide +kernel
theorem dX4_countLocked_24 : decode cX4_countLocked 24 = .ok (.goto (-20), 3) := by decide +kernel
theorem dX4_countLocked_27 : decode cX4_countLocked 27 = .ok (.iload_n 1, 1) := by decide +kernel
theorem dX4_countLocked_28 : decode cX4_countLocked 28 = .ok (.ireturn, 1) := by decide +kernel
theorem dX4_countOut_0 : decode cX4_countOut 0 = .ok (.iconst 0, 1) := by decide +kernel
theorem dX4_countOut_1 : decode cX4_countOut 1 = .ok (.istore_n 1, 1) := by decide +kernel
theorem dX4_countOut_2 : decode cX4_countOut 2 = .ok (.iconst 0, 1) := by decide +kernel
theorem dX4_countOut_3 : decode cX4_countOut 3 = .ok (.istore_n 2, 1) := by decide +kernel
theorem dX4_countOut_4 : decode cX4_countOut 4 = .ok (.iload_n 2, 1) := by decide +kernel
theorem dX4_countOut_5 : decode cX4_countOut 5 = .ok (.iconst 5, 1) := by decide +kernel
theorem dX4_countOut_6 : decode cX4_countOut 6 = .ok (.if_icmp .ge 30, 3) := by decide +kernel
theorem dX4_countOut_9 : decode cX4_countOut 9 = .ok (.iload_n 1, 1) := by decide +kernel
theorem dX4_countOut_10 : decode cX4_countOut 10 = .ok (.aload_n 0, 1) := by decide +kernel
theorem dX4_countOut_11 : decode cX4_countOut 11 = .ok (.iload_n 2, 1) := by decide +kernel
theorem dX4_countOut_12 : decode cX4_countOut 12 = .ok (.iconst 0, 1) := by decide +kernel
theorem dX4_countOut_13 : decode cX4_countOut 13 = .ok (.invokevirtual 54, 3) := by decide +kernel
theorem dX4_countOut_16 : decode cX4_countOut 16 = .ok (.iconst 5, 1) := by decide +kernel
theorem dX4_countOut_17 : decode cX4_countOut 17 = .ok (.if_icmp .lt 7, 3) := by decide +kernel
theorem dX4_countOut_20 : decode cX4_countOut 20 = .ok (.iconst 1, 1) := by decide +kernel
theorem dX4_countOut_21 : decode cX4_countOut 21 = .ok (.goto 4, 3) := by decide +kernel
theorem dX4_countOut_24 : decode cX4_countOut 24 = .ok (.iconst 0, 1) := by decide +kernel
theorem dX4_countOut_25 : decode cX4_countOut 25 = .ok (.invokestatic 71, 3) := by decide +kernel
theorem dX4_countOut_28 : decode cX4_countOut 28 = .ok (.iadd, 1) := by decide +kernel
theorem dX4_countOut_29 : decode cX4_countOut 29 = .ok (.istore_n 1, 1) := by decide +kernel
theorem dX4_countOut_30 : decode cX4_countOut 30 = .ok (.iinc 2 1, 3) := by decide +kernel
theorem dX4_countOut_33 : decode cX4_countOut 33 = .ok (.goto (-29), 3) := by decide +kernel
theorem dX4_countOut_36 : decode cX4_countOut 36 = .ok (.iload_n 1, 1) := by decide +kernel
theorem dX4_countOut_37 : decode cX4_countOut 37 = .ok (.ireturn, 1) := by decide +kernel
theorem dX4_countHighTeeth_0 : decode cX4_countHighTeeth 0 = .ok (.iconst 0, 1) := by decide +kernel
theorem dX4_countHighTeeth_1 : decode cX4_countHighTeeth 1 = .ok (.istore_n 2, 1) := by decide +kernel
theorem dX4_countHighTeeth_2 : decode cX4_countHighTeeth 2 = .ok (.iconst 0, 1) := by decide +kernel
theorem dX4_countHighTeeth_3 : decode cX4_countHighTeeth 3 = .ok (.istore_n 3, 1) := by decide +kernel
theorem dX4_countHighTeeth_4 : decode cX4_countHighTeeth 4 = .ok (.iload_n 3, 1) := by decide +kernel
theorem dX4_countHighTeeth_5 : decode cX4_countHighTeeth 5 = .ok (.aload_n 0, 1) := by decide +kernel
theorem dX4_countHighTeeth_6 : decode cX4_countHighTeeth 6 = .ok (.getfield 9, 3) := by decide +kernel
theorem dX4_countHighTeeth_9 : decode cX4_countHighTeeth 9 = .ok (.iload_n 1, 1) := by decide +kernel
theorem dX4_countHighTeeth_10 : decode cX4_countHighTeeth 10 = .ok (.iaload, 1) := by decide +kernel
theorem dX4_countHighTeeth_11 : decode cX4_countHighTeeth 11 = .ok (.if_icmp .ge 30, 3) := by decide +kernel
theorem dX4_countHighTeeth_14 : decode cX4_countHighTeeth 14 = .ok (.iload_n 2, 1) := by decide +kernel
theorem dX4_countHighTeeth_15 : decode cX4_countHighTeeth 15 = .ok (.aload_n 0, 1) := by decide +kernel
theorem dX4_countHighTeeth_16 : decode cX4_countHighTeeth 16 = .ok (.iload_n 1, 1) := by decide +kernel
theorem dX4_countHighTeeth_17 : decode cX4_countHighTeeth 17 = .ok (.iload_n 3, 1) := by decide +kernel
theorem dX4_countHighTeeth_18 : decode cX4_countHighTeeth 18 = .ok (.invokevirtual 61, 3) := by decide +kernel
theorem dX4_countHighTeeth_21 : decode cX4_countHighTeeth 21 = .ok (.iconst 5, 1) := by decide +kernel
theorem dX4_countHighTeeth_22 : decode cX4_countHighTeeth 22 = .ok (.if_icmp .lt 7, 3) := by decide +kernel
theorem dX4_countHighTeeth_25 : decode cX4_countHighTeeth 25 = .ok (.iconst 1, 1) := by decide +kernel
theorem dX4_countHighTeeth_26 : decode cX4_countHighTeeth 26 = .ok (.goto 4, 3) := by decide +kernel
theorem dX4_countHighTeeth_29 : decode cX4_countHighTeeth 29 = .ok (.iconst 0, 1) := by decide +kernel
theorem dX4_countHighTeeth_30 : decode cX4_countHighTeeth 30 = .ok (.invokestatic 71, 3) := by decide +kernel
theorem dX4_countHighTeeth_33 : decode cX4_countHighTeeth 33 = .ok (.iadd, 1) := by decide +kernel
theorem dX4_countHighTeeth_34 : decode cX4_countHighTeeth 34 = .ok (.istore_n 2, 1) := by decide +kernel
theorem dX4_countHighTeeth_35 : decode cX4_countHighTeeth 35 = .ok (.iinc 3 1, 3) := by decide +kernel
theorem dX4_countHighTeeth_38 : decode cX4_countHighTeeth 38 = .ok (.goto (-34), 3) := by decide +kernel
theorem dX4_countHighTeeth_41 : decode cX4_countHighTeeth 41 = .ok (.iload_n 2, 1) := by decide +kernel
theorem dX4_countHighTeeth_42 : decode cX4_countHighTeeth 42 = .ok (.ireturn, 1) := by decide +kernel
theorem dX5_init_0 : decode cX5_init 0 = .ok (.aload_n 0, 1) := by decide +kernel
theorem dX5_init_1 : decode cX5_init 1 = .ok (.invokespecial 1, 3) := by decide +kernel
theorem dX5_init_4 : decode cX5_init 4 = .ok (.aload_n 0, 1) := by decide +kernel
theorem dX5_init_5 : decode cX5_init 5 = .ok (.new 7, 3) := by decide +kernel
theorem dX5_init_8 : decode cX5_init 8 = .ok (.dup, 1) := by decide +kernel
theorem dX5_init_9 : decode cX5_init 9 = .ok (.invokespecial 9, 3) := by decide +kernel
theorem dX5_init_12 : decode cX5_init 12 = .ok (.putfield 10, 3) := by decide +kernel
theorem dX5_init_15 : decode cX5_init 15 = .ok (.aload_n 0, 1) := by decide +kernel
theorem dX5_init_16 : decode cX5_init 16 = .ok (.new 7, 3) := by decide +kernel
theorem dX5_init_19 : decode cX5_init 19 = .ok (.dup, 1) := by decide +kernel
theorem dX5_init_20 : decode cX5_init 20 = .ok (.invokespecial 9, 3) := by decide +kernel
theorem dX5_init_23 : decode cX5_init 23 = .ok (.putfield 16, 3) := by decide +kernel
theorem dX5_init_26 : decode cX5_init 26 = .ok (.aload_n 0, 1) := by decide +kernel
theorem dX5_init_27 : decode cX5_init 27 = .ok (.iconst 0, 1) := by decide +kernel
theorem dX5_init_28 : decode cX5_init 28 = .ok (.putfield 19, 3) := by decide +kernel
theorem dX5_init_31 : decode cX5_init 31 = .ok (.aload_n 0, 1) := by decide +kernel
theorem dX5_init_32 : decode cX5_init 32 = .ok (.new 23, 3) := by decide +kernel
theorem dX5_init_35 : decode cX5_init 35 = .ok (.dup, 1) := by decide +kernel
theorem dX5_init_36 : decode cX5_init 36 = .ok (.invokespecial 25, 3) := by decide +kernel
theorem dX5_init_39 : decode cX5_init 39 = .ok (.putfield 26, 3) := by decide +kernel
theorem dX5_init_42 : decode cX5_init 42 = .ok (.aload_n 0, 1) := by decide +kernel
theorem dX5_init_43 : decode cX5_init 43 = .ok (.new 30, 3) := by decide +kernel
theorem dX5_init_46 : decode cX5_init 46 = .ok (.dup, 1) := by decide +kernel
theorem dX5_init_47 : decode cX5_init 47 = .ok (.invokespecial 32, 3) := by decide +kernel
theorem dX5_init_50 : decode cX5_init 50 = .ok (.putfield 33, 3) := by decide +kernel
theorem dX5_init_53 : decode cX5_init 53 = .ok (.aload_n 0, 1) := by decide +kernel
theorem dX5_init_54 : decode cX5_init 54 = .ok (.new 37, 3) := by decide +kernel
theorem dX5_init_57 : decode cX5_init 57 = .ok (.dup, 1) := by decide +kernel
theorem dX5_init_58 : decode cX5_init 58 = .ok (.invokespecial 39, 3) := by decide +kernel
theorem dX5_init_61 : decode cX5_init 61 = .ok (.putfield 40, 3) := by decide +kernel
theorem dX5_init_64 : decode cX5_init 64 = .ok (.aload_n 0, 1) := by decide +kernel
theorem dX5_init_65 : decode cX5_init 65 = .ok (.new 44, 3) := by decide +kernel
theorem dX5_init_68 : decode cX5_init 68 = .ok (.dup, 1) := by decide +kernel
theorem dX5_init_69 : decode cX5_init 69 = .ok (.invokespecial 46, 3) := by decide +kernel
theorem dX5_init_72 : decode cX5_init 72 = .ok (.putfield 47, 3) := by decide +kernel
theorem dX5_init_75 : decode cX5_init 75 = .ok (.return_, 1) := by decide +kernel
theorem dX5_turn_0 : decode cX5_turn 0 = .ok (.iload_n 1, 1) := by decide +kernel
theorem dX5_turn_1 : decode cX5_turn 1 = .ok (.ifCond .eq 15, 3) := by decide +kernel
theorem dX5_turn_4 : decode cX5_turn 4 = .ok (.iload_n 1, 1) := by decide +kernel
theorem dX5_turn_5 : decode cX5_turn 5 = .ok (.bipush (-60), 2) := by decide +kernel
theorem dX5_turn_7 : decode cX5_turn 7 = .ok (.if_icmp .lt 9, 3) := by decide +kernel
theorem dX5_turn_10 : decode cX5_turn 10 = .ok (.iload_n 1, 1) := by decide +kernel
theorem dX5_turn_11 : decode cX5_turn 11 = .ok (.bipush 60, 2) := by decide +kernel
theorem dX5_turn_13 : decode cX5_turn 13 = .ok (.if_icmp .le 13, 3) := by decide +kernel
theorem dX5_turn_16 : decode cX5_turn 16 = .ok (.new 51, 3) := by decide +kernel
theorem dX5_turn_19 : decode cX5_turn 19 = .ok (.dup, 1) := by decide +kernel
theorem dX5_turn_20 : decode cX5_turn 20 = .ok (.ldc 53, 2) := by decide +kernel
theorem dX5_turn_22 : decode cX5_turn 22 = .ok (.invokespecial 55, 3) := by decide +kernel
theorem dX5_turn_25 : decode cX5_turn 25 = .ok (.athrow, 1) := by decide +kernel
theorem dX5_turn_26 : decode cX5_turn 26 = .ok (.aload_n 0, 1) := by decide +kernel
theorem dX5_turn_27 : decode cX5_turn 27 = .ok (.getfield 26, 3) := by decide +kernel
theorem dX5_turn_30 : decode cX5_turn 30 = .ok (.aload_n 0, 1) := by decide +kernel
theorem dX5_turn_31 : decode cX5_turn 31 = .ok (.getfield 10, 3) := by decide +kernel
theorem dX5_turn_34 : decode cX5_turn 34 = .ok (.invokevirtual 58, 3) := by decide +kernel
theorem dX5_turn_37 : decode cX5_turn 37 = .ok (.iload_n 1, 1) := by decide +kernel
theorem dX5_turn_38 : decode cX5_turn 38 = .ok (.ifCond .le 7, 3) := by decide +kernel
theorem dX5_turn_41 : decode cX5_turn 41 = .ok (.iconst 1, 1) := by decide +kernel
theorem dX5_turn_42 : decode cX5_turn 42 = .ok (.goto 4, 3) := by decide +kernel
theorem dX5_turn_45 : decode cX5_turn 45 = .ok (.iconst (-1), 1) := by decide +kernel
theorem dX5_turn_46 : decode cX5_turn 46 = .ok (.istore_n 2, 1) := by decide +kernel
theorem dX5_turn_47 : decode cX5_turn 47 = .ok (.iload_n 1, 1) := by decide +kernel
theorem dX5_turn_48 : decode cX5_turn 48 = .ok (.ifCond .le 7, 3) := by decide +kernel
theorem dX5_turn_51 : decode cX5_turn 51 = .ok (.iload_n 1, 1) := by decide +kernel
theorem dX5_turn_52 : decode cX5_turn 52 = .ok (.goto 5, 3) := by decide +kernel
theorem dX5_turn_55 : decode cX5_turn 55 = .ok (.iload_n 1, 1) := by decide +kernel
theorem dX5_turn_56 : decode cX5_turn 56 = .ok (.ineg, 1) := by decide +kernel
theorem dX5_turn_57 : decode cX5_turn 57 = .ok (.istore_n 3, 1) := by decide +kernel
theorem dX5_turn_58 : decode cX5_turn 58 = .ok (.iconst 0, 1) := by decide +kernel
theorem dX5_turn_59 : decode cX5_turn 59 = .ok (.istore 4, 2) := by decide +kernel
theorem dX5_turn_61 : decode cX5_turn 61 = .ok (.iload 4, 2) := by decide +kernel
theorem dX5_turn_63 : decode cX5_turn 63 = .ok (.iload_n 3, 1) := by decide +kernel
theorem dX5_turn_64 : decode cX5_turn 64 = .ok (.if_icmp .ge 38, 3) := by decide +kernel
theorem dX5_turn_67 : decode cX5_turn 67 = .ok (.aload_n 0, 1) := by decide +kernel
theorem dX5_turn_68 : decode cX5_turn 68 = .ok (.getfield 10, 3) := by decide +kernel
theorem dX5_turn_71 : decode cX5_turn 71 = .ok (.aload_n 0, 1) := by decide +kernel
theorem dX5_turn_72 : decode cX5_turn 72 = .ok (.getfield 10, 3) := by decide +kernel
theorem dX5_turn_75 : decode cX5_turn 75 = .ok (.getfield 62, 3) := by decide +kernel
theorem dX5_turn_78 : decode cX5_turn 78 = .ok (.iload_n 2, 1) := by decide +kernel
theorem dX5_turn_79 : decode cX5_turn 79 = .ok (.invokevirtual 65, 3) := by decide +kernel
theorem dX5_turn_82 : decode cX5_turn 82 = .ok (.ifCond .eq 6, 3) := by decide +kernel
theorem dX5_turn_85 : decode cX5_turn 85 = .ok (.iload 4, 2) := by decide +kernel
theorem dX5_turn_87 : decode cX5_turn 87 = .ok (.ireturn, 1) := by decide +kernel
theorem dX5_turn_88 : decode cX5_turn 88 = .ok (.aload_n 0, 1) := by decide +kernel
theorem dX5_turn_89 : decode cX5_turn 89 = .ok (.getfield 10, 3) := by decide +kernel
theorem dX5_turn_92 : decode cX5_turn 92 = .ok (.iload_n 2, 1) := by decide +kernel
theorem dX5_turn_93 : decode cX5_turn 93 = .ok (.invokevirtual 69, 3) := by decide +kernel
theorem dX5_turn_96 : decode cX5_turn 96 = .ok (.iinc 4 1, 3) := by decide +kernel
theorem dX5_turn_99 : decode cX5_turn 99 = .ok (.goto (-38), 3) := by decide +kernel
theorem dX5_turn_102 : decode cX5_turn 102 = .ok (.iload_n 3, 1) := by decide +kernel
theorem dX5_turn_103 : decode cX5_turn 103 = .ok (.ireturn, 1) := by decide +kernel
theorem dX5_lift_0 : decode cX5_lift 0 = .ok (.aload_n 0, 1) := by decide +kernel
theorem dX5_lift_1 : decode cX5_lift 1 = .ok (.getfield 26, 3) := by decide +kernel
theorem dX5_lift_4 : decode cX5_lift 4 = .ok (.aload_n 0, 1) := by decide +kernel
theorem dX5_lift_5 : decode cX5_lift 5 = .ok (.getfield 10, 3) := by decide +kernel
theorem dX5_lift_8 : decode cX5_lift 8 = .ok (.invokevirtual 58, 3) := by decide +kernel
theorem dX5_lift_11 : decode cX5_lift 11 = .ok (.aload_n 0, 1) := by decide +kernel
theorem dX5_lift_12 : decode cX5_lift 12 = .ok (.getfield 10, 3) := by decide +kernel
theorem dX5_lift_15 : decode cX5_lift 15 = .ok (.invokevirtual 73, 3) := by decide +kernel
theorem dX5_lift_18 : decode cX5_lift 18 = .ok (.invokestatic 77, 3) := by decide +kernel
theorem dX5_lift_21 : decode cX5_lift 21 = .ok (.istore_n 1, 1) := by decide +kernel
theorem dX5_lift_22 : decode cX5_lift 22 = .ok (.aload_n 0, 1) := by decide +kernel
theorem dX5_lift_23 : decode cX5_lift 23 = .ok (.getfield 10, 3) := by decide +kernel
theorem dX5_lift_26 : decode cX5_lift 26 = .ok (.iconst 1, 1) := by decide +kernel
theorem dX5_lift_27 : decode cX5_lift 27 = .ok (.putfield 81, 3) := by decide +kernel
theorem dX5_lift_30 : decode cX5_lift 30 = .ok (.iload_n 1, 1) := by decide +kernel
theorem dX5_lift_31 : decode cX5_lift 31 = .ok (.ireturn, 1) := by decide +kernel
theorem dX5_stop_0 : decode cX5_stop 0 = .ok (.iload_n 1, 1) := by decide +kernel
theorem dX5_stop_1 : decode cX5_stop 1 = .ok (.ifCond .lt 9, 3) := by decide +kernel
theorem dX5_stop_4 : decode cX5_stop 4 = .ok (.iload_n 1, 1) := by decide +kernel
theorem dX5_stop_5 : decode cX5_stop 5 = .ok (.bipush 60, 2) := by decide +kernel
theorem dX5_stop_7 : decode cX5_stop 7 = .ok (.if_icmp .lt 13, 3) := by decide +kernel
theorem dX5_stop_10 : decode cX5_stop 10 = .ok (.new 84, 3) := by decide +kernel
theorem dX5_stop_13 : decode cX5_stop 13 = .ok (.dup, 1) := by decide +kernel
theorem dX5_stop_14 : decode cX5_stop 14 = .ok (.ldc 86, 2) := by decide +kernel
theorem dX5_stop_16 : decode cX5_stop 16 = .ok (.invokespecial 88, 3) := by decide +kernel
theorem dX5_stop_19 : decode cX5_stop 19 = .ok (.athrow, 1) := by decide +kernel
theorem dX5_stop_20 : decode cX5_stop 20 = .ok (.aload_n 0, 1) := by decide +kernel
theorem dX5_stop_21 : decode cX5_stop 21 = .ok (.getfield 26, 3) := by decide +kernel
theorem dX5_stop_24 : decode cX5_stop 24 = .ok (.aload_n 0, 1) := by decide +kernel
theorem dX5_stop_25 : decode cX5_stop 25 = .ok (.getfield 10, 3) := by decide +kernel
theorem dX5_stop_28 : decode cX5_stop 28 = .ok (.invokevirtual 58, 3) := by decide +kernel
theorem dX5_stop_31 : decode cX5_stop 31 = .ok (.aload_n 0, 1) := by decide +kernel
theorem dX5_stop_32 : decode cX5_stop 32 = .ok (.getfield 10, 3) := by decide +kernel
theorem dX5_stop_35 : decode cX5_stop 35 = .ok (.getfield 89, 3) := by decide +kernel
theorem dX5_stop_38 : decode cX5_stop 38 = .ok (.iload_n 1, 1) := by decide +kernel
theorem dX5_stop_39 : decode cX5_stop 39 = .ok (.aload_n 0, 1) := by decide +kernel
theorem dX5_stop_40 : decode cX5_stop 40 = .ok (.getfield 10, 3) := by decide +kernel
theorem dX5_stop_43 : decode cX5_stop 43 = .ok (.getfield 89, 3) := by decide +kernel
theorem dX5_stop_46 : decode cX5_stop 46 = .ok (.iload_n 1, 1) := by decide +kernel
theorem dX5_stop_47 : decode cX5_stop 47 = .ok (.baload, 1) := by decide +kernel
theorem dX5_stop_48 : decode cX5_stop 48 = .ok (.ifCond .ne 7, 3) := by decide +kernel
theorem dX5_stop_51 : decode cX5_stop 51 = .ok (.iconst 1, 1) := by decide +kernel
theorem dX5_stop_52 : decode cX5_stop 52 = .ok (.goto 4, 3) := by decide +kernel
theorem dX5_stop_55 : decode cX5_stop 55 = .ok (.iconst 0, 1) := by decide +kernel
theorem dX5_stop_56 : decode cX5_stop 56 = .ok (.bastore, 1) := by decide +kernel
theorem dX5_stop_57 : decode cX5_stop 57 = .ok (.aload_n 0, 1) := by decide +kernel
theorem dX5_stop_58 : decode cX5_stop 58 = .ok (.getfield 10, 3) := by decide +kernel
theorem dX5_stop_61 : decode cX5_stop 61 = .ok (.invokevirtual 93, 3) := by decide +kernel
theorem dX5_stop_64 : decode cX5_stop 64 = .ok (.ireturn, 1) := by decide +kernel
theorem dX5_clutch_0 : decode cX5_clutch 0 = .ok (.iload_n 1, 1) := by decide +kernel
theorem dX5_clutch_1 : decode cX5_clutch 1 = .ok (.invokestatic 97, 3) := by decide +kernel
theorem dX5_clutch_4 : decode cX5_clutch 4 = .ok (.ifCond .ne 13, 3) := by decide +kernel
theorem dX5_clutch_7 : decode cX5_clutch 7 = .ok (.new 84, 3) := by decide +kernel
theorem dX5_clutch_10 : decode cX5_clutch 10 = .ok (.dup, 1) := by decide +kernel
theorem dX5_clutch_11 : decode cX5_clutch 11 = .ok (.ldc 101, 2) := by decide +kernel
theorem dX5_clutch_13 : decode cX5_clutch 13 = .ok (.invokespecial 88, 3) := by decide +kernel
theorem dX5_clutch_16 : decode cX5_clutch 16 = .ok (.athrow, 1) := by decide +kernel
theorem dX5_clutch_17 : decode cX5_clutch 17 = .ok (.aload_n 0, 1) := by decide +kernel
theorem dX5_clutch_18 : decode cX5_clutch 18 = .ok (.getfield 26, 3) := by decide +kernel
theorem dX5_clutch_21 : decode cX5_clutch 21 = .ok (.aload_n 0, 1) := by decide +kernel
theorem dX5_clutch_22 : decode cX5_clutch 22 = .ok (.getfield 10, 3) := by decide +kernel
theorem dX5_clutch_25 : decode cX5_clutch 25 = .ok (.invokevirtual 58, 3) := by decide +kernel
theorem dX5_clutch_28 : decode cX5_clutch 28 = .ok (.aload_n 0, 1) := by decide +kernel
theorem dX5_clutch_29 : decode cX5_clutch 29 = .ok (.getfield 10, 3) := by decide +kernel
theorem dX5_clutch_32 : decode cX5_clutch 32 = .ok (.getfield 62, 3) := by decide +kernel
theorem dX5_clutch_35 : decode cX5_clutch 35 = .ok (.iload_n 1, 1) := by decide +kernel
theorem dX5_clutch_36 : decode cX5_clutch 36 = .ok (.invokevirtual 103, 3) := by decide +kernel
theorem dX5_clutch_39 : decode cX5_clutch 39 = .ok (.aload_n 0, 1) := by decide +kernel
theorem dX5_clutch_40 : decode cX5_clutch 40 = .ok (.getfield 10, 3) := by decide +kernel
theorem dX5_clutch_43 : decode cX5_clutch 43 = .ok (.getfield 62, 3) := by decide +kernel
