theorem dX0_init_0 : decode cX0_init 0 = .ok (.aload_n 0, 1) := by decide +kernel
theorem dX0_init_1 : decode cX0_init 1 = .ok (.invokespecial 3, 3) := by decide +kernel
theorem dX0_init_4 : decode cX0_init 4 = .ok (.aload_n 0, 1) := by decide +kernel
theorem dX0_init_5 : decode cX0_init 5 = .ok (.bipush 80, 2) := by decide +kernel
theorem dX0_init_7 : decode cX0_init 7 = .ok (.anewarray 9, 3) := by decide +kernel
theorem dX0_init_10 : decode cX0_init 10 = .ok (.putfield 11, 3) := by decide +kernel
theorem dX0_init_13 : decode cX0_init 13 = .ok (.aload_n 0, 1) := by decide +kernel
theorem dX0_init_14 : decode cX0_init 14 = .ok (.bipush 80, 2) := by decide +kernel
theorem dX0_init_16 : decode cX0_init 16 = .ok (.newarray .int, 2) := by decide +kernel
theorem dX0_init_18 : decode cX0_init 18 = .ok (.putfield 17, 3) := by decide +kernel
theorem dX0_init_21 : decode cX0_init 21 = .ok (.aload_n 0, 1) := by decide +kernel
theorem dX0_init_22 : decode cX0_init 22 = .ok (.bipush 80, 2) := by decide +kernel
theorem dX0_init_24 : decode cX0_init 24 = .ok (.newarray .int, 2) := by decide +kernel
theorem dX0_init_26 : decode cX0_init 26 = .ok (.putfield 21, 3) := by decide +kernel
theorem dX0_init_29 : decode cX0_init 29 = .ok (.aload_n 0, 1) := by decide +kernel
theorem dX0_init_30 : decode cX0_init 30 = .ok (.iconst 0, 1) := by decide +kernel
theorem dX0_init_31 : decode cX0_init 31 = .ok (.putfield 24, 3) := by decide +kernel
theorem dX0_init_34 : decode cX0_init 34 = .ok (.iconst 0, 1) := by decide +kernel
theorem dX0_init_35 : decode cX0_init 35 = .ok (.istore_n 1, 1) := by decide +kernel
theorem dX0_init_36 : decode cX0_init 36 = .ok (.iload_n 1, 1) := by decide +kernel
theorem dX0_init_37 : decode cX0_init 37 = .ok (.bipush 80, 2) := by decide +kernel
theorem dX0_init_39 : decode cX0_init 39 = .ok (.if_icmp .ge 22, 3) := by decide +kernel
theorem dX0_init_42 : decode cX0_init 42 = .ok (.aload_n 0, 1) := by decide +kernel
theorem dX0_init_43 : decode cX0_init 43 = .ok (.getfield 11, 3) := by decide +kernel
theorem dX0_init_46 : decode cX0_init 46 = .ok (.iload_n 1, 1) := by decide +kernel
theorem dX0_init_47 : decode cX0_init 47 = .ok (.new 9, 3) := by decide +kernel
theorem dX0_init_50 : decode cX0_init 50 = .ok (.dup, 1) := by decide +kernel
theorem dX0_init_51 : decode cX0_init 51 = .ok (.invokespecial 28, 3) := by decide +kernel
theorem dX0_init_54 : decode cX0_init 54 = .ok (.aastore, 1) := by decide +kernel
theorem dX0_init_55 : decode cX0_init 55 = .ok (.iinc 1 1, 3) := by decide +kernel
theorem dX0_init_58 : decode cX0_init 58 = .ok (.goto (-22), 3) := by decide +kernel
theorem dX0_init_61 : decode cX0_init 61 = .ok (.return_, 1) := by decide +kernel
theorem dX0_find_0 : decode cX0_find 0 = .ok (.iconst 0, 1) := by decide +kernel
theorem dX0_find_1 : decode cX0_find 1 = .ok (.istore 4, 2) := by decide +kernel
theorem dX0_find_3 : decode cX0_find 3 = .ok (.iload 4, 2) := by decide +kernel
theorem dX0_find_5 : decode cX0_find 5 = .ok (.aload_n 0, 1) := by decide +kernel
theorem dX0_find_6 : decode cX0_find 6 = .ok (.getfield 24, 3) := by decide +kernel
theorem dX0_find_9 : decode cX0_find 9 = .ok (.if_icmp .ge 48, 3) := by decide +kernel
theorem dX0_find_12 : decode cX0_find 12 = .ok (.aload_n 0, 1) := by decide +kernel
theorem dX0_find_13 : decode cX0_find 13 = .ok (.getfield 17, 3) := by decide +kernel
theorem dX0_find_16 : decode cX0_find 16 = .ok (.iload 4, 2) := by decide +kernel
theorem dX0_find_18 : decode cX0_find 18 = .ok (.iaload, 1) := by decide +kernel
theorem dX0_find_19 : decode cX0_find 19 = .ok (.iload_n 1, 1) := by decide +kernel
theorem dX0_find_20 : decode cX0_find 20 = .ok (.if_icmp .ne 31, 3) := by decide +kernel
theorem dX0_find_23 : decode cX0_find 23 = .ok (.aload_n 0, 1) := by decide +kernel
theorem dX0_find_24 : decode cX0_find 24 = .ok (.getfield 21, 3) := by decide +kernel
theorem dX0_find_27 : decode cX0_find 27 = .ok (.iload 4, 2) := by decide +kernel
theorem dX0_find_29 : decode cX0_find 29 = .ok (.iaload, 1) := by decide +kernel
theorem dX0_find_30 : decode cX0_find 30 = .ok (.iload_n 2, 1) := by decide +kernel
theorem dX0_find_31 : decode cX0_find 31 = .ok (.if_icmp .ne 20, 3) := by decide +kernel
theorem dX0_find_34 : decode cX0_find 34 = .ok (.aload_n 0, 1) := by decide +kernel
theorem dX0_find_35 : decode cX0_find 35 = .ok (.getfield 11, 3) := by decide +kernel
theorem dX0_find_38 : decode cX0_find 38 = .ok (.iload 4, 2) := by decide +kernel
theorem dX0_find_40 : decode cX0_find 40 = .ok (.aaload, 1) := by decide +kernel
theorem dX0_find_41 : decode cX0_find 41 = .ok (.aload_n 3, 1) := by decide +kernel
theorem dX0_find_42 : decode cX0_find 42 = .ok (.invokevirtual 29, 3) := by decide +kernel
theorem dX0_find_45 : decode cX0_find 45 = .ok (.ifCond .eq 6, 3) := by decide +kernel
theorem dX0_find_48 : decode cX0_find 48 = .ok (.iload 4, 2) := by decide +kernel
theorem dX0_find_50 : decode cX0_find 50 = .ok (.ireturn, 1) := by decide +kernel
theorem dX0_find_51 : decode cX0_find 51 = .ok (.iinc 4 1, 3) := by decide +kernel
theorem dX0_find_54 : decode cX0_find 54 = .ok (.goto (-51), 3) := by decide +kernel
theorem dX0_find_57 : decode cX0_find 57 = .ok (.iconst (-1), 1) := by decide +kernel
theorem dX0_find_58 : decode cX0_find 58 = .ok (.ireturn, 1) := by decide +kernel
theorem dX0_add_0 : decode cX0_add 0 = .ok (.aload_n 0, 1) := by decide +kernel
theorem dX0_add_1 : decode cX0_add 1 = .ok (.getfield 24, 3) := by decide +kernel
theorem dX0_add_4 : decode cX0_add 4 = .ok (.bipush 80, 2) := by decide +kernel
theorem dX0_add_6 : decode cX0_add 6 = .ok (.if_icmp .ge 46, 3) := by decide +kernel
theorem dX0_add_9 : decode cX0_add 9 = .ok (.aload_n 0, 1) := by decide +kernel
theorem dX0_add_10 : decode cX0_add 10 = .ok (.getfield 11, 3) := by decide +kernel
theorem dX0_add_13 : decode cX0_add 13 = .ok (.aload_n 0, 1) := by decide +kernel
theorem dX0_add_14 : decode cX0_add 14 = .ok (.getfield 24, 3) := by decide +kernel
theorem dX0_add_17 : decode cX0_add 17 = .ok (.aaload, 1) := by decide +kernel
theorem dX0_add_18 : decode cX0_add 18 = .ok (.aload_n 3, 1) := by decide +kernel
theorem dX0_add_19 : decode cX0_add 19 = .ok (.invokevirtual 33, 3) := by decide +kernel
theorem dX0_add_22 : decode cX0_add 22 = .ok (.aload_n 0, 1) := by decide +kernel
theorem dX0_add_23 : decode cX0_add 23 = .ok (.getfield 17, 3) := by decide +kernel
theorem dX0_add_26 : decode cX0_add 26 = .ok (.aload_n 0, 1) := by decide +kernel
theorem dX0_add_27 : decode cX0_add 27 = .ok (.getfield 24, 3) := by decide +kernel
theorem dX0_add_30 : decode cX0_add 30 = .ok (.iload_n 1, 1) := by decide +kernel
theorem dX0_add_31 : decode cX0_add 31 = .ok (.iastore, 1) := by decide +kernel
theorem dX0_add_32 : decode cX0_add 32 = .ok (.aload_n 0, 1) := by decide +kernel
theorem dX0_add_33 : decode cX0_add 33 = .ok (.getfield 21, 3) := by decide +kernel
theorem dX0_add_36 : decode cX0_add 36 = .ok (.aload_n 0, 1) := by decide +kernel
theorem dX0_add_37 : decode cX0_add 37 = .ok (.getfield 24, 3) := by decide +kernel
theorem dX0_add_40 : decode cX0_add 40 = .ok (.iload_n 2, 1) := by decide +kernel
theorem dX0_add_41 : decode cX0_add 41 = .ok (.iastore, 1) := by decide +kernel
theorem dX0_add_42 : decode cX0_add 42 = .ok (.aload_n 0, 1) := by decide +kernel
theorem dX0_add_43 : decode cX0_add 43 = .ok (.dup, 1) := by decide +kernel
theorem dX0_add_44 : decode cX0_add 44 = .ok (.getfield 24, 3) := by decide +kernel
theorem dX0_add_47 : decode cX0_add 47 = .ok (.iconst 1, 1) := by decide +kernel
theorem dX0_add_48 : decode cX0_add 48 = .ok (.iadd, 1) := by decide +kernel
theorem dX0_add_49 : decode cX0_add 49 = .ok (.putfield 24, 3) := by decide +kernel
theorem dX0_add_52 : decode cX0_add 52 = .ok (.return_, 1) := by decide +kernel
theorem dX0_remove_0 : decode cX0_remove 0 = .ok (.iload_n 1, 1) := by decide +kernel
theorem dX0_remove_1 : decode cX0_remove 1 = .ok (.ifCond .lt 11, 3) := by decide +kernel
theorem dX0_remove_4 : decode cX0_remove 4 = .ok (.iload_n 1, 1) := by decide +kernel
theorem dX0_remove_5 : decode cX0_remove 5 = .ok (.aload_n 0, 1) := by decide +kernel
theorem dX0_remove_6 : decode cX0_remove 6 = .ok (.getfield 24, 3) := by decide +kernel
theorem dX0_remove_9 : decode cX0_remove 9 = .ok (.if_icmp .lt 4, 3) := by decide +kernel
theorem dX0_remove_12 : decode cX0_remove 12 = .ok (.return_, 1) := by decide +kernel
theorem dX0_remove_13 : decode cX0_remove 13 = .ok (.aload_n 0, 1) := by decide +kernel
theorem dX0_remove_14 : decode cX0_remove 14 = .ok (.getfield 24, 3) := by decide +kernel
theorem dX0_remove_17 : decode cX0_remove 17 = .ok (.iconst 1, 1) := by decide +kernel
theorem dX0_remove_18 : decode cX0_remove 18 = .ok (.isub, 1) := by decide +kernel
theorem dX0_remove_19 : decode cX0_remove 19 = .ok (.istore_n 2, 1) := by decide +kernel
theorem dX0_remove_20 : decode cX0_remove 20 = .ok (.aload_n 0, 1) := by decide +kernel
theorem dX0_remove_21 : decode cX0_remove 21 = .ok (.getfield 11, 3) := by decide +kernel
theorem dX0_remove_24 : decode cX0_remove 24 = .ok (.iload_n 1, 1) := by decide +kernel
theorem dX0_remove_25 : decode cX0_remove 25 = .ok (.aaload, 1) := by decide +kernel
theorem dX0_remove_26 : decode cX0_remove 26 = .ok (.astore_n 3, 1) := by decide +kernel
theorem dX0_remove_27 : decode cX0_remove 27 = .ok (.aload_n 0, 1) := by decide +kernel
theorem dX0_remove_28 : decode cX0_remove 28 = .ok (.getfield 11, 3) := by decide +kernel
theorem dX0_remove_31 : decode cX0_remove 31 = .ok (.iload_n 1, 1) := by decide +kernel
theorem dX0_remove_32 : decode cX0_remove 32 = .ok (.aload_n 0, 1) := by decide +kernel
theorem dX0_remove_33 : decode cX0_remove 33 = .ok (.getfield 11, 3) := by decide +kernel
theorem dX0_remove_36 : decode cX0_remove 36 = .ok (.iload_n 2, 1) := by decide +kernel
theorem dX0_remove_37 : decode cX0_remove 37 = .ok (.aaload, 1) := by decide +kernel
theorem dX0_remove_38 : decode cX0_remove 38 = .ok (.aastore, 1) := by decide +kernel
theorem dX0_remove_39 : decode cX0_remove 39 = .ok (.aload_n 0, 1) := by decide +kernel
theorem dX0_remove_40 : decode cX0_remove 40 = .ok (.getfield 11, 3) := by decide +kernel
theorem dX0_remove_43 : decode cX0_remove 43 = .ok (.iload_n 2, 1) := by decide +kernel
theorem dX0_remove_44 : decode cX0_remove 44 = .ok (.aload_n 3, 1) := by decide +kernel
theorem dX0_remove_45 : decode cX0_remove 45 = .ok (.aastore, 1) := by decide +kernel
theorem dX0_remove_46 : decode cX0_remove 46 = .ok (.aload_n 0, 1) := by decide +kernel
theorem dX0_remove_47 : decode cX0_remove 47 = .ok (.getfield 17, 3) := by decide +kernel
theorem dX0_remove_50 : decode cX0_remove 50 = .ok (.iload_n 1, 1) := by decide +kernel
theorem dX0_remove_51 : decode cX0_remove 51 = .ok (.aload_n 0, 1) := by decide +kernel
theorem dX0_remove_52 : decode cX0_remove 52 = .ok (.getfield 17, 3) := by decide +kernel
theorem dX0_remove_55 : decode cX0_remove 55 = .ok (.iload_n 2, 1) := by decide +kernel
theorem dX0_remove_56 : decode cX0_remove 56 = .ok (.iaload, 1) := by decide +kernel
theorem dX0_remove_57 : decode cX0_remove 57 = .ok (.iastore, 1) := by decide +kernel
theorem dX0_remove_58 : decode cX0_remove 58 = .ok (.aload_n 0, 1) := by decide +kernel
theorem dX0_remove_59 : decode cX0_remove 59 = .ok (.getfield 21, 3) := by decide +kernel
theorem dX0_remove_62 : decode cX0_remove 62 = .ok (.iload_n 1, 1) := by decide +kernel
theorem dX0_remove_63 : decode cX0_remove 63 = .ok (.aload_n 0, 1) := by decide +kernel
theorem dX0_remove_64 : decode cX0_remove 64 = .ok (.getfield 21, 3) := by decide +kernel
theorem dX0_remove_67 : decode cX0_remove 67 = .ok (.iload_n 2, 1) := by decide +kernel
theorem dX0_remove_68 : decode cX0_remove 68 = .ok (.iaload, 1) := by decide +kernel
theorem dX0_remove_69 : decode cX0_remove 69 = .ok (.iastore, 1) := by decide +kernel
theorem dX0_remove_70 : decode cX0_remove 70 = .ok (.aload_n 0, 1) := by decide +kernel
theorem dX0_remove_71 : decode cX0_remove 71 = .ok (.iload_n 2, 1) := by decide +kernel
theorem dX0_remove_72 : decode cX0_remove 72 = .ok (.putfield 24, 3) := by decide +kernel
theorem dX0_remove_75 : decode cX0_remove 75 = .ok (.return_, 1) := by decide +kernel
theorem dX0_kindsOf_0 : decode cX0_kindsOf 0 = .ok (.iconst 0, 1) := by decide +kernel
theorem dX0_kindsOf_1 : decode cX0_kindsOf 1 = .ok (.istore 4, 2) := by decide +kernel
theorem dX0_kindsOf_3 : decode cX0_kindsOf 3 = .ok (.iconst 0, 1) := by decide +kernel
theorem dX0_kindsOf_4 : decode cX0_kindsOf 4 = .ok (.istore 5, 2) := by decide +kernel
theorem dX0_kindsOf_6 : decode cX0_kindsOf 6 = .ok (.iload 5, 2) := by decide +kernel
theorem dX0_kindsOf_8 : decode cX0_kindsOf 8 = .ok (.aload_n 0, 1) := by decide +kernel
theorem dX0_kindsOf_9 : decode cX0_kindsOf 9 = .ok (.getfield 24, 3) := by decide +kernel
theorem dX0_kindsOf_12 : decode cX0_kindsOf 12 = .ok (.if_icmp .ge 49, 3) := by decide +kernel
theorem dX0_kindsOf_15 : decode cX0_kindsOf 15 = .ok (.aload_n 0, 1) := by decide +kernel
theorem dX0_kindsOf_16 : decode cX0_kindsOf 16 = .ok (.getfield 17, 3) := by decide +kernel
theorem dX0_kindsOf_19 : decode cX0_kindsOf 19 = .ok (.iload 5, 2) := by decide +kernel
theorem dX0_kindsOf_21 : decode cX0_kindsOf 21 = .ok (.iaload, 1) := by decide +kernel
theorem dX0_kindsOf_22 : decode cX0_kindsOf 22 = .ok (.iload_n 1, 1) := by decide +kernel
theorem dX0_kindsOf_23 : decode cX0_kindsOf 23 = .ok (.if_icmp .ne 32, 3) := by decide +kernel
theorem dX0_kindsOf_26 : decode cX0_kindsOf 26 = .ok (.aload_n 0, 1) := by decide +kernel
theorem dX0_kindsOf_27 : decode cX0_kindsOf 27 = .ok (.getfield 11, 3) := by decide +kernel
theorem dX0_kindsOf_30 : decode cX0_kindsOf 30 = .ok (.iload 5, 2) := by decide +kernel
theorem dX0_kindsOf_32 : decode cX0_kindsOf 32 = .ok (.aaload, 1) := by decide +kernel
theorem dX0_kindsOf_33 : decode cX0_kindsOf 33 = .ok (.aload_n 2, 1) := by decide +kernel
theorem dX0_kindsOf_34 : decode cX0_kindsOf 34 = .ok (.iload_n 3, 1) := by decide +kernel
theorem dX0_kindsOf_35 : decode cX0_kindsOf 35 = .ok (.invokevirtual 37, 3) := by decide +kernel
theorem dX0_kindsOf_38 : decode cX0_kindsOf 38 = .ok (.ifCond .eq 17, 3) := by decide +kernel
theorem dX0_kindsOf_41 : decode cX0_kindsOf 41 = .ok (.iload 4, 2) := by decide +kernel
theorem dX0_kindsOf_43 : decode cX0_kindsOf 43 = .ok (.iconst 1, 1) := by decide +kernel
theorem dX0_kindsOf_44 : decode cX0_kindsOf 44 = .ok (.aload_n 0, 1) := by decide +kernel
theorem dX0_kindsOf_45 : decode cX0_kindsOf 45 = .ok (.getfield 21, 3) := by decide +kernel
theorem dX0_kindsOf_48 : decode cX0_kindsOf 48 = .ok (.iload 5, 2) := by decide +kernel
theorem dX0_kindsOf_50 : decode cX0_kindsOf 50 = .ok (.iaload, 1) := by decide +kernel
theorem dX0_kindsOf_51 : decode cX0_kindsOf 51 = .ok (.ishl, 1) := by decide +kernel
theorem dX0_kindsOf_52 : decode cX0_kindsOf 52 = .ok (.ior, 1) := by decide +kernel
theorem dX0_kindsOf_53 : decode cX0_kindsOf 53 = .ok (.istore 4, 2) := by decide +kernel
theorem dX0_kindsOf_55 : decode cX0_kindsOf 55 = .ok (.iinc 5 1, 3) := by decide +kernel
theorem dX0_kindsOf_58 : decode cX0_kindsOf 58 = .ok (.goto (-52), 3) := by decide +kernel
theorem dX0_kindsOf_61 : decode cX0_kindsOf 61 = .ok (.iload 4, 2) := by decide +kernel
theorem dX0_kindsOf_63 : decode cX0_kindsOf 63 = .ok (.ireturn, 1) := by decide +kernel
theorem dX1_init_0 : decode cX1_init 0 = .ok (.aload_n 0, 1) := by decide +kernel
theorem dX1_init_1 : decode cX1_init 1 = .ok (.invokespecial 3, 3) := by decide +kernel
theorem dX1_init_4 : decode cX1_init 4 = .ok (.aload_n 0, 1) := by decide +kernel
theorem dX1_init_5 : decode cX1_init 5 = .ok (.sipush 488, 3) := by decide +kernel
theorem dX1_init_8 : decode cX1_init 8 = .ok (.newarray .byte, 2) := by decide +kernel
theorem dX1_init_10 : decode cX1_init 10 = .ok (.putfield 9, 3) := by decide +kernel
theorem dX1_init_13 : decode cX1_init 13 = .ok (.aload_n 0, 1) := by decide +kernel
theorem dX1_init_14 : decode cX1_init 14 = .ok (.iconst 0, 1) := by decide +kernel
theorem dX1_init_15 : decode cX1_init 15 = .ok (.putfield 15, 3) := by decide +kernel
theorem dX1_init_18 : decode cX1_init 18 = .ok (.return_, 1) := by decide +kernel
theorem dX1_add_0 : decode cX1_add 0 = .ok (.aload_n 0, 1) := by decide +kernel
theorem dX1_add_1 : decode cX1_add 1 = .ok (.getfield 15, 3) := by decide +kernel
theorem dX1_add_4 : decode cX1_add 4 = .ok (.sipush 488, 3) := by decide +kernel
theorem dX1_add_7 : decode cX1_add 7 = .ok (.if_icmp .ge 23, 3) := by decide +kernel
theorem dX1_add_10 : decode cX1_add 10 = .ok (.aload_n 0, 1) := by decide +kernel
theorem dX1_add_11 : decode cX1_add 11 = .ok (.getfield 9, 3) := by decide +kernel
theorem dX1_add_14 : decode cX1_add 14 = .ok (.aload_n 0, 1) := by decide +kernel
theorem dX1_add_15 : decode cX1_add 15 = .ok (.getfield 15, 3) := by decide +kernel
theorem dX1_add_18 : decode cX1_add 18 = .ok (.iload_n 1, 1) := by decide +kernel
theorem dX1_add_19 : decode cX1_add 19 = .ok (.bastore, 1) := by decide +kernel
theorem dX1_add_20 : decode cX1_add 20 = .ok (.aload_n 0, 1) := by decide +kernel
theorem dX1_add_21 : decode cX1_add 21 = .ok (.dup, 1) := by decide +kernel
theorem dX1_add_22 : decode cX1_add 22 = .ok (.getfield 15, 3) := by decide +kernel
theorem dX1_add_25 : decode cX1_add 25 = .ok (.iconst 1, 1) := by decide +kernel
theorem dX1_add_26 : decode cX1_add 26 = .ok (.iadd, 1) := by decide +kernel
theorem dX1_add_27 : decode cX1_add 27 = .ok (.putfield 15, 3) := by decide +kernel
theorem dX1_add_30 : decode cX1_add 30 = .ok (.return_, 1) := by decide +kernel
theorem dX1_addWord_0 : decode cX1_addWord 0 = .ok (.iload_n 3, 1) := by decide +kernel
theorem dX1_addWord_1 : decode cX1_addWord 1 = .ok (.ifCond .le 9, 3) := by decide +kernel
theorem dX1_addWord_4 : decode cX1_addWord 4 = .ok (.aload_n 0, 1) := by decide +kernel
theorem dX1_addWord_5 : decode cX1_addWord 5 = .ok (.bipush 32, 2) := by decide +kernel
theorem dX1_addWord_7 : decode cX1_addWord 7 = .ok (.invokevirtual 19, 3) := by decide +kernel
theorem dX1_addWord_10 : decode cX1_addWord 10 = .ok (.iconst 0, 1) := by decide +kernel
theorem dX1_addWord_11 : decode cX1_addWord 11 = .ok (.istore 4, 2) := by decide +kernel
theorem dX1_addWord_13 : decode cX1_addWord 13 = .ok (.iload 4, 2) := by decide +kernel
theorem dX1_addWord_15 : decode cX1_addWord 15 = .ok (.iload_n 2, 1) := by decide +kernel
theorem dX1_addWord_16 : decode cX1_addWord 16 = .ok (.if_icmp .ge 24, 3) := by decide +kernel
theorem dX1_addWord_19 : decode cX1_addWord 19 = .ok (.iload 4, 2) := by decide +kernel
theorem dX1_addWord_21 : decode cX1_addWord 21 = .ok (.aload_n 1, 1) := by decide +kernel
theorem dX1_addWord_22 : decode cX1_addWord 22 = .ok (.arraylength, 1) := by decide +kernel
theorem dX1_addWord_23 : decode cX1_addWord 23 = .ok (.if_icmp .ge 17, 3) := by decide +kernel
theorem dX1_addWord_26 : decode cX1_addWord 26 = .ok (.aload_n 0, 1) := by decide +kernel
theorem dX1_addWord_27 : decode cX1_addWord 27 = .ok (.aload_n 1, 1) := by decide +kernel
theorem dX1_addWord_28 : decode cX1_addWord 28 = .ok (.iload 4, 2) := by decide +kernel
theorem dX1_addWord_30 : decode cX1_addWord 30 = .ok (.baload, 1) := by decide +kernel
theorem dX1_addWord_31 : decode cX1_addWord 31 = .ok (.invokevirtual 19, 3) := by decide +kernel
theorem dX1_addWord_34 : decode cX1_addWord 34 = .ok (.iinc 4 1, 3) := by decide +kernel
theorem dX1_addWord_37 : decode cX1_addWord 37 = .ok (.goto (-24), 3) := by decide +kernel
theorem dX1_addWord_40 : decode cX1_addWord 40 = .ok (.return_, 1) := by decide +kernel
theorem dX1_signAt_0 : decode cX1_signAt 0 = .ok (.iload_n 1, 1) := by decide +kernel
theorem dX1_signAt_1 : decode cX1_signAt 1 = .ok (.ifCond .lt 20, 3) := by decide +kernel
theorem dX1_signAt_4 : decode cX1_signAt 4 = .ok (.iload_n 1, 1) := by decide +kernel
theorem dX1_signAt_5 : decode cX1_signAt 5 = .ok (.aload_n 0, 1) := by decide +kernel
theorem dX1_signAt_6 : decode cX1_signAt 6 = .ok (.getfield 15, 3) := by decide +kernel
theorem dX1_signAt_9 : decode cX1_signAt 9 = .ok (.if_icmp .ge 12, 3) := by decide +kernel
theorem dX1_signAt_12 : decode cX1_signAt 12 = .ok (.aload_n 0, 1) := by decide +kernel
theorem dX1_signAt_13 : decode cX1_signAt 13 = .ok (.getfield 9, 3) := by decide +kernel
theorem dX1_signAt_16 : decode cX1_signAt 16 = .ok (.iload_n 1, 1) := by decide +kernel
theorem dX1_signAt_17 : decode cX1_signAt 17 = .ok (.baload, 1) := by decide +kernel
theorem dX1_signAt_18 : decode cX1_signAt 18 = .ok (.goto 4, 3) := by decide +kernel
theorem dX1_signAt_21 : decode cX1_signAt 21 = .ok (.iconst (-1), 1) := by decide +kernel
theorem dX1_signAt_22 : decode cX1_signAt 22 = .ok (.ireturn, 1) := by decide +kernel
theorem dX1_alike_0 : decode cX1_alike 0 = .ok (.aload_n 0, 1) := by decide +kernel
theorem dX1_alike_1 : decode cX1_alike 1 = .ok (.getfield 15, 3) := by decide +kernel
theorem dX1_alike_4 : decode cX1_alike 4 = .ok (.aload_n 1, 1) := by decide +kernel
theorem dX1_alike_5 : decode cX1_alike 5 = .ok (.getfield 15, 3) := by decide +kernel
theorem dX1_alike_8 : decode cX1_alike 8 = .ok (.if_icmp .eq 5, 3) := by decide +kernel
theorem dX1_alike_11 : decode cX1_alike 11 = .ok (.iconst 0, 1) := by decide +kernel
theorem dX1_alike_12 : decode cX1_alike 12 = .ok (.ireturn, 1) := by decide +kernel
theorem dX1_alike_13 : decode cX1_alike 13 = .ok (.iconst 0, 1) := by decide +kernel
theorem dX1_alike_14 : decode cX1_alike 14 = .ok (.istore_n 2, 1) := by decide +kernel
theorem dX1_alike_15 : decode cX1_alike 15 = .ok (.iload_n 2, 1) := by decide +kernel
theorem dX1_alike_16 : decode cX1_alike 16 = .ok (.aload_n 0, 1) := by decide +kernel
theorem dX1_alike_17 : decode cX1_alike 17 = .ok (.getfield 15, 3) := by decide +kernel
theorem dX1_alike_20 : decode cX1_alike 20 = .ok (.if_icmp .ge 26, 3) := by decide +kernel
theorem dX1_alike_23 : decode cX1_alike 23 = .ok (.aload_n 0, 1) := by decide +kernel
theorem dX1_alike_24 : decode cX1_alike 24 = .ok (.getfield 9, 3) := by decide +kernel
theorem dX1_alike_27 : decode cX1_alike 27 = .ok (.iload_n 2, 1) := by decide +kernel
theorem dX1_alike_28 : decode cX1_alike 28 = .ok (.baload, 1) := by decide +kernel
theorem dX1_alike_29 : decode cX1_alike 29 = .ok (.aload_n 1, 1) := by decide +kernel
theorem dX1_alike_30 : decode cX1_alike 30 = .ok (.getfield 9, 3) := by decide +kernel
theorem dX1_alike_33 : decode cX1_alike 33 = .ok (.iload_n 2, 1) := by decide +kernel
theorem dX1_alike_34 : decode cX1_alike 34 = .ok (.baload, 1) := by decide +kernel
theorem dX1_alike_35 : decode cX1_alike 35 = .ok (.if_icmp .eq 5, 3) := by decide +kernel
theorem dX1_alike_38 : decode cX1_alike 38 = .ok (.iconst 0, 1) := by decide +kernel
theorem dX1_alike_39 : decode cX1_alike 39 = .ok (.ireturn, 1) := by decide +kernel
theorem dX1_alike_40 : decode cX1_alike 40 = .ok (.iinc 2 1, 3) := by decide +kernel
theorem dX1_alike_43 : decode cX1_alike 43 = .ok (.goto (-28), 3) := by decide +kernel
theorem dX1_alike_46 : decode cX1_alike 46 = .ok (.iconst 1, 1) := by decide +kernel
theorem dX1_alike_47 : decode cX1_alike 47 = .ok (.ireturn, 1) := by decide +kernel
theorem dX2_init_0 : decode cX2_init 0 = .ok (.aload_n 0, 1) := by decide +kernel
theorem dX2_init_1 : decode cX2_init 1 = .ok (.invokespecial 3, 3) := by decide +kernel
theorem dX2_init_4 : decode cX2_init 4 = .ok (.aload_n 0, 1) := by decide +kernel
theorem dX2_init_5 : decode cX2_init 5 = .ok (.iconst 0, 1) := by decide +kernel
theorem dX2_init_6 : decode cX2_init 6 = .ok (.putfield 9, 3) := by decide +kernel
theorem dX2_init_9 : decode cX2_init 9 = .ok (.aload_n 0, 1) := by decide +kernel
theorem dX2_init_10 : decode cX2_init 10 = .ok (.iconst 0, 1) := by decide +kernel
theorem dX2_init_11 : decode cX2_init 11 = .ok (.putfield 15, 3) := by decide +kernel
theorem dX2_init_14 : decode cX2_init 14 = .ok (.aload_n 0, 1) := by decide +kernel
theorem dX2_init_15 : decode cX2_init 15 = .ok (.bipush 8, 2) := by decide +kernel
theorem dX2_init_17 : decode cX2_init 17 = .ok (.anewarray 18, 3) := by decide +kernel
theorem dX2_init_20 : decode cX2_init 20 = .ok (.putfield 20, 3) := by decide +kernel
theorem dX2_init_23 : decode cX2_init 23 = .ok (.aload_n 0, 1) := by decide +kernel
theorem dX2_init_24 : decode cX2_init 24 = .ok (.iconst 0, 1) := by decide +kernel
theorem dX2_init_25 : decode cX2_init 25 = .ok (.putfield 24, 3) := by decide +kernel
theorem dX2_init_28 : decode cX2_init 28 = .ok (.aload_n 0, 1) := by decide +kernel
theorem dX2_init_29 : decode cX2_init 29 = .ok (.iconst 0, 1) := by decide +kernel
theorem dX2_init_30 : decode cX2_init 30 = .ok (.putfield 28, 3) := by decide +kernel
theorem dX2_init_33 : decode cX2_init 33 = .ok (.aload_n 0, 1) := by decide +kernel
theorem dX2_init_34 : decode cX2_init 34 = .ok (.bipush 8, 2) := by decide +kernel
theorem dX2_init_36 : decode cX2_init 36 = .ok (.newarray .int, 2) := by decide +kernel
theorem dX2_init_38 : decode cX2_init 38 = .ok (.putfield 31, 3) := by decide +kernel
theorem dX2_init_41 : decode cX2_init 41 = .ok (.aload_n 0, 1) := by decide +kernel
theorem dX2_init_42 : decode cX2_init 42 = .ok (.bipush 8, 2) := by decide +kernel
theorem dX2_init_44 : decode cX2_init 44 = .ok (.newarray .int, 2) := by decide +kernel
theorem dX2_init_46 : decode cX2_init 46 = .ok (.putfield 35, 3) := by decide +kernel
theorem dX2_init_49 : decode cX2_init 49 = .ok (.aload_n 0, 1) := by decide +kernel
theorem dX2_init_50 : decode cX2_init 50 = .ok (.iconst 0, 1) := by decide +kernel
theorem dX2_init_51 : decode cX2_init 51 = .ok (.putfield 38, 3) := by decide +kernel
theorem dX2_init_54 : decode cX2_init 54 = .ok (.aload_n 0, 1) := by decide +kernel
theorem dX2_init_55 : decode cX2_init 55 = .ok (.iconst 0, 1) := by decide +kernel
theorem dX2_init_56 : decode cX2_init 56 = .ok (.putfield 41, 3) := by decide +kernel
theorem dX2_init_59 : decode cX2_init 59 = .ok (.aload_n 0, 1) := by decide +kernel
theorem dX2_init_60 : decode cX2_init 60 = .ok (.new 44, 3) := by decide +kernel
theorem dX2_init_63 : decode cX2_init 63 = .ok (.dup, 1) := by decide +kernel
theorem dX2_init_64 : decode cX2_init 64 = .ok (.invokespecial 46, 3) := by decide +kernel
theorem dX2_init_67 : decode cX2_init 67 = .ok (.putfield 47, 3) := by decide +kernel
theorem dX2_init_70 : decode cX2_init 70 = .ok (.iconst 0, 1) := by decide +kernel
theorem dX2_init_71 : decode cX2_init 71 = .ok (.istore_n 1, 1) := by decide +kernel
theorem dX2_init_72 : decode cX2_init 72 = .ok (.iload_n 1, 1) := by decide +kernel
theorem dX2_init_73 : decode cX2_init 73 = .ok (.bipush 8, 2) := by decide +kernel
theorem dX2_init_75 : decode cX2_init 75 = .ok (.if_icmp .ge 22, 3) := by decide +kernel
theorem dX2_init_78 : decode cX2_init 78 = .ok (.aload_n 0, 1) := by decide +kernel
theorem dX2_init_79 : decode cX2_init 79 = .ok (.getfield 20, 3) := by decide +kernel
theorem dX2_init_82 : decode cX2_init 82 = .ok (.iload_n 1, 1) := by decide +kernel
theorem dX2_init_83 : decode cX2_init 83 = .ok (.new 18, 3) := by decide +kernel
theorem dX2_init_86 : decode cX2_init 86 = .ok (.dup, 1) := by decide +kernel
theorem dX2_init_87 : decode cX2_init 87 = .ok (.invokespecial 51, 3) := by decide +kernel
theorem dX2_init_90 : decode cX2_init 90 = .ok (.aastore, 1) := by decide +kernel
theorem dX2_init_91 : decode cX2_init 91 = .ok (.iinc 1 1, 3) := by decide +kernel
theorem dX2_init_94 : decode cX2_init 94 = .ok (.goto (-22), 3) := by decide +kernel
theorem dX2_init_97 : decode cX2_init 97 = .ok (.return_, 1) := by decide +kernel
theorem dX2_take_0 : decode cX2_take 0 = .ok (.aload_n 0, 1) := by decide +kernel
theorem dX2_take_1 : decode cX2_take 1 = .ok (.iconst 0, 1) := by decide +kernel
theorem dX2_take_2 : decode cX2_take 2 = .ok (.putfield 15, 3) := by decide +kernel
theorem dX2_take_5 : decode cX2_take 5 = .ok (.iconst 0, 1) := by decide +kernel
theorem dX2_take_6 : decode cX2_take 6 = .ok (.istore_n 3, 1) := by decide +kernel
theorem dX2_take_7 : decode cX2_take 7 = .ok (.iconst 0, 1) := by decide +kernel
theorem dX2_take_8 : decode cX2_take 8 = .ok (.istore 4, 2) := by decide +kernel
theorem dX2_take_10 : decode cX2_take 10 = .ok (.iload 4, 2) := by decide +kernel
theorem dX2_take_12 : decode cX2_take 12 = .ok (.iload_n 2, 1) := by decide +kernel
theorem dX2_take_13 : decode cX2_take 13 = .ok (.if_icmp .gt 78, 3) := by decide +kernel
theorem dX2_take_16 : decode cX2_take 16 = .ok (.iload_n 2, 1) := by decide +kernel
theorem dX2_take_17 : decode cX2_take 17 = .ok (.aload_n 1, 1) := by decide +kernel
theorem dX2_take_18 : decode cX2_take 18 = .ok (.arraylength, 1) := by decide +kernel
theorem dX2_take_19 : decode cX2_take 19 = .ok (.if_icmp .gt 72, 3) := by decide +kernel
theorem dX2_take_22 : decode cX2_take 22 = .ok (.iload 4, 2) := by decide +kernel
theorem dX2_take_24 : decode cX2_take 24 = .ok (.iload_n 2, 1) := by decide +kernel
theorem dX2_take_25 : decode cX2_take 25 = .ok (.if_icmp .ge 15, 3) := by decide +kernel
theorem dX2_take_28 : decode cX2_take 28 = .ok (.aload_n 1, 1) := by decide +kernel
theorem dX2_take_29 : decode cX2_take 29 = .ok (.iload 4, 2) := by decide +kernel
theorem dX2_take_31 : decode cX2_take 31 = .ok (.baload, 1) := by decide +kernel
theorem dX2_take_32 : decode cX2_take 32 = .ok (.bipush 32, 2) := by decide +kernel
theorem dX2_take_34 : decode cX2_take 34 = .ok (.if_icmp .eq 6, 3) := by decide +kernel
theorem dX2_take_37 : decode cX2_take 37 = .ok (.goto 48, 3) := by decide +kernel
theorem dX2_take_40 : decode cX2_take 40 = .ok (.aload_n 0, 1) := by decide +kernel
theorem dX2_take_41 : decode cX2_take 41 = .ok (.getfield 15, 3) := by decide +kernel
theorem dX2_take_44 : decode cX2_take 44 = .ok (.bipush 8, 2) := by decide +kernel
theorem dX2_take_46 : decode cX2_take 46 = .ok (.if_icmp .ge 22, 3) := by decide +kernel
theorem dX2_take_49 : decode cX2_take 49 = .ok (.aload_n 0, 1) := by decide +kernel
theorem dX2_take_50 : decode cX2_take 50 = .ok (.getfield 20, 3) := by decide +kernel
theorem dX2_take_53 : decode cX2_take 53 = .ok (.aload_n 0, 1) := by decide +kernel
theorem dX2_take_54 : decode cX2_take 54 = .ok (.getfield 15, 3) := by decide +kernel
theorem dX2_take_57 : decode cX2_take 57 = .ok (.aaload, 1) := by decide +kernel
theorem dX2_take_58 : decode cX2_take 58 = .ok (.aload_n 1, 1) := by decide +kernel
theorem dX2_take_59 : decode cX2_take 59 = .ok (.iload_n 3, 1) := by decide +kernel
theorem dX2_take_60 : decode cX2_take 60 = .ok (.iload 4, 2) := by decide +kernel
theorem dX2_take_62 : decode cX2_take 62 = .ok (.invokevirtual 52, 3) := by decide +kernel
theorem dX2_take_65 : decode cX2_take 65 = .ok (.ifCond .ne 5, 3) := by decide +kernel
theorem dX2_take_68 : decode cX2_take 68 = .ok (.iconst 0, 1) := by decide +kernel
theorem dX2_take_69 : decode cX2_take 69 = .ok (.ireturn, 1) := by decide +kernel
theorem dX2_take_70 : decode cX2_take 70 = .ok (.aload_n 0, 1) := by decide +kernel
theorem dX2_take_71 : decode cX2_take 71 = .ok (.dup, 1) := by decide +kernel
theorem dX2_take_72 : decode cX2_take 72 = .ok (.getfield 15, 3) := by decide +kernel
theorem dX2_take_75 : decode cX2_take 75 = .ok (.iconst 1, 1) := by decide +kernel
theorem dX2_take_76 : decode cX2_take 76 = .ok (.iadd, 1) := by decide +kernel
theorem dX2_take_77 : decode cX2_take 77 = .ok (.putfield 15, 3) := by decide +kernel
theorem dX2_take_80 : decode cX2_take 80 = .ok (.iload 4, 2) := by decide +kernel
theorem dX2_take_82 : decode cX2_take 82 = .ok (.iconst 1, 1) := by decide +kernel
theorem dX2_take_83 : decode cX2_take 83 = .ok (.iadd, 1) := by decide +kernel
theorem dX2_take_84 : decode cX2_take 84 = .ok (.istore_n 3, 1) := by decide +kernel
theorem dX2_take_85 : decode cX2_take 85 = .ok (.iinc 4 1, 3) := by decide +kernel
theorem dX2_take_88 : decode cX2_take 88 = .ok (.goto (-78), 3) := by decide +kernel
theorem dX2_take_91 : decode cX2_take 91 = .ok (.aload_n 0, 1) := by decide +kernel
theorem dX2_take_92 : decode cX2_take 92 = .ok (.getfield 15, 3) := by decide +kernel
theorem dX2_take_95 : decode cX2_take 95 = .ok (.ifCond .le 7, 3) := by decide +kernel
theorem dX2_take_98 : decode cX2_take 98 = .ok (.iconst 1, 1) := by decide +kernel
theorem dX2_take_99 : decode cX2_take 99 = .ok (.goto 4, 3) := by decide +kernel
theorem dX2_take_102 : decode cX2_take 102 = .ok (.iconst 0, 1) := by decide +kernel
theorem dX2_take_103 : decode cX2_take 103 = .ok (.ireturn, 1) := by decide +kernel
theorem dX2_nextOf_0 : decode cX2_nextOf 0 = .ok (.aload_n 0, 1) := by decide +kernel
theorem dX2_nextOf_1 : decode cX2_nextOf 1 = .ok (.getfield 28, 3) := by decide +kernel
theorem dX2_nextOf_4 : decode cX2_nextOf 4 = .ok (.ifCond .eq 7, 3) := by decide +kernel
theorem dX2_nextOf_7 : decode cX2_nextOf 7 = .ok (.iload_n 2, 1) := by decide +kernel
theorem dX2_nextOf_8 : decode cX2_nextOf 8 = .ok (.ifCond .ge 5, 3) := by decide +kernel
theorem dX2_nextOf_11 : decode cX2_nextOf 11 = .ok (.iconst (-1), 1) := by decide +kernel
theorem dX2_nextOf_12 : decode cX2_nextOf 12 = .ok (.ireturn, 1) := by decide +kernel
theorem dX2_nextOf_13 : decode cX2_nextOf 13 = .ok (.iload_n 2, 1) := by decide +kernel
theorem dX2_nextOf_14 : decode cX2_nextOf 14 = .ok (.istore_n 3, 1) := by decide +kernel
theorem dX2_nextOf_15 : decode cX2_nextOf 15 = .ok (.iload_n 3, 1) := by decide +kernel
theorem dX2_nextOf_16 : decode cX2_nextOf 16 = .ok (.aload_n 0, 1) := by decide +kernel
theorem dX2_nextOf_17 : decode cX2_nextOf 17 = .ok (.getfield 15, 3) := by decide +kernel
theorem dX2_nextOf_20 : decode cX2_nextOf 20 = .ok (.if_icmp .ge 24, 3) := by decide +kernel
theorem dX2_nextOf_23 : decode cX2_nextOf 23 = .ok (.iload_n 1, 1) := by decide +kernel
theorem dX2_nextOf_24 : decode cX2_nextOf 24 = .ok (.aload_n 0, 1) := by decide +kernel
theorem dX2_nextOf_25 : decode cX2_nextOf 25 = .ok (.getfield 31, 3) := by decide +kernel
theorem dX2_nextOf_28 : decode cX2_nextOf 28 = .ok (.iload_n 3, 1) := by decide +kernel
theorem dX2_nextOf_29 : decode cX2_nextOf 29 = .ok (.iaload, 1) := by decide +kernel
theorem dX2_nextOf_30 : decode cX2_nextOf 30 = .ok (.ishr, 1) := by decide +kernel
theorem dX2_nextOf_31 : decode cX2_nextOf 31 = .ok (.iconst 1, 1) := by decide +kernel
theorem dX2_nextOf_32 : decode cX2_nextOf 32 = .ok (.iand, 1) := by decide +kernel
theorem dX2_nextOf_33 : decode cX2_nextOf 33 = .ok (.ifCond .eq 5, 3) := by decide +kernel
theorem dX2_nextOf_36 : decode cX2_nextOf 36 = .ok (.iload_n 3, 1) := by decide +kernel
theorem dX2_nextOf_37 : decode cX2_nextOf 37 = .ok (.ireturn, 1) := by decide +kernel
theorem dX2_nextOf_38 : decode cX2_nextOf 38 = .ok (.iinc 3 1, 3) := by decide +kernel
theorem dX2_nextOf_41 : decode cX2_nextOf 41 = .ok (.goto (-26), 3) := by decide +kernel
theorem dX2_nextOf_44 : decode cX2_nextOf 44 = .ok (.iconst (-1), 1) := by decide +kernel
theorem dX2_nextOf_45 : decode cX2_nextOf 45 = .ok (.ireturn, 1) := by decide +kernel
theorem dX2_choose_0 : decode cX2_choose 0 = .ok (.iconst 0, 1) := by decide +kernel
theorem dX2_choose_1 : decode cX2_choose 1 = .ok (.istore 4, 2) := by decide +kernel
theorem dX2_choose_3 : decode cX2_choose 3 = .ok (.iconst 0, 1) := by decide +kernel
theorem dX2_choose_4 : decode cX2_choose 4 = .ok (.istore 5, 2) := by decide +kernel
theorem dX2_choose_6 : decode cX2_choose 6 = .ok (.iload 5, 2) := by decide +kernel
theorem dX2_choose_8 : decode cX2_choose 8 = .ok (.iload_n 2, 1) := by decide +kernel
theorem dX2_choose_9 : decode cX2_choose 9 = .ok (.if_icmp .ge 64, 3) := by decide +kernel
theorem dX2_choose_12 : decode cX2_choose 12 = .ok (.aload_n 0, 1) := by decide +kernel
theorem dX2_choose_13 : decode cX2_choose 13 = .ok (.getfield 28, 3) := by decide +kernel
theorem dX2_choose_16 : decode cX2_choose 16 = .ok (.ifCond .eq 57, 3) := by decide +kernel
theorem dX2_choose_19 : decode cX2_choose 19 = .ok (.iconst 0, 1) := by decide +kernel
theorem dX2_choose_20 : decode cX2_choose 20 = .ok (.istore 6, 2) := by decide +kernel
theorem dX2_choose_22 : decode cX2_choose 22 = .ok (.iload 6, 2) := by decide +kernel
theorem dX2_choose_24 : decode cX2_choose 24 = .ok (.aload_n 0, 1) := by decide +kernel
theorem dX2_choose_25 : decode cX2_choose 25 = .ok (.getfield 15, 3) := by decide +kernel
theorem dX2_choose_28 : decode cX2_choose 28 = .ok (.if_icmp .ge 39, 3) := by decide +kernel
theorem dX2_choose_31 : decode cX2_choose 31 = .ok (.aload_n 0, 1) := by decide +kernel
theorem dX2_choose_32 : decode cX2_choose 32 = .ok (.getfield 31, 3) := by decide +kernel
theorem dX2_choose_35 : decode cX2_choose 35 = .ok (.iload 6, 2) := by decide +kernel
theorem dX2_choose_37 : decode cX2_choose 37 = .ok (.iaload, 1) := by decide +kernel
theorem dX2_choose_38 : decode cX2_choose 38 = .ok (.aload_n 1, 1) := by decide +kernel
theorem dX2_choose_39 : decode cX2_choose 39 = .ok (.iload 5, 2) := by decide +kernel
theorem dX2_choose_41 : decode cX2_choose 41 = .ok (.iaload, 1) := by decide +kernel
theorem dX2_choose_42 : decode cX2_choose 42 = .ok (.if_icmp .ne 19, 3) := by decide +kernel
theorem dX2_choose_45 : decode cX2_choose 45 = .ok (.iload 4, 2) := by decide +kernel
theorem dX2_choose_47 : decode cX2_choose 47 = .ok (.aload_n 3, 1) := by decide +kernel
theorem dX2_choose_48 : decode cX2_choose 48 = .ok (.arraylength, 1) := by decide +kernel
theorem dX2_choose_49 : decode cX2_choose 49 = .ok (.if_icmp .ge 12, 3) := by decide +kernel
theorem dX2_choose_52 : decode cX2_choose 52 = .ok (.aload_n 3, 1) := by decide +kernel
theorem dX2_choose_53 : decode cX2_choose 53 = .ok (.iload 4, 2) := by decide +kernel
theorem dX2_choose_55 : decode cX2_choose 55 = .ok (.iload 6, 2) := by decide +kernel
theorem dX2_choose_57 : decode cX2_choose 57 = .ok (.iastore, 1) := by decide +kernel
theorem dX2_choose_58 : decode cX2_choose 58 = .ok (.iinc 4 1, 3) := by decide +kernel
theorem dX2_choose_61 : decode cX2_choose 61 = .ok (.iinc 6 1, 3) := by decide +kernel
theorem dX2_choose_64 : decode cX2_choose 64 = .ok (.goto (-42), 3) := by decide +kernel
theorem dX2_choose_67 : decode cX2_choose 67 = .ok (.iinc 5 1, 3) := by decide +kernel
theorem dX2_choose_70 : decode cX2_choose 70 = .ok (.goto (-64), 3) := by decide +kernel
theorem dX2_choose_73 : decode cX2_choose 73 = .ok (.iload 4, 2) := by decide +kernel
theorem dX2_choose_75 : decode cX2_choose 75 = .ok (.ireturn, 1) := by decide +kernel
theorem dX2_isBefore_0 : decode cX2_isBefore 0 = .ok (.aload_n 0, 1) := by decide +kernel
theorem dX2_isBefore_1 : decode cX2_isBefore 1 = .ok (.getfield 28, 3) := by decide +kernel
theorem dX2_isBefore_4 : decode cX2_isBefore 4 = .ok (.ifCond .eq 10, 3) := by decide +kernel
theorem dX2_isBefore_7 : decode cX2_isBefore 7 = .ok (.aload_n 1, 1) := by decide +kernel
theorem dX2_isBefore_8 : decode cX2_isBefore 8 = .ok (.getfield 28, 3) := by decide +kernel
theorem dX2_isBefore_11 : decode cX2_isBefore 11 = .ok (.ifCond .ne 8, 3) := by decide +kernel
theorem dX2_isBefore_14 : decode cX2_isBefore 14 = .ok (.aload_n 0, 1) := by decide +kernel
theorem dX2_isBefore_15 : decode cX2_isBefore 15 = .ok (.getfield 28, 3) := by decide +kernel
theorem dX2_isBefore_18 : decode cX2_isBefore 18 = .ok (.ireturn, 1) := by decide +kernel
theorem dX2_isBefore_19 : decode cX2_isBefore 19 = .ok (.iconst 0, 1) := by decide +kernel
theorem dX2_isBefore_20 : decode cX2_isBefore 20 = .ok (.istore_n 2, 1) := by decide +kernel
theorem dX2_isBefore_21 : decode cX2_isBefore 21 = .ok (.iload_n 2, 1) := by decide +kernel
theorem dX2_isBefore_22 : decode cX2_isBefore 22 = .ok (.aload_n 0, 1) := by decide +kernel
theorem dX2_isBefore_23 : decode cX2_isBefore 23 = .ok (.getfield 38, 3) := by decide +kernel
theorem dX2_isBefore_26 : decode cX2_isBefore 26 = .ok (.if_icmp .ge 57, 3) := by decide +kernel
theorem dX2_isBefore_29 : decode cX2_isBefore 29 = .ok (.iload_n 2, 1) := by decide +kernel
theorem dX2_isBefore_30 : decode cX2_isBefore 30 = .ok (.aload_n 1, 1) := by decide +kernel
theorem dX2_isBefore_31 : decode cX2_isBefore 31 = .ok (.getfield 38, 3) := by decide +kernel
theorem dX2_isBefore_34 : decode cX2_isBefore 34 = .ok (.if_icmp .ge 49, 3) := by decide +kernel
theorem dX2_isBefore_37 : decode cX2_isBefore 37 = .ok (.aload_n 0, 1) := by decide +kernel
theorem dX2_isBefore_38 : decode cX2_isBefore 38 = .ok (.getfield 20, 3) := by decide +kernel
theorem dX2_isBefore_41 : decode cX2_isBefore 41 = .ok (.aload_n 0, 1) := by decide +kernel
theorem dX2_isBefore_42 : decode cX2_isBefore 42 = .ok (.getfield 35, 3) := by decide +kernel
theorem dX2_isBefore_45 : decode cX2_isBefore 45 = .ok (.iload_n 2, 1) := by decide +kernel
theorem dX2_isBefore_46 : decode cX2_isBefore 46 = .ok (.iaload, 1) := by decide +kernel
theorem dX2_isBefore_47 : decode cX2_isBefore 47 = .ok (.aaload, 1) := by decide +kernel
theorem dX2_isBefore_48 : decode cX2_isBefore 48 = .ok (.aload_n 1, 1) := by decide +kernel
theorem dX2_isBefore_49 : decode cX2_isBefore 49 = .ok (.getfield 20, 3) := by decide +kernel
theorem dX2_isBefore_52 : decode cX2_isBefore 52 = .ok (.aload_n 1, 1) := by decide +kernel
theorem dX2_isBefore_53 : decode cX2_isBefore 53 = .ok (.getfield 35, 3) := by decide +kernel
theorem dX2_isBefore_56 : decode cX2_isBefore 56 = .ok (.iload_n 2, 1) := by decide +kernel
theorem dX2_isBefore_57 : decode cX2_isBefore 57 = .ok (.iaload, 1) := by decide +kernel
theorem dX2_isBefore_58 : decode cX2_isBefore 58 = .ok (.aaload, 1) := by decide +kernel
theorem dX2_isBefore_59 : decode cX2_isBefore 59 = .ok (.invokevirtual 56, 3) := by decide +kernel
theorem dX2_isBefore_62 : decode cX2_isBefore 62 = .ok (.istore_n 3, 1) := by decide +kernel
theorem dX2_isBefore_63 : decode cX2_isBefore 63 = .ok (.iload_n 3, 1) := by decide +kernel
theorem dX2_isBefore_64 : decode cX2_isBefore 64 = .ok (.ifCond .eq 13, 3) := by decide +kernel
theorem dX2_isBefore_67 : decode cX2_isBefore 67 = .ok (.iload_n 3, 1) := by decide +kernel
theorem dX2_isBefore_68 : decode cX2_isBefore 68 = .ok (.ifCond .ge 7, 3) := by decide +kernel
theorem dX2_isBefore_71 : decode cX2_isBefore 71 = .ok (.iconst 1, 1) := by decide +kernel
theorem dX2_isBefore_72 : decode cX2_isBefore 72 = .ok (.goto 4, 3) := by decide +kernel
theorem dX2_isBefore_75 : decode cX2_isBefore 75 = .ok (.iconst 0, 1) := by decide +kernel
theorem dX2_isBefore_76 : decode cX2_isBefore 76 = .ok (.ireturn, 1) := by decide +kernel
theorem dX2_isBefore_77 : decode cX2_isBefore 77 = .ok (.iinc 2 1, 3) := by decide +kernel
theorem dX2_isBefore_80 : decode cX2_isBefore 80 = .ok (.goto (-59), 3) := by decide +kernel
theorem dX2_isBefore_83 : decode cX2_isBefore 83 = .ok (.aload_n 0, 1) := by decide +kernel
theorem dX2_isBefore_84 : decode cX2_isBefore 84 = .ok (.getfield 38, 3) := by decide +kernel
theorem dX2_isBefore_87 : decode cX2_isBefore 87 = .ok (.aload_n 1, 1) := by decide +kernel
theorem dX2_isBefore_88 : decode cX2_isBefore 88 = .ok (.getfield 38, 3) := by decide +kernel
theorem dX2_isBefore_91 : decode cX2_isBefore 91 = .ok (.if_icmp .ge 7, 3) := by decide +kernel
theorem dX2_isBefore_94 : decode cX2_isBefore 94 = .ok (.iconst 1, 1) := by decide +kernel
theorem dX2_isBefore_95 : decode cX2_isBefore 95 = .ok (.goto 4, 3) := by decide +kernel
theorem dX2_isBefore_98 : decode cX2_isBefore 98 = .ok (.iconst 0, 1) := by decide +kernel
theorem dX2_isBefore_99 : decode cX2_isBefore 99 = .ok (.ireturn, 1) := by decide +kernel
theorem dX2_alikeFolded_0 : decode cX2_alikeFolded 0 = .ok (.aload_n 0, 1) := by decide +kernel
theorem dX2_alikeFolded_1 : decode cX2_alikeFolded 1 = .ok (.getfield 15, 3) := by decide +kernel
theorem dX2_alikeFolded_4 : decode cX2_alikeFolded 4 = .ok (.aload_n 1, 1) := by decide +kernel
theorem dX2_alikeFolded_5 : decode cX2_alikeFolded 5 = .ok (.getfield 15, 3) := by decide +kernel
theorem dX2_alikeFolded_8 : decode cX2_alikeFolded 8 = .ok (.if_icmp .eq 5, 3) := by decide +kernel
theorem dX2_alikeFolded_11 : decode cX2_alikeFolded 11 = .ok (.iconst 0, 1) := by decide +kernel
theorem dX2_alikeFolded_12 : decode cX2_alikeFolded 12 = .ok (.ireturn, 1) := by decide +kernel
theorem dX2_alikeFolded_13 : decode cX2_alikeFolded 13 = .ok (.iconst 0, 1) := by decide +kernel
theorem dX2_alikeFolded_14 : decode cX2_alikeFolded 14 = .ok (.istore_n 2, 1) := by decide +kernel
theorem dX2_alikeFolded_15 : decode cX2_alikeFolded 15 = .ok (.iload_n 2, 1) := by decide +kernel
theorem dX2_alikeFolded_16 : decode cX2_alikeFolded 16 = .ok (.aload_n 0, 1) := by decide +kernel
theorem dX2_alikeFolded_17 : decode cX2_alikeFolded 17 = .ok (.getfield 15, 3) := by decide +kernel
theorem dX2_alikeFolded_20 : decode cX2_alikeFolded 20 = .ok (.if_icmp .ge 29, 3) := by decide +kernel
theorem dX2_alikeFolded_23 : decode cX2_alikeFolded 23 = .ok (.aload_n 0, 1) := by decide +kernel
theorem dX2_alikeFolded_24 : decode cX2_alikeFolded 24 = .ok (.getfield 20, 3) := by decide +kernel
theorem dX2_alikeFolded_27 : decode cX2_alikeFolded 27 = .ok (.iload_n 2, 1) := by decide +kernel
theorem dX2_alikeFolded_28 : decode cX2_alikeFolded 28 = .ok (.aaload, 1) := by decide +kernel
theorem dX2_alikeFolded_29 : decode cX2_alikeFolded 29 = .ok (.aload_n 1, 1) := by decide +kernel
theorem dX2_alikeFolded_30 : decode cX2_alikeFolded 30 = .ok (.getfield 20, 3) := by decide +kernel
theorem dX2_alikeFolded_33 : decode cX2_alikeFolded 33 = .ok (.iload_n 2, 1) := by decide +kernel
theorem dX2_alikeFolded_34 : decode cX2_alikeFolded 34 = .ok (.aaload, 1) := by decide +kernel
theorem dX2_alikeFolded_35 : decode cX2_alikeFolded 35 = .ok (.invokevirtual 60, 3) := by decide +kernel
theorem dX2_alikeFolded_38 : decode cX2_alikeFolded 38 = .ok (.ifCond .ne 5, 3) := by decide +kernel
theorem dX2_alikeFolded_41 : decode cX2_alikeFolded 41 = .ok (.iconst 0, 1) := by decide +kernel
theorem dX2_alikeFolded_42 : decode cX2_alikeFolded 42 = .ok (.ireturn, 1) := by decide +kernel
theorem dX2_alikeFolded_43 : decode cX2_alikeFolded 43 = .ok (.iinc 2 1, 3) := by decide +kernel
theorem dX2_alikeFolded_46 : decode cX2_alikeFolded 46 = .ok (.goto (-31), 3) := by decide +kernel
theorem dX2_alikeFolded_49 : decode cX2_alikeFolded 49 = .ok (.iconst 1, 1) := by decide +kernel
theorem dX2_alikeFolded_50 : decode cX2_alikeFolded 50 = .ok (.ireturn, 1) := by decide +kernel
theorem dX3_init_0 : decode cX3_init 0 = .ok (.aload_n 0, 1) := by decide +kernel
theorem dX3_init_1 : decode cX3_init 1 = .ok (.invokespecial 3, 3) := by decide +kernel
theorem dX3_init_4 : decode cX3_init 4 = .ok (.aload_n 0, 1) := by decide +kernel
theorem dX3_init_5 : decode cX3_init 5 = .ok (.new 9, 3) := by decide +kernel
theorem dX3_init_8 : decode cX3_init 8 = .ok (.dup, 1) := by decide +kernel
theorem dX3_init_9 : decode cX3_init 9 = .ok (.invokespecial 11, 3) := by decide +kernel
theorem dX3_init_12 : decode cX3_init 12 = .ok (.putfield 12, 3) := by decide +kernel
theorem dX3_init_15 : decode cX3_init 15 = .ok (.aload_n 0, 1) := by decide +kernel
theorem dX3_init_16 : decode cX3_init 16 = .ok (.iconst 0, 1) := by decide +kernel
theorem dX3_init_17 : decode cX3_init 17 = .ok (.putfield 18, 3) := by decide +kernel
theorem dX3_init_20 : decode cX3_init 20 = .ok (.aload_n 0, 1) := by decide +kernel
theorem dX3_init_21 : decode cX3_init 21 = .ok (.bipush 8, 2) := by decide +kernel
theorem dX3_init_23 : decode cX3_init 23 = .ok (.bipush 7, 2) := by decide +kernel
theorem dX3_init_25 : decode cX3_init 25 = .ok (.multianewarray 22 2, 4) := by decide +kernel
theorem dX3_init_29 : decode cX3_init 29 = .ok (.putfield 24, 3) := by decide +kernel
theorem dX3_init_32 : decode cX3_init 32 = .ok (.aload_n 0, 1) := by decide +kernel
theorem dX3_init_33 : decode cX3_init 33 = .ok (.bipush 8, 2) := by decide +kernel
theorem dX3_init_35 : decode cX3_init 35 = .ok (.bipush 8, 2) := by decide +kernel
theorem dX3_init_37 : decode cX3_init 37 = .ok (.multianewarray 22 2, 4) := by decide +kernel
theorem dX3_init_41 : decode cX3_init 41 = .ok (.putfield 27, 3) := by decide +kernel
theorem dX3_init_44 : decode cX3_init 44 = .ok (.aload_n 0, 1) := by decide +kernel
theorem dX3_init_45 : decode cX3_init 45 = .ok (.sipush 6435, 3) := by decide +kernel
theorem dX3_init_48 : decode cX3_init 48 = .ok (.newarray .long, 2) := by decide +kernel
theorem dX3_init_50 : decode cX3_init 50 = .ok (.putfield 30, 3) := by decide +kernel
theorem dX3_init_53 : decode cX3_init 53 = .ok (.aload_n 0, 1) := by decide +kernel
theorem dX3_init_54 : decode cX3_init 54 = .ok (.sipush 6435, 3) := by decide +kernel
theorem dX3_init_57 : decode cX3_init 57 = .ok (.newarray .long, 2) := by decide +kernel
theorem dX3_init_59 : decode cX3_init 59 = .ok (.putfield 34, 3) := by decide +kernel
theorem dX3_init_62 : decode cX3_init 62 = .ok (.aload_n 0, 1) := by decide +kernel
theorem dX3_init_63 : decode cX3_init 63 = .ok (.iconst 0, 1) := by decide +kernel
theorem dX3_init_64 : decode cX3_init 64 = .ok (.putfield 37, 3) := by decide +kernel
theorem dX3_init_67 : decode cX3_init 67 = .ok (.aload_n 0, 1) := by decide +kernel
theorem dX3_init_68 : decode cX3_init 68 = .ok (.bipush 41, 2) := by decide +kernel
theorem dX3_init_70 : decode cX3_init 70 = .ok (.newarray .int, 2) := by decide +kernel
theorem dX3_init_72 : decode cX3_init 72 = .ok (.putfield 40, 3) := by decide +kernel
theorem dX3_init_75 : decode cX3_init 75 = .ok (.return_, 1) := by decide +kernel
theorem dX3_weigh_0 : decode cX3_weigh 0 = .ok (.aload_n 0, 1) := by decide +kernel
theorem dX3_weigh_1 : decode cX3_weigh 1 = .ok (.aload_n 2, 1) := by decide +kernel
theorem dX3_weigh_2 : decode cX3_weigh 2 = .ok (.putfield 12, 3) := by decide +kernel
theorem dX3_weigh_5 : decode cX3_weigh 5 = .ok (.aload_n 0, 1) := by decide +kernel
theorem dX3_weigh_6 : decode cX3_weigh 6 = .ok (.aload_n 1, 1) := by decide +kernel
theorem dX3_weigh_7 : decode cX3_weigh 7 = .ok (.getfield 44, 3) := by decide +kernel
theorem dX3_weigh_10 : decode cX3_weigh 10 = .ok (.bipush 8, 2) := by decide +kernel
theorem dX3_weigh_12 : decode cX3_weigh 12 = .ok (.invokestatic 47, 3) := by decide +kernel
theorem dX3_weigh_15 : decode cX3_weigh 15 = .ok (.putfield 18, 3) := by decide +kernel
theorem dX3_weigh_18 : decode cX3_weigh 18 = .ok (.iconst 0, 1) := by decide +kernel
theorem dX3_weigh_19 : decode cX3_weigh 19 = .ok (.istore 4, 2) := by decide +kernel
theorem dX3_weigh_21 : decode cX3_weigh 21 = .ok (.iload 4, 2) := by decide +kernel
theorem dX3_weigh_23 : decode cX3_weigh 23 = .ok (.aload_n 0, 1) := by decide +kernel
theorem dX3_weigh_24 : decode cX3_weigh 24 = .ok (.getfield 18, 3) := by decide +kernel
theorem dX3_weigh_27 : decode cX3_weigh 27 = .ok (.if_icmp .ge 32, 3) := by decide +kernel
theorem dX3_weigh_30 : decode cX3_weigh 30 = .ok (.aload_n 0, 1) := by decide +kernel
theorem dX3_weigh_31 : decode cX3_weigh 31 = .ok (.aload_n 1, 1) := by decide +kernel
theorem dX3_weigh_32 : decode cX3_weigh 32 = .ok (.getfield 53, 3) := by decide +kernel
theorem dX3_weigh_35 : decode cX3_weigh 35 = .ok (.iload 4, 2) := by decide +kernel
theorem dX3_weigh_37 : decode cX3_weigh 37 = .ok (.aaload, 1) := by decide +kernel
theorem dX3_weigh_38 : decode cX3_weigh 38 = .ok (.aload_n 1, 1) := by decide +kernel
theorem dX3_weigh_39 : decode cX3_weigh 39 = .ok (.getfield 57, 3) := by decide +kernel
theorem dX3_weigh_42 : decode cX3_weigh 42 = .ok (.aload_n 3, 1) := by decide +kernel
theorem dX3_weigh_43 : decode cX3_weigh 43 = .ok (.aload_n 0, 1) := by decide +kernel
theorem dX3_weigh_44 : decode cX3_weigh 44 = .ok (.getfield 24, 3) := by decide +kernel
theorem dX3_weigh_47 : decode cX3_weigh 47 = .ok (.iload 4, 2) := by decide +kernel
theorem dX3_weigh_49 : decode cX3_weigh 49 = .ok (.aaload, 1) := by decide +kernel
theorem dX3_weigh_50 : decode cX3_weigh 50 = .ok (.invokevirtual 60, 3) := by decide +kernel
theorem dX3_weigh_53 : decode cX3_weigh 53 = .ok (.iinc 4 1, 3) := by decide +kernel
theorem dX3_weigh_56 : decode cX3_weigh 56 = .ok (.goto (-35), 3) := by decide +kernel
theorem dX3_weigh_59 : decode cX3_weigh 59 = .ok (.aload_n 0, 1) := by decide +kernel
theorem dX3_weigh_60 : decode cX3_weigh 60 = .ok (.getfield 18, 3) := by decide +kernel
theorem dX3_weigh_63 : decode cX3_weigh 63 = .ok (.iconst 1, 1) := by decide +kernel
theorem dX3_weigh_64 : decode cX3_weigh 64 = .ok (.isub, 1) := by decide +kernel
theorem dX3_weigh_65 : decode cX3_weigh 65 = .ok (.istore 4, 2) := by decide +kernel
theorem dX3_weigh_67 : decode cX3_weigh 67 = .ok (.iload 4, 2) := by decide +kernel
theorem dX3_weigh_69 : decode cX3_weigh 69 = .ok (.ifCond .lt 87, 3) := by decide +kernel
theorem dX3_weigh_72 : decode cX3_weigh 72 = .ok (.iconst 0, 1) := by decide +kernel
theorem dX3_weigh_73 : decode cX3_weigh 73 = .ok (.istore 5, 2) := by decide +kernel
theorem dX3_weigh_75 : decode cX3_weigh 75 = .ok (.iload 5, 2) := by decide +kernel
theorem dX3_weigh_77 : decode cX3_weigh 77 = .ok (.aload_n 0, 1) := by decide +kernel
theorem dX3_weigh_78 : decode cX3_weigh 78 = .ok (.getfield 12, 3) := by decide +kernel
theorem dX3_weigh_81 : decode cX3_weigh 81 = .ok (.getfield 64, 3) := by decide +kernel
theorem dX3_weigh_84 : decode cX3_weigh 84 = .ok (.if_icmp .ge 66, 3) := by decide +kernel
theorem dX3_weigh_87 : decode cX3_weigh 87 = .ok (.aload_n 0, 1) := by decide +kernel
theorem dX3_weigh_88 : decode cX3_weigh 88 = .ok (.getfield 24, 3) := by decide +kernel
theorem dX3_weigh_91 : decode cX3_weigh 91 = .ok (.iload 4, 2) := by decide +kernel
theorem dX3_weigh_93 : decode cX3_weigh 93 = .ok (.aaload, 1) := by decide +kernel
theorem dX3_weigh_94 : decode cX3_weigh 94 = .ok (.aload_n 0, 1) := by decide +kernel
theorem dX3_weigh_95 : decode cX3_weigh 95 = .ok (.getfield 12, 3) := by decide +kernel
theorem dX3_weigh_98 : decode cX3_weigh 98 = .ok (.getfield 67, 3) := by decide +kernel
theorem dX3_weigh_101 : decode cX3_weigh 101 = .ok (.iload 5, 2) := by decide +kernel
theorem dX3_weigh_103 : decode cX3_weigh 103 = .ok (.iaload, 1) := by decide +kernel
theorem dX3_weigh_104 : decode cX3_weigh 104 = .ok (.iaload, 1) := by decide +kernel
theorem dX3_weigh_105 : decode cX3_weigh 105 = .ok (.aload_n 0, 1) := by decide +kernel
theorem dX3_weigh_106 : decode cX3_weigh 106 = .ok (.iload 4, 2) := by decide +kernel
theorem dX3_weigh_108 : decode cX3_weigh 108 = .ok (.iconst 1, 1) := by decide +kernel
theorem dX3_weigh_109 : decode cX3_weigh 109 = .ok (.iadd, 1) := by decide +kernel
theorem dX3_weigh_110 : decode cX3_weigh 110 = .ok (.aload_n 0, 1) := by decide +kernel
theorem dX3_weigh_111 : decode cX3_weigh 111 = .ok (.getfield 12, 3) := by decide +kernel
theorem dX3_weigh_114 : decode cX3_weigh 114 = .ok (.getfield 70, 3) := by decide +kernel
theorem dX3_weigh_117 : decode cX3_weigh 117 = .ok (.iload 5, 2) := by decide +kernel
theorem dX3_weigh_119 : decode cX3_weigh 119 = .ok (.iaload, 1) := by decide +kernel
theorem dX3_weigh_120 : decode cX3_weigh 120 = .ok (.invokevirtual 73, 3) := by decide +kernel
theorem dX3_weigh_123 : decode cX3_weigh 123 = .ok (.iadd, 1) := by decide +kernel
theorem dX3_weigh_124 : decode cX3_weigh 124 = .ok (.istore 6, 2) := by decide +kernel
theorem dX3_weigh_126 : decode cX3_weigh 126 = .ok (.aload_n 0, 1) := by decide +kernel
theorem dX3_weigh_127 : decode cX3_weigh 127 = .ok (.getfield 27, 3) := by decide +kernel
theorem dX3_weigh_130 : decode cX3_weigh 130 = .ok (.iload 4, 2) := by decide +kernel
theorem dX3_weigh_132 : decode cX3_weigh 132 = .ok (.aaload, 1) := by decide +kernel
theorem dX3_weigh_133 : decode cX3_weigh 133 = .ok (.iload 5, 2) := by decide +kernel
theorem dX3_weigh_135 : decode cX3_weigh 135 = .ok (.iload 6, 2) := by decide +kernel
theorem dX3_weigh_137 : decode cX3_weigh 137 = .ok (.sipush 1000, 3) := by decide +kernel
theorem dX3_weigh_140 : decode cX3_weigh 140 = .ok (.invokestatic 47, 3) := by decide +kernel
theorem dX3_weigh_143 : decode cX3_weigh 143 = .ok (.iastore, 1) := by decide +kernel
theorem dX3_weigh_144 : decode cX3_weigh 144 = .ok (.iinc 5 1, 3) := by decide +kernel
theorem dX3_weigh_147 : decode cX3_weigh 147 = .ok (.goto (-72), 3) := by decide +kernel
theorem dX3_weigh_150 : decode cX3_weigh 150 = .ok (.iinc 4 (-1), 3) := by decide +kernel
theorem dX3_weigh_153 : decode cX3_weigh 153 = .ok (.goto (-86), 3) := by decide +kernel
theorem dX3_weigh_156 : decode cX3_weigh 156 = .ok (.return_, 1) := by decide +kernel
theorem dX3_weighWord_0 : decode cX3_weighWord 0 = .ok (.aload_n 3, 1) := by decide +kernel
theorem dX3_weighWord_1 : decode cX3_weighWord 1 = .ok (.iload_n 2, 1) := by decide +kernel
theorem dX3_weighWord_2 : decode cX3_weighWord 2 = .ok (.aload_n 1, 1) := by decide +kernel
theorem dX3_weighWord_3 : decode cX3_weighWord 3 = .ok (.aload_n 1, 1) := by decide +kernel
theorem dX3_weighWord_4 : decode cX3_weighWord 4 = .ok (.getfield 76, 3) := by decide +kernel
theorem dX3_weighWord_7 : decode cX3_weighWord 7 = .ok (.invokevirtual 81, 3) := by decide +kernel
theorem dX3_weighWord_10 : decode cX3_weighWord 10 = .ok (.istore 5, 2) := by decide +kernel
theorem dX3_weighWord_12 : decode cX3_weighWord 12 = .ok (.iload 5, 2) := by decide +kernel
theorem dX3_weighWord_14 : decode cX3_weighWord 14 = .ok (.bipush 13, 2) := by decide +kernel
theorem dX3_weighWord_16 : decode cX3_weighWord 16 = .ok (.iand, 1) := by decide +kernel
theorem dX3_weighWord_17 : decode cX3_weighWord 17 = .ok (.ifCond .eq 7, 3) := by decide +kernel
theorem dX3_weighWord_20 : decode cX3_weighWord 20 = .ok (.iconst 1, 1) := by decide +kernel
theorem dX3_weighWord_21 : decode cX3_weighWord 21 = .ok (.goto 4, 3) := by decide +kernel
theorem dX3_weighWord_24 : decode cX3_weighWord 24 = .ok (.iconst 0, 1) := by decide +kernel
theorem dX3_weighWord_25 : decode cX3_weighWord 25 = .ok (.istore 6, 2) := by decide +kernel
theorem dX3_weighWord_27 : decode cX3_weighWord 27 = .ok (.iconst 0, 1) := by decide +kernel
theorem dX3_weighWord_28 : decode cX3_weighWord 28 = .ok (.istore 7, 2) := by decide +kernel
theorem dX3_weighWord_30 : decode cX3_weighWord 30 = .ok (.iload 7, 2) := by decide +kernel
theorem dX3_weighWord_32 : decode cX3_weighWord 32 = .ok (.iconst 4, 1) := by decide +kernel
theorem dX3_weighWord_33 : decode cX3_weighWord 33 = .ok (.if_icmp .gt 66, 3) := by decide +kernel
theorem dX3_weighWord_36 : decode cX3_weighWord 36 = .ok (.iload 5, 2) := by decide +kernel
theorem dX3_weighWord_38 : decode cX3_weighWord 38 = .ok (.iload 7, 2) := by decide +kernel
theorem dX3_weighWord_40 : decode cX3_weighWord 40 = .ok (.ishr, 1) := by decide +kernel
theorem dX3_weighWord_41 : decode cX3_weighWord 41 = .ok (.iconst 1, 1) := by decide +kernel
theorem dX3_weighWord_42 : decode cX3_weighWord 42 = .ok (.iand, 1) := by decide +kernel
theorem dX3_weighWord_43 : decode cX3_weighWord 43 = .ok (.ifCond .eq 12, 3) := by decide +kernel
theorem dX3_weighWord_46 : decode cX3_weighWord 46 = .ok (.aload 4, 2) := by decide +kernel
theorem dX3_weighWord_48 : decode cX3_weighWord 48 = .ok (.iload 7, 2) := by decide +kernel
theorem dX3_weighWord_50 : decode cX3_weighWord 50 = .ok (.iconst 0, 1) := by decide +kernel
theorem dX3_weighWord_51 : decode cX3_weighWord 51 = .ok (.iastore, 1) := by decide +kernel
theorem dX3_weighWord_52 : decode cX3_weighWord 52 = .ok (.goto 41, 3) := by decide +kernel
theorem dX3_weighWord_55 : decode cX3_weighWord 55 = .ok (.iload 7, 2) := by decide +kernel
theorem dX3_weighWord_57 : decode cX3_weighWord 57 = .ok (.iconst 1, 1) := by decide +kernel
theorem dX3_weighWord_58 : decode cX3_weighWord 58 = .ok (.if_icmp .eq 9, 3) := by decide +kernel
theorem dX3_weighWord_61 : decode cX3_weighWord 61 = .ok (.iload 7, 2) := by decide +kernel
theorem dX3_weighWord_63 : decode cX3_weighWord 63 = .ok (.iconst 4, 1) := by decide +kernel
theorem dX3_weighWord_64 : decode cX3_weighWord 64 = .ok (.if_icmp .ne 21, 3) := by decide +kernel
theorem dX3_weighWord_67 : decode cX3_weighWord 67 = .ok (.aload 4, 2) := by decide +kernel
theorem dX3_weighWord_69 : decode cX3_weighWord 69 = .ok (.iload 7, 2) := by decide +kernel
theorem dX3_weighWord_71 : decode cX3_weighWord 71 = .ok (.iload 6, 2) := by decide +kernel
theorem dX3_weighWord_73 : decode cX3_weighWord 73 = .ok (.ifCond .eq 7, 3) := by decide +kernel
theorem dX3_weighWord_76 : decode cX3_weighWord 76 = .ok (.iconst 5, 1) := by decide +kernel
theorem dX3_weighWord_77 : decode cX3_weighWord 77 = .ok (.goto 4, 3) := by decide +kernel
theorem dX3_weighWord_80 : decode cX3_weighWord 80 = .ok (.iconst 2, 1) := by decide +kernel
theorem dX3_weighWord_81 : decode cX3_weighWord 81 = .ok (.iastore, 1) := by decide +kernel
theorem dX3_weighWord_82 : decode cX3_weighWord 82 = .ok (.goto 11, 3) := by decide +kernel
theorem dX3_weighWord_85 : decode cX3_weighWord 85 = .ok (.aload 4, 2) := by decide +kernel
theorem dX3_weighWord_87 : decode cX3_weighWord 87 = .ok (.iload 7, 2) := by decide +kernel
theorem dX3_weighWord_89 : decode cX3_weighWord 89 = .ok (.sipush 1000, 3) := by decide +kernel
theorem dX3_weighWord_92 : decode cX3_weighWord 92 = .ok (.iastore, 1) := by decide +kernel
theorem dX3_weighWord_93 : decode cX3_weighWord 93 = .ok (.iinc 7 1, 3) := by decide +kernel
theorem dX3_weighWord_96 : decode cX3_weighWord 96 = .ok (.goto (-66), 3) := by decide +kernel
theorem dX3_weighWord_99 : decode cX3_weighWord 99 = .ok (.aload 4, 2) := by decide +kernel
theorem dX3_weighWord_101 : decode cX3_weighWord 101 = .ok (.iconst 5, 1) := by decide +kernel
theorem dX3_weighWord_102 : decode cX3_weighWord 102 = .ok (.sipush 1000, 3) := by decide +kernel
theorem dX3_weighWord_105 : decode cX3_weighWord 105 = .ok (.iastore, 1) := by decide +kernel
theorem dX3_weighWord_106 : decode cX3_weighWord 106 = .ok (.aload_n 0, 1) := by decide +kernel
theorem dX3_weighWord_107 : decode cX3_weighWord 107 = .ok (.getfield 12, 3) := by decide +kernel
theorem dX3_weighWord_110 : decode cX3_weighWord 110 = .ok (.aload_n 1, 1) := by decide +kernel
theorem dX3_weighWord_111 : decode cX3_weighWord 111 = .ok (.invokevirtual 87, 3) := by decide +kernel
theorem dX3_weighWord_114 : decode cX3_weighWord 114 = .ok (.ifCond .eq 41, 3) := by decide +kernel
theorem dX3_weighWord_117 : decode cX3_weighWord 117 = .ok (.aload_n 3, 1) := by decide +kernel
theorem dX3_weighWord_118 : decode cX3_weighWord 118 = .ok (.iload_n 2, 1) := by decide +kernel
theorem dX3_weighWord_119 : decode cX3_weighWord 119 = .ok (.aload_n 1, 1) := by decide +kernel
theorem dX3_weighWord_120 : decode cX3_weighWord 120 = .ok (.aload_n 1, 1) := by decide +kernel
theorem dX3_weighWord_121 : decode cX3_weighWord 121 = .ok (.getfield 76, 3) := by decide +kernel
theorem dX3_weighWord_124 : decode cX3_weighWord 124 = .ok (.aload_n 0, 1) := by decide +kernel
theorem dX3_weighWord_125 : decode cX3_weighWord 125 = .ok (.getfield 12, 3) := by decide +kernel
theorem dX3_weighWord_128 : decode cX3_weighWord 128 = .ok (.getfield 91, 3) := by decide +kernel
theorem dX3_weighWord_131 : decode cX3_weighWord 131 = .ok (.isub, 1) := by decide +kernel
theorem dX3_weighWord_132 : decode cX3_weighWord 132 = .ok (.invokevirtual 81, 3) := by decide +kernel
theorem dX3_weighWord_135 : decode cX3_weighWord 135 = .ok (.istore 7, 2) := by decide +kernel
theorem dX3_weighWord_137 : decode cX3_weighWord 137 = .ok (.aload 4, 2) := by decide +kernel
theorem dX3_weighWord_139 : decode cX3_weighWord 139 = .ok (.iconst 5, 1) := by decide +kernel
theorem dX3_weighWord_140 : decode cX3_weighWord 140 = .ok (.iload 7, 2) := by decide +kernel
theorem dX3_weighWord_142 : decode cX3_weighWord 142 = .ok (.iconst 1, 1) := by decide +kernel
theorem dX3_weighWord_143 : decode cX3_weighWord 143 = .ok (.ishr, 1) := by decide +kernel
theorem dX3_weighWord_144 : decode cX3_weighWord 144 = .ok (.iconst 1, 1) := by decide +kernel
theorem dX3_weighWord_145 : decode cX3_weighWord 145 = .ok (.iand, 1) := by decide +kernel
theorem dX3_weighWord_146 : decode cX3_weighWord 146 = .ok (.ifCond .eq 7, 3) := by decide +kernel
theorem dX3_weighWord_149 : decode cX3_weighWord 149 = .ok (.iconst 0, 1) := by decide +kernel
theorem dX3_weighWord_150 : decode cX3_weighWord 150 = .ok (.goto 4, 3) := by decide +kernel
theorem dX3_weighWord_153 : decode cX3_weighWord 153 = .ok (.iconst 3, 1) := by decide +kernel
theorem dX3_weighWord_154 : decode cX3_weighWord 154 = .ok (.iastore, 1) := by decide +kernel
theorem dX3_weighWord_155 : decode cX3_weighWord 155 = .ok (.aload 4, 2) := by decide +kernel
theorem dX3_weighWord_157 : decode cX3_weighWord 157 = .ok (.bipush 6, 2) := by decide +kernel
theorem dX3_weighWord_159 : decode cX3_weighWord 159 = .ok (.aload_n 1, 1) := by decide +kernel
theorem dX3_weighWord_160 : decode cX3_weighWord 160 = .ok (.getfield 76, 3) := by decide +kernel
theorem dX3_weighWord_163 : decode cX3_weighWord 163 = .ok (.iconst 1, 1) := by decide +kernel
theorem dX3_weighWord_164 : decode cX3_weighWord 164 = .ok (.if_icmp .ne 7, 3) := by decide +kernel
theorem dX3_weighWord_167 : decode cX3_weighWord 167 = .ok (.iconst 0, 1) := by decide +kernel
theorem dX3_weighWord_168 : decode cX3_weighWord 168 = .ok (.goto 6, 3) := by decide +kernel
theorem dX3_weighWord_171 : decode cX3_weighWord 171 = .ok (.sipush 1000, 3) := by decide +kernel
theorem dX3_weighWord_174 : decode cX3_weighWord 174 = .ok (.iastore, 1) := by decide +kernel
theorem dX3_weighWord_175 : decode cX3_weighWord 175 = .ok (.return_, 1) := by decide +kernel
theorem dX3_leastFrom_0 : decode cX3_leastFrom 0 = .ok (.iload_n 1, 1) := by decide +kernel
theorem dX3_leastFrom_1 : decode cX3_leastFrom 1 = .ok (.aload_n 0, 1) := by decide +kernel
theorem dX3_leastFrom_2 : decode cX3_leastFrom 2 = .ok (.getfield 18, 3) := by decide +kernel
theorem dX3_leastFrom_5 : decode cX3_leastFrom 5 = .ok (.if_icmp .lt 19, 3) := by decide +kernel
theorem dX3_leastFrom_8 : decode cX3_leastFrom 8 = .ok (.iload_n 2, 1) := by decide +kernel
theorem dX3_leastFrom_9 : decode cX3_leastFrom 9 = .ok (.sipush 256, 3) := by decide +kernel
theorem dX3_leastFrom_12 : decode cX3_leastFrom 12 = .ok (.iand, 1) := by decide +kernel
theorem dX3_leastFrom_13 : decode cX3_leastFrom 13 = .ok (.ifCond .eq 7, 3) := by decide +kernel
theorem dX3_leastFrom_16 : decode cX3_leastFrom 16 = .ok (.iconst 0, 1) := by decide +kernel
theorem dX3_leastFrom_17 : decode cX3_leastFrom 17 = .ok (.goto 6, 3) := by decide +kernel
theorem dX3_leastFrom_20 : decode cX3_leastFrom 20 = .ok (.sipush 1000, 3) := by decide +kernel
theorem dX3_leastFrom_23 : decode cX3_leastFrom 23 = .ok (.ireturn, 1) := by decide +kernel
theorem dX3_leastFrom_24 : decode cX3_leastFrom 24 = .ok (.sipush 1000, 3) := by decide +kernel
theorem dX3_leastFrom_27 : decode cX3_leastFrom 27 = .ok (.istore_n 3, 1) := by decide +kernel
theorem dX3_leastFrom_28 : decode cX3_leastFrom 28 = .ok (.iconst 0, 1) := by decide +kernel
theorem dX3_leastFrom_29 : decode cX3_leastFrom 29 = .ok (.istore 4, 2) := by decide +kernel
theorem dX3_leastFrom_31 : decode cX3_leastFrom 31 = .ok (.iload 4, 2) := by decide +kernel
theorem dX3_leastFrom_33 : decode cX3_leastFrom 33 = .ok (.bipush 8, 2) := by decide +kernel
theorem dX3_leastFrom_35 : decode cX3_leastFrom 35 = .ok (.if_icmp .ge 32, 3) := by decide +kernel
theorem dX3_leastFrom_38 : decode cX3_leastFrom 38 = .ok (.iload_n 2, 1) := by decide +kernel
theorem dX3_leastFrom_39 : decode cX3_leastFrom 39 = .ok (.iload 4, 2) := by decide +kernel
theorem dX3_leastFrom_41 : decode cX3_leastFrom 41 = .ok (.ishr, 1) := by decide +kernel
theorem dX3_leastFrom_42 : decode cX3_leastFrom 42 = .ok (.iconst 1, 1) := by decide +kernel
theorem dX3_leastFrom_43 : decode cX3_leastFrom 43 = .ok (.iand, 1) := by decide +kernel
theorem dX3_leastFrom_44 : decode cX3_leastFrom 44 = .ok (.ifCond .eq 17, 3) := by decide +kernel
theorem dX3_leastFrom_47 : decode cX3_leastFrom 47 = .ok (.iload_n 3, 1) := by decide +kernel
theorem dX3_leastFrom_48 : decode cX3_leastFrom 48 = .ok (.aload_n 0, 1) := by decide +kernel
theorem dX3_leastFrom_49 : decode cX3_leastFrom 49 = .ok (.getfield 27, 3) := by decide +kernel
theorem dX3_leastFrom_52 : decode cX3_leastFrom 52 = .ok (.iload_n 1, 1) := by decide +kernel
theorem dX3_leastFrom_53 : decode cX3_leastFrom 53 = .ok (.aaload, 1) := by decide +kernel
theorem dX3_leastFrom_54 : decode cX3_leastFrom 54 = .ok (.iload 4, 2) := by decide +kernel
theorem dX3_leastFrom_56 : decode cX3_leastFrom 56 = .ok (.iaload, 1) := by decide +kernel
theorem dX3_leastFrom_57 : decode cX3_leastFrom 57 = .ok (.invokestatic 47, 3) := by decide +kernel
theorem dX3_leastFrom_60 : decode cX3_leastFrom 60 = .ok (.istore_n 3, 1) := by decide +kernel
theorem dX3_leastFrom_61 : decode cX3_leastFrom 61 = .ok (.iinc 4 1, 3) := by decide +kernel
theorem dX3_leastFrom_64 : decode cX3_leastFrom 64 = .ok (.goto (-33), 3) := by decide +kernel
theorem dX3_leastFrom_67 : decode cX3_leastFrom 67 = .ok (.iload_n 3, 1) := by decide +kernel
theorem dX3_leastFrom_68 : decode cX3_leastFrom 68 = .ok (.ireturn, 1) := by decide +kernel
theorem dX3_readFirst_0 : decode cX3_readFirst 0 = .ok (.aload_n 0, 1) := by decide +kernel
theorem dX3_readFirst_1 : decode cX3_readFirst 1 = .ok (.getfield 12, 3) := by decide +kernel
theorem dX3_readFirst_4 : decode cX3_readFirst 4 = .ok (.getfield 94, 3) := by decide +kernel
theorem dX3_readFirst_7 : decode cX3_readFirst 7 = .ok (.istore_n 2, 1) := by decide +kernel
theorem dX3_readFirst_8 : decode cX3_readFirst 8 = .ok (.aload_n 0, 1) := by decide +kernel
theorem dX3_readFirst_9 : decode cX3_readFirst 9 = .ok (.iconst 0, 1) := by decide +kernel
theorem dX3_readFirst_10 : decode cX3_readFirst 10 = .ok (.iload_n 2, 1) := by decide +kernel
theorem dX3_readFirst_11 : decode cX3_readFirst 11 = .ok (.invokevirtual 73, 3) := by decide +kernel
theorem dX3_readFirst_14 : decode cX3_readFirst 14 = .ok (.istore_n 3, 1) := by decide +kernel
theorem dX3_readFirst_15 : decode cX3_readFirst 15 = .ok (.iload_n 3, 1) := by decide +kernel
theorem dX3_readFirst_16 : decode cX3_readFirst 16 = .ok (.sipush 1000, 3) := by decide +kernel
theorem dX3_readFirst_19 : decode cX3_readFirst 19 = .ok (.if_icmp .lt 5, 3) := by decide +kernel
theorem dX3_readFirst_22 : decode cX3_readFirst 22 = .ok (.iconst 0, 1) := by decide +kernel
theorem dX3_readFirst_23 : decode cX3_readFirst 23 = .ok (.ireturn, 1) := by decide +kernel
theorem dX3_readFirst_24 : decode cX3_readFirst 24 = .ok (.iconst 0, 1) := by decide +kernel
theorem dX3_readFirst_25 : decode cX3_readFirst 25 = .ok (.istore 4, 2) := by decide +kernel
theorem dX3_readFirst_27 : decode cX3_readFirst 27 = .ok (.iload 4, 2) := by decide +kernel
theorem dX3_readFirst_29 : decode cX3_readFirst 29 = .ok (.aload_n 0, 1) := by decide +kernel
theorem dX3_readFirst_30 : decode cX3_readFirst 30 = .ok (.getfield 18, 3) := by decide +kernel
theorem dX3_readFirst_33 : decode cX3_readFirst 33 = .ok (.if_icmp .ge 94, 3) := by decide +kernel
theorem dX3_readFirst_36 : decode cX3_readFirst 36 = .ok (.iload 4, 2) := by decide +kernel
theorem dX3_readFirst_38 : decode cX3_readFirst 38 = .ok (.aload_n 1, 1) := by decide +kernel
theorem dX3_readFirst_39 : decode cX3_readFirst 39 = .ok (.arraylength, 1) := by decide +kernel
theorem dX3_readFirst_40 : decode cX3_readFirst 40 = .ok (.if_icmp .ge 87, 3) := by decide +kernel
theorem dX3_readFirst_43 : decode cX3_readFirst 43 = .ok (.iconst 0, 1) := by decide +kernel
theorem dX3_readFirst_44 : decode cX3_readFirst 44 = .ok (.istore 5, 2) := by decide +kernel
theorem dX3_readFirst_46 : decode cX3_readFirst 46 = .ok (.iload 5, 2) := by decide +kernel
theorem dX3_readFirst_48 : decode cX3_readFirst 48 = .ok (.bipush 7, 2) := by decide +kernel
theorem dX3_readFirst_50 : decode cX3_readFirst 50 = .ok (.if_icmp .ge 71, 3) := by decide +kernel
theorem dX3_readFirst_53 : decode cX3_readFirst 53 = .ok (.aload_n 0, 1) := by decide +kernel
theorem dX3_readFirst_54 : decode cX3_readFirst 54 = .ok (.getfield 12, 3) := by decide +kernel
theorem dX3_readFirst_57 : decode cX3_readFirst 57 = .ok (.iload_n 2, 1) := by decide +kernel
theorem dX3_readFirst_58 : decode cX3_readFirst 58 = .ok (.iload 5, 2) := by decide +kernel
theorem dX3_readFirst_60 : decode cX3_readFirst 60 = .ok (.invokevirtual 97, 3) := by decide +kernel
theorem dX3_readFirst_63 : decode cX3_readFirst 63 = .ok (.istore 6, 2) := by decide +kernel
theorem dX3_readFirst_65 : decode cX3_readFirst 65 = .ok (.aload_n 0, 1) := by decide +kernel
theorem dX3_readFirst_66 : decode cX3_readFirst 66 = .ok (.getfield 24, 3) := by decide +kernel
theorem dX3_readFirst_69 : decode cX3_readFirst 69 = .ok (.iload 4, 2) := by decide +kernel
theorem dX3_readFirst_71 : decode cX3_readFirst 71 = .ok (.aaload, 1) := by decide +kernel
theorem dX3_readFirst_72 : decode cX3_readFirst 72 = .ok (.iload 5, 2) := by decide +kernel
theorem dX3_readFirst_74 : decode cX3_readFirst 74 = .ok (.iaload, 1) := by decide +kernel
theorem dX3_readFirst_75 : decode cX3_readFirst 75 = .ok (.aload_n 0, 1) := by decide +kernel
theorem dX3_readFirst_76 : decode cX3_readFirst 76 = .ok (.iload 4, 2) := by decide +kernel
theorem dX3_readFirst_78 : decode cX3_readFirst 78 = .ok (.iconst 1, 1) := by decide +kernel
theorem dX3_readFirst_79 : decode cX3_readFirst 79 = .ok (.iadd, 1) := by decide +kernel
theorem dX3_readFirst_80 : decode cX3_readFirst 80 = .ok (.iload 6, 2) := by decide +kernel
theorem dX3_readFirst_82 : decode cX3_readFirst 82 = .ok (.invokevirtual 73, 3) := by decide +kernel
theorem dX3_readFirst_85 : decode cX3_readFirst 85 = .ok (.iadd, 1) := by decide +kernel
theorem dX3_readFirst_86 : decode cX3_readFirst 86 = .ok (.iload_n 3, 1) := by decide +kernel
theorem dX3_readFirst_87 : decode cX3_readFirst 87 = .ok (.if_icmp .ne 28, 3) := by decide +kernel
theorem dX3_readFirst_90 : decode cX3_readFirst 90 = .ok (.aload_n 1, 1) := by decide +kernel
theorem dX3_readFirst_91 : decode cX3_readFirst 91 = .ok (.iload 4, 2) := by decide +kernel
theorem dX3_readFirst_93 : decode cX3_readFirst 93 = .ok (.iload 5, 2) := by decide +kernel
theorem dX3_readFirst_95 : decode cX3_readFirst 95 = .ok (.iastore, 1) := by decide +kernel
theorem dX3_readFirst_96 : decode cX3_readFirst 96 = .ok (.iload_n 3, 1) := by decide +kernel
theorem dX3_readFirst_97 : decode cX3_readFirst 97 = .ok (.aload_n 0, 1) := by decide +kernel
theorem dX3_readFirst_98 : decode cX3_readFirst 98 = .ok (.getfield 24, 3) := by decide +kernel
theorem dX3_readFirst_101 : decode cX3_readFirst 101 = .ok (.iload 4, 2) := by decide +kernel
theorem dX3_readFirst_103 : decode cX3_readFirst 103 = .ok (.aaload, 1) := by decide +kernel
theorem dX3_readFirst_104 : decode cX3_readFirst 104 = .ok (.iload 5, 2) := by decide +kernel
theorem dX3_readFirst_106 : decode cX3_readFirst 106 = .ok (.iaload, 1) := by decide +kernel
theorem dX3_readFirst_107 : decode cX3_readFirst 107 = .ok (.isub, 1) := by decide +kernel
theorem dX3_readFirst_108 : decode cX3_readFirst 108 = .ok (.istore_n 3, 1) := by decide +kernel
theorem dX3_readFirst_109 : decode cX3_readFirst 109 = .ok (.iload 6, 2) := by decide +kernel
theorem dX3_readFirst_111 : decode cX3_readFirst 111 = .ok (.istore_n 2, 1) := by decide +kernel
theorem dX3_readFirst_112 : decode cX3_readFirst 112 = .ok (.goto 9, 3) := by decide +kernel
theorem dX3_readFirst_115 : decode cX3_readFirst 115 = .ok (.iinc 5 1, 3) := by decide +kernel
theorem dX3_readFirst_118 : decode cX3_readFirst 118 = .ok (.goto (-72), 3) := by decide +kernel
theorem dX3_readFirst_121 : decode cX3_readFirst 121 = .ok (.iinc 4 1, 3) := by decide +kernel
theorem dX3_readFirst_124 : decode cX3_readFirst 124 = .ok (.goto (-97), 3) := by decide +kernel
theorem dX3_readFirst_127 : decode cX3_readFirst 127 = .ok (.iconst 1, 1) := by decide +kernel
theorem dX3_readFirst_128 : decode cX3_readFirst 128 = .ok (.ireturn, 1) := by decide +kernel
theorem dX3_listRows_0 : decode cX3_listRows 0 = .ok (.aload_n 0, 1) := by decide +kernel
theorem dX3_listRows_1 : decode cX3_listRows 1 = .ok (.iconst 0, 1) := by decide +kernel
theorem dX3_listRows_2 : decode cX3_listRows 2 = .ok (.putfield 37, 3) := by decide +kernel
theorem dX3_listRows_5 : decode cX3_listRows 5 = .ok (.aload_n 0, 1) := by decide +kernel
theorem dX3_listRows_6 : decode cX3_listRows 6 = .ok (.iconst 0, 1) := by decide +kernel
theorem dX3_listRows_7 : decode cX3_listRows 7 = .ok (.aload_n 0, 1) := by decide +kernel
theorem dX3_listRows_8 : decode cX3_listRows 8 = .ok (.getfield 12, 3) := by decide +kernel
theorem dX3_listRows_11 : decode cX3_listRows 11 = .ok (.getfield 94, 3) := by decide +kernel
theorem dX3_listRows_14 : decode cX3_listRows 14 = .ok (.invokevirtual 73, 3) := by decide +kernel
theorem dX3_listRows_17 : decode cX3_listRows 17 = .ok (.sipush 1000, 3) := by decide +kernel
theorem dX3_listRows_20 : decode cX3_listRows 20 = .ok (.if_icmp .ge 22, 3) := by decide +kernel
theorem dX3_listRows_23 : decode cX3_listRows 23 = .ok (.aload_n 0, 1) := by decide +kernel
theorem dX3_listRows_24 : decode cX3_listRows 24 = .ok (.getfield 30, 3) := by decide +kernel
theorem dX3_listRows_27 : decode cX3_listRows 27 = .ok (.iconst 0, 1) := by decide +kernel
theorem dX3_listRows_28 : decode cX3_listRows 28 = .ok (.aload_n 0, 1) := by decide +kernel
theorem dX3_listRows_29 : decode cX3_listRows 29 = .ok (.getfield 12, 3) := by decide +kernel
theorem dX3_listRows_32 : decode cX3_listRows 32 = .ok (.getfield 94, 3) := by decide +kernel
theorem dX3_listRows_35 : decode cX3_listRows 35 = .ok (.i2l, 1) := by decide +kernel
theorem dX3_listRows_36 : decode cX3_listRows 36 = .ok (.lastore, 1) := by decide +kernel
theorem dX3_listRows_37 : decode cX3_listRows 37 = .ok (.aload_n 0, 1) := by decide +kernel
theorem dX3_listRows_38 : decode cX3_listRows 38 = .ok (.iconst 1, 1) := by decide +kernel
theorem dX3_listRows_39 : decode cX3_listRows 39 = .ok (.putfield 37, 3) := by decide +kernel
theorem dX3_listRows_42 : decode cX3_listRows 42 = .ok (.iconst 0, 1) := by decide +kernel
theorem dX3_listRows_43 : decode cX3_listRows 43 = .ok (.istore_n 1, 1) := by decide +kernel
theorem dX3_listRows_44 : decode cX3_listRows 44 = .ok (.iload_n 1, 1) := by decide +kernel
theorem dX3_listRows_45 : decode cX3_listRows 45 = .ok (.aload_n 0, 1) := by decide +kernel
theorem dX3_listRows_46 : decode cX3_listRows 46 = .ok (.getfield 18, 3) := by decide +kernel
theorem dX3_listRows_49 : decode cX3_listRows 49 = .ok (.if_icmp .ge 14, 3) := by decide +kernel
theorem dX3_listRows_52 : decode cX3_listRows 52 = .ok (.aload_n 0, 1) := by decide +kernel
theorem dX3_listRows_53 : decode cX3_listRows 53 = .ok (.iload_n 1, 1) := by decide +kernel
theorem dX3_listRows_54 : decode cX3_listRows 54 = .ok (.invokevirtual 100, 3) := by decide +kernel
theorem dX3_listRows_57 : decode cX3_listRows 57 = .ok (.iinc 1 1, 3) := by decide +kernel
theorem dX3_listRows_60 : decode cX3_listRows 60 = .ok (.goto (-16), 3) := by decide +kernel
theorem dX3_listRows_63 : decode cX3_listRows 63 = .ok (.aload_n 0, 1) := by decide +kernel
theorem dX3_listRows_64 : decode cX3_listRows 64 = .ok (.invokevirtual 104, 3) := by decide +kernel
theorem dX3_listRows_67 : decode cX3_listRows 67 = .ok (.return_, 1) := by decide +kernel
theorem dX3_swapRows_0 : decode cX3_swapRows 0 = .ok (.aload_n 0, 1) := by decide +kernel
theorem dX3_swapRows_1 : decode cX3_swapRows 1 = .ok (.getfield 30, 3) := by decide +kernel
theorem dX3_swapRows_4 : decode cX3_swapRows 4 = .ok (.astore_n 1, 1) := by decide +kernel
theorem dX3_swapRows_5 : decode cX3_swapRows 5 = .ok (.aload_n 0, 1) := by decide +kernel
theorem dX3_swapRows_6 : decode cX3_swapRows 6 = .ok (.aload_n 0, 1) := by decide +kernel
theorem dX3_swapRows_7 : decode cX3_swapRows 7 = .ok (.getfield 34, 3) := by decide +kernel
theorem dX3_swapRows_10 : decode cX3_swapRows 10 = .ok (.putfield 30, 3) := by decide +kernel
theorem dX3_swapRows_13 : decode cX3_swapRows 13 = .ok (.aload_n 0, 1) := by decide +kernel
theorem dX3_swapRows_14 : decode cX3_swapRows 14 = .ok (.aload_n 1, 1) := by decide +kernel
theorem dX3_swapRows_15 : decode cX3_swapRows 15 = .ok (.putfield 34, 3) := by decide +kernel
theorem dX3_swapRows_18 : decode cX3_swapRows 18 = .ok (.return_, 1) := by decide +kernel
theorem dX3_lengthenRows_0 : decode cX3_lengthenRows 0 = .ok (.iconst 0, 1) := by decide +kernel
theorem dX3_lengthenRows_1 : decode cX3_lengthenRows 1 = .ok (.istore_n 2, 1) := by decide +kernel
theorem dX3_lengthenRows_2 : decode cX3_lengthenRows 2 = .ok (.iconst 0, 1) := by decide +kernel
theorem dX3_lengthenRows_3 : decode cX3_lengthenRows 3 = .ok (.istore_n 3, 1) := by decide +kernel
theorem dX3_lengthenRows_4 : decode cX3_lengthenRows 4 = .ok (.iload_n 3, 1) := by decide +kernel
theorem dX3_lengthenRows_5 : decode cX3_lengthenRows 5 = .ok (.aload_n 0, 1) := by decide +kernel
theorem dX3_lengthenRows_6 : decode cX3_lengthenRows 6 = .ok (.getfield 37, 3) := by decide +kernel
theorem dX3_lengthenRows_9 : decode cX3_lengthenRows 9 = .ok (.if_icmp .ge 146, 3) := by decide +kernel
theorem dX3_lengthenRows_12 : decode cX3_lengthenRows 12 = .ok (.aload_n 0, 1) := by decide +kernel
theorem dX3_lengthenRows_13 : decode cX3_lengthenRows 13 = .ok (.getfield 30, 3) := by decide +kernel
theorem dX3_lengthenRows_16 : decode cX3_lengthenRows 16 = .ok (.iload_n 3, 1) := by decide +kernel
theorem dX3_lengthenRows_17 : decode cX3_lengthenRows 17 = .ok (.laload, 1) := by decide +kernel
theorem dX3_lengthenRows_18 : decode cX3_lengthenRows 18 = .ok (.lstore 4, 2) := by decide +kernel
theorem dX3_lengthenRows_20 : decode cX3_lengthenRows 20 = .ok (.lload 4, 2) := by decide +kernel
theorem dX3_lengthenRows_22 : decode cX3_lengthenRows 22 = .ok (.l2i, 1) := by decide +kernel
theorem dX3_lengthenRows_23 : decode cX3_lengthenRows 23 = .ok (.sipush 511, 3) := by decide +kernel
theorem dX3_lengthenRows_26 : decode cX3_lengthenRows 26 = .ok (.iand, 1) := by decide +kernel
theorem dX3_lengthenRows_27 : decode cX3_lengthenRows 27 = .ok (.istore 6, 2) := by decide +kernel
theorem dX3_lengthenRows_29 : decode cX3_lengthenRows 29 = .ok (.iconst 0, 1) := by decide +kernel
theorem dX3_lengthenRows_30 : decode cX3_lengthenRows 30 = .ok (.istore 7, 2) := by decide +kernel
theorem dX3_lengthenRows_32 : decode cX3_lengthenRows 32 = .ok (.iload 7, 2) := by decide +kernel
theorem dX3_lengthenRows_34 : decode cX3_lengthenRows 34 = .ok (.bipush 7, 2) := by decide +kernel
theorem dX3_lengthenRows_36 : decode cX3_lengthenRows 36 = .ok (.if_icmp .ge 113, 3) := by decide +kernel
theorem dX3_lengthenRows_39 : decode cX3_lengthenRows 39 = .ok (.aload_n 0, 1) := by decide +kernel
theorem dX3_lengthenRows_40 : decode cX3_lengthenRows 40 = .ok (.getfield 12, 3) := by decide +kernel
theorem dX3_lengthenRows_43 : decode cX3_lengthenRows 43 = .ok (.iload 6, 2) := by decide +kernel
theorem dX3_lengthenRows_45 : decode cX3_lengthenRows 45 = .ok (.iload 7, 2) := by decide +kernel
theorem dX3_lengthenRows_47 : decode cX3_lengthenRows 47 = .ok (.invokevirtual 97, 3) := by decide +kernel
theorem dX3_lengthenRows_50 : decode cX3_lengthenRows 50 = .ok (.istore 8, 2) := by decide +kernel
theorem dX3_lengthenRows_52 : decode cX3_lengthenRows 52 = .ok (.aload_n 0, 1) := by decide +kernel
theorem dX3_lengthenRows_53 : decode cX3_lengthenRows 53 = .ok (.getfield 24, 3) := by decide +kernel
theorem dX3_lengthenRows_56 : decode cX3_lengthenRows 56 = .ok (.iload_n 1, 1) := by decide +kernel
theorem dX3_lengthenRows_57 : decode cX3_lengthenRows 57 = .ok (.aaload, 1) := by decide +kernel
theorem dX3_lengthenRows_58 : decode cX3_lengthenRows 58 = .ok (.iload 7, 2) := by decide +kernel
theorem dX3_lengthenRows_60 : decode cX3_lengthenRows 60 = .ok (.iaload, 1) := by decide +kernel
theorem dX3_lengthenRows_61 : decode cX3_lengthenRows 61 = .ok (.aload_n 0, 1) := by decide +kernel
theorem dX3_lengthenRows_62 : decode cX3_lengthenRows 62 = .ok (.iload_n 1, 1) := by decide +kernel
theorem dX3_lengthenRows_63 : decode cX3_lengthenRows 63 = .ok (.iconst 1, 1) := by decide +kernel
theorem dX3_lengthenRows_64 : decode cX3_lengthenRows 64 = .ok (.iadd, 1) := by decide +kernel
theorem dX3_lengthenRows_65 : decode cX3_lengthenRows 65 = .ok (.iload 8, 2) := by decide +kernel
theorem dX3_lengthenRows_67 : decode cX3_lengthenRows 67 = .ok (.invokevirtual 73, 3) := by decide +kernel
theorem dX3_lengthenRows_70 : decode cX3_lengthenRows 70 = .ok (.iadd, 1) := by decide +kernel
theorem dX3_lengthenRows_71 : decode cX3_lengthenRows 71 = .ok (.sipush 1000, 3) := by decide +kernel
theorem dX3_lengthenRows_74 : decode cX3_lengthenRows 74 = .ok (.if_icmp .ge 69, 3) := by decide +kernel
theorem dX3_lengthenRows_77 : decode cX3_lengthenRows 77 = .ok (.iload_n 2, 1) := by decide +kernel
theorem dX3_lengthenRows_78 : decode cX3_lengthenRows 78 = .ok (.sipush 6435, 3) := by decide +kernel
theorem dX3_lengthenRows_81 : decode cX3_lengthenRows 81 = .ok (.if_icmp .ge 62, 3) := by decide +kernel
theorem dX3_lengthenRows_84 : decode cX3_lengthenRows 84 = .ok (.lload 4, 2) := by decide +kernel
theorem dX3_lengthenRows_86 : decode cX3_lengthenRows 86 = .ok (.bipush 40, 2) := by decide +kernel
theorem dX3_lengthenRows_88 : decode cX3_lengthenRows 88 = .ok (.lshr, 1) := by decide +kernel
theorem dX3_lengthenRows_89 : decode cX3_lengthenRows 89 = .ok (.aload_n 0, 1) := by decide +kernel
theorem dX3_lengthenRows_90 : decode cX3_lengthenRows 90 = .ok (.getfield 24, 3) := by decide +kernel
theorem dX3_lengthenRows_93 : decode cX3_lengthenRows 93 = .ok (.iload_n 1, 1) := by decide +kernel
theorem dX3_lengthenRows_94 : decode cX3_lengthenRows 94 = .ok (.aaload, 1) := by decide +kernel
theorem dX3_lengthenRows_95 : decode cX3_lengthenRows 95 = .ok (.iload 7, 2) := by decide +kernel
theorem dX3_lengthenRows_97 : decode cX3_lengthenRows 97 = .ok (.iaload, 1) := by decide +kernel
theorem dX3_lengthenRows_98 : decode cX3_lengthenRows 98 = .ok (.i2l, 1) := by decide +kernel
theorem dX3_lengthenRows_99 : decode cX3_lengthenRows 99 = .ok (.ladd, 1) := by decide +kernel
theorem dX3_lengthenRows_100 : decode cX3_lengthenRows 100 = .ok (.lstore 9, 2) := by decide +kernel
theorem dX3_lengthenRows_102 : decode cX3_lengthenRows 102 = .ok (.lload 4, 2) := by decide +kernel
theorem dX3_lengthenRows_104 : decode cX3_lengthenRows 104 = .ok (.bipush 12, 2) := by decide +kernel
theorem dX3_lengthenRows_106 : decode cX3_lengthenRows 106 = .ok (.lshr, 1) := by decide +kernel
theorem dX3_lengthenRows_107 : decode cX3_lengthenRows 107 = .ok (.ldc2_w 107, 3) := by decide +kernel
theorem dX3_lengthenRows_110 : decode cX3_lengthenRows 110 = .ok (.land, 1) := by decide +kernel
theorem dX3_lengthenRows_111 : decode cX3_lengthenRows 111 = .ok (.iconst 3, 1) := by decide +kernel
theorem dX3_lengthenRows_112 : decode cX3_lengthenRows 112 = .ok (.lshl, 1) := by decide +kernel
theorem dX3_lengthenRows_113 : decode cX3_lengthenRows 113 = .ok (.iload 7, 2) := by decide +kernel
theorem dX3_lengthenRows_115 : decode cX3_lengthenRows 115 = .ok (.i2l, 1) := by decide +kernel
theorem dX3_lengthenRows_116 : decode cX3_lengthenRows 116 = .ok (.lor, 1) := by decide +kernel
theorem dX3_lengthenRows_117 : decode cX3_lengthenRows 117 = .ok (.lstore 11, 2) := by decide +kernel
theorem dX3_lengthenRows_119 : decode cX3_lengthenRows 119 = .ok (.aload_n 0, 1) := by decide +kernel
theorem dX3_lengthenRows_120 : decode cX3_lengthenRows 120 = .ok (.getfield 34, 3) := by decide +kernel
theorem dX3_lengthenRows_123 : decode cX3_lengthenRows 123 = .ok (.iload_n 2, 1) := by decide +kernel
theorem dX3_lengthenRows_124 : decode cX3_lengthenRows 124 = .ok (.lload 9, 2) := by decide +kernel
theorem dX3_lengthenRows_126 : decode cX3_lengthenRows 126 = .ok (.bipush 40, 2) := by decide +kernel
theorem dX3_lengthenRows_128 : decode cX3_lengthenRows 128 = .ok (.lshl, 1) := by decide +kernel
theorem dX3_lengthenRows_129 : decode cX3_lengthenRows 129 = .ok (.lload 11, 2) := by decide +kernel
theorem dX3_lengthenRows_131 : decode cX3_lengthenRows 131 = .ok (.bipush 12, 2) := by decide +kernel
theorem dX3_lengthenRows_133 : decode cX3_lengthenRows 133 = .ok (.lshl, 1) := by decide +kernel
theorem dX3_lengthenRows_134 : decode cX3_lengthenRows 134 = .ok (.lor, 1) := by decide +kernel
theorem dX3_lengthenRows_135 : decode cX3_lengthenRows 135 = .ok (.iload 8, 2) := by decide +kernel
theorem dX3_lengthenRows_137 : decode cX3_lengthenRows 137 = .ok (.i2l, 1) := by decide +kernel
theorem dX3_lengthenRows_138 : decode cX3_lengthenRows 138 = .ok (.lor, 1) := by decide +kernel
theorem dX3_lengthenRows_139 : decode cX3_lengthenRows 139 = .ok (.lastore, 1) := by decide +kernel
theorem dX3_lengthenRows_140 : decode cX3_lengthenRows 140 = .ok (.iinc 2 1, 3) := by decide +kernel
theorem dX3_lengthenRows_143 : decode cX3_lengthenRows 143 = .ok (.iinc 7 1, 3) := by decide +kernel
theorem dX3_lengthenRows_146 : decode cX3_lengthenRows 146 = .ok (.goto (-114), 3) := by decide +kernel
theorem dX3_lengthenRows_149 : decode cX3_lengthenRows 149 = .ok (.iinc 3 1, 3) := by decide +kernel
theorem dX3_lengthenRows_152 : decode cX3_lengthenRows 152 = .ok (.goto (-148), 3) := by decide +kernel
theorem dX3_lengthenRows_155 : decode cX3_lengthenRows 155 = .ok (.aload_n 0, 1) := by decide +kernel
theorem dX3_lengthenRows_156 : decode cX3_lengthenRows 156 = .ok (.invokevirtual 109, 3) := by decide +kernel
theorem dX3_lengthenRows_159 : decode cX3_lengthenRows 159 = .ok (.aload_n 0, 1) := by decide +kernel
theorem dX3_lengthenRows_160 : decode cX3_lengthenRows 160 = .ok (.iload_n 2, 1) := by decide +kernel
theorem dX3_lengthenRows_161 : decode cX3_lengthenRows 161 = .ok (.putfield 37, 3) := by decide +kernel
theorem dX3_lengthenRows_164 : decode cX3_lengthenRows 164 = .ok (.return_, 1) := by decide +kernel
theorem dX3_sortByCost_0 : decode cX3_sortByCost 0 = .ok (.iconst 0, 1) := by decide +kernel
theorem dX3_sortByCost_1 : decode cX3_sortByCost 1 = .ok (.istore_n 1, 1) := by decide +kernel
theorem dX3_sortByCost_2 : decode cX3_sortByCost 2 = .ok (.iload_n 1, 1) := by decide +kernel
theorem dX3_sortByCost_3 : decode cX3_sortByCost 3 = .ok (.bipush 40, 2) := by decide +kernel
theorem dX3_sortByCost_5 : decode cX3_sortByCost 5 = .ok (.if_icmp .gt 16, 3) := by decide +kernel
theorem dX3_sortByCost_8 : decode cX3_sortByCost 8 = .ok (.aload_n 0, 1) := by decide +kernel
theorem dX3_sortByCost_9 : decode cX3_sortByCost 9 = .ok (.getfield 40, 3) := by decide +kernel
theorem dX3_sortByCost_12 : decode cX3_sortByCost 12 = .ok (.iload_n 1, 1) := by decide +kernel
theorem dX3_sortByCost_13 : decode cX3_sortByCost 13 = .ok (.iconst 0, 1) := by decide +kernel
theorem dX3_sortByCost_14 : decode cX3_sortByCost 14 = .ok (.iastore, 1) := by decide +kernel
theorem dX3_sortByCost_15 : decode cX3_sortByCost 15 = .ok (.iinc 1 1, 3) := by decide +kernel
theorem dX3_sortByCost_18 : decode cX3_sortByCost 18 = .ok (.goto (-16), 3) := by decide +kernel
theorem dX3_sortByCost_21 : decode cX3_sortByCost 21 = .ok (.iconst 0, 1) := by decide +kernel
theorem dX3_sortByCost_22 : decode cX3_sortByCost 22 = .ok (.istore_n 1, 1) := by decide +kernel
theorem dX3_sortByCost_23 : decode cX3_sortByCost 23 = .ok (.iload_n 1, 1) := by decide +kernel
theorem dX3_sortByCost_24 : decode cX3_sortByCost 24 = .ok (.aload_n 0, 1) := by decide +kernel
theorem dX3_sortByCost_25 : decode cX3_sortByCost 25 = .ok (.getfield 37, 3) := by decide +kernel
theorem dX3_sortByCost_28 : decode cX3_sortByCost 28 = .ok (.if_icmp .ge 27, 3) := by decide +kernel
theorem dX3_sortByCost_31 : decode cX3_sortByCost 31 = .ok (.aload_n 0, 1) := by decide +kernel
theorem dX3_sortByCost_32 : decode cX3_sortByCost 32 = .ok (.getfield 40, 3) := by decide +kernel
theorem dX3_sortByCost_35 : decode cX3_sortByCost 35 = .ok (.aload_n 0, 1) := by decide +kernel
theorem dX3_sortByCost_36 : decode cX3_sortByCost 36 = .ok (.getfield 30, 3) := by decide +kernel
theorem dX3_sortByCost_39 : decode cX3_sortByCost 39 = .ok (.iload_n 1, 1) := by decide +kernel
theorem dX3_sortByCost_40 : decode cX3_sortByCost 40 = .ok (.laload, 1) := by decide +kernel
theorem dX3_sortByCost_41 : decode cX3_sortByCost 41 = .ok (.invokestatic 112, 3) := by decide +kernel
theorem dX3_sortByCost_44 : decode cX3_sortByCost 44 = .ok (.dup2, 1) := by decide +kernel
theorem dX3_sortByCost_45 : decode cX3_sortByCost 45 = .ok (.iaload, 1) := by decide +kernel
theorem dX3_sortByCost_46 : decode cX3_sortByCost 46 = .ok (.iconst 1, 1) := by decide +kernel
theorem dX3_sortByCost_47 : decode cX3_sortByCost 47 = .ok (.iadd, 1) := by decide +kernel
theorem dX3_sortByCost_48 : decode cX3_sortByCost 48 = .ok (.iastore, 1) := by decide +kernel
theorem dX3_sortByCost_49 : decode cX3_sortByCost 49 = .ok (.iinc 1 1, 3) := by decide +kernel
theorem dX3_sortByCost_52 : decode cX3_sortByCost 52 = .ok (.goto (-29), 3) := by decide +kernel
theorem dX3_sortByCost_55 : decode cX3_sortByCost 55 = .ok (.iconst 1, 1) := by decide +kernel
theorem dX3_sortByCost_56 : decode cX3_sortByCost 56 = .ok (.istore_n 1, 1) := by decide +kernel
theorem dX3_sortByCost_57 : decode cX3_sortByCost 57 = .ok (.iload_n 1, 1) := by decide +kernel
theorem dX3_sortByCost_58 : decode cX3_sortByCost 58 = .ok (.bipush 40, 2) := by decide +kernel
theorem dX3_sortByCost_60 : decode cX3_sortByCost 60 = .ok (.if_icmp .gt 26, 3) := by decide +kernel
theorem dX3_sortByCost_63 : decode cX3_sortByCost 63 = .ok (.aload_n 0, 1) := by decide +kernel
theorem dX3_sortByCost_64 : decode cX3_sortByCost 64 = .ok (.getfield 40, 3) := by decide +kernel
theorem dX3_sortByCost_67 : decode cX3_sortByCost 67 = .ok (.iload_n 1, 1) := by decide +kernel
theorem dX3_sortByCost_68 : decode cX3_sortByCost 68 = .ok (.dup2, 1) := by decide +kernel
theorem dX3_sortByCost_69 : decode cX3_sortByCost 69 = .ok (.iaload, 1) := by decide +kernel
theorem dX3_sortByCost_70 : decode cX3_sortByCost 70 = .ok (.aload_n 0, 1) := by decide +kernel
theorem dX3_sortByCost_71 : decode cX3_sortByCost 71 = .ok (.getfield 40, 3) := by decide +kernel
theorem dX3_sortByCost_74 : decode cX3_sortByCost 74 = .ok (.iload_n 1, 1) := by decide +kernel
theorem dX3_sortByCost_75 : decode cX3_sortByCost 75 = .ok (.iconst 1, 1) := by decide +kernel
theorem dX3_sortByCost_76 : decode cX3_sortByCost 76 = .ok (.isub, 1) := by decide +kernel
theorem dX3_sortByCost_77 : decode cX3_sortByCost 77 = .ok (.iaload, 1) := by decide +kernel
theorem dX3_sortByCost_78 : decode cX3_sortByCost 78 = .ok (.iadd, 1) := by decide +kernel
theorem dX3_sortByCost_79 : decode cX3_sortByCost 79 = .ok (.iastore, 1) := by decide +kernel
theorem dX3_sortByCost_80 : decode cX3_sortByCost 80 = .ok (.iinc 1 1, 3) := by decide +kernel
theorem dX3_sortByCost_83 : decode cX3_sortByCost 83 = .ok (.goto (-26), 3) := by decide +kernel
theorem dX3_sortByCost_86 : decode cX3_sortByCost 86 = .ok (.aload_n 0, 1) := by decide +kernel
theorem dX3_sortByCost_87 : decode cX3_sortByCost 87 = .ok (.getfield 37, 3) := by decide +kernel
theorem dX3_sortByCost_90 : decode cX3_sortByCost 90 = .ok (.iconst 1, 1) := by decide +kernel
theorem dX3_sortByCost_91 : decode cX3_sortByCost 91 = .ok (.isub, 1) := by decide +kernel
theorem dX3_sortByCost_92 : decode cX3_sortByCost 92 = .ok (.istore_n 1, 1) := by decide +kernel
theorem dX3_sortByCost_93 : decode cX3_sortByCost 93 = .ok (.iload_n 1, 1) := by decide +kernel
theorem dX3_sortByCost_94 : decode cX3_sortByCost 94 = .ok (.ifCond .lt 46, 3) := by decide +kernel
theorem dX3_sortByCost_97 : decode cX3_sortByCost 97 = .ok (.aload_n 0, 1) := by decide +kernel
theorem dX3_sortByCost_98 : decode cX3_sortByCost 98 = .ok (.getfield 30, 3) := by decide +kernel
theorem dX3_sortByCost_101 : decode cX3_sortByCost 101 = .ok (.iload_n 1, 1) := by decide +kernel
theorem dX3_sortByCost_102 : decode cX3_sortByCost 102 = .ok (.laload, 1) := by decide +kernel
theorem dX3_sortByCost_103 : decode cX3_sortByCost 103 = .ok (.invokestatic 112, 3) := by decide +kernel
theorem dX3_sortByCost_106 : decode cX3_sortByCost 106 = .ok (.istore_n 2, 1) := by decide +kernel
theorem dX3_sortByCost_107 : decode cX3_sortByCost 107 = .ok (.aload_n 0, 1) := by decide +kernel
theorem dX3_sortByCost_108 : decode cX3_sortByCost 108 = .ok (.getfield 40, 3) := by decide +kernel
theorem dX3_sortByCost_111 : decode cX3_sortByCost 111 = .ok (.iload_n 2, 1) := by decide +kernel
theorem dX3_sortByCost_112 : decode cX3_sortByCost 112 = .ok (.dup2, 1) := by decide +kernel
theorem dX3_sortByCost_113 : decode cX3_sortByCost 113 = .ok (.iaload, 1) := by decide +kernel
theorem dX3_sortByCost_114 : decode cX3_sortByCost 114 = .ok (.iconst 1, 1) := by decide +kernel
theorem dX3_sortByCost_115 : decode cX3_sortByCost 115 = .ok (.isub, 1) := by decide +kernel
theorem dX3_sortByCost_116 : decode cX3_sortByCost 116 = .ok (.iastore, 1) := by decide +kernel
theorem dX3_sortByCost_117 : decode cX3_sortByCost 117 = .ok (.aload_n 0, 1) := by decide +kernel
theorem dX3_sortByCost_118 : decode cX3_sortByCost 118 = .ok (.getfield 34, 3) := by decide +kernel
theorem dX3_sortByCost_121 : decode cX3_sortByCost 121 = .ok (.aload_n 0, 1) := by decide +kernel
theorem dX3_sortByCost_122 : decode cX3_sortByCost 122 = .ok (.getfield 40, 3) := by decide +kernel
theorem dX3_sortByCost_125 : decode cX3_sortByCost 125 = .ok (.iload_n 2, 1) := by decide +kernel
theorem dX3_sortByCost_126 : decode cX3_sortByCost 126 = .ok (.iaload, 1) := by decide +kernel
theorem dX3_sortByCost_127 : decode cX3_sortByCost 127 = .ok (.aload_n 0, 1) := by decide +kernel
theorem dX3_sortByCost_128 : decode cX3_sortByCost 128 = .ok (.getfield 30, 3) := by decide +kernel
theorem dX3_sortByCost_131 : decode cX3_sortByCost 131 = .ok (.iload_n 1, 1) := by decide +kernel
theorem dX3_sortByCost_132 : decode cX3_sortByCost 132 = .ok (.laload, 1) := by decide +kernel
theorem dX3_sortByCost_133 : decode cX3_sortByCost 133 = .ok (.lastore, 1) := by decide +kernel
theorem dX3_sortByCost_134 : decode cX3_sortByCost 134 = .ok (.iinc 1 (-1), 3) := by decide +kernel
theorem dX3_sortByCost_137 : decode cX3_sortByCost 137 = .ok (.goto (-44), 3) := by decide +kernel
theorem dX3_sortByCost_140 : decode cX3_sortByCost 140 = .ok (.aload_n 0, 1) := by decide +kernel
theorem dX3_sortByCost_141 : decode cX3_sortByCost 141 = .ok (.invokevirtual 109, 3) := by decide +kernel
theorem dX3_sortByCost_144 : decode cX3_sortByCost 144 = .ok (.iconst 0, 1) := by decide +kernel
theorem dX3_sortByCost_145 : decode cX3_sortByCost 145 = .ok (.istore_n 1, 1) := by decide +kernel
theorem dX3_sortByCost_146 : decode cX3_sortByCost 146 = .ok (.iload_n 1, 1) := by decide +kernel
theorem dX3_sortByCost_147 : decode cX3_sortByCost 147 = .ok (.bipush 40, 2) := by decide +kernel
theorem dX3_sortByCost_149 : decode cX3_sortByCost 149 = .ok (.if_icmp .ge 23, 3) := by decide +kernel
theorem dX3_sortByCost_152 : decode cX3_sortByCost 152 = .ok (.aload_n 0, 1) := by decide +kernel
theorem dX3_sortByCost_153 : decode cX3_sortByCost 153 = .ok (.getfield 40, 3) := by decide +kernel
theorem dX3_sortByCost_156 : decode cX3_sortByCost 156 = .ok (.iload_n 1, 1) := by decide +kernel
theorem dX3_sortByCost_157 : decode cX3_sortByCost 157 = .ok (.aload_n 0, 1) := by decide +kernel
theorem dX3_sortByCost_158 : decode cX3_sortByCost 158 = .ok (.getfield 40, 3) := by decide +kernel
theorem dX3_sortByCost_161 : decode cX3_sortByCost 161 = .ok (.iload_n 1, 1) := by decide +kernel
theorem dX3_sortByCost_162 : decode cX3_sortByCost 162 = .ok (.iconst 1, 1) := by decide +kernel
theorem dX3_sortByCost_163 : decode cX3_sortByCost 163 = .ok (.iadd, 1) := by decide +kernel
theorem dX3_sortByCost_164 : decode cX3_sortByCost 164 = .ok (.iaload, 1) := by decide +kernel
theorem dX3_sortByCost_165 : decode cX3_sortByCost 165 = .ok (.iastore, 1) := by decide +kernel
theorem dX3_sortByCost_166 : decode cX3_sortByCost 166 = .ok (.iinc 1 1, 3) := by decide +kernel
theorem dX3_sortByCost_169 : decode cX3_sortByCost 169 = .ok (.goto (-23), 3) := by decide +kernel
theorem dX3_sortByCost_172 : decode cX3_sortByCost 172 = .ok (.aload_n 0, 1) := by decide +kernel
theorem dX3_sortByCost_173 : decode cX3_sortByCost 173 = .ok (.getfield 40, 3) := by decide +kernel
theorem dX3_sortByCost_176 : decode cX3_sortByCost 176 = .ok (.bipush 40, 2) := by decide +kernel
theorem dX3_sortByCost_178 : decode cX3_sortByCost 178 = .ok (.aload_n 0, 1) := by decide +kernel
theorem dX3_sortByCost_179 : decode cX3_sortByCost 179 = .ok (.getfield 37, 3) := by decide +kernel
theorem dX3_sortByCost_182 : decode cX3_sortByCost 182 = .ok (.iastore, 1) := by decide +kernel
theorem dX3_sortByCost_183 : decode cX3_sortByCost 183 = .ok (.return_, 1) := by decide +kernel
theorem dX3_costIn_0 : decode cX3_costIn 0 = .ok (.iconst 0, 1) := by decide +kernel
theorem dX3_costIn_1 : decode cX3_costIn 1 = .ok (.lload_n 0, 1) := by decide +kernel
theorem dX3_costIn_2 : decode cX3_costIn 2 = .ok (.bipush 40, 2) := by decide +kernel
theorem dX3_costIn_4 : decode cX3_costIn 4 = .ok (.lshr, 1) := by decide +kernel
theorem dX3_costIn_5 : decode cX3_costIn 5 = .ok (.l2i, 1) := by decide +kernel
theorem dX3_costIn_6 : decode cX3_costIn 6 = .ok (.bipush 40, 2) := by decide +kernel
theorem dX3_costIn_8 : decode cX3_costIn 8 = .ok (.invokestatic 47, 3) := by decide +kernel
theorem dX3_costIn_11 : decode cX3_costIn 11 = .ok (.invokestatic 116, 3) := by decide +kernel
theorem dX3_costIn_14 : decode cX3_costIn 14 = .ok (.ireturn, 1) := by decide +kernel
theorem dX3_rowsUpTo_0 : decode cX3_rowsUpTo 0 = .ok (.aload_n 0, 1) := by decide +kernel
theorem dX3_rowsUpTo_1 : decode cX3_rowsUpTo 1 = .ok (.getfield 40, 3) := by decide +kernel
theorem dX3_rowsUpTo_4 : decode cX3_rowsUpTo 4 = .ok (.iconst 0, 1) := by decide +kernel
theorem dX3_rowsUpTo_5 : decode cX3_rowsUpTo 5 = .ok (.iload_n 1, 1) := by decide +kernel
theorem dX3_rowsUpTo_6 : decode cX3_rowsUpTo 6 = .ok (.bipush 40, 2) := by decide +kernel
theorem dX3_rowsUpTo_8 : decode cX3_rowsUpTo 8 = .ok (.invokestatic 47, 3) := by decide +kernel
theorem dX3_rowsUpTo_11 : decode cX3_rowsUpTo 11 = .ok (.invokestatic 116, 3) := by decide +kernel
theorem dX3_rowsUpTo_14 : decode cX3_rowsUpTo 14 = .ok (.iaload, 1) := by decide +kernel
theorem dX3_rowsUpTo_15 : decode cX3_rowsUpTo 15 = .ok (.ireturn, 1) := by decide +kernel
theorem dX3_isRow_0 : decode cX3_isRow 0 = .ok (.iload_n 1, 1) := by decide +kernel
theorem dX3_isRow_1 : decode cX3_isRow 1 = .ok (.ifCond .lt 15, 3) := by decide +kernel
theorem dX3_isRow_4 : decode cX3_isRow 4 = .ok (.iload_n 1, 1) := by decide +kernel
theorem dX3_isRow_5 : decode cX3_isRow 5 = .ok (.aload_n 0, 1) := by decide +kernel
theorem dX3_isRow_6 : decode cX3_isRow 6 = .ok (.getfield 37, 3) := by decide +kernel
theorem dX3_isRow_9 : decode cX3_isRow 9 = .ok (.if_icmp .ge 7, 3) := by decide +kernel
theorem dX3_isRow_12 : decode cX3_isRow 12 = .ok (.iconst 1, 1) := by decide +kernel
theorem dX3_isRow_13 : decode cX3_isRow 13 = .ok (.goto 4, 3) := by decide +kernel
theorem dX3_isRow_16 : decode cX3_isRow 16 = .ok (.iconst 0, 1) := by decide +kernel
theorem dX3_isRow_17 : decode cX3_isRow 17 = .ok (.ireturn, 1) := by decide +kernel
theorem dX3_costOfRow_0 : decode cX3_costOfRow 0 = .ok (.aload_n 0, 1) := by decide +kernel
theorem dX3_costOfRow_1 : decode cX3_costOfRow 1 = .ok (.iload_n 1, 1) := by decide +kernel
theorem dX3_costOfRow_2 : decode cX3_costOfRow 2 = .ok (.invokevirtual 119, 3) := by decide +kernel
theorem dX3_costOfRow_5 : decode cX3_costOfRow 5 = .ok (.ifCond .eq 15, 3) := by decide +kernel
theorem dX3_costOfRow_8 : decode cX3_costOfRow 8 = .ok (.aload_n 0, 1) := by decide +kernel
theorem dX3_costOfRow_9 : decode cX3_costOfRow 9 = .ok (.getfield 30, 3) := by decide +kernel
theorem dX3_costOfRow_12 : decode cX3_costOfRow 12 = .ok (.iload_n 1, 1) := by decide +kernel
theorem dX3_costOfRow_13 : decode cX3_costOfRow 13 = .ok (.laload, 1) := by decide +kernel
theorem dX3_costOfRow_14 : decode cX3_costOfRow 14 = .ok (.invokestatic 112, 3) := by decide +kernel
theorem dX3_costOfRow_17 : decode cX3_costOfRow 17 = .ok (.goto 4, 3) := by decide +kernel
theorem dX3_costOfRow_20 : decode cX3_costOfRow 20 = .ok (.iconst (-1), 1) := by decide +kernel
theorem dX3_costOfRow_21 : decode cX3_costOfRow 21 = .ok (.ireturn, 1) := by decide +kernel
theorem dX3_kindInRow_0 : decode cX3_kindInRow 0 = .ok (.aload_n 0, 1) := by decide +kernel
theorem dX3_kindInRow_1 : decode cX3_kindInRow 1 = .ok (.iload_n 1, 1) := by decide +kernel
theorem dX3_kindInRow_2 : decode cX3_kindInRow 2 = .ok (.invokevirtual 119, 3) := by decide +kernel
theorem dX3_kindInRow_5 : decode cX3_kindInRow 5 = .ok (.ifCond .eq 15, 3) := by decide +kernel
theorem dX3_kindInRow_8 : decode cX3_kindInRow 8 = .ok (.iload_n 2, 1) := by decide +kernel
theorem dX3_kindInRow_9 : decode cX3_kindInRow 9 = .ok (.ifCond .lt 11, 3) := by decide +kernel
theorem dX3_kindInRow_12 : decode cX3_kindInRow 12 = .ok (.iload_n 2, 1) := by decide +kernel
theorem dX3_kindInRow_13 : decode cX3_kindInRow 13 = .ok (.aload_n 0, 1) := by decide +kernel
theorem dX3_kindInRow_14 : decode cX3_kindInRow 14 = .ok (.getfield 18, 3) := by decide +kernel
theorem dX3_kindInRow_17 : decode cX3_kindInRow 17 = .ok (.if_icmp .lt 5, 3) := by decide +kernel
theorem dX3_kindInRow_20 : decode cX3_kindInRow 20 = .ok (.iconst (-1), 1) := by decide +kernel
theorem dX3_kindInRow_21 : decode cX3_kindInRow 21 = .ok (.ireturn, 1) := by decide +kernel
theorem dX3_kindInRow_22 : decode cX3_kindInRow 22 = .ok (.aload_n 0, 1) := by decide +kernel
theorem dX3_kindInRow_23 : decode cX3_kindInRow 23 = .ok (.getfield 30, 3) := by decide +kernel
theorem dX3_kindInRow_26 : decode cX3_kindInRow 26 = .ok (.iload_n 1, 1) := by decide +kernel
theorem dX3_kindInRow_27 : decode cX3_kindInRow 27 = .ok (.laload, 1) := by decide +kernel
theorem dX3_kindInRow_28 : decode cX3_kindInRow 28 = .ok (.bipush 12, 2) := by decide +kernel
theorem dX3_kindInRow_30 : decode cX3_kindInRow 30 = .ok (.iconst 3, 1) := by decide +kernel
theorem dX3_kindInRow_31 : decode cX3_kindInRow 31 = .ok (.aload_n 0, 1) := by decide +kernel
theorem dX3_kindInRow_32 : decode cX3_kindInRow 32 = .ok (.getfield 18, 3) := by decide +kernel
theorem dX3_kindInRow_35 : decode cX3_kindInRow 35 = .ok (.iconst 1, 1) := by decide +kernel
theorem dX3_kindInRow_36 : decode cX3_kindInRow 36 = .ok (.isub, 1) := by decide +kernel
theorem dX3_kindInRow_37 : decode cX3_kindInRow 37 = .ok (.iload_n 2, 1) := by decide +kernel
theorem dX3_kindInRow_38 : decode cX3_kindInRow 38 = .ok (.isub, 1) := by decide +kernel
theorem dX3_kindInRow_39 : decode cX3_kindInRow 39 = .ok (.imul, 1) := by decide +kernel
theorem dX3_kindInRow_40 : decode cX3_kindInRow 40 = .ok (.iadd, 1) := by decide +kernel
theorem dX3_kindInRow_41 : decode cX3_kindInRow 41 = .ok (.lshr, 1) := by decide +kernel
theorem dX3_kindInRow_42 : decode cX3_kindInRow 42 = .ok (.l2i, 1) := by decide +kernel
theorem dX3_kindInRow_43 : decode cX3_kindInRow 43 = .ok (.bipush 7, 2) := by decide +kernel
theorem dX3_kindInRow_45 : decode cX3_kindInRow 45 = .ok (.iand, 1) := by decide +kernel
theorem dX3_kindInRow_46 : decode cX3_kindInRow 46 = .ok (.ireturn, 1) := by decide +kernel
theorem dX4_init_0 : decode cX4_init 0 = .ok (.aload_n 0, 1) := by decide +kernel
theorem dX4_init_1 : decode cX4_init 1 = .ok (.invokespecial 3, 3) := by decide +kernel
theorem dX4_init_4 : decode cX4_init 4 = .ok (.aload_n 0, 1) := by decide +kernel
theorem dX4_init_5 : decode cX4_init 5 = .ok (.iconst 0, 1) := by decide +kernel
theorem dX4_init_6 : decode cX4_init 6 = .ok (.putfield 9, 3) := by decide +kernel
theorem dX4_init_9 : decode cX4_init 9 = .ok (.aload_n 0, 1) := by decide +kernel
theorem dX4_init_10 : decode cX4_init 10 = .ok (.bipush 8, 2) := by decide +kernel
theorem dX4_init_12 : decode cX4_init 12 = .ok (.newarray .int, 2) := by decide +kernel
theorem dX4_init_14 : decode cX4_init 14 = .ok (.putfield 15, 3) := by decide +kernel
theorem dX4_init_17 : decode cX4_init 17 = .ok (.aload_n 0, 1) := by decide +kernel
theorem dX4_init_18 : decode cX4_init 18 = .ok (.bipush 8, 2) := by decide +kernel
theorem dX4_init_20 : decode cX4_init 20 = .ok (.newarray .boolean, 2) := by decide +kernel
theorem dX4_init_22 : decode cX4_init 22 = .ok (.putfield 19, 3) := by decide +kernel
theorem dX4_init_25 : decode cX4_init 25 = .ok (.aload_n 0, 1) := by decide +kernel
theorem dX4_init_26 : decode cX4_init 26 = .ok (.bipush 8, 2) := by decide +kernel
theorem dX4_init_28 : decode cX4_init 28 = .ok (.newarray .boolean, 2) := by decide +kernel
theorem dX4_init_30 : decode cX4_init 30 = .ok (.putfield 23, 3) := by decide +kernel
theorem dX4_init_33 : decode cX4_init 33 = .ok (.aload_n 0, 1) := by decide +kernel
theorem dX4_init_34 : decode cX4_init 34 = .ok (.iconst 0, 1) := by decide +kernel
theorem dX4_init_35 : decode cX4_init 35 = .ok (.putfield 26, 3) := by decide +kernel
theorem dX4_init_38 : decode cX4_init 38 = .ok (.aload_n 0, 1) := by decide +kernel
theorem dX4_init_39 : decode cX4_init 39 = .ok (.bipush 8, 2) := by decide +kernel
theorem dX4_init_41 : decode cX4_init 41 = .ok (.newarray .int, 2) := by decide +kernel
theorem dX4_init_43 : decode cX4_init 43 = .ok (.putfield 29, 3) := by decide +kernel
theorem dX4_init_46 : decode cX4_init 46 = .ok (.aload_n 0, 1) := by decide +kernel
theorem dX4_init_47 : decode cX4_init 47 = .ok (.bipush 7, 2) := by decide +kernel
theorem dX4_init_49 : decode cX4_init 49 = .ok (.newarray .int, 2) := by decide +kernel
theorem dX4_init_51 : decode cX4_init 51 = .ok (.putfield 32, 3) := by decide +kernel
theorem dX4_init_54 : decode cX4_init 54 = .ok (.aload_n 0, 1) := by decide +kernel
theorem dX4_init_55 : decode cX4_init 55 = .ok (.bipush 7, 2) := by decide +kernel
theorem dX4_init_57 : decode cX4_init 57 = .ok (.newarray .int, 2) := by decide +kernel
theorem dX4_init_59 : decode cX4_init 59 = .ok (.putfield 35, 3) := by decide +kernel
theorem dX4_init_62 : decode cX4_init 62 = .ok (.aload_n 0, 1) := by decide +kernel
theorem dX4_init_63 : decode cX4_init 63 = .ok (.iconst 0, 1) := by decide +kernel
theorem dX4_init_64 : decode cX4_init 64 = .ok (.putfield 38, 3) := by decide +kernel
theorem dX4_init_67 : decode cX4_init 67 = .ok (.aload_n 0, 1) := by decide +kernel
theorem dX4_init_68 : decode cX4_init 68 = .ok (.bipush 7, 2) := by decide +kernel
theorem dX4_init_70 : decode cX4_init 70 = .ok (.newarray .int, 2) := by decide +kernel
theorem dX4_init_72 : decode cX4_init 72 = .ok (.putfield 41, 3) := by decide +kernel
theorem dX4_init_75 : decode cX4_init 75 = .ok (.aload_n 0, 1) := by decide +kernel
theorem dX4_init_76 : decode cX4_init 76 = .ok (.iconst 0, 1) := by decide +kernel
theorem dX4_init_77 : decode cX4_init 77 = .ok (.putfield 44, 3) := by decide +kernel
theorem dX4_init_80 : decode cX4_init 80 = .ok (.aload_n 0, 1) := by decide +kernel
theorem dX4_init_81 : decode cX4_init 81 = .ok (.bipush 6, 2) := by decide +kernel
theorem dX4_init_83 : decode cX4_init 83 = .ok (.newarray .byte, 2) := by decide +kernel
theorem dX4_init_85 : decode cX4_init 85 = .ok (.putfield 47, 3) := by decide +kernel
theorem dX4_init_88 : decode cX4_init 88 = .ok (.aload_n 0, 1) := by decide +kernel
theorem dX4_init_89 : decode cX4_init 89 = .ok (.iconst 0, 1) := by decide +kernel
theorem dX4_init_90 : decode cX4_init 90 = .ok (.putfield 51, 3) := by decide +kernel
theorem dX4_init_93 : decode cX4_init 93 = .ok (.return_, 1) := by decide +kernel
theorem dX4_link_0 : decode cX4_link 0 = .ok (.iconst 0, 1) := by decide +kernel
theorem dX4_link_1 : decode cX4_link 1 = .ok (.istore_n 1, 1) := by decide +kernel
theorem dX4_link_2 : decode cX4_link 2 = .ok (.iload_n 1, 1) := by decide +kernel
theorem dX4_link_3 : decode cX4_link 3 = .ok (.bipush 7, 2) := by decide +kernel
theorem dX4_link_5 : decode cX4_link 5 = .ok (.if_icmp .ge 16, 3) := by decide +kernel
theorem dX4_link_8 : decode cX4_link 8 = .ok (.aload_n 0, 1) := by decide +kernel
theorem dX4_link_9 : decode cX4_link 9 = .ok (.getfield 32, 3) := by decide +kernel
theorem dX4_link_12 : decode cX4_link 12 = .ok (.iload_n 1, 1) := by decide +kernel
theorem dX4_link_13 : decode cX4_link 13 = .ok (.iconst 0, 1) := by decide +kernel
theorem dX4_link_14 : decode cX4_link 14 = .ok (.iastore, 1) := by decide +kernel
theorem dX4_link_15 : decode cX4_link 15 = .ok (.iinc 1 1, 3) := by decide +kernel
theorem dX4_link_18 : decode cX4_link 18 = .ok (.goto (-16), 3) := by decide +kernel
theorem dX4_link_21 : decode cX4_link 21 = .ok (.aload_n 0, 1) := by decide +kernel
theorem dX4_link_22 : decode cX4_link 22 = .ok (.aload_n 0, 1) := by decide +kernel
theorem dX4_link_23 : decode cX4_link 23 = .ok (.iconst 0, 1) := by decide +kernel
theorem dX4_link_24 : decode cX4_link 24 = .ok (.invokevirtual 54, 3) := by decide +kernel
theorem dX4_link_27 : decode cX4_link 27 = .ok (.putfield 26, 3) := by decide +kernel
theorem dX4_link_30 : decode cX4_link 30 = .ok (.iconst 0, 1) := by decide +kernel
theorem dX4_link_31 : decode cX4_link 31 = .ok (.istore_n 1, 1) := by decide +kernel
theorem dX4_link_32 : decode cX4_link 32 = .ok (.iload_n 1, 1) := by decide +kernel
theorem dX4_link_33 : decode cX4_link 33 = .ok (.aload_n 0, 1) := by decide +kernel
theorem dX4_link_34 : decode cX4_link 34 = .ok (.getfield 9, 3) := by decide +kernel
theorem dX4_link_37 : decode cX4_link 37 = .ok (.if_icmp .ge 56, 3) := by decide +kernel
theorem dX4_link_40 : decode cX4_link 40 = .ok (.aload_n 0, 1) := by decide +kernel
theorem dX4_link_41 : decode cX4_link 41 = .ok (.getfield 32, 3) := by decide +kernel
theorem dX4_link_44 : decode cX4_link 44 = .ok (.aload_n 0, 1) := by decide +kernel
theorem dX4_link_45 : decode cX4_link 45 = .ok (.getfield 15, 3) := by decide +kernel
theorem dX4_link_48 : decode cX4_link 48 = .ok (.iload_n 1, 1) := by decide +kernel
theorem dX4_link_49 : decode cX4_link 49 = .ok (.iaload, 1) := by decide +kernel
theorem dX4_link_50 : decode cX4_link 50 = .ok (.dup2, 1) := by decide +kernel
theorem dX4_link_51 : decode cX4_link 51 = .ok (.iaload, 1) := by decide +kernel
theorem dX4_link_52 : decode cX4_link 52 = .ok (.iconst 1, 1) := by decide +kernel
theorem dX4_link_53 : decode cX4_link 53 = .ok (.iload_n 1, 1) := by decide +kernel
theorem dX4_link_54 : decode cX4_link 54 = .ok (.ishl, 1) := by decide +kernel
theorem dX4_link_55 : decode cX4_link 55 = .ok (.ior, 1) := by decide +kernel
theorem dX4_link_56 : decode cX4_link 56 = .ok (.iastore, 1) := by decide +kernel
theorem dX4_link_57 : decode cX4_link 57 = .ok (.aload_n 0, 1) := by decide +kernel
theorem dX4_link_58 : decode cX4_link 58 = .ok (.getfield 29, 3) := by decide +kernel
theorem dX4_link_61 : decode cX4_link 61 = .ok (.iload_n 1, 1) := by decide +kernel
theorem dX4_link_62 : decode cX4_link 62 = .ok (.aload_n 0, 1) := by decide +kernel
theorem dX4_link_63 : decode cX4_link 63 = .ok (.iload_n 1, 1) := by decide +kernel
theorem dX4_link_64 : decode cX4_link 64 = .ok (.iconst 1, 1) := by decide +kernel
theorem dX4_link_65 : decode cX4_link 65 = .ok (.iadd, 1) := by decide +kernel
theorem dX4_link_66 : decode cX4_link 66 = .ok (.invokevirtual 54, 3) := by decide +kernel
theorem dX4_link_69 : decode cX4_link 69 = .ok (.aload_n 0, 1) := by decide +kernel
theorem dX4_link_70 : decode cX4_link 70 = .ok (.getfield 23, 3) := by decide +kernel
theorem dX4_link_73 : decode cX4_link 73 = .ok (.iload_n 1, 1) := by decide +kernel
theorem dX4_link_74 : decode cX4_link 74 = .ok (.baload, 1) := by decide +kernel
theorem dX4_link_75 : decode cX4_link 75 = .ok (.ifCond .eq 9, 3) := by decide +kernel
theorem dX4_link_78 : decode cX4_link 78 = .ok (.iconst 1, 1) := by decide +kernel
theorem dX4_link_79 : decode cX4_link 79 = .ok (.iload_n 1, 1) := by decide +kernel
theorem dX4_link_80 : decode cX4_link 80 = .ok (.ishl, 1) := by decide +kernel
theorem dX4_link_81 : decode cX4_link 81 = .ok (.goto 4, 3) := by decide +kernel
theorem dX4_link_84 : decode cX4_link 84 = .ok (.iconst 0, 1) := by decide +kernel
theorem dX4_link_85 : decode cX4_link 85 = .ok (.ior, 1) := by decide +kernel
theorem dX4_link_86 : decode cX4_link 86 = .ok (.iastore, 1) := by decide +kernel
theorem dX4_link_87 : decode cX4_link 87 = .ok (.iinc 1 1, 3) := by decide +kernel
theorem dX4_link_90 : decode cX4_link 90 = .ok (.goto (-58), 3) := by decide +kernel
theorem dX4_link_93 : decode cX4_link 93 = .ok (.return_, 1) := by decide +kernel
theorem dX4_openFrom_0 : decode cX4_openFrom 0 = .ok (.iconst 0, 1) := by decide +kernel
theorem dX4_openFrom_1 : decode cX4_openFrom 1 = .ok (.istore_n 2, 1) := by decide +kernel
theorem dX4_openFrom_2 : decode cX4_openFrom 2 = .ok (.iload_n 1, 1) := by decide +kernel
theorem dX4_openFrom_3 : decode cX4_openFrom 3 = .ok (.istore_n 3, 1) := by decide +kernel
theorem dX4_openFrom_4 : decode cX4_openFrom 4 = .ok (.iload_n 3, 1) := by decide +kernel
theorem dX4_openFrom_5 : decode cX4_openFrom 5 = .ok (.aload_n 0, 1) := by decide +kernel
theorem dX4_openFrom_6 : decode cX4_openFrom 6 = .ok (.getfield 9, 3) := by decide +kernel
theorem dX4_openFrom_9 : decode cX4_openFrom 9 = .ok (.if_icmp .ge 26, 3) := by decide +kernel
theorem dX4_openFrom_12 : decode cX4_openFrom 12 = .ok (.iload_n 2, 1) := by decide +kernel
theorem dX4_openFrom_13 : decode cX4_openFrom 13 = .ok (.iconst 1, 1) := by decide +kernel
theorem dX4_openFrom_14 : decode cX4_openFrom 14 = .ok (.iload_n 3, 1) := by decide +kernel
theorem dX4_openFrom_15 : decode cX4_openFrom 15 = .ok (.ishl, 1) := by decide +kernel
theorem dX4_openFrom_16 : decode cX4_openFrom 16 = .ok (.ior, 1) := by decide +kernel
theorem dX4_openFrom_17 : decode cX4_openFrom 17 = .ok (.istore_n 2, 1) := by decide +kernel
theorem dX4_openFrom_18 : decode cX4_openFrom 18 = .ok (.aload_n 0, 1) := by decide +kernel
theorem dX4_openFrom_19 : decode cX4_openFrom 19 = .ok (.getfield 19, 3) := by decide +kernel
theorem dX4_openFrom_22 : decode cX4_openFrom 22 = .ok (.iload_n 3, 1) := by decide +kernel
