theorem dX4_openFrom_23 : decode cX4_openFrom 23 = .ok (.baload, 1) := by decide +kernel
theorem dX4_openFrom_24 : decode cX4_openFrom 24 = .ok (.ifCond .ne 5, 3) := by decide +kernel
theorem dX4_openFrom_27 : decode cX4_openFrom 27 = .ok (.iload_n 2, 1) := by decide +kernel
theorem dX4_openFrom_28 : decode cX4_openFrom 28 = .ok (.ireturn, 1) := by decide +kernel
theorem dX4_openFrom_29 : decode cX4_openFrom 29 = .ok (.iinc 3 1, 3) := by decide +kernel
theorem dX4_openFrom_32 : decode cX4_openFrom 32 = .ok (.goto (-28), 3) := by decide +kernel
theorem dX4_openFrom_35 : decode cX4_openFrom 35 = .ok (.iload_n 2, 1) := by decide +kernel
theorem dX4_openFrom_36 : decode cX4_openFrom 36 = .ok (.sipush 256, 3) := by decide +kernel
theorem dX4_openFrom_39 : decode cX4_openFrom 39 = .ok (.ior, 1) := by decide +kernel
theorem dX4_openFrom_40 : decode cX4_openFrom 40 = .ok (.ireturn, 1) := by decide +kernel
theorem dX4_openBehind_0 : decode cX4_openBehind 0 = .ok (.iload_n 1, 1) := by decide +kernel
theorem dX4_openBehind_1 : decode cX4_openBehind 1 = .ok (.aload_n 0, 1) := by decide +kernel
theorem dX4_openBehind_2 : decode cX4_openBehind 2 = .ok (.getfield 32, 3) := by decide +kernel
theorem dX4_openBehind_5 : decode cX4_openBehind 5 = .ok (.iload_n 2, 1) := by decide +kernel
theorem dX4_openBehind_6 : decode cX4_openBehind 6 = .ok (.iaload, 1) := by decide +kernel
theorem dX4_openBehind_7 : decode cX4_openBehind 7 = .ok (.iand, 1) := by decide +kernel
theorem dX4_openBehind_8 : decode cX4_openBehind 8 = .ok (.istore_n 3, 1) := by decide +kernel
theorem dX4_openBehind_9 : decode cX4_openBehind 9 = .ok (.iconst 0, 1) := by decide +kernel
theorem dX4_openBehind_10 : decode cX4_openBehind 10 = .ok (.istore 4, 2) := by decide +kernel
theorem dX4_openBehind_12 : decode cX4_openBehind 12 = .ok (.iconst 0, 1) := by decide +kernel
theorem dX4_openBehind_13 : decode cX4_openBehind 13 = .ok (.istore 5, 2) := by decide +kernel
theorem dX4_openBehind_15 : decode cX4_openBehind 15 = .ok (.iload 5, 2) := by decide +kernel
theorem dX4_openBehind_17 : decode cX4_openBehind 17 = .ok (.bipush 8, 2) := by decide +kernel
theorem dX4_openBehind_19 : decode cX4_openBehind 19 = .ok (.if_icmp .ge 37, 3) := by decide +kernel
theorem dX4_openBehind_22 : decode cX4_openBehind 22 = .ok (.iload_n 3, 1) := by decide +kernel
theorem dX4_openBehind_23 : decode cX4_openBehind 23 = .ok (.iload 5, 2) := by decide +kernel
theorem dX4_openBehind_25 : decode cX4_openBehind 25 = .ok (.ishr, 1) := by decide +kernel
theorem dX4_openBehind_26 : decode cX4_openBehind 26 = .ok (.ifCond .eq 30, 3) := by decide +kernel
theorem dX4_openBehind_29 : decode cX4_openBehind 29 = .ok (.iload_n 3, 1) := by decide +kernel
theorem dX4_openBehind_30 : decode cX4_openBehind 30 = .ok (.iload 5, 2) := by decide +kernel
theorem dX4_openBehind_32 : decode cX4_openBehind 32 = .ok (.ishr, 1) := by decide +kernel
theorem dX4_openBehind_33 : decode cX4_openBehind 33 = .ok (.iconst 1, 1) := by decide +kernel
theorem dX4_openBehind_34 : decode cX4_openBehind 34 = .ok (.iand, 1) := by decide +kernel
theorem dX4_openBehind_35 : decode cX4_openBehind 35 = .ok (.ifCond .eq 15, 3) := by decide +kernel
theorem dX4_openBehind_38 : decode cX4_openBehind 38 = .ok (.iload 4, 2) := by decide +kernel
theorem dX4_openBehind_40 : decode cX4_openBehind 40 = .ok (.aload_n 0, 1) := by decide +kernel
theorem dX4_openBehind_41 : decode cX4_openBehind 41 = .ok (.getfield 29, 3) := by decide +kernel
theorem dX4_openBehind_44 : decode cX4_openBehind 44 = .ok (.iload 5, 2) := by decide +kernel
theorem dX4_openBehind_46 : decode cX4_openBehind 46 = .ok (.iaload, 1) := by decide +kernel
theorem dX4_openBehind_47 : decode cX4_openBehind 47 = .ok (.ior, 1) := by decide +kernel
theorem dX4_openBehind_48 : decode cX4_openBehind 48 = .ok (.istore 4, 2) := by decide +kernel
theorem dX4_openBehind_50 : decode cX4_openBehind 50 = .ok (.iinc 5 1, 3) := by decide +kernel
theorem dX4_openBehind_53 : decode cX4_openBehind 53 = .ok (.goto (-38), 3) := by decide +kernel
theorem dX4_openBehind_56 : decode cX4_openBehind 56 = .ok (.iload 4, 2) := by decide +kernel
theorem dX4_openBehind_58 : decode cX4_openBehind 58 = .ok (.ireturn, 1) := by decide +kernel
theorem dX4_isMade_0 : decode cX4_isMade 0 = .ok (.aload_n 0, 1) := by decide +kernel
theorem dX4_isMade_1 : decode cX4_isMade 1 = .ok (.getfield 51, 3) := by decide +kernel
theorem dX4_isMade_4 : decode cX4_isMade 4 = .ok (.ifCond .le 33, 3) := by decide +kernel
theorem dX4_isMade_7 : decode cX4_isMade 7 = .ok (.aload_n 1, 1) := by decide +kernel
theorem dX4_isMade_8 : decode cX4_isMade 8 = .ok (.getfield 58, 3) := by decide +kernel
theorem dX4_isMade_11 : decode cX4_isMade 11 = .ok (.aload_n 0, 1) := by decide +kernel
theorem dX4_isMade_12 : decode cX4_isMade 12 = .ok (.getfield 51, 3) := by decide +kernel
theorem dX4_isMade_15 : decode cX4_isMade 15 = .ok (.if_icmp .le 22, 3) := by decide +kernel
theorem dX4_isMade_18 : decode cX4_isMade 18 = .ok (.aload_n 1, 1) := by decide +kernel
theorem dX4_isMade_19 : decode cX4_isMade 19 = .ok (.aload_n 0, 1) := by decide +kernel
theorem dX4_isMade_20 : decode cX4_isMade 20 = .ok (.getfield 47, 3) := by decide +kernel
theorem dX4_isMade_23 : decode cX4_isMade 23 = .ok (.aload_n 0, 1) := by decide +kernel
theorem dX4_isMade_24 : decode cX4_isMade 24 = .ok (.getfield 51, 3) := by decide +kernel
theorem dX4_isMade_27 : decode cX4_isMade 27 = .ok (.invokevirtual 63, 3) := by decide +kernel
theorem dX4_isMade_30 : decode cX4_isMade 30 = .ok (.ifCond .eq 7, 3) := by decide +kernel
theorem dX4_isMade_33 : decode cX4_isMade 33 = .ok (.iconst 1, 1) := by decide +kernel
theorem dX4_isMade_34 : decode cX4_isMade 34 = .ok (.goto 4, 3) := by decide +kernel
theorem dX4_isMade_37 : decode cX4_isMade 37 = .ok (.iconst 0, 1) := by decide +kernel
theorem dX4_isMade_38 : decode cX4_isMade 38 = .ok (.ireturn, 1) := by decide +kernel
theorem dX4_makes_0 : decode cX4_makes 0 = .ok (.aload_n 0, 1) := by decide +kernel
theorem dX4_makes_1 : decode cX4_makes 1 = .ok (.aload_n 2, 1) := by decide +kernel
theorem dX4_makes_2 : decode cX4_makes 2 = .ok (.invokevirtual 67, 3) := by decide +kernel
theorem dX4_makes_5 : decode cX4_makes 5 = .ok (.ifCond .eq 24, 3) := by decide +kernel
theorem dX4_makes_8 : decode cX4_makes 8 = .ok (.aload_n 1, 1) := by decide +kernel
theorem dX4_makes_9 : decode cX4_makes 9 = .ok (.aload_n 2, 1) := by decide +kernel
theorem dX4_makes_10 : decode cX4_makes 10 = .ok (.aload_n 2, 1) := by decide +kernel
theorem dX4_makes_11 : decode cX4_makes 11 = .ok (.getfield 58, 3) := by decide +kernel
theorem dX4_makes_14 : decode cX4_makes 14 = .ok (.aload_n 0, 1) := by decide +kernel
theorem dX4_makes_15 : decode cX4_makes 15 = .ok (.getfield 51, 3) := by decide +kernel
theorem dX4_makes_18 : decode cX4_makes 18 = .ok (.isub, 1) := by decide +kernel
theorem dX4_makes_19 : decode cX4_makes 19 = .ok (.invokevirtual 71, 3) := by decide +kernel
theorem dX4_makes_22 : decode cX4_makes 22 = .ok (.ifCond .eq 7, 3) := by decide +kernel
theorem dX4_makes_25 : decode cX4_makes 25 = .ok (.iconst 1, 1) := by decide +kernel
theorem dX4_makes_26 : decode cX4_makes 26 = .ok (.goto 4, 3) := by decide +kernel
theorem dX4_makes_29 : decode cX4_makes 29 = .ok (.iconst 0, 1) := by decide +kernel
theorem dX4_makes_30 : decode cX4_makes 30 = .ok (.ireturn, 1) := by decide +kernel
theorem dX5_init_0 : decode cX5_init 0 = .ok (.aload_n 0, 1) := by decide +kernel
theorem dX5_init_1 : decode cX5_init 1 = .ok (.invokespecial 3, 3) := by decide +kernel
theorem dX5_init_4 : decode cX5_init 4 = .ok (.aload_n 0, 1) := by decide +kernel
theorem dX5_init_5 : decode cX5_init 5 = .ok (.iconst 0, 1) := by decide +kernel
theorem dX5_init_6 : decode cX5_init 6 = .ok (.newarray .byte, 2) := by decide +kernel
theorem dX5_init_8 : decode cX5_init 8 = .ok (.putfield 9, 3) := by decide +kernel
theorem dX5_init_11 : decode cX5_init 11 = .ok (.aload_n 0, 1) := by decide +kernel
theorem dX5_init_12 : decode cX5_init 12 = .ok (.iconst 0, 1) := by decide +kernel
theorem dX5_init_13 : decode cX5_init 13 = .ok (.putfield 15, 3) := by decide +kernel
theorem dX5_init_16 : decode cX5_init 16 = .ok (.aload_n 0, 1) := by decide +kernel
theorem dX5_init_17 : decode cX5_init 17 = .ok (.iconst 0, 1) := by decide +kernel
theorem dX5_init_18 : decode cX5_init 18 = .ok (.putfield 19, 3) := by decide +kernel
theorem dX5_init_21 : decode cX5_init 21 = .ok (.aload_n 0, 1) := by decide +kernel
theorem dX5_init_22 : decode cX5_init 22 = .ok (.iconst 0, 1) := by decide +kernel
theorem dX5_init_23 : decode cX5_init 23 = .ok (.putfield 22, 3) := by decide +kernel
theorem dX5_init_26 : decode cX5_init 26 = .ok (.aload_n 0, 1) := by decide +kernel
theorem dX5_init_27 : decode cX5_init 27 = .ok (.iconst (-1), 1) := by decide +kernel
theorem dX5_init_28 : decode cX5_init 28 = .ok (.putfield 25, 3) := by decide +kernel
theorem dX5_init_31 : decode cX5_init 31 = .ok (.return_, 1) := by decide +kernel
theorem dX5_readInto_0 : decode cX5_readInto 0 = .ok (.aload_n 0, 1) := by decide +kernel
theorem dX5_readInto_1 : decode cX5_readInto 1 = .ok (.aload_n 2, 1) := by decide +kernel
theorem dX5_readInto_2 : decode cX5_readInto 2 = .ok (.putfield 9, 3) := by decide +kernel
theorem dX5_readInto_5 : decode cX5_readInto 5 = .ok (.aload_n 0, 1) := by decide +kernel
theorem dX5_readInto_6 : decode cX5_readInto 6 = .ok (.iload_n 3, 1) := by decide +kernel
theorem dX5_readInto_7 : decode cX5_readInto 7 = .ok (.aload_n 2, 1) := by decide +kernel
theorem dX5_readInto_8 : decode cX5_readInto 8 = .ok (.arraylength, 1) := by decide +kernel
theorem dX5_readInto_9 : decode cX5_readInto 9 = .ok (.invokestatic 28, 3) := by decide +kernel
theorem dX5_readInto_12 : decode cX5_readInto 12 = .ok (.putfield 15, 3) := by decide +kernel
theorem dX5_readInto_15 : decode cX5_readInto 15 = .ok (.aload_n 0, 1) := by decide +kernel
theorem dX5_readInto_16 : decode cX5_readInto 16 = .ok (.iconst 0, 1) := by decide +kernel
theorem dX5_readInto_17 : decode cX5_readInto 17 = .ok (.putfield 19, 3) := by decide +kernel
theorem dX5_readInto_20 : decode cX5_readInto 20 = .ok (.aload_n 0, 1) := by decide +kernel
theorem dX5_readInto_21 : decode cX5_readInto 21 = .ok (.iconst 0, 1) := by decide +kernel
theorem dX5_readInto_22 : decode cX5_readInto 22 = .ok (.putfield 22, 3) := by decide +kernel
theorem dX5_readInto_25 : decode cX5_readInto 25 = .ok (.aload_n 0, 1) := by decide +kernel
theorem dX5_readInto_26 : decode cX5_readInto 26 = .ok (.iconst (-1), 1) := by decide +kernel
theorem dX5_readInto_27 : decode cX5_readInto 27 = .ok (.putfield 25, 3) := by decide +kernel
theorem dX5_readInto_30 : decode cX5_readInto 30 = .ok (.aload_n 0, 1) := by decide +kernel
theorem dX5_readInto_31 : decode cX5_readInto 31 = .ok (.aload_n 1, 1) := by decide +kernel
theorem dX5_readInto_32 : decode cX5_readInto 32 = .ok (.invokevirtual 34, 3) := by decide +kernel
theorem dX5_readInto_35 : decode cX5_readInto 35 = .ok (.ifCond .ne 5, 3) := by decide +kernel
theorem dX5_readInto_38 : decode cX5_readInto 38 = .ok (.iconst 0, 1) := by decide +kernel
theorem dX5_readInto_39 : decode cX5_readInto 39 = .ok (.ireturn, 1) := by decide +kernel
theorem dX5_readInto_40 : decode cX5_readInto 40 = .ok (.aload_n 1, 1) := by decide +kernel
theorem dX5_readInto_41 : decode cX5_readInto 41 = .ok (.aload_n 0, 1) := by decide +kernel
theorem dX5_readInto_42 : decode cX5_readInto 42 = .ok (.aload_n 1, 1) := by decide +kernel
theorem dX5_readInto_43 : decode cX5_readInto 43 = .ok (.getfield 38, 3) := by decide +kernel
theorem dX5_readInto_46 : decode cX5_readInto 46 = .ok (.invokevirtual 44, 3) := by decide +kernel
theorem dX5_readInto_49 : decode cX5_readInto 49 = .ok (.putfield 48, 3) := by decide +kernel
theorem dX5_readInto_52 : decode cX5_readInto 52 = .ok (.aload_n 1, 1) := by decide +kernel
theorem dX5_readInto_53 : decode cX5_readInto 53 = .ok (.getfield 48, 3) := by decide +kernel
theorem dX5_readInto_56 : decode cX5_readInto 56 = .ok (.iconst (-1), 1) := by decide +kernel
theorem dX5_readInto_57 : decode cX5_readInto 57 = .ok (.if_icmp .ne 5, 3) := by decide +kernel
theorem dX5_readInto_60 : decode cX5_readInto 60 = .ok (.iconst 0, 1) := by decide +kernel
theorem dX5_readInto_61 : decode cX5_readInto 61 = .ok (.ireturn, 1) := by decide +kernel
theorem dX5_readInto_62 : decode cX5_readInto 62 = .ok (.aload_n 1, 1) := by decide +kernel
theorem dX5_readInto_63 : decode cX5_readInto 63 = .ok (.aload_n 0, 1) := by decide +kernel
theorem dX5_readInto_64 : decode cX5_readInto 64 = .ok (.aload_n 1, 1) := by decide +kernel
theorem dX5_readInto_65 : decode cX5_readInto 65 = .ok (.getfield 51, 3) := by decide +kernel
theorem dX5_readInto_68 : decode cX5_readInto 68 = .ok (.invokevirtual 44, 3) := by decide +kernel
theorem dX5_readInto_71 : decode cX5_readInto 71 = .ok (.putfield 54, 3) := by decide +kernel
theorem dX5_readInto_74 : decode cX5_readInto 74 = .ok (.aload_n 1, 1) := by decide +kernel
theorem dX5_readInto_75 : decode cX5_readInto 75 = .ok (.getfield 54, 3) := by decide +kernel
theorem dX5_readInto_78 : decode cX5_readInto 78 = .ok (.iconst (-1), 1) := by decide +kernel
theorem dX5_readInto_79 : decode cX5_readInto 79 = .ok (.if_icmp .ne 5, 3) := by decide +kernel
theorem dX5_readInto_82 : decode cX5_readInto 82 = .ok (.iconst 0, 1) := by decide +kernel
theorem dX5_readInto_83 : decode cX5_readInto 83 = .ok (.ireturn, 1) := by decide +kernel
theorem dX5_readInto_84 : decode cX5_readInto 84 = .ok (.aload_n 0, 1) := by decide +kernel
theorem dX5_readInto_85 : decode cX5_readInto 85 = .ok (.aload_n 1, 1) := by decide +kernel
theorem dX5_readInto_86 : decode cX5_readInto 86 = .ok (.invokevirtual 57, 3) := by decide +kernel
theorem dX5_readInto_89 : decode cX5_readInto 89 = .ok (.ifCond .eq 12, 3) := by decide +kernel
theorem dX5_readInto_92 : decode cX5_readInto 92 = .ok (.aload_n 0, 1) := by decide +kernel
theorem dX5_readInto_93 : decode cX5_readInto 93 = .ok (.bipush 46, 2) := by decide +kernel
theorem dX5_readInto_95 : decode cX5_readInto 95 = .ok (.invokevirtual 60, 3) := by decide +kernel
theorem dX5_readInto_98 : decode cX5_readInto 98 = .ok (.ifCond .ne 5, 3) := by decide +kernel
theorem dX5_readInto_101 : decode cX5_readInto 101 = .ok (.iconst 0, 1) := by decide +kernel
theorem dX5_readInto_102 : decode cX5_readInto 102 = .ok (.ireturn, 1) := by decide +kernel
theorem dX5_readInto_103 : decode cX5_readInto 103 = .ok (.aload_n 0, 1) := by decide +kernel
theorem dX5_readInto_104 : decode cX5_readInto 104 = .ok (.getfield 19, 3) := by decide +kernel
theorem dX5_readInto_107 : decode cX5_readInto 107 = .ok (.aload_n 0, 1) := by decide +kernel
theorem dX5_readInto_108 : decode cX5_readInto 108 = .ok (.getfield 15, 3) := by decide +kernel
theorem dX5_readInto_111 : decode cX5_readInto 111 = .ok (.if_icmp .ge 9, 3) := by decide +kernel
theorem dX5_readInto_114 : decode cX5_readInto 114 = .ok (.aload_n 0, 1) := by decide +kernel
theorem dX5_readInto_115 : decode cX5_readInto 115 = .ok (.iconst 1, 1) := by decide +kernel
theorem dX5_readInto_116 : decode cX5_readInto 116 = .ok (.invokevirtual 64, 3) := by decide +kernel
theorem dX5_readInto_119 : decode cX5_readInto 119 = .ok (.ireturn, 1) := by decide +kernel
theorem dX5_readInto_120 : decode cX5_readInto 120 = .ok (.aload_n 1, 1) := by decide +kernel
theorem dX5_readInto_121 : decode cX5_readInto 121 = .ok (.invokevirtual 68, 3) := by decide +kernel
theorem dX5_readInto_124 : decode cX5_readInto 124 = .ok (.iconst 1, 1) := by decide +kernel
theorem dX5_readInto_125 : decode cX5_readInto 125 = .ok (.ireturn, 1) := by decide +kernel
theorem dX5_here_0 : decode cX5_here 0 = .ok (.aload_n 0, 1) := by decide +kernel
theorem dX5_here_1 : decode cX5_here 1 = .ok (.getfield 19, 3) := by decide +kernel
theorem dX5_here_4 : decode cX5_here 4 = .ok (.ifCond .lt 30, 3) := by decide +kernel
theorem dX5_here_7 : decode cX5_here 7 = .ok (.aload_n 0, 1) := by decide +kernel
theorem dX5_here_8 : decode cX5_here 8 = .ok (.getfield 19, 3) := by decide +kernel
theorem dX5_here_11 : decode cX5_here 11 = .ok (.aload_n 0, 1) := by decide +kernel
theorem dX5_here_12 : decode cX5_here 12 = .ok (.getfield 15, 3) := by decide +kernel
theorem dX5_here_15 : decode cX5_here 15 = .ok (.if_icmp .ge 19, 3) := by decide +kernel
theorem dX5_here_18 : decode cX5_here 18 = .ok (.aload_n 0, 1) := by decide +kernel
theorem dX5_here_19 : decode cX5_here 19 = .ok (.getfield 9, 3) := by decide +kernel
theorem dX5_here_22 : decode cX5_here 22 = .ok (.aload_n 0, 1) := by decide +kernel
theorem dX5_here_23 : decode cX5_here 23 = .ok (.getfield 19, 3) := by decide +kernel
theorem dX5_here_26 : decode cX5_here 26 = .ok (.baload, 1) := by decide +kernel
theorem dX5_here_27 : decode cX5_here 27 = .ok (.sipush 255, 3) := by decide +kernel
theorem dX5_here_30 : decode cX5_here 30 = .ok (.iand, 1) := by decide +kernel
theorem dX5_here_31 : decode cX5_here 31 = .ok (.goto 4, 3) := by decide +kernel
theorem dX5_here_34 : decode cX5_here 34 = .ok (.iconst (-1), 1) := by decide +kernel
theorem dX5_here_35 : decode cX5_here 35 = .ok (.ireturn, 1) := by decide +kernel
theorem dX5_kindHere_0 : decode cX5_kindHere 0 = .ok (.aload_n 0, 1) := by decide +kernel
theorem dX5_kindHere_1 : decode cX5_kindHere 1 = .ok (.invokevirtual 71, 3) := by decide +kernel
theorem dX5_kindHere_4 : decode cX5_kindHere 4 = .ok (.istore_n 1, 1) := by decide +kernel
theorem dX5_kindHere_5 : decode cX5_kindHere 5 = .ok (.iload_n 1, 1) := by decide +kernel
theorem dX5_kindHere_6 : decode cX5_kindHere 6 = .ok (.iconst (-1), 1) := by decide +kernel
theorem dX5_kindHere_7 : decode cX5_kindHere 7 = .ok (.if_icmp .ne 7, 3) := by decide +kernel
theorem dX5_kindHere_10 : decode cX5_kindHere 10 = .ok (.iconst (-1), 1) := by decide +kernel
theorem dX5_kindHere_11 : decode cX5_kindHere 11 = .ok (.goto 10, 3) := by decide +kernel
theorem dX5_kindHere_14 : decode cX5_kindHere 14 = .ok (.ldc 75, 2) := by decide +kernel
theorem dX5_kindHere_16 : decode cX5_kindHere 16 = .ok (.iload_n 1, 1) := by decide +kernel
theorem dX5_kindHere_17 : decode cX5_kindHere 17 = .ok (.i2c, 1) := by decide +kernel
theorem dX5_kindHere_18 : decode cX5_kindHere 18 = .ok (.invokevirtual 77, 3) := by decide +kernel
theorem dX5_kindHere_21 : decode cX5_kindHere 21 = .ok (.ireturn, 1) := by decide +kernel
theorem dX5_stopWith_0 : decode cX5_stopWith 0 = .ok (.aload_n 0, 1) := by decide +kernel
theorem dX5_stopWith_1 : decode cX5_stopWith 1 = .ok (.iload_n 1, 1) := by decide +kernel
theorem dX5_stopWith_2 : decode cX5_stopWith 2 = .ok (.putfield 22, 3) := by decide +kernel
theorem dX5_stopWith_5 : decode cX5_stopWith 5 = .ok (.aload_n 0, 1) := by decide +kernel
theorem dX5_stopWith_6 : decode cX5_stopWith 6 = .ok (.aload_n 0, 1) := by decide +kernel
theorem dX5_stopWith_7 : decode cX5_stopWith 7 = .ok (.getfield 19, 3) := by decide +kernel
theorem dX5_stopWith_10 : decode cX5_stopWith 10 = .ok (.putfield 25, 3) := by decide +kernel
theorem dX5_stopWith_13 : decode cX5_stopWith 13 = .ok (.iconst 0, 1) := by decide +kernel
theorem dX5_stopWith_14 : decode cX5_stopWith 14 = .ok (.ireturn, 1) := by decide +kernel
theorem dX5_pass_0 : decode cX5_pass 0 = .ok (.aload_n 0, 1) := by decide +kernel
theorem dX5_pass_1 : decode cX5_pass 1 = .ok (.invokevirtual 71, 3) := by decide +kernel
theorem dX5_pass_4 : decode cX5_pass 4 = .ok (.iload_n 1, 1) := by decide +kernel
theorem dX5_pass_5 : decode cX5_pass 5 = .ok (.if_icmp .eq 9, 3) := by decide +kernel
theorem dX5_pass_8 : decode cX5_pass 8 = .ok (.aload_n 0, 1) := by decide +kernel
theorem dX5_pass_9 : decode cX5_pass 9 = .ok (.iconst 1, 1) := by decide +kernel
theorem dX5_pass_10 : decode cX5_pass 10 = .ok (.invokevirtual 64, 3) := by decide +kernel
theorem dX5_pass_13 : decode cX5_pass 13 = .ok (.ireturn, 1) := by decide +kernel
theorem dX5_pass_14 : decode cX5_pass 14 = .ok (.aload_n 0, 1) := by decide +kernel
theorem dX5_pass_15 : decode cX5_pass 15 = .ok (.dup, 1) := by decide +kernel
theorem dX5_pass_16 : decode cX5_pass 16 = .ok (.getfield 19, 3) := by decide +kernel
theorem dX5_pass_19 : decode cX5_pass 19 = .ok (.iconst 1, 1) := by decide +kernel
theorem dX5_pass_20 : decode cX5_pass 20 = .ok (.iadd, 1) := by decide +kernel
theorem dX5_pass_21 : decode cX5_pass 21 = .ok (.putfield 19, 3) := by decide +kernel
theorem dX5_pass_24 : decode cX5_pass 24 = .ok (.iconst 1, 1) := by decide +kernel
theorem dX5_pass_25 : decode cX5_pass 25 = .ok (.ireturn, 1) := by decide +kernel
theorem dX5_readSlots_0 : decode cX5_readSlots 0 = .ok (.aload_n 1, 1) := by decide +kernel
theorem dX5_readSlots_1 : decode cX5_readSlots 1 = .ok (.iconst 0, 1) := by decide +kernel
theorem dX5_readSlots_2 : decode cX5_readSlots 2 = .ok (.putfield 83, 3) := by decide +kernel
theorem dX5_readSlots_5 : decode cX5_readSlots 5 = .ok (.iconst 0, 1) := by decide +kernel
theorem dX5_readSlots_6 : decode cX5_readSlots 6 = .ok (.istore_n 2, 1) := by decide +kernel
theorem dX5_readSlots_7 : decode cX5_readSlots 7 = .ok (.iload_n 2, 1) := by decide +kernel
theorem dX5_readSlots_8 : decode cX5_readSlots 8 = .ok (.bipush 8, 2) := by decide +kernel
theorem dX5_readSlots_10 : decode cX5_readSlots 10 = .ok (.if_icmp .gt 158, 3) := by decide +kernel
theorem dX5_readSlots_13 : decode cX5_readSlots 13 = .ok (.aload_n 0, 1) := by decide +kernel
theorem dX5_readSlots_14 : decode cX5_readSlots 14 = .ok (.invokevirtual 86, 3) := by decide +kernel
theorem dX5_readSlots_17 : decode cX5_readSlots 17 = .ok (.istore_n 3, 1) := by decide +kernel
theorem dX5_readSlots_18 : decode cX5_readSlots 18 = .ok (.iload_n 3, 1) := by decide +kernel
theorem dX5_readSlots_19 : decode cX5_readSlots 19 = .ok (.iconst (-1), 1) := by decide +kernel
theorem dX5_readSlots_20 : decode cX5_readSlots 20 = .ok (.if_icmp .ne 22, 3) := by decide +kernel
theorem dX5_readSlots_23 : decode cX5_readSlots 23 = .ok (.iload_n 2, 1) := by decide +kernel
theorem dX5_readSlots_24 : decode cX5_readSlots 24 = .ok (.ifCond .le 12, 3) := by decide +kernel
theorem dX5_readSlots_27 : decode cX5_readSlots 27 = .ok (.aload_n 0, 1) := by decide +kernel
theorem dX5_readSlots_28 : decode cX5_readSlots 28 = .ok (.bipush 59, 2) := by decide +kernel
theorem dX5_readSlots_30 : decode cX5_readSlots 30 = .ok (.invokevirtual 60, 3) := by decide +kernel
theorem dX5_readSlots_33 : decode cX5_readSlots 33 = .ok (.goto 8, 3) := by decide +kernel
theorem dX5_readSlots_36 : decode cX5_readSlots 36 = .ok (.aload_n 0, 1) := by decide +kernel
theorem dX5_readSlots_37 : decode cX5_readSlots 37 = .ok (.iconst 1, 1) := by decide +kernel
theorem dX5_readSlots_38 : decode cX5_readSlots 38 = .ok (.invokevirtual 64, 3) := by decide +kernel
theorem dX5_readSlots_41 : decode cX5_readSlots 41 = .ok (.ireturn, 1) := by decide +kernel
theorem dX5_readSlots_42 : decode cX5_readSlots 42 = .ok (.iload_n 2, 1) := by decide +kernel
theorem dX5_readSlots_43 : decode cX5_readSlots 43 = .ok (.bipush 8, 2) := by decide +kernel
theorem dX5_readSlots_45 : decode cX5_readSlots 45 = .ok (.if_icmp .ne 6, 3) := by decide +kernel
theorem dX5_readSlots_48 : decode cX5_readSlots 48 = .ok (.goto 120, 3) := by decide +kernel
theorem dX5_readSlots_51 : decode cX5_readSlots 51 = .ok (.aload_n 0, 1) := by decide +kernel
theorem dX5_readSlots_52 : decode cX5_readSlots 52 = .ok (.dup, 1) := by decide +kernel
theorem dX5_readSlots_53 : decode cX5_readSlots 53 = .ok (.getfield 19, 3) := by decide +kernel
theorem dX5_readSlots_56 : decode cX5_readSlots 56 = .ok (.iconst 1, 1) := by decide +kernel
theorem dX5_readSlots_57 : decode cX5_readSlots 57 = .ok (.iadd, 1) := by decide +kernel
theorem dX5_readSlots_58 : decode cX5_readSlots 58 = .ok (.putfield 19, 3) := by decide +kernel
theorem dX5_readSlots_61 : decode cX5_readSlots 61 = .ok (.aload_n 0, 1) := by decide +kernel
theorem dX5_readSlots_62 : decode cX5_readSlots 62 = .ok (.invokevirtual 71, 3) := by decide +kernel
theorem dX5_readSlots_65 : decode cX5_readSlots 65 = .ok (.istore 4, 2) := by decide +kernel
theorem dX5_readSlots_67 : decode cX5_readSlots 67 = .ok (.aload_n 1, 1) := by decide +kernel
theorem dX5_readSlots_68 : decode cX5_readSlots 68 = .ok (.getfield 89, 3) := by decide +kernel
theorem dX5_readSlots_71 : decode cX5_readSlots 71 = .ok (.iload_n 2, 1) := by decide +kernel
theorem dX5_readSlots_72 : decode cX5_readSlots 72 = .ok (.iload_n 3, 1) := by decide +kernel
theorem dX5_readSlots_73 : decode cX5_readSlots 73 = .ok (.iastore, 1) := by decide +kernel
theorem dX5_readSlots_74 : decode cX5_readSlots 74 = .ok (.aload_n 1, 1) := by decide +kernel
theorem dX5_readSlots_75 : decode cX5_readSlots 75 = .ok (.getfield 92, 3) := by decide +kernel
theorem dX5_readSlots_78 : decode cX5_readSlots 78 = .ok (.iload_n 2, 1) := by decide +kernel
theorem dX5_readSlots_79 : decode cX5_readSlots 79 = .ok (.iload 4, 2) := by decide +kernel
theorem dX5_readSlots_81 : decode cX5_readSlots 81 = .ok (.bipush 63, 2) := by decide +kernel
theorem dX5_readSlots_83 : decode cX5_readSlots 83 = .ok (.if_icmp .eq 10, 3) := by decide +kernel
theorem dX5_readSlots_86 : decode cX5_readSlots 86 = .ok (.iload 4, 2) := by decide +kernel
theorem dX5_readSlots_88 : decode cX5_readSlots 88 = .ok (.bipush 42, 2) := by decide +kernel
theorem dX5_readSlots_90 : decode cX5_readSlots 90 = .ok (.if_icmp .ne 7, 3) := by decide +kernel
theorem dX5_readSlots_93 : decode cX5_readSlots 93 = .ok (.iconst 1, 1) := by decide +kernel
theorem dX5_readSlots_94 : decode cX5_readSlots 94 = .ok (.goto 4, 3) := by decide +kernel
theorem dX5_readSlots_97 : decode cX5_readSlots 97 = .ok (.iconst 0, 1) := by decide +kernel
theorem dX5_readSlots_98 : decode cX5_readSlots 98 = .ok (.bastore, 1) := by decide +kernel
theorem dX5_readSlots_99 : decode cX5_readSlots 99 = .ok (.aload_n 1, 1) := by decide +kernel
theorem dX5_readSlots_100 : decode cX5_readSlots 100 = .ok (.getfield 96, 3) := by decide +kernel
theorem dX5_readSlots_103 : decode cX5_readSlots 103 = .ok (.iload_n 2, 1) := by decide +kernel
theorem dX5_readSlots_104 : decode cX5_readSlots 104 = .ok (.iload 4, 2) := by decide +kernel
theorem dX5_readSlots_106 : decode cX5_readSlots 106 = .ok (.bipush 42, 2) := by decide +kernel
theorem dX5_readSlots_108 : decode cX5_readSlots 108 = .ok (.if_icmp .eq 10, 3) := by decide +kernel
theorem dX5_readSlots_111 : decode cX5_readSlots 111 = .ok (.iload 4, 2) := by decide +kernel
theorem dX5_readSlots_113 : decode cX5_readSlots 113 = .ok (.bipush 43, 2) := by decide +kernel
theorem dX5_readSlots_115 : decode cX5_readSlots 115 = .ok (.if_icmp .ne 7, 3) := by decide +kernel
theorem dX5_readSlots_118 : decode cX5_readSlots 118 = .ok (.iconst 1, 1) := by decide +kernel
theorem dX5_readSlots_119 : decode cX5_readSlots 119 = .ok (.goto 4, 3) := by decide +kernel
theorem dX5_readSlots_122 : decode cX5_readSlots 122 = .ok (.iconst 0, 1) := by decide +kernel
theorem dX5_readSlots_123 : decode cX5_readSlots 123 = .ok (.bastore, 1) := by decide +kernel
theorem dX5_readSlots_124 : decode cX5_readSlots 124 = .ok (.aload_n 1, 1) := by decide +kernel
theorem dX5_readSlots_125 : decode cX5_readSlots 125 = .ok (.dup, 1) := by decide +kernel
theorem dX5_readSlots_126 : decode cX5_readSlots 126 = .ok (.getfield 83, 3) := by decide +kernel
theorem dX5_readSlots_129 : decode cX5_readSlots 129 = .ok (.iconst 1, 1) := by decide +kernel
theorem dX5_readSlots_130 : decode cX5_readSlots 130 = .ok (.iadd, 1) := by decide +kernel
theorem dX5_readSlots_131 : decode cX5_readSlots 131 = .ok (.putfield 83, 3) := by decide +kernel
theorem dX5_readSlots_134 : decode cX5_readSlots 134 = .ok (.aload_n 1, 1) := by decide +kernel
theorem dX5_readSlots_135 : decode cX5_readSlots 135 = .ok (.getfield 92, 3) := by decide +kernel
theorem dX5_readSlots_138 : decode cX5_readSlots 138 = .ok (.iload_n 2, 1) := by decide +kernel
theorem dX5_readSlots_139 : decode cX5_readSlots 139 = .ok (.baload, 1) := by decide +kernel
theorem dX5_readSlots_140 : decode cX5_readSlots 140 = .ok (.ifCond .ne 12, 3) := by decide +kernel
theorem dX5_readSlots_143 : decode cX5_readSlots 143 = .ok (.aload_n 1, 1) := by decide +kernel
theorem dX5_readSlots_144 : decode cX5_readSlots 144 = .ok (.getfield 96, 3) := by decide +kernel
theorem dX5_readSlots_147 : decode cX5_readSlots 147 = .ok (.iload_n 2, 1) := by decide +kernel
theorem dX5_readSlots_148 : decode cX5_readSlots 148 = .ok (.baload, 1) := by decide +kernel
theorem dX5_readSlots_149 : decode cX5_readSlots 149 = .ok (.ifCond .eq 13, 3) := by decide +kernel
theorem dX5_readSlots_152 : decode cX5_readSlots 152 = .ok (.aload_n 0, 1) := by decide +kernel
theorem dX5_readSlots_153 : decode cX5_readSlots 153 = .ok (.dup, 1) := by decide +kernel
theorem dX5_readSlots_154 : decode cX5_readSlots 154 = .ok (.getfield 19, 3) := by decide +kernel
theorem dX5_readSlots_157 : decode cX5_readSlots 157 = .ok (.iconst 1, 1) := by decide +kernel
theorem dX5_readSlots_158 : decode cX5_readSlots 158 = .ok (.iadd, 1) := by decide +kernel
theorem dX5_readSlots_159 : decode cX5_readSlots 159 = .ok (.putfield 19, 3) := by decide +kernel
theorem dX5_readSlots_162 : decode cX5_readSlots 162 = .ok (.iinc 2 1, 3) := by decide +kernel
theorem dX5_readSlots_165 : decode cX5_readSlots 165 = .ok (.goto (-158), 3) := by decide +kernel
theorem dX5_readSlots_168 : decode cX5_readSlots 168 = .ok (.aload_n 0, 1) := by decide +kernel
theorem dX5_readSlots_169 : decode cX5_readSlots 169 = .ok (.iconst 2, 1) := by decide +kernel
theorem dX5_readSlots_170 : decode cX5_readSlots 170 = .ok (.invokevirtual 64, 3) := by decide +kernel
theorem dX5_readSlots_173 : decode cX5_readSlots 173 = .ok (.ireturn, 1) := by decide +kernel
theorem dX5_readLetters_0 : decode cX5_readLetters 0 = .ok (.iconst 0, 1) := by decide +kernel
theorem dX5_readLetters_1 : decode cX5_readLetters 1 = .ok (.istore_n 2, 1) := by decide +kernel
theorem dX5_readLetters_2 : decode cX5_readLetters 2 = .ok (.iconst 0, 1) := by decide +kernel
theorem dX5_readLetters_3 : decode cX5_readLetters 3 = .ok (.istore_n 3, 1) := by decide +kernel
theorem dX5_readLetters_4 : decode cX5_readLetters 4 = .ok (.iload_n 3, 1) := by decide +kernel
theorem dX5_readLetters_5 : decode cX5_readLetters 5 = .ok (.aload_n 1, 1) := by decide +kernel
theorem dX5_readLetters_6 : decode cX5_readLetters 6 = .ok (.arraylength, 1) := by decide +kernel
theorem dX5_readLetters_7 : decode cX5_readLetters 7 = .ok (.iconst 1, 1) := by decide +kernel
theorem dX5_readLetters_8 : decode cX5_readLetters 8 = .ok (.iadd, 1) := by decide +kernel
theorem dX5_readLetters_9 : decode cX5_readLetters 9 = .ok (.if_icmp .ge 92, 3) := by decide +kernel
theorem dX5_readLetters_12 : decode cX5_readLetters 12 = .ok (.aload_n 0, 1) := by decide +kernel
theorem dX5_readLetters_13 : decode cX5_readLetters 13 = .ok (.invokevirtual 86, 3) := by decide +kernel
theorem dX5_readLetters_16 : decode cX5_readLetters 16 = .ok (.istore 4, 2) := by decide +kernel
theorem dX5_readLetters_18 : decode cX5_readLetters 18 = .ok (.iload 4, 2) := by decide +kernel
theorem dX5_readLetters_20 : decode cX5_readLetters 20 = .ok (.iconst (-1), 1) := by decide +kernel
theorem dX5_readLetters_21 : decode cX5_readLetters 21 = .ok (.if_icmp .ne 34, 3) := by decide +kernel
theorem dX5_readLetters_24 : decode cX5_readLetters 24 = .ok (.iload_n 3, 1) := by decide +kernel
theorem dX5_readLetters_25 : decode cX5_readLetters 25 = .ok (.ifCond .le 12, 3) := by decide +kernel
theorem dX5_readLetters_28 : decode cX5_readLetters 28 = .ok (.aload_n 0, 1) := by decide +kernel
theorem dX5_readLetters_29 : decode cX5_readLetters 29 = .ok (.bipush 59, 2) := by decide +kernel
theorem dX5_readLetters_31 : decode cX5_readLetters 31 = .ok (.invokevirtual 60, 3) := by decide +kernel
theorem dX5_readLetters_34 : decode cX5_readLetters 34 = .ok (.goto 8, 3) := by decide +kernel
theorem dX5_readLetters_37 : decode cX5_readLetters 37 = .ok (.aload_n 0, 1) := by decide +kernel
theorem dX5_readLetters_38 : decode cX5_readLetters 38 = .ok (.iconst 1, 1) := by decide +kernel
theorem dX5_readLetters_39 : decode cX5_readLetters 39 = .ok (.invokevirtual 64, 3) := by decide +kernel
theorem dX5_readLetters_42 : decode cX5_readLetters 42 = .ok (.istore 5, 2) := by decide +kernel
theorem dX5_readLetters_44 : decode cX5_readLetters 44 = .ok (.iload 5, 2) := by decide +kernel
theorem dX5_readLetters_46 : decode cX5_readLetters 46 = .ok (.ifCond .eq 7, 3) := by decide +kernel
theorem dX5_readLetters_49 : decode cX5_readLetters 49 = .ok (.iload_n 3, 1) := by decide +kernel
theorem dX5_readLetters_50 : decode cX5_readLetters 50 = .ok (.goto 4, 3) := by decide +kernel
theorem dX5_readLetters_53 : decode cX5_readLetters 53 = .ok (.iconst (-1), 1) := by decide +kernel
theorem dX5_readLetters_54 : decode cX5_readLetters 54 = .ok (.ireturn, 1) := by decide +kernel
theorem dX5_readLetters_55 : decode cX5_readLetters 55 = .ok (.iload_n 2, 1) := by decide +kernel
theorem dX5_readLetters_56 : decode cX5_readLetters 56 = .ok (.iload 4, 2) := by decide +kernel
theorem dX5_readLetters_58 : decode cX5_readLetters 58 = .ok (.ishr, 1) := by decide +kernel
theorem dX5_readLetters_59 : decode cX5_readLetters 59 = .ok (.iconst 1, 1) := by decide +kernel
theorem dX5_readLetters_60 : decode cX5_readLetters 60 = .ok (.iand, 1) := by decide +kernel
theorem dX5_readLetters_61 : decode cX5_readLetters 61 = .ok (.ifCond .ne 40, 3) := by decide +kernel
theorem dX5_readLetters_64 : decode cX5_readLetters 64 = .ok (.iload_n 3, 1) := by decide +kernel
theorem dX5_readLetters_65 : decode cX5_readLetters 65 = .ok (.aload_n 1, 1) := by decide +kernel
theorem dX5_readLetters_66 : decode cX5_readLetters 66 = .ok (.arraylength, 1) := by decide +kernel
theorem dX5_readLetters_67 : decode cX5_readLetters 67 = .ok (.if_icmp .lt 6, 3) := by decide +kernel
theorem dX5_readLetters_70 : decode cX5_readLetters 70 = .ok (.goto 31, 3) := by decide +kernel
theorem dX5_readLetters_73 : decode cX5_readLetters 73 = .ok (.iload_n 2, 1) := by decide +kernel
theorem dX5_readLetters_74 : decode cX5_readLetters 74 = .ok (.iconst 1, 1) := by decide +kernel
theorem dX5_readLetters_75 : decode cX5_readLetters 75 = .ok (.iload 4, 2) := by decide +kernel
theorem dX5_readLetters_77 : decode cX5_readLetters 77 = .ok (.ishl, 1) := by decide +kernel
theorem dX5_readLetters_78 : decode cX5_readLetters 78 = .ok (.ior, 1) := by decide +kernel
theorem dX5_readLetters_79 : decode cX5_readLetters 79 = .ok (.istore_n 2, 1) := by decide +kernel
theorem dX5_readLetters_80 : decode cX5_readLetters 80 = .ok (.aload_n 1, 1) := by decide +kernel
theorem dX5_readLetters_81 : decode cX5_readLetters 81 = .ok (.iload_n 3, 1) := by decide +kernel
theorem dX5_readLetters_82 : decode cX5_readLetters 82 = .ok (.iload 4, 2) := by decide +kernel
theorem dX5_readLetters_84 : decode cX5_readLetters 84 = .ok (.iastore, 1) := by decide +kernel
theorem dX5_readLetters_85 : decode cX5_readLetters 85 = .ok (.aload_n 0, 1) := by decide +kernel
theorem dX5_readLetters_86 : decode cX5_readLetters 86 = .ok (.dup, 1) := by decide +kernel
theorem dX5_readLetters_87 : decode cX5_readLetters 87 = .ok (.getfield 19, 3) := by decide +kernel
theorem dX5_readLetters_90 : decode cX5_readLetters 90 = .ok (.iconst 1, 1) := by decide +kernel
theorem dX5_readLetters_91 : decode cX5_readLetters 91 = .ok (.iadd, 1) := by decide +kernel
theorem dX5_readLetters_92 : decode cX5_readLetters 92 = .ok (.putfield 19, 3) := by decide +kernel
theorem dX5_readLetters_95 : decode cX5_readLetters 95 = .ok (.iinc 3 1, 3) := by decide +kernel
theorem dX5_readLetters_98 : decode cX5_readLetters 98 = .ok (.goto (-94), 3) := by decide +kernel
theorem dX5_readLetters_101 : decode cX5_readLetters 101 = .ok (.aload_n 0, 1) := by decide +kernel
theorem dX5_readLetters_102 : decode cX5_readLetters 102 = .ok (.iconst 3, 1) := by decide +kernel
theorem dX5_readLetters_103 : decode cX5_readLetters 103 = .ok (.invokevirtual 64, 3) := by decide +kernel
theorem dX5_readLetters_106 : decode cX5_readLetters 106 = .ok (.pop, 1) := by decide +kernel
theorem dX5_readLetters_107 : decode cX5_readLetters 107 = .ok (.iconst (-1), 1) := by decide +kernel
theorem dX5_readLetters_108 : decode cX5_readLetters 108 = .ok (.ireturn, 1) := by decide +kernel
theorem dX5_readEnding_0 : decode cX5_readEnding 0 = .ok (.aload_n 1, 1) := by decide +kernel
theorem dX5_readEnding_1 : decode cX5_readEnding 1 = .ok (.iconst 0, 1) := by decide +kernel
theorem dX5_readEnding_2 : decode cX5_readEnding 2 = .ok (.putfield 99, 3) := by decide +kernel
theorem dX5_readEnding_5 : decode cX5_readEnding 5 = .ok (.aload_n 0, 1) := by decide +kernel
theorem dX5_readEnding_6 : decode cX5_readEnding 6 = .ok (.invokevirtual 71, 3) := by decide +kernel
theorem dX5_readEnding_9 : decode cX5_readEnding 9 = .ok (.bipush 45, 2) := by decide +kernel
theorem dX5_readEnding_11 : decode cX5_readEnding 11 = .ok (.if_icmp .ne 15, 3) := by decide +kernel
theorem dX5_readEnding_14 : decode cX5_readEnding 14 = .ok (.aload_n 0, 1) := by decide +kernel
theorem dX5_readEnding_15 : decode cX5_readEnding 15 = .ok (.dup, 1) := by decide +kernel
theorem dX5_readEnding_16 : decode cX5_readEnding 16 = .ok (.getfield 19, 3) := by decide +kernel
theorem dX5_readEnding_19 : decode cX5_readEnding 19 = .ok (.iconst 1, 1) := by decide +kernel
theorem dX5_readEnding_20 : decode cX5_readEnding 20 = .ok (.iadd, 1) := by decide +kernel
theorem dX5_readEnding_21 : decode cX5_readEnding 21 = .ok (.putfield 19, 3) := by decide +kernel
theorem dX5_readEnding_24 : decode cX5_readEnding 24 = .ok (.iconst 1, 1) := by decide +kernel
theorem dX5_readEnding_25 : decode cX5_readEnding 25 = .ok (.ireturn, 1) := by decide +kernel
theorem dX5_readEnding_26 : decode cX5_readEnding 26 = .ok (.iconst 0, 1) := by decide +kernel
theorem dX5_readEnding_27 : decode cX5_readEnding 27 = .ok (.istore_n 2, 1) := by decide +kernel
theorem dX5_readEnding_28 : decode cX5_readEnding 28 = .ok (.iload_n 2, 1) := by decide +kernel
theorem dX5_readEnding_29 : decode cX5_readEnding 29 = .ok (.bipush 6, 2) := by decide +kernel
theorem dX5_readEnding_31 : decode cX5_readEnding 31 = .ok (.if_icmp .ge 68, 3) := by decide +kernel
theorem dX5_readEnding_34 : decode cX5_readEnding 34 = .ok (.aload_n 0, 1) := by decide +kernel
theorem dX5_readEnding_35 : decode cX5_readEnding 35 = .ok (.invokevirtual 71, 3) := by decide +kernel
theorem dX5_readEnding_38 : decode cX5_readEnding 38 = .ok (.invokestatic 102, 3) := by decide +kernel
theorem dX5_readEnding_41 : decode cX5_readEnding 41 = .ok (.ifCond .ne 21, 3) := by decide +kernel
theorem dX5_readEnding_44 : decode cX5_readEnding 44 = .ok (.iload_n 2, 1) := by decide +kernel
theorem dX5_readEnding_45 : decode cX5_readEnding 45 = .ok (.ifCond .gt 11, 3) := by decide +kernel
theorem dX5_readEnding_48 : decode cX5_readEnding 48 = .ok (.aload_n 0, 1) := by decide +kernel
theorem dX5_readEnding_49 : decode cX5_readEnding 49 = .ok (.iconst 1, 1) := by decide +kernel
theorem dX5_readEnding_50 : decode cX5_readEnding 50 = .ok (.invokevirtual 64, 3) := by decide +kernel
theorem dX5_readEnding_53 : decode cX5_readEnding 53 = .ok (.ifCond .eq 7, 3) := by decide +kernel
theorem dX5_readEnding_56 : decode cX5_readEnding 56 = .ok (.iconst 1, 1) := by decide +kernel
theorem dX5_readEnding_57 : decode cX5_readEnding 57 = .ok (.goto 4, 3) := by decide +kernel
theorem dX5_readEnding_60 : decode cX5_readEnding 60 = .ok (.iconst 0, 1) := by decide +kernel
theorem dX5_readEnding_61 : decode cX5_readEnding 61 = .ok (.ireturn, 1) := by decide +kernel
theorem dX5_readEnding_62 : decode cX5_readEnding 62 = .ok (.aload_n 1, 1) := by decide +kernel
theorem dX5_readEnding_63 : decode cX5_readEnding 63 = .ok (.getfield 105, 3) := by decide +kernel
theorem dX5_readEnding_66 : decode cX5_readEnding 66 = .ok (.iload_n 2, 1) := by decide +kernel
theorem dX5_readEnding_67 : decode cX5_readEnding 67 = .ok (.aload_n 0, 1) := by decide +kernel
theorem dX5_readEnding_68 : decode cX5_readEnding 68 = .ok (.invokevirtual 71, 3) := by decide +kernel
theorem dX5_readEnding_71 : decode cX5_readEnding 71 = .ok (.i2b, 1) := by decide +kernel
theorem dX5_readEnding_72 : decode cX5_readEnding 72 = .ok (.bastore, 1) := by decide +kernel
theorem dX5_readEnding_73 : decode cX5_readEnding 73 = .ok (.aload_n 1, 1) := by decide +kernel
theorem dX5_readEnding_74 : decode cX5_readEnding 74 = .ok (.dup, 1) := by decide +kernel
theorem dX5_readEnding_75 : decode cX5_readEnding 75 = .ok (.getfield 99, 3) := by decide +kernel
theorem dX5_readEnding_78 : decode cX5_readEnding 78 = .ok (.iconst 1, 1) := by decide +kernel
theorem dX5_readEnding_79 : decode cX5_readEnding 79 = .ok (.iadd, 1) := by decide +kernel
theorem dX5_readEnding_80 : decode cX5_readEnding 80 = .ok (.putfield 99, 3) := by decide +kernel
theorem dX5_readEnding_83 : decode cX5_readEnding 83 = .ok (.aload_n 0, 1) := by decide +kernel
theorem dX5_readEnding_84 : decode cX5_readEnding 84 = .ok (.dup, 1) := by decide +kernel
theorem dX5_readEnding_85 : decode cX5_readEnding 85 = .ok (.getfield 19, 3) := by decide +kernel
theorem dX5_readEnding_88 : decode cX5_readEnding 88 = .ok (.iconst 1, 1) := by decide +kernel
theorem dX5_readEnding_89 : decode cX5_readEnding 89 = .ok (.iadd, 1) := by decide +kernel
theorem dX5_readEnding_90 : decode cX5_readEnding 90 = .ok (.putfield 19, 3) := by decide +kernel
theorem dX5_readEnding_93 : decode cX5_readEnding 93 = .ok (.iinc 2 1, 3) := by decide +kernel
theorem dX5_readEnding_96 : decode cX5_readEnding 96 = .ok (.goto (-68), 3) := by decide +kernel
theorem dX5_readEnding_99 : decode cX5_readEnding 99 = .ok (.aload_n 0, 1) := by decide +kernel
theorem dX5_readEnding_100 : decode cX5_readEnding 100 = .ok (.invokevirtual 71, 3) := by decide +kernel
theorem dX5_readEnding_103 : decode cX5_readEnding 103 = .ok (.invokestatic 102, 3) := by decide +kernel
theorem dX5_readEnding_106 : decode cX5_readEnding 106 = .ok (.ifCond .eq 11, 3) := by decide +kernel
theorem dX5_readEnding_109 : decode cX5_readEnding 109 = .ok (.aload_n 0, 1) := by decide +kernel
theorem dX5_readEnding_110 : decode cX5_readEnding 110 = .ok (.iconst 2, 1) := by decide +kernel
theorem dX5_readEnding_111 : decode cX5_readEnding 111 = .ok (.invokevirtual 64, 3) := by decide +kernel
theorem dX5_readEnding_114 : decode cX5_readEnding 114 = .ok (.ifCond .eq 7, 3) := by decide +kernel
theorem dX5_readEnding_117 : decode cX5_readEnding 117 = .ok (.iconst 1, 1) := by decide +kernel
theorem dX5_readEnding_118 : decode cX5_readEnding 118 = .ok (.goto 4, 3) := by decide +kernel
theorem dX5_readEnding_121 : decode cX5_readEnding 121 = .ok (.iconst 0, 1) := by decide +kernel
theorem dX5_readEnding_122 : decode cX5_readEnding 122 = .ok (.ireturn, 1) := by decide +kernel
theorem dX6_init_0 : decode cX6_init 0 = .ok (.aload_n 0, 1) := by decide +kernel
theorem dX6_init_1 : decode cX6_init 1 = .ok (.invokespecial 3, 3) := by decide +kernel
theorem dX6_init_4 : decode cX6_init 4 = .ok (.aload_n 0, 1) := by decide +kernel
theorem dX6_init_5 : decode cX6_init 5 = .ok (.bipush 78, 2) := by decide +kernel
theorem dX6_init_7 : decode cX6_init 7 = .ok (.newarray .byte, 2) := by decide +kernel
theorem dX6_init_9 : decode cX6_init 9 = .ok (.putfield 9, 3) := by decide +kernel
theorem dX6_init_12 : decode cX6_init 12 = .ok (.aload_n 0, 1) := by decide +kernel
theorem dX6_init_13 : decode cX6_init 13 = .ok (.bipush 26, 2) := by decide +kernel
theorem dX6_init_15 : decode cX6_init 15 = .ok (.newarray .int, 2) := by decide +kernel
theorem dX6_init_17 : decode cX6_init 17 = .ok (.putfield 15, 3) := by decide +kernel
theorem dX6_init_20 : decode cX6_init 20 = .ok (.iconst 0, 1) := by decide +kernel
theorem dX6_init_21 : decode cX6_init 21 = .ok (.istore_n 1, 1) := by decide +kernel
theorem dX6_init_22 : decode cX6_init 22 = .ok (.iload_n 1, 1) := by decide +kernel
theorem dX6_init_23 : decode cX6_init 23 = .ok (.bipush 26, 2) := by decide +kernel
theorem dX6_init_25 : decode cX6_init 25 = .ok (.if_icmp .ge 29, 3) := by decide +kernel
theorem dX6_init_28 : decode cX6_init 28 = .ok (.aload_n 0, 1) := by decide +kernel
theorem dX6_init_29 : decode cX6_init 29 = .ok (.getfield 9, 3) := by decide +kernel
theorem dX6_init_32 : decode cX6_init 32 = .ok (.iload_n 1, 1) := by decide +kernel
theorem dX6_init_33 : decode cX6_init 33 = .ok (.iconst 3, 1) := by decide +kernel
theorem dX6_init_34 : decode cX6_init 34 = .ok (.imul, 1) := by decide +kernel
theorem dX6_init_35 : decode cX6_init 35 = .ok (.bipush 97, 2) := by decide +kernel
theorem dX6_init_37 : decode cX6_init 37 = .ok (.iload_n 1, 1) := by decide +kernel
theorem dX6_init_38 : decode cX6_init 38 = .ok (.iadd, 1) := by decide +kernel
theorem dX6_init_39 : decode cX6_init 39 = .ok (.i2b, 1) := by decide +kernel
theorem dX6_init_40 : decode cX6_init 40 = .ok (.bastore, 1) := by decide +kernel
theorem dX6_init_41 : decode cX6_init 41 = .ok (.aload_n 0, 1) := by decide +kernel
theorem dX6_init_42 : decode cX6_init 42 = .ok (.getfield 15, 3) := by decide +kernel
theorem dX6_init_45 : decode cX6_init 45 = .ok (.iload_n 1, 1) := by decide +kernel
theorem dX6_init_46 : decode cX6_init 46 = .ok (.iconst 1, 1) := by decide +kernel
theorem dX6_init_47 : decode cX6_init 47 = .ok (.iastore, 1) := by decide +kernel
theorem dX6_init_48 : decode cX6_init 48 = .ok (.iinc 1 1, 3) := by decide +kernel
theorem dX6_init_51 : decode cX6_init 51 = .ok (.goto (-29), 3) := by decide +kernel
theorem dX6_init_54 : decode cX6_init 54 = .ok (.return_, 1) := by decide +kernel
theorem dX6_change_0 : decode cX6_change 0 = .ok (.iload_n 1, 1) := by decide +kernel
theorem dX6_change_1 : decode cX6_change 1 = .ok (.ifCond .lt 24, 3) := by decide +kernel
theorem dX6_change_4 : decode cX6_change 4 = .ok (.iload_n 1, 1) := by decide +kernel
theorem dX6_change_5 : decode cX6_change 5 = .ok (.bipush 26, 2) := by decide +kernel
theorem dX6_change_7 : decode cX6_change 7 = .ok (.if_icmp .ge 18, 3) := by decide +kernel
theorem dX6_change_10 : decode cX6_change 10 = .ok (.iload_n 3, 1) := by decide +kernel
theorem dX6_change_11 : decode cX6_change 11 = .ok (.ifCond .lt 14, 3) := by decide +kernel
theorem dX6_change_14 : decode cX6_change 14 = .ok (.iload_n 3, 1) := by decide +kernel
theorem dX6_change_15 : decode cX6_change 15 = .ok (.iconst 3, 1) := by decide +kernel
theorem dX6_change_16 : decode cX6_change 16 = .ok (.if_icmp .gt 9, 3) := by decide +kernel
theorem dX6_change_19 : decode cX6_change 19 = .ok (.iload_n 3, 1) := by decide +kernel
theorem dX6_change_20 : decode cX6_change 20 = .ok (.aload_n 2, 1) := by decide +kernel
theorem dX6_change_21 : decode cX6_change 21 = .ok (.arraylength, 1) := by decide +kernel
theorem dX6_change_22 : decode cX6_change 22 = .ok (.if_icmp .le 5, 3) := by decide +kernel
theorem dX6_change_25 : decode cX6_change 25 = .ok (.iconst 0, 1) := by decide +kernel
theorem dX6_change_26 : decode cX6_change 26 = .ok (.ireturn, 1) := by decide +kernel
theorem dX6_change_27 : decode cX6_change 27 = .ok (.iconst 0, 1) := by decide +kernel
theorem dX6_change_28 : decode cX6_change 28 = .ok (.istore 4, 2) := by decide +kernel
theorem dX6_change_30 : decode cX6_change 30 = .ok (.iload 4, 2) := by decide +kernel
theorem dX6_change_32 : decode cX6_change 32 = .ok (.iload_n 3, 1) := by decide +kernel
theorem dX6_change_33 : decode cX6_change 33 = .ok (.if_icmp .ge 21, 3) := by decide +kernel
theorem dX6_change_36 : decode cX6_change 36 = .ok (.aload_n 2, 1) := by decide +kernel
theorem dX6_change_37 : decode cX6_change 37 = .ok (.iload 4, 2) := by decide +kernel
theorem dX6_change_39 : decode cX6_change 39 = .ok (.baload, 1) := by decide +kernel
theorem dX6_change_40 : decode cX6_change 40 = .ok (.invokestatic 19, 3) := by decide +kernel
theorem dX6_change_43 : decode cX6_change 43 = .ok (.ifCond .ne 5, 3) := by decide +kernel
theorem dX6_change_46 : decode cX6_change 46 = .ok (.iconst 0, 1) := by decide +kernel
theorem dX6_change_47 : decode cX6_change 47 = .ok (.ireturn, 1) := by decide +kernel
theorem dX6_change_48 : decode cX6_change 48 = .ok (.iinc 4 1, 3) := by decide +kernel
theorem dX6_change_51 : decode cX6_change 51 = .ok (.goto (-21), 3) := by decide +kernel
theorem dX6_change_54 : decode cX6_change 54 = .ok (.iconst 0, 1) := by decide +kernel
theorem dX6_change_55 : decode cX6_change 55 = .ok (.istore 4, 2) := by decide +kernel
theorem dX6_change_57 : decode cX6_change 57 = .ok (.iload 4, 2) := by decide +kernel
theorem dX6_change_59 : decode cX6_change 59 = .ok (.iload_n 3, 1) := by decide +kernel
theorem dX6_change_60 : decode cX6_change 60 = .ok (.if_icmp .ge 24, 3) := by decide +kernel
theorem dX6_change_63 : decode cX6_change 63 = .ok (.aload_n 0, 1) := by decide +kernel
theorem dX6_change_64 : decode cX6_change 64 = .ok (.getfield 9, 3) := by decide +kernel
theorem dX6_change_67 : decode cX6_change 67 = .ok (.iload_n 1, 1) := by decide +kernel
theorem dX6_change_68 : decode cX6_change 68 = .ok (.iconst 3, 1) := by decide +kernel
theorem dX6_change_69 : decode cX6_change 69 = .ok (.imul, 1) := by decide +kernel
theorem dX6_change_70 : decode cX6_change 70 = .ok (.iload 4, 2) := by decide +kernel
theorem dX6_change_72 : decode cX6_change 72 = .ok (.iadd, 1) := by decide +kernel
theorem dX6_change_73 : decode cX6_change 73 = .ok (.aload_n 2, 1) := by decide +kernel
theorem dX6_change_74 : decode cX6_change 74 = .ok (.iload 4, 2) := by decide +kernel
theorem dX6_change_76 : decode cX6_change 76 = .ok (.baload, 1) := by decide +kernel
theorem dX6_change_77 : decode cX6_change 77 = .ok (.bastore, 1) := by decide +kernel
theorem dX6_change_78 : decode cX6_change 78 = .ok (.iinc 4 1, 3) := by decide +kernel
theorem dX6_change_81 : decode cX6_change 81 = .ok (.goto (-24), 3) := by decide +kernel
theorem dX6_change_84 : decode cX6_change 84 = .ok (.aload_n 0, 1) := by decide +kernel
theorem dX6_change_85 : decode cX6_change 85 = .ok (.getfield 15, 3) := by decide +kernel
theorem dX6_change_88 : decode cX6_change 88 = .ok (.iload_n 1, 1) := by decide +kernel
theorem dX6_change_89 : decode cX6_change 89 = .ok (.iload_n 3, 1) := by decide +kernel
theorem dX6_change_90 : decode cX6_change 90 = .ok (.iastore, 1) := by decide +kernel
theorem dX6_change_91 : decode cX6_change 91 = .ok (.iconst 1, 1) := by decide +kernel
theorem dX6_change_92 : decode cX6_change 92 = .ok (.ireturn, 1) := by decide +kernel
theorem dX6_putOver_0 : decode cX6_putOver 0 = .ok (.iload_n 2, 1) := by decide +kernel
theorem dX6_putOver_1 : decode cX6_putOver 1 = .ok (.ifCond .le 9, 3) := by decide +kernel
theorem dX6_putOver_4 : decode cX6_putOver 4 = .ok (.aload_n 3, 1) := by decide +kernel
theorem dX6_putOver_5 : decode cX6_putOver 5 = .ok (.bipush 32, 2) := by decide +kernel
theorem dX6_putOver_7 : decode cX6_putOver 7 = .ok (.invokevirtual 23, 3) := by decide +kernel
theorem dX6_putOver_10 : decode cX6_putOver 10 = .ok (.iconst 0, 1) := by decide +kernel
theorem dX6_putOver_11 : decode cX6_putOver 11 = .ok (.istore 4, 2) := by decide +kernel
theorem dX6_putOver_13 : decode cX6_putOver 13 = .ok (.iload 4, 2) := by decide +kernel
theorem dX6_putOver_15 : decode cX6_putOver 15 = .ok (.aload_n 1, 1) := by decide +kernel
theorem dX6_putOver_16 : decode cX6_putOver 16 = .ok (.getfield 29, 3) := by decide +kernel
theorem dX6_putOver_19 : decode cX6_putOver 19 = .ok (.if_icmp .ge 70, 3) := by decide +kernel
theorem dX6_putOver_22 : decode cX6_putOver 22 = .ok (.aload_n 1, 1) := by decide +kernel
theorem dX6_putOver_23 : decode cX6_putOver 23 = .ok (.getfield 35, 3) := by decide +kernel
theorem dX6_putOver_26 : decode cX6_putOver 26 = .ok (.iload 4, 2) := by decide +kernel
theorem dX6_putOver_28 : decode cX6_putOver 28 = .ok (.baload, 1) := by decide +kernel
theorem dX6_putOver_29 : decode cX6_putOver 29 = .ok (.bipush 97, 2) := by decide +kernel
theorem dX6_putOver_31 : decode cX6_putOver 31 = .ok (.isub, 1) := by decide +kernel
theorem dX6_putOver_32 : decode cX6_putOver 32 = .ok (.istore 5, 2) := by decide +kernel
theorem dX6_putOver_34 : decode cX6_putOver 34 = .ok (.iload 5, 2) := by decide +kernel
theorem dX6_putOver_36 : decode cX6_putOver 36 = .ok (.ifCond .lt 47, 3) := by decide +kernel
theorem dX6_putOver_39 : decode cX6_putOver 39 = .ok (.iload 5, 2) := by decide +kernel
theorem dX6_putOver_41 : decode cX6_putOver 41 = .ok (.bipush 26, 2) := by decide +kernel
theorem dX6_putOver_43 : decode cX6_putOver 43 = .ok (.if_icmp .ge 40, 3) := by decide +kernel
theorem dX6_putOver_46 : decode cX6_putOver 46 = .ok (.iconst 0, 1) := by decide +kernel
theorem dX6_putOver_47 : decode cX6_putOver 47 = .ok (.istore 6, 2) := by decide +kernel
theorem dX6_putOver_49 : decode cX6_putOver 49 = .ok (.iload 6, 2) := by decide +kernel
theorem dX6_putOver_51 : decode cX6_putOver 51 = .ok (.aload_n 0, 1) := by decide +kernel
theorem dX6_putOver_52 : decode cX6_putOver 52 = .ok (.getfield 15, 3) := by decide +kernel
theorem dX6_putOver_55 : decode cX6_putOver 55 = .ok (.iload 5, 2) := by decide +kernel
theorem dX6_putOver_57 : decode cX6_putOver 57 = .ok (.iaload, 1) := by decide +kernel
theorem dX6_putOver_58 : decode cX6_putOver 58 = .ok (.if_icmp .ge 25, 3) := by decide +kernel
theorem dX6_putOver_61 : decode cX6_putOver 61 = .ok (.aload_n 3, 1) := by decide +kernel
theorem dX6_putOver_62 : decode cX6_putOver 62 = .ok (.aload_n 0, 1) := by decide +kernel
theorem dX6_putOver_63 : decode cX6_putOver 63 = .ok (.getfield 9, 3) := by decide +kernel
theorem dX6_putOver_66 : decode cX6_putOver 66 = .ok (.iload 5, 2) := by decide +kernel
theorem dX6_putOver_68 : decode cX6_putOver 68 = .ok (.iconst 3, 1) := by decide +kernel
theorem dX6_putOver_69 : decode cX6_putOver 69 = .ok (.imul, 1) := by decide +kernel
theorem dX6_putOver_70 : decode cX6_putOver 70 = .ok (.iload 6, 2) := by decide +kernel
theorem dX6_putOver_72 : decode cX6_putOver 72 = .ok (.iadd, 1) := by decide +kernel
theorem dX6_putOver_73 : decode cX6_putOver 73 = .ok (.baload, 1) := by decide +kernel
theorem dX6_putOver_74 : decode cX6_putOver 74 = .ok (.invokevirtual 23, 3) := by decide +kernel
theorem dX6_putOver_77 : decode cX6_putOver 77 = .ok (.iinc 6 1, 3) := by decide +kernel
theorem dX6_putOver_80 : decode cX6_putOver 80 = .ok (.goto (-31), 3) := by decide +kernel
theorem dX6_putOver_83 : decode cX6_putOver 83 = .ok (.iinc 4 1, 3) := by decide +kernel
theorem dX6_putOver_86 : decode cX6_putOver 86 = .ok (.goto (-73), 3) := by decide +kernel
theorem dX6_putOver_89 : decode cX6_putOver 89 = .ok (.return_, 1) := by decide +kernel
theorem dX7_init_0 : decode cX7_init 0 = .ok (.aload_n 0, 1) := by decide +kernel
theorem dX7_init_1 : decode cX7_init 1 = .ok (.invokespecial 3, 3) := by decide +kernel
theorem dX7_init_4 : decode cX7_init 4 = .ok (.aload_n 0, 1) := by decide +kernel
theorem dX7_init_5 : decode cX7_init 5 = .ok (.sipush 400, 3) := by decide +kernel
theorem dX7_init_8 : decode cX7_init 8 = .ok (.newarray .byte, 2) := by decide +kernel
theorem dX7_init_10 : decode cX7_init 10 = .ok (.putfield 9, 3) := by decide +kernel
theorem dX7_init_13 : decode cX7_init 13 = .ok (.aload_n 0, 1) := by decide +kernel
theorem dX7_init_14 : decode cX7_init 14 = .ok (.iconst 0, 1) := by decide +kernel
theorem dX7_init_15 : decode cX7_init 15 = .ok (.putfield 15, 3) := by decide +kernel
theorem dX7_init_18 : decode cX7_init 18 = .ok (.return_, 1) := by decide +kernel
theorem dX7_holds_0 : decode cX7_holds 0 = .ok (.iload_n 1, 1) := by decide +kernel
theorem dX7_holds_1 : decode cX7_holds 1 = .ok (.ifCond .lt 15, 3) := by decide +kernel
theorem dX7_holds_4 : decode cX7_holds 4 = .ok (.iload_n 1, 1) := by decide +kernel
theorem dX7_holds_5 : decode cX7_holds 5 = .ok (.aload_n 0, 1) := by decide +kernel
theorem dX7_holds_6 : decode cX7_holds 6 = .ok (.getfield 15, 3) := by decide +kernel
theorem dX7_holds_9 : decode cX7_holds 9 = .ok (.if_icmp .gt 7, 3) := by decide +kernel
theorem dX7_holds_12 : decode cX7_holds 12 = .ok (.iconst 1, 1) := by decide +kernel
theorem dX7_holds_13 : decode cX7_holds 13 = .ok (.goto 4, 3) := by decide +kernel
theorem dX7_holds_16 : decode cX7_holds 16 = .ok (.iconst 0, 1) := by decide +kernel
theorem dX7_holds_17 : decode cX7_holds 17 = .ok (.ireturn, 1) := by decide +kernel
theorem dX7_add_0 : decode cX7_add 0 = .ok (.bipush 24, 2) := by decide +kernel
theorem dX7_add_2 : decode cX7_add 2 = .ok (.istore_n 2, 1) := by decide +kernel
theorem dX7_add_3 : decode cX7_add 3 = .ok (.iload_n 2, 1) := by decide +kernel
theorem dX7_add_4 : decode cX7_add 4 = .ok (.ifCond .lt 42, 3) := by decide +kernel
theorem dX7_add_7 : decode cX7_add 7 = .ok (.aload_n 0, 1) := by decide +kernel
theorem dX7_add_8 : decode cX7_add 8 = .ok (.getfield 15, 3) := by decide +kernel
theorem dX7_add_11 : decode cX7_add 11 = .ok (.sipush 400, 3) := by decide +kernel
theorem dX7_add_14 : decode cX7_add 14 = .ok (.if_icmp .ge 32, 3) := by decide +kernel
theorem dX7_add_17 : decode cX7_add 17 = .ok (.aload_n 0, 1) := by decide +kernel
theorem dX7_add_18 : decode cX7_add 18 = .ok (.getfield 9, 3) := by decide +kernel
theorem dX7_add_21 : decode cX7_add 21 = .ok (.aload_n 0, 1) := by decide +kernel
theorem dX7_add_22 : decode cX7_add 22 = .ok (.getfield 15, 3) := by decide +kernel
theorem dX7_add_25 : decode cX7_add 25 = .ok (.iload_n 1, 1) := by decide +kernel
theorem dX7_add_26 : decode cX7_add 26 = .ok (.iload_n 2, 1) := by decide +kernel
theorem dX7_add_27 : decode cX7_add 27 = .ok (.ishr, 1) := by decide +kernel
theorem dX7_add_28 : decode cX7_add 28 = .ok (.i2b, 1) := by decide +kernel
theorem dX7_add_29 : decode cX7_add 29 = .ok (.bastore, 1) := by decide +kernel
theorem dX7_add_30 : decode cX7_add 30 = .ok (.aload_n 0, 1) := by decide +kernel
theorem dX7_add_31 : decode cX7_add 31 = .ok (.dup, 1) := by decide +kernel
theorem dX7_add_32 : decode cX7_add 32 = .ok (.getfield 15, 3) := by decide +kernel
theorem dX7_add_35 : decode cX7_add 35 = .ok (.iconst 1, 1) := by decide +kernel
theorem dX7_add_36 : decode cX7_add 36 = .ok (.iadd, 1) := by decide +kernel
theorem dX7_add_37 : decode cX7_add 37 = .ok (.putfield 15, 3) := by decide +kernel
theorem dX7_add_40 : decode cX7_add 40 = .ok (.iinc 2 (-8), 3) := by decide +kernel
theorem dX7_add_43 : decode cX7_add 43 = .ok (.goto (-40), 3) := by decide +kernel
theorem dX7_add_46 : decode cX7_add 46 = .ok (.return_, 1) := by decide +kernel
theorem dX8_init_0 : decode cX8_init 0 = .ok (.aload_n 0, 1) := by decide +kernel
theorem dX8_init_1 : decode cX8_init 1 = .ok (.invokespecial 3, 3) := by decide +kernel
theorem dX8_init_4 : decode cX8_init 4 = .ok (.aload_n 0, 1) := by decide +kernel
theorem dX8_init_5 : decode cX8_init 5 = .ok (.bipush 21, 2) := by decide +kernel
theorem dX8_init_7 : decode cX8_init 7 = .ok (.newarray .byte, 2) := by decide +kernel
theorem dX8_init_9 : decode cX8_init 9 = .ok (.putfield 9, 3) := by decide +kernel
theorem dX8_init_12 : decode cX8_init 12 = .ok (.aload_n 0, 1) := by decide +kernel
theorem dX8_init_13 : decode cX8_init 13 = .ok (.iconst 0, 1) := by decide +kernel
theorem dX8_init_14 : decode cX8_init 14 = .ok (.putfield 15, 3) := by decide +kernel
theorem dX8_init_17 : decode cX8_init 17 = .ok (.aload_n 0, 1) := by decide +kernel
theorem dX8_init_18 : decode cX8_init 18 = .ok (.bipush 20, 2) := by decide +kernel
theorem dX8_init_20 : decode cX8_init 20 = .ok (.newarray .byte, 2) := by decide +kernel
theorem dX8_init_22 : decode cX8_init 22 = .ok (.putfield 19, 3) := by decide +kernel
theorem dX8_init_25 : decode cX8_init 25 = .ok (.aload_n 0, 1) := by decide +kernel
theorem dX8_init_26 : decode cX8_init 26 = .ok (.iconst 0, 1) := by decide +kernel
theorem dX8_init_27 : decode cX8_init 27 = .ok (.putfield 22, 3) := by decide +kernel
theorem dX8_init_30 : decode cX8_init 30 = .ok (.return_, 1) := by decide +kernel
theorem dX8_take_0 : decode cX8_take 0 = .ok (.aload_n 0, 1) := by decide +kernel
theorem dX8_take_1 : decode cX8_take 1 = .ok (.iconst 0, 1) := by decide +kernel
theorem dX8_take_2 : decode cX8_take 2 = .ok (.putfield 15, 3) := by decide +kernel
theorem dX8_take_5 : decode cX8_take 5 = .ok (.aload_n 0, 1) := by decide +kernel
theorem dX8_take_6 : decode cX8_take 6 = .ok (.iconst 0, 1) := by decide +kernel
theorem dX8_take_7 : decode cX8_take 7 = .ok (.putfield 22, 3) := by decide +kernel
theorem dX8_take_10 : decode cX8_take 10 = .ok (.iload_n 2, 1) := by decide +kernel
theorem dX8_take_11 : decode cX8_take 11 = .ok (.ifCond .lt 22, 3) := by decide +kernel
theorem dX8_take_14 : decode cX8_take 14 = .ok (.iload_n 3, 1) := by decide +kernel
theorem dX8_take_15 : decode cX8_take 15 = .ok (.iload_n 2, 1) := by decide +kernel
theorem dX8_take_16 : decode cX8_take 16 = .ok (.if_icmp .le 17, 3) := by decide +kernel
theorem dX8_take_19 : decode cX8_take 19 = .ok (.iload_n 3, 1) := by decide +kernel
theorem dX8_take_20 : decode cX8_take 20 = .ok (.aload_n 1, 1) := by decide +kernel
theorem dX8_take_21 : decode cX8_take 21 = .ok (.arraylength, 1) := by decide +kernel
theorem dX8_take_22 : decode cX8_take 22 = .ok (.if_icmp .gt 11, 3) := by decide +kernel
theorem dX8_take_25 : decode cX8_take 25 = .ok (.iload_n 3, 1) := by decide +kernel
theorem dX8_take_26 : decode cX8_take 26 = .ok (.iload_n 2, 1) := by decide +kernel
theorem dX8_take_27 : decode cX8_take 27 = .ok (.isub, 1) := by decide +kernel
theorem dX8_take_28 : decode cX8_take 28 = .ok (.bipush 21, 2) := by decide +kernel
theorem dX8_take_30 : decode cX8_take 30 = .ok (.if_icmp .le 5, 3) := by decide +kernel
theorem dX8_take_33 : decode cX8_take 33 = .ok (.iconst 0, 1) := by decide +kernel
theorem dX8_take_34 : decode cX8_take 34 = .ok (.ireturn, 1) := by decide +kernel
theorem dX8_take_35 : decode cX8_take 35 = .ok (.aload_n 1, 1) := by decide +kernel
theorem dX8_take_36 : decode cX8_take 36 = .ok (.iload_n 3, 1) := by decide +kernel
theorem dX8_take_37 : decode cX8_take 37 = .ok (.iconst 1, 1) := by decide +kernel
theorem dX8_take_38 : decode cX8_take 38 = .ok (.isub, 1) := by decide +kernel
theorem dX8_take_39 : decode cX8_take 39 = .ok (.baload, 1) := by decide +kernel
theorem dX8_take_40 : decode cX8_take 40 = .ok (.bipush 46, 2) := by decide +kernel
theorem dX8_take_42 : decode cX8_take 42 = .ok (.if_icmp .ne 9, 3) := by decide +kernel
theorem dX8_take_45 : decode cX8_take 45 = .ok (.iload_n 3, 1) := by decide +kernel
theorem dX8_take_46 : decode cX8_take 46 = .ok (.iconst 1, 1) := by decide +kernel
theorem dX8_take_47 : decode cX8_take 47 = .ok (.isub, 1) := by decide +kernel
theorem dX8_take_48 : decode cX8_take 48 = .ok (.goto 4, 3) := by decide +kernel
theorem dX8_take_51 : decode cX8_take 51 = .ok (.iload_n 3, 1) := by decide +kernel
theorem dX8_take_52 : decode cX8_take 52 = .ok (.istore 4, 2) := by decide +kernel
theorem dX8_take_54 : decode cX8_take 54 = .ok (.iload 4, 2) := by decide +kernel
theorem dX8_take_56 : decode cX8_take 56 = .ok (.iload_n 2, 1) := by decide +kernel
theorem dX8_take_57 : decode cX8_take 57 = .ok (.isub, 1) := by decide +kernel
theorem dX8_take_58 : decode cX8_take 58 = .ok (.bipush 20, 2) := by decide +kernel
theorem dX8_take_60 : decode cX8_take 60 = .ok (.if_icmp .le 5, 3) := by decide +kernel
theorem dX8_take_63 : decode cX8_take 63 = .ok (.iconst 0, 1) := by decide +kernel
theorem dX8_take_64 : decode cX8_take 64 = .ok (.ireturn, 1) := by decide +kernel
theorem dX8_take_65 : decode cX8_take 65 = .ok (.iload_n 2, 1) := by decide +kernel
theorem dX8_take_66 : decode cX8_take 66 = .ok (.istore 5, 2) := by decide +kernel
theorem dX8_take_68 : decode cX8_take 68 = .ok (.iload 5, 2) := by decide +kernel
theorem dX8_take_70 : decode cX8_take 70 = .ok (.iload 4, 2) := by decide +kernel
theorem dX8_take_72 : decode cX8_take 72 = .ok (.if_icmp .ge 22, 3) := by decide +kernel
theorem dX8_take_75 : decode cX8_take 75 = .ok (.aload_n 0, 1) := by decide +kernel
theorem dX8_take_76 : decode cX8_take 76 = .ok (.aload_n 1, 1) := by decide +kernel
theorem dX8_take_77 : decode cX8_take 77 = .ok (.iload 5, 2) := by decide +kernel
theorem dX8_take_79 : decode cX8_take 79 = .ok (.baload, 1) := by decide +kernel
theorem dX8_take_80 : decode cX8_take 80 = .ok (.invokevirtual 25, 3) := by decide +kernel
theorem dX8_take_83 : decode cX8_take 83 = .ok (.ifCond .ne 5, 3) := by decide +kernel
theorem dX8_take_86 : decode cX8_take 86 = .ok (.iconst 0, 1) := by decide +kernel
theorem dX8_take_87 : decode cX8_take 87 = .ok (.ireturn, 1) := by decide +kernel
theorem dX8_take_88 : decode cX8_take 88 = .ok (.iinc 5 1, 3) := by decide +kernel
theorem dX8_take_91 : decode cX8_take 91 = .ok (.goto (-23), 3) := by decide +kernel
theorem dX8_take_94 : decode cX8_take 94 = .ok (.iload 4, 2) := by decide +kernel
theorem dX8_take_96 : decode cX8_take 96 = .ok (.iload_n 3, 1) := by decide +kernel
theorem dX8_take_97 : decode cX8_take 97 = .ok (.if_icmp .ge 33, 3) := by decide +kernel
theorem dX8_take_100 : decode cX8_take 100 = .ok (.aload_n 0, 1) := by decide +kernel
theorem dX8_take_101 : decode cX8_take 101 = .ok (.getfield 15, 3) := by decide +kernel
theorem dX8_take_104 : decode cX8_take 104 = .ok (.bipush 20, 2) := by decide +kernel
theorem dX8_take_106 : decode cX8_take 106 = .ok (.if_icmp .gt 24, 3) := by decide +kernel
theorem dX8_take_109 : decode cX8_take 109 = .ok (.aload_n 0, 1) := by decide +kernel
theorem dX8_take_110 : decode cX8_take 110 = .ok (.getfield 9, 3) := by decide +kernel
theorem dX8_take_113 : decode cX8_take 113 = .ok (.aload_n 0, 1) := by decide +kernel
theorem dX8_take_114 : decode cX8_take 114 = .ok (.getfield 15, 3) := by decide +kernel
theorem dX8_take_117 : decode cX8_take 117 = .ok (.bipush 46, 2) := by decide +kernel
theorem dX8_take_119 : decode cX8_take 119 = .ok (.bastore, 1) := by decide +kernel
theorem dX8_take_120 : decode cX8_take 120 = .ok (.aload_n 0, 1) := by decide +kernel
theorem dX8_take_121 : decode cX8_take 121 = .ok (.dup, 1) := by decide +kernel
theorem dX8_take_122 : decode cX8_take 122 = .ok (.getfield 15, 3) := by decide +kernel
theorem dX8_take_125 : decode cX8_take 125 = .ok (.iconst 1, 1) := by decide +kernel
theorem dX8_take_126 : decode cX8_take 126 = .ok (.iadd, 1) := by decide +kernel
theorem dX8_take_127 : decode cX8_take 127 = .ok (.putfield 15, 3) := by decide +kernel
theorem dX8_take_130 : decode cX8_take 130 = .ok (.aload_n 0, 1) := by decide +kernel
theorem dX8_take_131 : decode cX8_take 131 = .ok (.getfield 22, 3) := by decide +kernel
theorem dX8_take_134 : decode cX8_take 134 = .ok (.ifCond .le 7, 3) := by decide +kernel
theorem dX8_take_137 : decode cX8_take 137 = .ok (.iconst 1, 1) := by decide +kernel
theorem dX8_take_138 : decode cX8_take 138 = .ok (.goto 4, 3) := by decide +kernel
theorem dX8_take_141 : decode cX8_take 141 = .ok (.iconst 0, 1) := by decide +kernel
theorem dX8_take_142 : decode cX8_take 142 = .ok (.ireturn, 1) := by decide +kernel
theorem dX8_takeSign_0 : decode cX8_takeSign 0 = .ok (.aload_n 0, 1) := by decide +kernel
theorem dX8_takeSign_1 : decode cX8_takeSign 1 = .ok (.getfield 15, 3) := by decide +kernel
theorem dX8_takeSign_4 : decode cX8_takeSign 4 = .ok (.bipush 20, 2) := by decide +kernel
theorem dX8_takeSign_6 : decode cX8_takeSign 6 = .ok (.if_icmp .ge 12, 3) := by decide +kernel
theorem dX8_takeSign_9 : decode cX8_takeSign 9 = .ok (.aload_n 0, 1) := by decide +kernel
theorem dX8_takeSign_10 : decode cX8_takeSign 10 = .ok (.getfield 22, 3) := by decide +kernel
theorem dX8_takeSign_13 : decode cX8_takeSign 13 = .ok (.bipush 20, 2) := by decide +kernel
theorem dX8_takeSign_15 : decode cX8_takeSign 15 = .ok (.if_icmp .lt 5, 3) := by decide +kernel
theorem dX8_takeSign_18 : decode cX8_takeSign 18 = .ok (.iconst 0, 1) := by decide +kernel
theorem dX8_takeSign_19 : decode cX8_takeSign 19 = .ok (.ireturn, 1) := by decide +kernel
theorem dX8_takeSign_20 : decode cX8_takeSign 20 = .ok (.iload_n 1, 1) := by decide +kernel
theorem dX8_takeSign_21 : decode cX8_takeSign 21 = .ok (.invokestatic 29, 3) := by decide +kernel
theorem dX8_takeSign_24 : decode cX8_takeSign 24 = .ok (.ifCond .eq 26, 3) := by decide +kernel
theorem dX8_takeSign_27 : decode cX8_takeSign 27 = .ok (.aload_n 0, 1) := by decide +kernel
theorem dX8_takeSign_28 : decode cX8_takeSign 28 = .ok (.getfield 19, 3) := by decide +kernel
theorem dX8_takeSign_31 : decode cX8_takeSign 31 = .ok (.aload_n 0, 1) := by decide +kernel
theorem dX8_takeSign_32 : decode cX8_takeSign 32 = .ok (.getfield 22, 3) := by decide +kernel
theorem dX8_takeSign_35 : decode cX8_takeSign 35 = .ok (.iload_n 1, 1) := by decide +kernel
theorem dX8_takeSign_36 : decode cX8_takeSign 36 = .ok (.bastore, 1) := by decide +kernel
theorem dX8_takeSign_37 : decode cX8_takeSign 37 = .ok (.aload_n 0, 1) := by decide +kernel
theorem dX8_takeSign_38 : decode cX8_takeSign 38 = .ok (.dup, 1) := by decide +kernel
theorem dX8_takeSign_39 : decode cX8_takeSign 39 = .ok (.getfield 22, 3) := by decide +kernel
theorem dX8_takeSign_42 : decode cX8_takeSign 42 = .ok (.iconst 1, 1) := by decide +kernel
theorem dX8_takeSign_43 : decode cX8_takeSign 43 = .ok (.iadd, 1) := by decide +kernel
theorem dX8_takeSign_44 : decode cX8_takeSign 44 = .ok (.putfield 22, 3) := by decide +kernel
theorem dX8_takeSign_47 : decode cX8_takeSign 47 = .ok (.goto 61, 3) := by decide +kernel
theorem dX8_takeSign_50 : decode cX8_takeSign 50 = .ok (.iload_n 1, 1) := by decide +kernel
theorem dX8_takeSign_51 : decode cX8_takeSign 51 = .ok (.invokestatic 33, 3) := by decide +kernel
theorem dX8_takeSign_54 : decode cX8_takeSign 54 = .ok (.ifCond .eq 33, 3) := by decide +kernel
theorem dX8_takeSign_57 : decode cX8_takeSign 57 = .ok (.aload_n 0, 1) := by decide +kernel
theorem dX8_takeSign_58 : decode cX8_takeSign 58 = .ok (.getfield 19, 3) := by decide +kernel
theorem dX8_takeSign_61 : decode cX8_takeSign 61 = .ok (.aload_n 0, 1) := by decide +kernel
theorem dX8_takeSign_62 : decode cX8_takeSign 62 = .ok (.getfield 22, 3) := by decide +kernel
theorem dX8_takeSign_65 : decode cX8_takeSign 65 = .ok (.iload_n 1, 1) := by decide +kernel
theorem dX8_takeSign_66 : decode cX8_takeSign 66 = .ok (.bipush 65, 2) := by decide +kernel
theorem dX8_takeSign_68 : decode cX8_takeSign 68 = .ok (.isub, 1) := by decide +kernel
theorem dX8_takeSign_69 : decode cX8_takeSign 69 = .ok (.bipush 97, 2) := by decide +kernel
theorem dX8_takeSign_71 : decode cX8_takeSign 71 = .ok (.iadd, 1) := by decide +kernel
theorem dX8_takeSign_72 : decode cX8_takeSign 72 = .ok (.i2b, 1) := by decide +kernel
theorem dX8_takeSign_73 : decode cX8_takeSign 73 = .ok (.bastore, 1) := by decide +kernel
theorem dX8_takeSign_74 : decode cX8_takeSign 74 = .ok (.aload_n 0, 1) := by decide +kernel
theorem dX8_takeSign_75 : decode cX8_takeSign 75 = .ok (.dup, 1) := by decide +kernel
theorem dX8_takeSign_76 : decode cX8_takeSign 76 = .ok (.getfield 22, 3) := by decide +kernel
theorem dX8_takeSign_79 : decode cX8_takeSign 79 = .ok (.iconst 1, 1) := by decide +kernel
theorem dX8_takeSign_80 : decode cX8_takeSign 80 = .ok (.iadd, 1) := by decide +kernel
theorem dX8_takeSign_81 : decode cX8_takeSign 81 = .ok (.putfield 22, 3) := by decide +kernel
theorem dX8_takeSign_84 : decode cX8_takeSign 84 = .ok (.goto 24, 3) := by decide +kernel
theorem dX8_takeSign_87 : decode cX8_takeSign 87 = .ok (.aload_n 0, 1) := by decide +kernel
theorem dX8_takeSign_88 : decode cX8_takeSign 88 = .ok (.getfield 22, 3) := by decide +kernel
theorem dX8_takeSign_91 : decode cX8_takeSign 91 = .ok (.ifCond .eq 15, 3) := by decide +kernel
theorem dX8_takeSign_94 : decode cX8_takeSign 94 = .ok (.iload_n 1, 1) := by decide +kernel
theorem dX8_takeSign_95 : decode cX8_takeSign 95 = .ok (.bipush 39, 2) := by decide +kernel
theorem dX8_takeSign_97 : decode cX8_takeSign 97 = .ok (.if_icmp .eq 11, 3) := by decide +kernel
theorem dX8_takeSign_100 : decode cX8_takeSign 100 = .ok (.iload_n 1, 1) := by decide +kernel
theorem dX8_takeSign_101 : decode cX8_takeSign 101 = .ok (.bipush 45, 2) := by decide +kernel
theorem dX8_takeSign_103 : decode cX8_takeSign 103 = .ok (.if_icmp .eq 5, 3) := by decide +kernel
theorem dX8_takeSign_106 : decode cX8_takeSign 106 = .ok (.iconst 0, 1) := by decide +kernel
theorem dX8_takeSign_107 : decode cX8_takeSign 107 = .ok (.ireturn, 1) := by decide +kernel
theorem dX8_takeSign_108 : decode cX8_takeSign 108 = .ok (.aload_n 0, 1) := by decide +kernel
theorem dX8_takeSign_109 : decode cX8_takeSign 109 = .ok (.getfield 9, 3) := by decide +kernel
theorem dX8_takeSign_112 : decode cX8_takeSign 112 = .ok (.aload_n 0, 1) := by decide +kernel
theorem dX8_takeSign_113 : decode cX8_takeSign 113 = .ok (.getfield 15, 3) := by decide +kernel
theorem dX8_takeSign_116 : decode cX8_takeSign 116 = .ok (.iload_n 1, 1) := by decide +kernel
theorem dX8_takeSign_117 : decode cX8_takeSign 117 = .ok (.bastore, 1) := by decide +kernel
theorem dX8_takeSign_118 : decode cX8_takeSign 118 = .ok (.aload_n 0, 1) := by decide +kernel
theorem dX8_takeSign_119 : decode cX8_takeSign 119 = .ok (.dup, 1) := by decide +kernel
theorem dX8_takeSign_120 : decode cX8_takeSign 120 = .ok (.getfield 15, 3) := by decide +kernel
theorem dX8_takeSign_123 : decode cX8_takeSign 123 = .ok (.iconst 1, 1) := by decide +kernel
theorem dX8_takeSign_124 : decode cX8_takeSign 124 = .ok (.iadd, 1) := by decide +kernel
theorem dX8_takeSign_125 : decode cX8_takeSign 125 = .ok (.putfield 15, 3) := by decide +kernel
theorem dX8_takeSign_128 : decode cX8_takeSign 128 = .ok (.iconst 1, 1) := by decide +kernel
theorem dX8_takeSign_129 : decode cX8_takeSign 129 = .ok (.ireturn, 1) := by decide +kernel
theorem dX8_copyLetters_0 : decode cX8_copyLetters 0 = .ok (.iconst 0, 1) := by decide +kernel
theorem dX8_copyLetters_1 : decode cX8_copyLetters 1 = .ok (.istore_n 2, 1) := by decide +kernel
theorem dX8_copyLetters_2 : decode cX8_copyLetters 2 = .ok (.iload_n 2, 1) := by decide +kernel
theorem dX8_copyLetters_3 : decode cX8_copyLetters 3 = .ok (.bipush 20, 2) := by decide +kernel
theorem dX8_copyLetters_5 : decode cX8_copyLetters 5 = .ok (.if_icmp .ge 21, 3) := by decide +kernel
theorem dX8_copyLetters_8 : decode cX8_copyLetters 8 = .ok (.aload_n 0, 1) := by decide +kernel
theorem dX8_copyLetters_9 : decode cX8_copyLetters 9 = .ok (.getfield 19, 3) := by decide +kernel
theorem dX8_copyLetters_12 : decode cX8_copyLetters 12 = .ok (.iload_n 2, 1) := by decide +kernel
theorem dX8_copyLetters_13 : decode cX8_copyLetters 13 = .ok (.aload_n 1, 1) := by decide +kernel
theorem dX8_copyLetters_14 : decode cX8_copyLetters 14 = .ok (.getfield 19, 3) := by decide +kernel
theorem dX8_copyLetters_17 : decode cX8_copyLetters 17 = .ok (.iload_n 2, 1) := by decide +kernel
theorem dX8_copyLetters_18 : decode cX8_copyLetters 18 = .ok (.baload, 1) := by decide +kernel
theorem dX8_copyLetters_19 : decode cX8_copyLetters 19 = .ok (.bastore, 1) := by decide +kernel
theorem dX8_copyLetters_20 : decode cX8_copyLetters 20 = .ok (.iinc 2 1, 3) := by decide +kernel
theorem dX8_copyLetters_23 : decode cX8_copyLetters 23 = .ok (.goto (-21), 3) := by decide +kernel
theorem dX8_copyLetters_26 : decode cX8_copyLetters 26 = .ok (.aload_n 0, 1) := by decide +kernel
theorem dX8_copyLetters_27 : decode cX8_copyLetters 27 = .ok (.aload_n 1, 1) := by decide +kernel
theorem dX8_copyLetters_28 : decode cX8_copyLetters 28 = .ok (.getfield 22, 3) := by decide +kernel
theorem dX8_copyLetters_31 : decode cX8_copyLetters 31 = .ok (.putfield 22, 3) := by decide +kernel
theorem dX8_copyLetters_34 : decode cX8_copyLetters 34 = .ok (.return_, 1) := by decide +kernel
theorem dX8_isBeginning_0 : decode cX8_isBeginning 0 = .ok (.aload_n 0, 1) := by decide +kernel
theorem dX8_isBeginning_1 : decode cX8_isBeginning 1 = .ok (.getfield 22, 3) := by decide +kernel
theorem dX8_isBeginning_4 : decode cX8_isBeginning 4 = .ok (.iload_n 2, 1) := by decide +kernel
theorem dX8_isBeginning_5 : decode cX8_isBeginning 5 = .ok (.if_icmp .ne 11, 3) := by decide +kernel
theorem dX8_isBeginning_8 : decode cX8_isBeginning 8 = .ok (.aload_n 1, 1) := by decide +kernel
theorem dX8_isBeginning_9 : decode cX8_isBeginning 9 = .ok (.getfield 22, 3) := by decide +kernel
theorem dX8_isBeginning_12 : decode cX8_isBeginning 12 = .ok (.iload_n 2, 1) := by decide +kernel
theorem dX8_isBeginning_13 : decode cX8_isBeginning 13 = .ok (.if_icmp .ge 5, 3) := by decide +kernel
theorem dX8_isBeginning_16 : decode cX8_isBeginning 16 = .ok (.iconst 0, 1) := by decide +kernel
theorem dX8_isBeginning_17 : decode cX8_isBeginning 17 = .ok (.ireturn, 1) := by decide +kernel
theorem dX8_isBeginning_18 : decode cX8_isBeginning 18 = .ok (.iconst 0, 1) := by decide +kernel
theorem dX8_isBeginning_19 : decode cX8_isBeginning 19 = .ok (.istore_n 3, 1) := by decide +kernel
theorem dX8_isBeginning_20 : decode cX8_isBeginning 20 = .ok (.iload_n 3, 1) := by decide +kernel
theorem dX8_isBeginning_21 : decode cX8_isBeginning 21 = .ok (.aload_n 0, 1) := by decide +kernel
theorem dX8_isBeginning_22 : decode cX8_isBeginning 22 = .ok (.getfield 22, 3) := by decide +kernel
theorem dX8_isBeginning_25 : decode cX8_isBeginning 25 = .ok (.if_icmp .ge 26, 3) := by decide +kernel
theorem dX8_isBeginning_28 : decode cX8_isBeginning 28 = .ok (.aload_n 0, 1) := by decide +kernel
theorem dX8_isBeginning_29 : decode cX8_isBeginning 29 = .ok (.getfield 19, 3) := by decide +kernel
theorem dX8_isBeginning_32 : decode cX8_isBeginning 32 = .ok (.iload_n 3, 1) := by decide +kernel
theorem dX8_isBeginning_33 : decode cX8_isBeginning 33 = .ok (.baload, 1) := by decide +kernel
theorem dX8_isBeginning_34 : decode cX8_isBeginning 34 = .ok (.aload_n 1, 1) := by decide +kernel
theorem dX8_isBeginning_35 : decode cX8_isBeginning 35 = .ok (.getfield 19, 3) := by decide +kernel
theorem dX8_isBeginning_38 : decode cX8_isBeginning 38 = .ok (.iload_n 3, 1) := by decide +kernel
theorem dX8_isBeginning_39 : decode cX8_isBeginning 39 = .ok (.baload, 1) := by decide +kernel
theorem dX8_isBeginning_40 : decode cX8_isBeginning 40 = .ok (.if_icmp .eq 5, 3) := by decide +kernel
theorem dX8_isBeginning_43 : decode cX8_isBeginning 43 = .ok (.iconst 0, 1) := by decide +kernel
theorem dX8_isBeginning_44 : decode cX8_isBeginning 44 = .ok (.ireturn, 1) := by decide +kernel
theorem dX8_isBeginning_45 : decode cX8_isBeginning 45 = .ok (.iinc 3 1, 3) := by decide +kernel
theorem dX8_isBeginning_48 : decode cX8_isBeginning 48 = .ok (.goto (-28), 3) := by decide +kernel
theorem dX8_isBeginning_51 : decode cX8_isBeginning 51 = .ok (.iconst 1, 1) := by decide +kernel
theorem dX8_isBeginning_52 : decode cX8_isBeginning 52 = .ok (.ireturn, 1) := by decide +kernel
theorem dX8_alike_0 : decode cX8_alike 0 = .ok (.aload_n 0, 1) := by decide +kernel
theorem dX8_alike_1 : decode cX8_alike 1 = .ok (.aload_n 1, 1) := by decide +kernel
theorem dX8_alike_2 : decode cX8_alike 2 = .ok (.aload_n 1, 1) := by decide +kernel
theorem dX8_alike_3 : decode cX8_alike 3 = .ok (.getfield 22, 3) := by decide +kernel
theorem dX8_alike_6 : decode cX8_alike 6 = .ok (.invokevirtual 36, 3) := by decide +kernel
theorem dX8_alike_9 : decode cX8_alike 9 = .ok (.ireturn, 1) := by decide +kernel
theorem dX8_fits_0 : decode cX8_fits 0 = .ok (.aload_n 0, 1) := by decide +kernel
theorem dX8_fits_1 : decode cX8_fits 1 = .ok (.aload_n 1, 1) := by decide +kernel
theorem dX8_fits_2 : decode cX8_fits 2 = .ok (.invokevirtual 40, 3) := by decide +kernel
theorem dX8_fits_5 : decode cX8_fits 5 = .ok (.ifCond .ne 21, 3) := by decide +kernel
theorem dX8_fits_8 : decode cX8_fits 8 = .ok (.aload_n 0, 1) := by decide +kernel
theorem dX8_fits_9 : decode cX8_fits 9 = .ok (.aload_n 1, 1) := by decide +kernel
theorem dX8_fits_10 : decode cX8_fits 10 = .ok (.iconst 1, 1) := by decide +kernel
theorem dX8_fits_11 : decode cX8_fits 11 = .ok (.invokevirtual 36, 3) := by decide +kernel
theorem dX8_fits_14 : decode cX8_fits 14 = .ok (.ifCond .ne 12, 3) := by decide +kernel
theorem dX8_fits_17 : decode cX8_fits 17 = .ok (.aload_n 1, 1) := by decide +kernel
theorem dX8_fits_18 : decode cX8_fits 18 = .ok (.aload_n 0, 1) := by decide +kernel
theorem dX8_fits_19 : decode cX8_fits 19 = .ok (.iconst 1, 1) := by decide +kernel
theorem dX8_fits_20 : decode cX8_fits 20 = .ok (.invokevirtual 36, 3) := by decide +kernel
theorem dX8_fits_23 : decode cX8_fits 23 = .ok (.ifCond .eq 7, 3) := by decide +kernel
theorem dX8_fits_26 : decode cX8_fits 26 = .ok (.iconst 1, 1) := by decide +kernel
theorem dX8_fits_27 : decode cX8_fits 27 = .ok (.goto 4, 3) := by decide +kernel
theorem dX8_fits_30 : decode cX8_fits 30 = .ok (.iconst 0, 1) := by decide +kernel
theorem dX8_fits_31 : decode cX8_fits 31 = .ok (.ireturn, 1) := by decide +kernel
theorem dX8_endsWith_0 : decode cX8_endsWith 0 = .ok (.iload_n 2, 1) := by decide +kernel
theorem dX8_endsWith_1 : decode cX8_endsWith 1 = .ok (.aload_n 1, 1) := by decide +kernel
theorem dX8_endsWith_2 : decode cX8_endsWith 2 = .ok (.arraylength, 1) := by decide +kernel
theorem dX8_endsWith_3 : decode cX8_endsWith 3 = .ok (.if_icmp .gt 11, 3) := by decide +kernel
theorem dX8_endsWith_6 : decode cX8_endsWith 6 = .ok (.iload_n 2, 1) := by decide +kernel
theorem dX8_endsWith_7 : decode cX8_endsWith 7 = .ok (.aload_n 0, 1) := by decide +kernel
theorem dX8_endsWith_8 : decode cX8_endsWith 8 = .ok (.getfield 22, 3) := by decide +kernel
theorem dX8_endsWith_11 : decode cX8_endsWith 11 = .ok (.if_icmp .le 5, 3) := by decide +kernel
theorem dX8_endsWith_14 : decode cX8_endsWith 14 = .ok (.iconst 0, 1) := by decide +kernel
theorem dX8_endsWith_15 : decode cX8_endsWith 15 = .ok (.ireturn, 1) := by decide +kernel
theorem dX8_endsWith_16 : decode cX8_endsWith 16 = .ok (.iconst 0, 1) := by decide +kernel
theorem dX8_endsWith_17 : decode cX8_endsWith 17 = .ok (.istore_n 3, 1) := by decide +kernel
theorem dX8_endsWith_18 : decode cX8_endsWith 18 = .ok (.iload_n 3, 1) := by decide +kernel
theorem dX8_endsWith_19 : decode cX8_endsWith 19 = .ok (.iload_n 2, 1) := by decide +kernel
theorem dX8_endsWith_20 : decode cX8_endsWith 20 = .ok (.if_icmp .ge 30, 3) := by decide +kernel
theorem dX8_endsWith_23 : decode cX8_endsWith 23 = .ok (.aload_n 0, 1) := by decide +kernel
theorem dX8_endsWith_24 : decode cX8_endsWith 24 = .ok (.getfield 19, 3) := by decide +kernel
theorem dX8_endsWith_27 : decode cX8_endsWith 27 = .ok (.aload_n 0, 1) := by decide +kernel
theorem dX8_endsWith_28 : decode cX8_endsWith 28 = .ok (.getfield 22, 3) := by decide +kernel
theorem dX8_endsWith_31 : decode cX8_endsWith 31 = .ok (.iload_n 2, 1) := by decide +kernel
theorem dX8_endsWith_32 : decode cX8_endsWith 32 = .ok (.isub, 1) := by decide +kernel
theorem dX8_endsWith_33 : decode cX8_endsWith 33 = .ok (.iload_n 3, 1) := by decide +kernel
theorem dX8_endsWith_34 : decode cX8_endsWith 34 = .ok (.iadd, 1) := by decide +kernel
theorem dX8_endsWith_35 : decode cX8_endsWith 35 = .ok (.baload, 1) := by decide +kernel
theorem dX8_endsWith_36 : decode cX8_endsWith 36 = .ok (.aload_n 1, 1) := by decide +kernel
theorem dX8_endsWith_37 : decode cX8_endsWith 37 = .ok (.iload_n 3, 1) := by decide +kernel
theorem dX8_endsWith_38 : decode cX8_endsWith 38 = .ok (.baload, 1) := by decide +kernel
theorem dX8_endsWith_39 : decode cX8_endsWith 39 = .ok (.if_icmp .eq 5, 3) := by decide +kernel
theorem dX8_endsWith_42 : decode cX8_endsWith 42 = .ok (.iconst 0, 1) := by decide +kernel
theorem dX8_endsWith_43 : decode cX8_endsWith 43 = .ok (.ireturn, 1) := by decide +kernel
theorem dX8_endsWith_44 : decode cX8_endsWith 44 = .ok (.iinc 3 1, 3) := by decide +kernel
theorem dX8_endsWith_47 : decode cX8_endsWith 47 = .ok (.goto (-29), 3) := by decide +kernel
theorem dX8_endsWith_50 : decode cX8_endsWith 50 = .ok (.iconst 1, 1) := by decide +kernel
theorem dX8_endsWith_51 : decode cX8_endsWith 51 = .ok (.ireturn, 1) := by decide +kernel
theorem dX8_compareLetters_0 : decode cX8_compareLetters 0 = .ok (.iconst 0, 1) := by decide +kernel
theorem dX8_compareLetters_1 : decode cX8_compareLetters 1 = .ok (.istore_n 2, 1) := by decide +kernel
theorem dX8_compareLetters_2 : decode cX8_compareLetters 2 = .ok (.iload_n 2, 1) := by decide +kernel
theorem dX8_compareLetters_3 : decode cX8_compareLetters 3 = .ok (.aload_n 0, 1) := by decide +kernel
theorem dX8_compareLetters_4 : decode cX8_compareLetters 4 = .ok (.getfield 22, 3) := by decide +kernel
theorem dX8_compareLetters_7 : decode cX8_compareLetters 7 = .ok (.if_icmp .ge 46, 3) := by decide +kernel
theorem dX8_compareLetters_10 : decode cX8_compareLetters 10 = .ok (.iload_n 2, 1) := by decide +kernel
theorem dX8_compareLetters_11 : decode cX8_compareLetters 11 = .ok (.aload_n 1, 1) := by decide +kernel
theorem dX8_compareLetters_12 : decode cX8_compareLetters 12 = .ok (.getfield 22, 3) := by decide +kernel
theorem dX8_compareLetters_15 : decode cX8_compareLetters 15 = .ok (.if_icmp .ge 38, 3) := by decide +kernel
theorem dX8_compareLetters_18 : decode cX8_compareLetters 18 = .ok (.aload_n 0, 1) := by decide +kernel
theorem dX8_compareLetters_19 : decode cX8_compareLetters 19 = .ok (.getfield 19, 3) := by decide +kernel
theorem dX8_compareLetters_22 : decode cX8_compareLetters 22 = .ok (.iload_n 2, 1) := by decide +kernel
theorem dX8_compareLetters_23 : decode cX8_compareLetters 23 = .ok (.baload, 1) := by decide +kernel
theorem dX8_compareLetters_24 : decode cX8_compareLetters 24 = .ok (.aload_n 1, 1) := by decide +kernel
theorem dX8_compareLetters_25 : decode cX8_compareLetters 25 = .ok (.getfield 19, 3) := by decide +kernel
theorem dX8_compareLetters_28 : decode cX8_compareLetters 28 = .ok (.iload_n 2, 1) := by decide +kernel
theorem dX8_compareLetters_29 : decode cX8_compareLetters 29 = .ok (.baload, 1) := by decide +kernel
theorem dX8_compareLetters_30 : decode cX8_compareLetters 30 = .ok (.if_icmp .eq 17, 3) := by decide +kernel
theorem dX8_compareLetters_33 : decode cX8_compareLetters 33 = .ok (.aload_n 0, 1) := by decide +kernel
theorem dX8_compareLetters_34 : decode cX8_compareLetters 34 = .ok (.getfield 19, 3) := by decide +kernel
theorem dX8_compareLetters_37 : decode cX8_compareLetters 37 = .ok (.iload_n 2, 1) := by decide +kernel
theorem dX8_compareLetters_38 : decode cX8_compareLetters 38 = .ok (.baload, 1) := by decide +kernel
theorem dX8_compareLetters_39 : decode cX8_compareLetters 39 = .ok (.aload_n 1, 1) := by decide +kernel
theorem dX8_compareLetters_40 : decode cX8_compareLetters 40 = .ok (.getfield 19, 3) := by decide +kernel
theorem dX8_compareLetters_43 : decode cX8_compareLetters 43 = .ok (.iload_n 2, 1) := by decide +kernel
theorem dX8_compareLetters_44 : decode cX8_compareLetters 44 = .ok (.baload, 1) := by decide +kernel
theorem dX8_compareLetters_45 : decode cX8_compareLetters 45 = .ok (.isub, 1) := by decide +kernel
theorem dX8_compareLetters_46 : decode cX8_compareLetters 46 = .ok (.ireturn, 1) := by decide +kernel
theorem dX8_compareLetters_47 : decode cX8_compareLetters 47 = .ok (.iinc 2 1, 3) := by decide +kernel
theorem dX8_compareLetters_50 : decode cX8_compareLetters 50 = .ok (.goto (-48), 3) := by decide +kernel
theorem dX8_compareLetters_53 : decode cX8_compareLetters 53 = .ok (.aload_n 0, 1) := by decide +kernel
theorem dX8_compareLetters_54 : decode cX8_compareLetters 54 = .ok (.getfield 22, 3) := by decide +kernel
theorem dX8_compareLetters_57 : decode cX8_compareLetters 57 = .ok (.aload_n 1, 1) := by decide +kernel
theorem dX8_compareLetters_58 : decode cX8_compareLetters 58 = .ok (.getfield 22, 3) := by decide +kernel
theorem dX8_compareLetters_61 : decode cX8_compareLetters 61 = .ok (.isub, 1) := by decide +kernel
theorem dX8_compareLetters_62 : decode cX8_compareLetters 62 = .ok (.ireturn, 1) := by decide +kernel
theorem dX9_init_0 : decode cX9_init 0 = .ok (.aload_n 0, 1) := by decide +kernel
theorem dX9_init_1 : decode cX9_init 1 = .ok (.invokespecial 3, 3) := by decide +kernel
theorem dX9_init_4 : decode cX9_init 4 = .ok (.aload_n 0, 1) := by decide +kernel
theorem dX9_init_5 : decode cX9_init 5 = .ok (.new 9, 3) := by decide +kernel
theorem dX9_init_8 : decode cX9_init 8 = .ok (.dup, 1) := by decide +kernel
theorem dX9_init_9 : decode cX9_init 9 = .ok (.invokespecial 11, 3) := by decide +kernel
theorem dX9_init_12 : decode cX9_init 12 = .ok (.putfield 12, 3) := by decide +kernel
theorem dX9_init_15 : decode cX9_init 15 = .ok (.aload_n 0, 1) := by decide +kernel
theorem dX9_init_16 : decode cX9_init 16 = .ok (.bipush 6, 2) := by decide +kernel
theorem dX9_init_18 : decode cX9_init 18 = .ok (.anewarray 16, 3) := by decide +kernel
theorem dX9_init_21 : decode cX9_init 21 = .ok (.putfield 18, 3) := by decide +kernel
theorem dX9_init_24 : decode cX9_init 24 = .ok (.aload_n 0, 1) := by decide +kernel
theorem dX9_init_25 : decode cX9_init 25 = .ok (.new 22, 3) := by decide +kernel
theorem dX9_init_28 : decode cX9_init 28 = .ok (.dup, 1) := by decide +kernel
theorem dX9_init_29 : decode cX9_init 29 = .ok (.invokespecial 24, 3) := by decide +kernel
theorem dX9_init_32 : decode cX9_init 32 = .ok (.putfield 25, 3) := by decide +kernel
theorem dX9_init_35 : decode cX9_init 35 = .ok (.aload_n 0, 1) := by decide +kernel
theorem dX9_init_36 : decode cX9_init 36 = .ok (.new 16, 3) := by decide +kernel
theorem dX9_init_39 : decode cX9_init 39 = .ok (.dup, 1) := by decide +kernel
theorem dX9_init_40 : decode cX9_init 40 = .ok (.invokespecial 29, 3) := by decide +kernel
theorem dX9_init_43 : decode cX9_init 43 = .ok (.putfield 30, 3) := by decide +kernel
theorem dX9_init_46 : decode cX9_init 46 = .ok (.aload_n 0, 1) := by decide +kernel
theorem dX9_init_47 : decode cX9_init 47 = .ok (.new 34, 3) := by decide +kernel
theorem dX9_init_50 : decode cX9_init 50 = .ok (.dup, 1) := by decide +kernel
theorem dX9_init_51 : decode cX9_init 51 = .ok (.invokespecial 36, 3) := by decide +kernel
theorem dX9_init_54 : decode cX9_init 54 = .ok (.putfield 37, 3) := by decide +kernel
theorem dX9_init_57 : decode cX9_init 57 = .ok (.aload_n 0, 1) := by decide +kernel
theorem dX9_init_58 : decode cX9_init 58 = .ok (.new 41, 3) := by decide +kernel
theorem dX9_init_61 : decode cX9_init 61 = .ok (.dup, 1) := by decide +kernel
theorem dX9_init_62 : decode cX9_init 62 = .ok (.invokespecial 43, 3) := by decide +kernel
theorem dX9_init_65 : decode cX9_init 65 = .ok (.putfield 44, 3) := by decide +kernel
theorem dX9_init_68 : decode cX9_init 68 = .ok (.aload_n 0, 1) := by decide +kernel
theorem dX9_init_69 : decode cX9_init 69 = .ok (.bipush 30, 2) := by decide +kernel
theorem dX9_init_71 : decode cX9_init 71 = .ok (.anewarray 48, 3) := by decide +kernel
theorem dX9_init_74 : decode cX9_init 74 = .ok (.putfield 50, 3) := by decide +kernel
theorem dX9_init_77 : decode cX9_init 77 = .ok (.aload_n 0, 1) := by decide +kernel
theorem dX9_init_78 : decode cX9_init 78 = .ok (.iconst 0, 1) := by decide +kernel
theorem dX9_init_79 : decode cX9_init 79 = .ok (.putfield 54, 3) := by decide +kernel
theorem dX9_init_82 : decode cX9_init 82 = .ok (.aload_n 0, 1) := by decide +kernel
theorem dX9_init_83 : decode cX9_init 83 = .ok (.new 58, 3) := by decide +kernel
theorem dX9_init_86 : decode cX9_init 86 = .ok (.dup, 1) := by decide +kernel
theorem dX9_init_87 : decode cX9_init 87 = .ok (.invokespecial 60, 3) := by decide +kernel
theorem dX9_init_90 : decode cX9_init 90 = .ok (.putfield 61, 3) := by decide +kernel
theorem dX9_init_93 : decode cX9_init 93 = .ok (.aload_n 0, 1) := by decide +kernel
theorem dX9_init_94 : decode cX9_init 94 = .ok (.iconst (-1), 1) := by decide +kernel
theorem dX9_init_95 : decode cX9_init 95 = .ok (.putfield 65, 3) := by decide +kernel
theorem dX9_init_98 : decode cX9_init 98 = .ok (.aload_n 0, 1) := by decide +kernel
theorem dX9_init_99 : decode cX9_init 99 = .ok (.bipush 30, 2) := by decide +kernel
theorem dX9_init_101 : decode cX9_init 101 = .ok (.newarray .int, 2) := by decide +kernel
theorem dX9_init_103 : decode cX9_init 103 = .ok (.putfield 68, 3) := by decide +kernel
theorem dX9_init_106 : decode cX9_init 106 = .ok (.aload_n 0, 1) := by decide +kernel
theorem dX9_init_107 : decode cX9_init 107 = .ok (.iconst 0, 1) := by decide +kernel
theorem dX9_init_108 : decode cX9_init 108 = .ok (.putfield 72, 3) := by decide +kernel
theorem dX9_init_111 : decode cX9_init 111 = .ok (.aload_n 0, 1) := by decide +kernel
theorem dX9_init_112 : decode cX9_init 112 = .ok (.new 76, 3) := by decide +kernel
theorem dX9_init_115 : decode cX9_init 115 = .ok (.dup, 1) := by decide +kernel
theorem dX9_init_116 : decode cX9_init 116 = .ok (.invokespecial 78, 3) := by decide +kernel
theorem dX9_init_119 : decode cX9_init 119 = .ok (.putfield 79, 3) := by decide +kernel
theorem dX9_init_122 : decode cX9_init 122 = .ok (.aload_n 0, 1) := by decide +kernel
theorem dX9_init_123 : decode cX9_init 123 = .ok (.new 83, 3) := by decide +kernel
theorem dX9_init_126 : decode cX9_init 126 = .ok (.dup, 1) := by decide +kernel
theorem dX9_init_127 : decode cX9_init 127 = .ok (.invokespecial 85, 3) := by decide +kernel
theorem dX9_init_130 : decode cX9_init 130 = .ok (.putfield 86, 3) := by decide +kernel
theorem dX9_init_133 : decode cX9_init 133 = .ok (.aload_n 0, 1) := by decide +kernel
theorem dX9_init_134 : decode cX9_init 134 = .ok (.bipush 8, 2) := by decide +kernel
theorem dX9_init_136 : decode cX9_init 136 = .ok (.newarray .int, 2) := by decide +kernel
theorem dX9_init_138 : decode cX9_init 138 = .ok (.putfield 90, 3) := by decide +kernel
theorem dX9_init_141 : decode cX9_init 141 = .ok (.iconst 0, 1) := by decide +kernel
theorem dX9_init_142 : decode cX9_init 142 = .ok (.istore_n 1, 1) := by decide +kernel
theorem dX9_init_143 : decode cX9_init 143 = .ok (.iload_n 1, 1) := by decide +kernel
theorem dX9_init_144 : decode cX9_init 144 = .ok (.bipush 6, 2) := by decide +kernel
theorem dX9_init_146 : decode cX9_init 146 = .ok (.if_icmp .ge 22, 3) := by decide +kernel
theorem dX9_init_149 : decode cX9_init 149 = .ok (.aload_n 0, 1) := by decide +kernel
theorem dX9_init_150 : decode cX9_init 150 = .ok (.getfield 18, 3) := by decide +kernel
theorem dX9_init_153 : decode cX9_init 153 = .ok (.iload_n 1, 1) := by decide +kernel
theorem dX9_init_154 : decode cX9_init 154 = .ok (.new 16, 3) := by decide +kernel
theorem dX9_init_157 : decode cX9_init 157 = .ok (.dup, 1) := by decide +kernel
theorem dX9_init_158 : decode cX9_init 158 = .ok (.invokespecial 29, 3) := by decide +kernel
theorem dX9_init_161 : decode cX9_init 161 = .ok (.aastore, 1) := by decide +kernel
theorem dX9_init_162 : decode cX9_init 162 = .ok (.iinc 1 1, 3) := by decide +kernel
theorem dX9_init_165 : decode cX9_init 165 = .ok (.goto (-22), 3) := by decide +kernel
theorem dX9_init_168 : decode cX9_init 168 = .ok (.iconst 0, 1) := by decide +kernel
theorem dX9_init_169 : decode cX9_init 169 = .ok (.istore_n 1, 1) := by decide +kernel
theorem dX9_init_170 : decode cX9_init 170 = .ok (.iload_n 1, 1) := by decide +kernel
theorem dX9_init_171 : decode cX9_init 171 = .ok (.bipush 30, 2) := by decide +kernel
theorem dX9_init_173 : decode cX9_init 173 = .ok (.if_icmp .ge 22, 3) := by decide +kernel
theorem dX9_init_176 : decode cX9_init 176 = .ok (.aload_n 0, 1) := by decide +kernel
theorem dX9_init_177 : decode cX9_init 177 = .ok (.getfield 50, 3) := by decide +kernel
theorem dX9_init_180 : decode cX9_init 180 = .ok (.iload_n 1, 1) := by decide +kernel
theorem dX9_init_181 : decode cX9_init 181 = .ok (.new 48, 3) := by decide +kernel
theorem dX9_init_184 : decode cX9_init 184 = .ok (.dup, 1) := by decide +kernel
theorem dX9_init_185 : decode cX9_init 185 = .ok (.invokespecial 93, 3) := by decide +kernel
theorem dX9_init_188 : decode cX9_init 188 = .ok (.aastore, 1) := by decide +kernel
theorem dX9_init_189 : decode cX9_init 189 = .ok (.iinc 1 1, 3) := by decide +kernel
theorem dX9_init_192 : decode cX9_init 192 = .ok (.goto (-22), 3) := by decide +kernel
theorem dX9_init_195 : decode cX9_init 195 = .ok (.return_, 1) := by decide +kernel
theorem dX9_feed_0 : decode cX9_feed 0 = .ok (.aload_n 0, 1) := by decide +kernel
theorem dX9_feed_1 : decode cX9_feed 1 = .ok (.getfield 12, 3) := by decide +kernel
theorem dX9_feed_4 : decode cX9_feed 4 = .ok (.getfield 94, 3) := by decide +kernel
theorem dX9_feed_7 : decode cX9_feed 7 = .ok (.bipush 20, 2) := by decide +kernel
theorem dX9_feed_9 : decode cX9_feed 9 = .ok (.iadd, 1) := by decide +kernel
theorem dX9_feed_10 : decode cX9_feed 10 = .ok (.sipush 400, 3) := by decide +kernel
theorem dX9_feed_13 : decode cX9_feed 13 = .ok (.if_icmp .le 5, 3) := by decide +kernel
theorem dX9_feed_16 : decode cX9_feed 16 = .ok (.iconst (-1), 1) := by decide +kernel
theorem dX9_feed_17 : decode cX9_feed 17 = .ok (.ireturn, 1) := by decide +kernel
theorem dX9_feed_18 : decode cX9_feed 18 = .ok (.aload_n 0, 1) := by decide +kernel
theorem dX9_feed_19 : decode cX9_feed 19 = .ok (.getfield 12, 3) := by decide +kernel
theorem dX9_feed_22 : decode cX9_feed 22 = .ok (.iload_n 1, 1) := by decide +kernel
theorem dX9_feed_23 : decode cX9_feed 23 = .ok (.invokevirtual 97, 3) := by decide +kernel
theorem dX9_feed_26 : decode cX9_feed 26 = .ok (.aload_n 0, 1) := by decide +kernel
theorem dX9_feed_27 : decode cX9_feed 27 = .ok (.getfield 12, 3) := by decide +kernel
theorem dX9_feed_30 : decode cX9_feed 30 = .ok (.iload_n 2, 1) := by decide +kernel
theorem dX9_feed_31 : decode cX9_feed 31 = .ok (.invokevirtual 97, 3) := by decide +kernel
theorem dX9_feed_34 : decode cX9_feed 34 = .ok (.aload_n 0, 1) := by decide +kernel
theorem dX9_feed_35 : decode cX9_feed 35 = .ok (.getfield 12, 3) := by decide +kernel
theorem dX9_feed_38 : decode cX9_feed 38 = .ok (.iload_n 3, 1) := by decide +kernel
theorem dX9_feed_39 : decode cX9_feed 39 = .ok (.invokevirtual 97, 3) := by decide +kernel
theorem dX9_feed_42 : decode cX9_feed 42 = .ok (.aload_n 0, 1) := by decide +kernel
theorem dX9_feed_43 : decode cX9_feed 43 = .ok (.getfield 12, 3) := by decide +kernel
theorem dX9_feed_46 : decode cX9_feed 46 = .ok (.iload 4, 2) := by decide +kernel
theorem dX9_feed_48 : decode cX9_feed 48 = .ok (.invokevirtual 97, 3) := by decide +kernel
theorem dX9_feed_51 : decode cX9_feed 51 = .ok (.aload_n 0, 1) := by decide +kernel
theorem dX9_feed_52 : decode cX9_feed 52 = .ok (.getfield 12, 3) := by decide +kernel
theorem dX9_feed_55 : decode cX9_feed 55 = .ok (.iload 5, 2) := by decide +kernel
theorem dX9_feed_57 : decode cX9_feed 57 = .ok (.invokevirtual 97, 3) := by decide +kernel
theorem dX9_feed_60 : decode cX9_feed 60 = .ok (.aload_n 0, 1) := by decide +kernel
theorem dX9_feed_61 : decode cX9_feed 61 = .ok (.getfield 12, 3) := by decide +kernel
theorem dX9_feed_64 : decode cX9_feed 64 = .ok (.getfield 94, 3) := by decide +kernel
theorem dX9_feed_67 : decode cX9_feed 67 = .ok (.ireturn, 1) := by decide +kernel
theorem dX9_shape_0 : decode cX9_shape 0 = .ok (.iload_n 1, 1) := by decide +kernel
theorem dX9_shape_1 : decode cX9_shape 1 = .ok (.invokestatic 101, 3) := by decide +kernel
theorem dX9_shape_4 : decode cX9_shape 4 = .ok (.ifCond .eq 14, 3) := by decide +kernel
theorem dX9_shape_7 : decode cX9_shape 7 = .ok (.aload_n 0, 1) := by decide +kernel
theorem dX9_shape_8 : decode cX9_shape 8 = .ok (.getfield 12, 3) := by decide +kernel
theorem dX9_shape_11 : decode cX9_shape 11 = .ok (.iload_n 2, 1) := by decide +kernel
theorem dX9_shape_12 : decode cX9_shape 12 = .ok (.invokevirtual 105, 3) := by decide +kernel
theorem dX9_shape_15 : decode cX9_shape 15 = .ok (.ifCond .ne 6, 3) := by decide +kernel
theorem dX9_shape_18 : decode cX9_shape 18 = .ok (.bipush (-2), 2) := by decide +kernel
theorem dX9_shape_20 : decode cX9_shape 20 = .ok (.ireturn, 1) := by decide +kernel
theorem dX9_shape_21 : decode cX9_shape 21 = .ok (.aload_n 0, 1) := by decide +kernel
theorem dX9_shape_22 : decode cX9_shape 22 = .ok (.getfield 25, 3) := by decide +kernel
theorem dX9_shape_25 : decode cX9_shape 25 = .ok (.aload_n 0, 1) := by decide +kernel
theorem dX9_shape_26 : decode cX9_shape 26 = .ok (.getfield 30, 3) := by decide +kernel
theorem dX9_shape_29 : decode cX9_shape 29 = .ok (.aload_n 0, 1) := by decide +kernel
theorem dX9_shape_30 : decode cX9_shape 30 = .ok (.getfield 12, 3) := by decide +kernel
theorem dX9_shape_33 : decode cX9_shape 33 = .ok (.getfield 108, 3) := by decide +kernel
theorem dX9_shape_36 : decode cX9_shape 36 = .ok (.iload_n 2, 1) := by decide +kernel
theorem dX9_shape_37 : decode cX9_shape 37 = .ok (.invokevirtual 112, 3) := by decide +kernel
theorem dX9_shape_40 : decode cX9_shape 40 = .ok (.istore_n 3, 1) := by decide +kernel
theorem dX9_shape_41 : decode cX9_shape 41 = .ok (.aload_n 0, 1) := by decide +kernel
theorem dX9_shape_42 : decode cX9_shape 42 = .ok (.getfield 12, 3) := by decide +kernel
theorem dX9_shape_45 : decode cX9_shape 45 = .ok (.iconst 0, 1) := by decide +kernel
theorem dX9_shape_46 : decode cX9_shape 46 = .ok (.putfield 94, 3) := by decide +kernel
theorem dX9_shape_49 : decode cX9_shape 49 = .ok (.iload_n 3, 1) := by decide +kernel
theorem dX9_shape_50 : decode cX9_shape 50 = .ok (.ifCond .ne 5, 3) := by decide +kernel
theorem dX9_shape_53 : decode cX9_shape 53 = .ok (.iconst (-1), 1) := by decide +kernel
theorem dX9_shape_54 : decode cX9_shape 54 = .ok (.ireturn, 1) := by decide +kernel
theorem dX9_shape_55 : decode cX9_shape 55 = .ok (.aload_n 0, 1) := by decide +kernel
theorem dX9_shape_56 : decode cX9_shape 56 = .ok (.getfield 18, 3) := by decide +kernel
theorem dX9_shape_59 : decode cX9_shape 59 = .ok (.iload_n 1, 1) := by decide +kernel
theorem dX9_shape_60 : decode cX9_shape 60 = .ok (.aaload, 1) := by decide +kernel
theorem dX9_shape_61 : decode cX9_shape 61 = .ok (.astore 4, 2) := by decide +kernel
theorem dX9_shape_63 : decode cX9_shape 63 = .ok (.aload_n 0, 1) := by decide +kernel
theorem dX9_shape_64 : decode cX9_shape 64 = .ok (.getfield 18, 3) := by decide +kernel
theorem dX9_shape_67 : decode cX9_shape 67 = .ok (.iload_n 1, 1) := by decide +kernel
theorem dX9_shape_68 : decode cX9_shape 68 = .ok (.aload_n 0, 1) := by decide +kernel
theorem dX9_shape_69 : decode cX9_shape 69 = .ok (.getfield 30, 3) := by decide +kernel
theorem dX9_shape_72 : decode cX9_shape 72 = .ok (.aastore, 1) := by decide +kernel
theorem dX9_shape_73 : decode cX9_shape 73 = .ok (.aload_n 0, 1) := by decide +kernel
theorem dX9_shape_74 : decode cX9_shape 74 = .ok (.aload 4, 2) := by decide +kernel
theorem dX9_shape_76 : decode cX9_shape 76 = .ok (.putfield 30, 3) := by decide +kernel
theorem dX9_shape_79 : decode cX9_shape 79 = .ok (.aload_n 0, 1) := by decide +kernel
theorem dX9_shape_80 : decode cX9_shape 80 = .ok (.iload_n 1, 1) := by decide +kernel
theorem dX9_shape_81 : decode cX9_shape 81 = .ok (.invokevirtual 116, 3) := by decide +kernel
theorem dX9_shape_84 : decode cX9_shape 84 = .ok (.aload_n 0, 1) := by decide +kernel
theorem dX9_shape_85 : decode cX9_shape 85 = .ok (.getfield 18, 3) := by decide +kernel
theorem dX9_shape_88 : decode cX9_shape 88 = .ok (.iload_n 1, 1) := by decide +kernel
theorem dX9_shape_89 : decode cX9_shape 89 = .ok (.aaload, 1) := by decide +kernel
theorem dX9_shape_90 : decode cX9_shape 90 = .ok (.getfield 119, 3) := by decide +kernel
theorem dX9_shape_93 : decode cX9_shape 93 = .ok (.ireturn, 1) := by decide +kernel
theorem dX9_fault_0 : decode cX9_fault 0 = .ok (.iload_n 1, 1) := by decide +kernel
theorem dX9_fault_1 : decode cX9_fault 1 = .ok (.ifCond .ne 11, 3) := by decide +kernel
theorem dX9_fault_4 : decode cX9_fault 4 = .ok (.aload_n 0, 1) := by decide +kernel
theorem dX9_fault_5 : decode cX9_fault 5 = .ok (.getfield 25, 3) := by decide +kernel
theorem dX9_fault_8 : decode cX9_fault 8 = .ok (.getfield 122, 3) := by decide +kernel
theorem dX9_fault_11 : decode cX9_fault 11 = .ok (.ireturn, 1) := by decide +kernel
theorem dX9_fault_12 : decode cX9_fault 12 = .ok (.iload_n 1, 1) := by decide +kernel
theorem dX9_fault_13 : decode cX9_fault 13 = .ok (.iconst 1, 1) := by decide +kernel
theorem dX9_fault_14 : decode cX9_fault 14 = .ok (.if_icmp .ne 13, 3) := by decide +kernel
theorem dX9_fault_17 : decode cX9_fault 17 = .ok (.aload_n 0, 1) := by decide +kernel
theorem dX9_fault_18 : decode cX9_fault 18 = .ok (.getfield 25, 3) := by decide +kernel
theorem dX9_fault_21 : decode cX9_fault 21 = .ok (.getfield 125, 3) := by decide +kernel
theorem dX9_fault_24 : decode cX9_fault 24 = .ok (.goto 4, 3) := by decide +kernel
theorem dX9_fault_27 : decode cX9_fault 27 = .ok (.iconst (-1), 1) := by decide +kernel
theorem dX9_fault_28 : decode cX9_fault 28 = .ok (.ireturn, 1) := by decide +kernel
theorem dX9_know_0 : decode cX9_know 0 = .ok (.aload_n 0, 1) := by decide +kernel
theorem dX9_know_1 : decode cX9_know 1 = .ok (.iload_n 1, 1) := by decide +kernel
theorem dX9_know_2 : decode cX9_know 2 = .ok (.iload_n 2, 1) := by decide +kernel
theorem dX9_know_3 : decode cX9_know 3 = .ok (.iload_n 3, 1) := by decide +kernel
theorem dX9_know_4 : decode cX9_know 4 = .ok (.invokevirtual 128, 3) := by decide +kernel
theorem dX9_know_7 : decode cX9_know 7 = .ok (.ifCond .eq 32, 3) := by decide +kernel
theorem dX9_know_10 : decode cX9_know 10 = .ok (.aload_n 0, 1) := by decide +kernel
theorem dX9_know_11 : decode cX9_know 11 = .ok (.getfield 37, 3) := by decide +kernel
theorem dX9_know_14 : decode cX9_know 14 = .ok (.getfield 132, 3) := by decide +kernel
theorem dX9_know_17 : decode cX9_know 17 = .ok (.bipush 80, 2) := by decide +kernel
theorem dX9_know_19 : decode cX9_know 19 = .ok (.if_icmp .ge 20, 3) := by decide +kernel
theorem dX9_know_22 : decode cX9_know 22 = .ok (.aload_n 0, 1) := by decide +kernel
theorem dX9_know_23 : decode cX9_know 23 = .ok (.getfield 37, 3) := by decide +kernel
theorem dX9_know_26 : decode cX9_know 26 = .ok (.iload_n 1, 1) := by decide +kernel
theorem dX9_know_27 : decode cX9_know 27 = .ok (.iload_n 2, 1) := by decide +kernel
theorem dX9_know_28 : decode cX9_know 28 = .ok (.aload_n 0, 1) := by decide +kernel
theorem dX9_know_29 : decode cX9_know 29 = .ok (.getfield 44, 3) := by decide +kernel
theorem dX9_know_32 : decode cX9_know 32 = .ok (.invokevirtual 133, 3) := by decide +kernel
theorem dX9_know_35 : decode cX9_know 35 = .ok (.iconst (-1), 1) := by decide +kernel
theorem dX9_know_36 : decode cX9_know 36 = .ok (.if_icmp .eq 5, 3) := by decide +kernel
theorem dX9_know_39 : decode cX9_know 39 = .ok (.iconst (-1), 1) := by decide +kernel
theorem dX9_know_40 : decode cX9_know 40 = .ok (.ireturn, 1) := by decide +kernel
theorem dX9_know_41 : decode cX9_know 41 = .ok (.aload_n 0, 1) := by decide +kernel
theorem dX9_know_42 : decode cX9_know 42 = .ok (.getfield 37, 3) := by decide +kernel
theorem dX9_know_45 : decode cX9_know 45 = .ok (.iload_n 1, 1) := by decide +kernel
theorem dX9_know_46 : decode cX9_know 46 = .ok (.iload_n 2, 1) := by decide +kernel
theorem dX9_know_47 : decode cX9_know 47 = .ok (.aload_n 0, 1) := by decide +kernel
theorem dX9_know_48 : decode cX9_know 48 = .ok (.getfield 44, 3) := by decide +kernel
theorem dX9_know_51 : decode cX9_know 51 = .ok (.invokevirtual 137, 3) := by decide +kernel
theorem dX9_know_54 : decode cX9_know 54 = .ok (.aload_n 0, 1) := by decide +kernel
theorem dX9_know_55 : decode cX9_know 55 = .ok (.getfield 12, 3) := by decide +kernel
theorem dX9_know_58 : decode cX9_know 58 = .ok (.iconst 0, 1) := by decide +kernel
theorem dX9_know_59 : decode cX9_know 59 = .ok (.putfield 94, 3) := by decide +kernel
theorem dX9_know_62 : decode cX9_know 62 = .ok (.aload_n 0, 1) := by decide +kernel
theorem dX9_know_63 : decode cX9_know 63 = .ok (.iload_n 1, 1) := by decide +kernel
theorem dX9_know_64 : decode cX9_know 64 = .ok (.invokevirtual 116, 3) := by decide +kernel
theorem dX9_know_67 : decode cX9_know 67 = .ok (.aload_n 0, 1) := by decide +kernel
theorem dX9_know_68 : decode cX9_know 68 = .ok (.getfield 37, 3) := by decide +kernel
theorem dX9_know_71 : decode cX9_know 71 = .ok (.getfield 132, 3) := by decide +kernel
theorem dX9_know_74 : decode cX9_know 74 = .ok (.ireturn, 1) := by decide +kernel
theorem dX9_forget_0 : decode cX9_forget 0 = .ok (.aload_n 0, 1) := by decide +kernel
theorem dX9_forget_1 : decode cX9_forget 1 = .ok (.iload_n 1, 1) := by decide +kernel
theorem dX9_forget_2 : decode cX9_forget 2 = .ok (.iload_n 2, 1) := by decide +kernel
theorem dX9_forget_3 : decode cX9_forget 3 = .ok (.iload_n 3, 1) := by decide +kernel
theorem dX9_forget_4 : decode cX9_forget 4 = .ok (.invokevirtual 128, 3) := by decide +kernel
theorem dX9_forget_7 : decode cX9_forget 7 = .ok (.ifCond .ne 5, 3) := by decide +kernel
theorem dX9_forget_10 : decode cX9_forget 10 = .ok (.iconst 0, 1) := by decide +kernel
theorem dX9_forget_11 : decode cX9_forget 11 = .ok (.ireturn, 1) := by decide +kernel
theorem dX9_forget_12 : decode cX9_forget 12 = .ok (.aload_n 0, 1) := by decide +kernel
theorem dX9_forget_13 : decode cX9_forget 13 = .ok (.getfield 37, 3) := by decide +kernel
theorem dX9_forget_16 : decode cX9_forget 16 = .ok (.iload_n 1, 1) := by decide +kernel
theorem dX9_forget_17 : decode cX9_forget 17 = .ok (.iload_n 2, 1) := by decide +kernel
theorem dX9_forget_18 : decode cX9_forget 18 = .ok (.aload_n 0, 1) := by decide +kernel
theorem dX9_forget_19 : decode cX9_forget 19 = .ok (.getfield 44, 3) := by decide +kernel
theorem dX9_forget_22 : decode cX9_forget 22 = .ok (.invokevirtual 133, 3) := by decide +kernel
theorem dX9_forget_25 : decode cX9_forget 25 = .ok (.istore 4, 2) := by decide +kernel
theorem dX9_forget_27 : decode cX9_forget 27 = .ok (.iload 4, 2) := by decide +kernel
theorem dX9_forget_29 : decode cX9_forget 29 = .ok (.iconst (-1), 1) := by decide +kernel
theorem dX9_forget_30 : decode cX9_forget 30 = .ok (.if_icmp .ne 5, 3) := by decide +kernel
theorem dX9_forget_33 : decode cX9_forget 33 = .ok (.iconst 0, 1) := by decide +kernel
theorem dX9_forget_34 : decode cX9_forget 34 = .ok (.ireturn, 1) := by decide +kernel
theorem dX9_forget_35 : decode cX9_forget 35 = .ok (.aload_n 0, 1) := by decide +kernel
theorem dX9_forget_36 : decode cX9_forget 36 = .ok (.getfield 37, 3) := by decide +kernel
theorem dX9_forget_39 : decode cX9_forget 39 = .ok (.iload 4, 2) := by decide +kernel
theorem dX9_forget_41 : decode cX9_forget 41 = .ok (.invokevirtual 140, 3) := by decide +kernel
theorem dX9_forget_44 : decode cX9_forget 44 = .ok (.aload_n 0, 1) := by decide +kernel
theorem dX9_forget_45 : decode cX9_forget 45 = .ok (.getfield 12, 3) := by decide +kernel
theorem dX9_forget_48 : decode cX9_forget 48 = .ok (.iconst 0, 1) := by decide +kernel
theorem dX9_forget_49 : decode cX9_forget 49 = .ok (.putfield 94, 3) := by decide +kernel
theorem dX9_forget_52 : decode cX9_forget 52 = .ok (.aload_n 0, 1) := by decide +kernel
theorem dX9_forget_53 : decode cX9_forget 53 = .ok (.iload_n 1, 1) := by decide +kernel
theorem dX9_forget_54 : decode cX9_forget 54 = .ok (.invokevirtual 116, 3) := by decide +kernel
theorem dX9_forget_57 : decode cX9_forget 57 = .ok (.iconst 1, 1) := by decide +kernel
theorem dX9_forget_58 : decode cX9_forget 58 = .ok (.ireturn, 1) := by decide +kernel
theorem dX9_name_0 : decode cX9_name 0 = .ok (.iload_n 1, 1) := by decide +kernel
theorem dX9_name_1 : decode cX9_name 1 = .ok (.invokestatic 101, 3) := by decide +kernel
theorem dX9_name_4 : decode cX9_name 4 = .ok (.ifCond .eq 23, 3) := by decide +kernel
theorem dX9_name_7 : decode cX9_name 7 = .ok (.aload_n 0, 1) := by decide +kernel
theorem dX9_name_8 : decode cX9_name 8 = .ok (.getfield 12, 3) := by decide +kernel
theorem dX9_name_11 : decode cX9_name 11 = .ok (.iload_n 2, 1) := by decide +kernel
theorem dX9_name_12 : decode cX9_name 12 = .ok (.invokevirtual 105, 3) := by decide +kernel
theorem dX9_name_15 : decode cX9_name 15 = .ok (.ifCond .eq 12, 3) := by decide +kernel
theorem dX9_name_18 : decode cX9_name 18 = .ok (.aload_n 0, 1) := by decide +kernel
theorem dX9_name_19 : decode cX9_name 19 = .ok (.getfield 54, 3) := by decide +kernel
theorem dX9_name_22 : decode cX9_name 22 = .ok (.bipush 30, 2) := by decide +kernel
theorem dX9_name_24 : decode cX9_name 24 = .ok (.if_icmp .lt 5, 3) := by decide +kernel
theorem dX9_name_27 : decode cX9_name 27 = .ok (.iconst (-1), 1) := by decide +kernel
theorem dX9_name_28 : decode cX9_name 28 = .ok (.ireturn, 1) := by decide +kernel
theorem dX9_name_29 : decode cX9_name 29 = .ok (.aload_n 0, 1) := by decide +kernel
theorem dX9_name_30 : decode cX9_name 30 = .ok (.getfield 50, 3) := by decide +kernel
theorem dX9_name_33 : decode cX9_name 33 = .ok (.aload_n 0, 1) := by decide +kernel
theorem dX9_name_34 : decode cX9_name 34 = .ok (.getfield 54, 3) := by decide +kernel
theorem dX9_name_37 : decode cX9_name 37 = .ok (.aaload, 1) := by decide +kernel
theorem dX9_name_38 : decode cX9_name 38 = .ok (.astore_n 3, 1) := by decide +kernel
theorem dX9_name_39 : decode cX9_name 39 = .ok (.aload_n 3, 1) := by decide +kernel
theorem dX9_name_40 : decode cX9_name 40 = .ok (.aload_n 0, 1) := by decide +kernel
theorem dX9_name_41 : decode cX9_name 41 = .ok (.getfield 12, 3) := by decide +kernel
theorem dX9_name_44 : decode cX9_name 44 = .ok (.getfield 108, 3) := by decide +kernel
theorem dX9_name_47 : decode cX9_name 47 = .ok (.iload_n 2, 1) := by decide +kernel
theorem dX9_name_48 : decode cX9_name 48 = .ok (.invokevirtual 143, 3) := by decide +kernel
theorem dX9_name_51 : decode cX9_name 51 = .ok (.ifCond .ne 5, 3) := by decide +kernel
theorem dX9_name_54 : decode cX9_name 54 = .ok (.iconst (-1), 1) := by decide +kernel
theorem dX9_name_55 : decode cX9_name 55 = .ok (.ireturn, 1) := by decide +kernel
theorem dX9_name_56 : decode cX9_name 56 = .ok (.aload_n 3, 1) := by decide +kernel
theorem dX9_name_57 : decode cX9_name 57 = .ok (.iload_n 1, 1) := by decide +kernel
theorem dX9_name_58 : decode cX9_name 58 = .ok (.putfield 147, 3) := by decide +kernel
theorem dX9_name_61 : decode cX9_name 61 = .ok (.aload_n 3, 1) := by decide +kernel
theorem dX9_name_62 : decode cX9_name 62 = .ok (.iconst 0, 1) := by decide +kernel
theorem dX9_name_63 : decode cX9_name 63 = .ok (.putfield 150, 3) := by decide +kernel
theorem dX9_name_66 : decode cX9_name 66 = .ok (.aload_n 3, 1) := by decide +kernel
theorem dX9_name_67 : decode cX9_name 67 = .ok (.iconst 0, 1) := by decide +kernel
theorem dX9_name_68 : decode cX9_name 68 = .ok (.putfield 153, 3) := by decide +kernel
theorem dX9_name_71 : decode cX9_name 71 = .ok (.aload_n 0, 1) := by decide +kernel
theorem dX9_name_72 : decode cX9_name 72 = .ok (.getfield 12, 3) := by decide +kernel
theorem dX9_name_75 : decode cX9_name 75 = .ok (.iconst 0, 1) := by decide +kernel
theorem dX9_name_76 : decode cX9_name 76 = .ok (.putfield 94, 3) := by decide +kernel
theorem dX9_name_79 : decode cX9_name 79 = .ok (.aload_n 0, 1) := by decide +kernel
theorem dX9_name_80 : decode cX9_name 80 = .ok (.iconst 0, 1) := by decide +kernel
theorem dX9_name_81 : decode cX9_name 81 = .ok (.putfield 72, 3) := by decide +kernel
theorem dX9_name_84 : decode cX9_name 84 = .ok (.aload_n 0, 1) := by decide +kernel
theorem dX9_name_85 : decode cX9_name 85 = .ok (.dup, 1) := by decide +kernel
theorem dX9_name_86 : decode cX9_name 86 = .ok (.getfield 54, 3) := by decide +kernel
theorem dX9_name_89 : decode cX9_name 89 = .ok (.iconst 1, 1) := by decide +kernel
theorem dX9_name_90 : decode cX9_name 90 = .ok (.iadd, 1) := by decide +kernel
theorem dX9_name_91 : decode cX9_name 91 = .ok (.putfield 54, 3) := by decide +kernel
theorem dX9_name_94 : decode cX9_name 94 = .ok (.aload_n 0, 1) := by decide +kernel
theorem dX9_name_95 : decode cX9_name 95 = .ok (.getfield 54, 3) := by decide +kernel
theorem dX9_name_98 : decode cX9_name 98 = .ok (.iconst 1, 1) := by decide +kernel
theorem dX9_name_99 : decode cX9_name 99 = .ok (.isub, 1) := by decide +kernel
theorem dX9_name_100 : decode cX9_name 100 = .ok (.ireturn, 1) := by decide +kernel
theorem dX9_readings_0 : decode cX9_readings 0 = .ok (.aload_n 0, 1) := by decide +kernel
theorem dX9_readings_1 : decode cX9_readings 1 = .ok (.iload_n 1, 1) := by decide +kernel
theorem dX9_readings_2 : decode cX9_readings 2 = .ok (.invokevirtual 156, 3) := by decide +kernel
theorem dX9_readings_5 : decode cX9_readings 5 = .ok (.ifCond .eq 7, 3) := by decide +kernel
theorem dX9_readings_8 : decode cX9_readings 8 = .ok (.iload_n 2, 1) := by decide +kernel
theorem dX9_readings_9 : decode cX9_readings 9 = .ok (.ifCond .ge 5, 3) := by decide +kernel
theorem dX9_readings_12 : decode cX9_readings 12 = .ok (.iconst (-1), 1) := by decide +kernel
theorem dX9_readings_13 : decode cX9_readings 13 = .ok (.ireturn, 1) := by decide +kernel
theorem dX9_readings_14 : decode cX9_readings 14 = .ok (.aload_n 0, 1) := by decide +kernel
theorem dX9_readings_15 : decode cX9_readings 15 = .ok (.iload_n 1, 1) := by decide +kernel
theorem dX9_readings_16 : decode cX9_readings 16 = .ok (.invokevirtual 159, 3) := by decide +kernel
theorem dX9_readings_19 : decode cX9_readings 19 = .ok (.aload_n 0, 1) := by decide +kernel
theorem dX9_readings_20 : decode cX9_readings 20 = .ok (.getfield 61, 3) := by decide +kernel
theorem dX9_readings_23 : decode cX9_readings 23 = .ok (.iload_n 2, 1) := by decide +kernel
theorem dX9_readings_24 : decode cX9_readings 24 = .ok (.invokevirtual 162, 3) := by decide +kernel
theorem dX9_readings_27 : decode cX9_readings 27 = .ok (.ireturn, 1) := by decide +kernel
theorem dX9_cost_0 : decode cX9_cost 0 = .ok (.aload_n 0, 1) := by decide +kernel
theorem dX9_cost_1 : decode cX9_cost 1 = .ok (.iload_n 1, 1) := by decide +kernel
theorem dX9_cost_2 : decode cX9_cost 2 = .ok (.invokevirtual 156, 3) := by decide +kernel
theorem dX9_cost_5 : decode cX9_cost 5 = .ok (.ifCond .ne 5, 3) := by decide +kernel
