theorem dX9_cost_8 : decode cX9_cost 8 = .ok (.iconst (-1), 1) := by decide +kernel
theorem dX9_cost_9 : decode cX9_cost 9 = .ok (.ireturn, 1) := by decide +kernel
theorem dX9_cost_10 : decode cX9_cost 10 = .ok (.aload_n 0, 1) := by decide +kernel
theorem dX9_cost_11 : decode cX9_cost 11 = .ok (.iload_n 1, 1) := by decide +kernel
theorem dX9_cost_12 : decode cX9_cost 12 = .ok (.invokevirtual 159, 3) := by decide +kernel
theorem dX9_cost_15 : decode cX9_cost 15 = .ok (.aload_n 0, 1) := by decide +kernel
theorem dX9_cost_16 : decode cX9_cost 16 = .ok (.getfield 61, 3) := by decide +kernel
theorem dX9_cost_19 : decode cX9_cost 19 = .ok (.iload_n 2, 1) := by decide +kernel
theorem dX9_cost_20 : decode cX9_cost 20 = .ok (.invokevirtual 166, 3) := by decide +kernel
theorem dX9_cost_23 : decode cX9_cost 23 = .ok (.ireturn, 1) := by decide +kernel
theorem dX9_kind_0 : decode cX9_kind 0 = .ok (.aload_n 0, 1) := by decide +kernel
theorem dX9_kind_1 : decode cX9_kind 1 = .ok (.iload_n 1, 1) := by decide +kernel
theorem dX9_kind_2 : decode cX9_kind 2 = .ok (.invokevirtual 156, 3) := by decide +kernel
theorem dX9_kind_5 : decode cX9_kind 5 = .ok (.ifCond .ne 5, 3) := by decide +kernel
theorem dX9_kind_8 : decode cX9_kind 8 = .ok (.iconst (-1), 1) := by decide +kernel
theorem dX9_kind_9 : decode cX9_kind 9 = .ok (.ireturn, 1) := by decide +kernel
theorem dX9_kind_10 : decode cX9_kind 10 = .ok (.aload_n 0, 1) := by decide +kernel
theorem dX9_kind_11 : decode cX9_kind 11 = .ok (.iload_n 1, 1) := by decide +kernel
theorem dX9_kind_12 : decode cX9_kind 12 = .ok (.invokevirtual 159, 3) := by decide +kernel
theorem dX9_kind_15 : decode cX9_kind 15 = .ok (.aload_n 0, 1) := by decide +kernel
theorem dX9_kind_16 : decode cX9_kind 16 = .ok (.getfield 61, 3) := by decide +kernel
theorem dX9_kind_19 : decode cX9_kind 19 = .ok (.iload_n 2, 1) := by decide +kernel
theorem dX9_kind_20 : decode cX9_kind 20 = .ok (.iload_n 3, 1) := by decide +kernel
theorem dX9_kind_21 : decode cX9_kind 21 = .ok (.invokevirtual 169, 3) := by decide +kernel
theorem dX9_kind_24 : decode cX9_kind 24 = .ok (.ireturn, 1) := by decide +kernel
theorem dX9_look_0 : decode cX9_look 0 = .ok (.aload_n 0, 1) := by decide +kernel
theorem dX9_look_1 : decode cX9_look 1 = .ok (.iload_n 1, 1) := by decide +kernel
theorem dX9_look_2 : decode cX9_look 2 = .ok (.invokevirtual 156, 3) := by decide +kernel
theorem dX9_look_5 : decode cX9_look 5 = .ok (.ifCond .ne 13, 3) := by decide +kernel
theorem dX9_look_8 : decode cX9_look 8 = .ok (.new 173, 3) := by decide +kernel
theorem dX9_look_11 : decode cX9_look 11 = .ok (.dup, 1) := by decide +kernel
theorem dX9_look_12 : decode cX9_look 12 = .ok (.ldc 175, 2) := by decide +kernel
theorem dX9_look_14 : decode cX9_look 14 = .ok (.invokespecial 177, 3) := by decide +kernel
theorem dX9_look_17 : decode cX9_look 17 = .ok (.athrow, 1) := by decide +kernel
theorem dX9_look_18 : decode cX9_look 18 = .ok (.iload_n 2, 1) := by decide +kernel
theorem dX9_look_19 : decode cX9_look 19 = .ok (.tableswitch 96 0 5 #[37, 47, 57, 67, 76, 86], 37) := by decide +kernel
theorem dX9_look_56 : decode cX9_look 56 = .ok (.aload_n 0, 1) := by decide +kernel
theorem dX9_look_57 : decode cX9_look 57 = .ok (.getfield 50, 3) := by decide +kernel
theorem dX9_look_60 : decode cX9_look 60 = .ok (.iload_n 1, 1) := by decide +kernel
theorem dX9_look_61 : decode cX9_look 61 = .ok (.aaload, 1) := by decide +kernel
theorem dX9_look_62 : decode cX9_look 62 = .ok (.getfield 147, 3) := by decide +kernel
theorem dX9_look_65 : decode cX9_look 65 = .ok (.ireturn, 1) := by decide +kernel
theorem dX9_look_66 : decode cX9_look 66 = .ok (.aload_n 0, 1) := by decide +kernel
theorem dX9_look_67 : decode cX9_look 67 = .ok (.getfield 50, 3) := by decide +kernel
theorem dX9_look_70 : decode cX9_look 70 = .ok (.iload_n 1, 1) := by decide +kernel
theorem dX9_look_71 : decode cX9_look 71 = .ok (.aaload, 1) := by decide +kernel
theorem dX9_look_72 : decode cX9_look 72 = .ok (.getfield 180, 3) := by decide +kernel
theorem dX9_look_75 : decode cX9_look 75 = .ok (.ireturn, 1) := by decide +kernel
theorem dX9_look_76 : decode cX9_look 76 = .ok (.aload_n 0, 1) := by decide +kernel
theorem dX9_look_77 : decode cX9_look 77 = .ok (.invokevirtual 181, 3) := by decide +kernel
theorem dX9_look_80 : decode cX9_look 80 = .ok (.aload_n 0, 1) := by decide +kernel
theorem dX9_look_81 : decode cX9_look 81 = .ok (.iload_n 1, 1) := by decide +kernel
theorem dX9_look_82 : decode cX9_look 82 = .ok (.invokevirtual 184, 3) := by decide +kernel
theorem dX9_look_85 : decode cX9_look 85 = .ok (.ireturn, 1) := by decide +kernel
theorem dX9_look_86 : decode cX9_look 86 = .ok (.aload_n 0, 1) := by decide +kernel
theorem dX9_look_87 : decode cX9_look 87 = .ok (.iload_n 1, 1) := by decide +kernel
theorem dX9_look_88 : decode cX9_look 88 = .ok (.invokevirtual 187, 3) := by decide +kernel
theorem dX9_look_91 : decode cX9_look 91 = .ok (.getfield 191, 3) := by decide +kernel
theorem dX9_look_94 : decode cX9_look 94 = .ok (.ireturn, 1) := by decide +kernel
theorem dX9_look_95 : decode cX9_look 95 = .ok (.aload_n 0, 1) := by decide +kernel
theorem dX9_look_96 : decode cX9_look 96 = .ok (.iload_n 1, 1) := by decide +kernel
theorem dX9_look_97 : decode cX9_look 97 = .ok (.iconst 0, 1) := by decide +kernel
theorem dX9_look_98 : decode cX9_look 98 = .ok (.invokevirtual 194, 3) := by decide +kernel
theorem dX9_look_101 : decode cX9_look 101 = .ok (.getfield 198, 3) := by decide +kernel
theorem dX9_look_104 : decode cX9_look 104 = .ok (.ireturn, 1) := by decide +kernel
theorem dX9_look_105 : decode cX9_look 105 = .ok (.aload_n 0, 1) := by decide +kernel
theorem dX9_look_106 : decode cX9_look 106 = .ok (.iload_n 1, 1) := by decide +kernel
theorem dX9_look_107 : decode cX9_look 107 = .ok (.iconst 1, 1) := by decide +kernel
theorem dX9_look_108 : decode cX9_look 108 = .ok (.invokevirtual 194, 3) := by decide +kernel
theorem dX9_look_111 : decode cX9_look 111 = .ok (.getfield 198, 3) := by decide +kernel
theorem dX9_look_114 : decode cX9_look 114 = .ok (.ireturn, 1) := by decide +kernel
theorem dX9_look_115 : decode cX9_look 115 = .ok (.new 199, 3) := by decide +kernel
theorem dX9_look_118 : decode cX9_look 118 = .ok (.dup, 1) := by decide +kernel
theorem dX9_look_119 : decode cX9_look 119 = .ok (.ldc 201, 2) := by decide +kernel
theorem dX9_look_121 : decode cX9_look 121 = .ok (.invokespecial 203, 3) := by decide +kernel
theorem dX9_look_124 : decode cX9_look 124 = .ok (.athrow, 1) := by decide +kernel
theorem dX9_order_0 : decode cX9_order 0 = .ok (.aload_n 0, 1) := by decide +kernel
theorem dX9_order_1 : decode cX9_order 1 = .ok (.iload_n 1, 1) := by decide +kernel
theorem dX9_order_2 : decode cX9_order 2 = .ok (.invokevirtual 156, 3) := by decide +kernel
theorem dX9_order_5 : decode cX9_order 5 = .ok (.ifCond .ne 5, 3) := by decide +kernel
theorem dX9_order_8 : decode cX9_order 8 = .ok (.iconst (-1), 1) := by decide +kernel
theorem dX9_order_9 : decode cX9_order 9 = .ok (.ireturn, 1) := by decide +kernel
theorem dX9_order_10 : decode cX9_order 10 = .ok (.aload_n 0, 1) := by decide +kernel
theorem dX9_order_11 : decode cX9_order 11 = .ok (.invokevirtual 181, 3) := by decide +kernel
theorem dX9_order_14 : decode cX9_order 14 = .ok (.aload_n 0, 1) := by decide +kernel
theorem dX9_order_15 : decode cX9_order 15 = .ok (.getfield 68, 3) := by decide +kernel
theorem dX9_order_18 : decode cX9_order 18 = .ok (.iload_n 1, 1) := by decide +kernel
theorem dX9_order_19 : decode cX9_order 19 = .ok (.iaload, 1) := by decide +kernel
theorem dX9_order_20 : decode cX9_order 20 = .ok (.ireturn, 1) := by decide +kernel
theorem dX9_sign_0 : decode cX9_sign 0 = .ok (.aload_n 0, 1) := by decide +kernel
theorem dX9_sign_1 : decode cX9_sign 1 = .ok (.iload_n 1, 1) := by decide +kernel
theorem dX9_sign_2 : decode cX9_sign 2 = .ok (.invokevirtual 156, 3) := by decide +kernel
theorem dX9_sign_5 : decode cX9_sign 5 = .ok (.ifCond .eq 12, 3) := by decide +kernel
theorem dX9_sign_8 : decode cX9_sign 8 = .ok (.iload_n 2, 1) := by decide +kernel
theorem dX9_sign_9 : decode cX9_sign 9 = .ok (.ifCond .lt 8, 3) := by decide +kernel
theorem dX9_sign_12 : decode cX9_sign 12 = .ok (.iload_n 2, 1) := by decide +kernel
theorem dX9_sign_13 : decode cX9_sign 13 = .ok (.iconst 2, 1) := by decide +kernel
theorem dX9_sign_14 : decode cX9_sign 14 = .ok (.if_icmp .le 5, 3) := by decide +kernel
theorem dX9_sign_17 : decode cX9_sign 17 = .ok (.iconst (-1), 1) := by decide +kernel
theorem dX9_sign_18 : decode cX9_sign 18 = .ok (.ireturn, 1) := by decide +kernel
theorem dX9_sign_19 : decode cX9_sign 19 = .ok (.aload_n 0, 1) := by decide +kernel
theorem dX9_sign_20 : decode cX9_sign 20 = .ok (.iload_n 1, 1) := by decide +kernel
theorem dX9_sign_21 : decode cX9_sign 21 = .ok (.iload_n 2, 1) := by decide +kernel
theorem dX9_sign_22 : decode cX9_sign 22 = .ok (.invokevirtual 194, 3) := by decide +kernel
theorem dX9_sign_25 : decode cX9_sign 25 = .ok (.iload_n 3, 1) := by decide +kernel
theorem dX9_sign_26 : decode cX9_sign 26 = .ok (.invokevirtual 204, 3) := by decide +kernel
theorem dX9_sign_29 : decode cX9_sign 29 = .ok (.ireturn, 1) := by decide +kernel
theorem dX9_agree_0 : decode cX9_agree 0 = .ok (.aload_n 0, 1) := by decide +kernel
theorem dX9_agree_1 : decode cX9_agree 1 = .ok (.iload_n 1, 1) := by decide +kernel
theorem dX9_agree_2 : decode cX9_agree 2 = .ok (.invokevirtual 156, 3) := by decide +kernel
theorem dX9_agree_5 : decode cX9_agree 5 = .ok (.ifCond .eq 11, 3) := by decide +kernel
theorem dX9_agree_8 : decode cX9_agree 8 = .ok (.aload_n 0, 1) := by decide +kernel
theorem dX9_agree_9 : decode cX9_agree 9 = .ok (.iload_n 2, 1) := by decide +kernel
theorem dX9_agree_10 : decode cX9_agree 10 = .ok (.invokevirtual 156, 3) := by decide +kernel
theorem dX9_agree_13 : decode cX9_agree 13 = .ok (.ifCond .ne 5, 3) := by decide +kernel
theorem dX9_agree_16 : decode cX9_agree 16 = .ok (.iconst (-1), 1) := by decide +kernel
theorem dX9_agree_17 : decode cX9_agree 17 = .ok (.ireturn, 1) := by decide +kernel
theorem dX9_agree_18 : decode cX9_agree 18 = .ok (.aload_n 0, 1) := by decide +kernel
theorem dX9_agree_19 : decode cX9_agree 19 = .ok (.iload_n 1, 1) := by decide +kernel
theorem dX9_agree_20 : decode cX9_agree 20 = .ok (.invokevirtual 187, 3) := by decide +kernel
theorem dX9_agree_23 : decode cX9_agree 23 = .ok (.astore_n 3, 1) := by decide +kernel
theorem dX9_agree_24 : decode cX9_agree 24 = .ok (.aload_n 0, 1) := by decide +kernel
theorem dX9_agree_25 : decode cX9_agree 25 = .ok (.iload_n 2, 1) := by decide +kernel
theorem dX9_agree_26 : decode cX9_agree 26 = .ok (.invokevirtual 187, 3) := by decide +kernel
theorem dX9_agree_29 : decode cX9_agree 29 = .ok (.astore 4, 2) := by decide +kernel
theorem dX9_agree_31 : decode cX9_agree 31 = .ok (.aload_n 3, 1) := by decide +kernel
theorem dX9_agree_32 : decode cX9_agree 32 = .ok (.getfield 207, 3) := by decide +kernel
theorem dX9_agree_35 : decode cX9_agree 35 = .ok (.ifCond .eq 11, 3) := by decide +kernel
theorem dX9_agree_38 : decode cX9_agree 38 = .ok (.aload 4, 2) := by decide +kernel
theorem dX9_agree_40 : decode cX9_agree 40 = .ok (.getfield 207, 3) := by decide +kernel
theorem dX9_agree_43 : decode cX9_agree 43 = .ok (.ifCond .ne 5, 3) := by decide +kernel
theorem dX9_agree_46 : decode cX9_agree 46 = .ok (.iconst (-1), 1) := by decide +kernel
theorem dX9_agree_47 : decode cX9_agree 47 = .ok (.ireturn, 1) := by decide +kernel
theorem dX9_agree_48 : decode cX9_agree 48 = .ok (.aload_n 3, 1) := by decide +kernel
theorem dX9_agree_49 : decode cX9_agree 49 = .ok (.getfield 147, 3) := by decide +kernel
theorem dX9_agree_52 : decode cX9_agree 52 = .ok (.aload 4, 2) := by decide +kernel
theorem dX9_agree_54 : decode cX9_agree 54 = .ok (.getfield 147, 3) := by decide +kernel
theorem dX9_agree_57 : decode cX9_agree 57 = .ok (.if_icmp .ne 25, 3) := by decide +kernel
theorem dX9_agree_60 : decode cX9_agree 60 = .ok (.aload_n 3, 1) := by decide +kernel
theorem dX9_agree_61 : decode cX9_agree 61 = .ok (.aload 4, 2) := by decide +kernel
theorem dX9_agree_63 : decode cX9_agree 63 = .ok (.invokestatic 210, 3) := by decide +kernel
theorem dX9_agree_66 : decode cX9_agree 66 = .ok (.ifCond .eq 16, 3) := by decide +kernel
theorem dX9_agree_69 : decode cX9_agree 69 = .ok (.aload_n 3, 1) := by decide +kernel
theorem dX9_agree_70 : decode cX9_agree 70 = .ok (.aload 4, 2) := by decide +kernel
theorem dX9_agree_72 : decode cX9_agree 72 = .ok (.invokestatic 214, 3) := by decide +kernel
theorem dX9_agree_75 : decode cX9_agree 75 = .ok (.ifCond .eq 7, 3) := by decide +kernel
theorem dX9_agree_78 : decode cX9_agree 78 = .ok (.iconst 1, 1) := by decide +kernel
theorem dX9_agree_79 : decode cX9_agree 79 = .ok (.goto 4, 3) := by decide +kernel
theorem dX9_agree_82 : decode cX9_agree 82 = .ok (.iconst 0, 1) := by decide +kernel
theorem dX9_agree_83 : decode cX9_agree 83 = .ok (.ireturn, 1) := by decide +kernel
theorem dX9_father_0 : decode cX9_father 0 = .ok (.aload_n 0, 1) := by decide +kernel
theorem dX9_father_1 : decode cX9_father 1 = .ok (.iload_n 1, 1) := by decide +kernel
theorem dX9_father_2 : decode cX9_father 2 = .ok (.invokevirtual 156, 3) := by decide +kernel
theorem dX9_father_5 : decode cX9_father 5 = .ok (.ifCond .eq 16, 3) := by decide +kernel
theorem dX9_father_8 : decode cX9_father 8 = .ok (.aload_n 0, 1) := by decide +kernel
theorem dX9_father_9 : decode cX9_father 9 = .ok (.iload_n 2, 1) := by decide +kernel
theorem dX9_father_10 : decode cX9_father 10 = .ok (.invokevirtual 156, 3) := by decide +kernel
theorem dX9_father_13 : decode cX9_father 13 = .ok (.ifCond .eq 8, 3) := by decide +kernel
theorem dX9_father_16 : decode cX9_father 16 = .ok (.iload_n 1, 1) := by decide +kernel
theorem dX9_father_17 : decode cX9_father 17 = .ok (.iload_n 2, 1) := by decide +kernel
theorem dX9_father_18 : decode cX9_father 18 = .ok (.if_icmp .ne 5, 3) := by decide +kernel
theorem dX9_father_21 : decode cX9_father 21 = .ok (.iconst (-1), 1) := by decide +kernel
theorem dX9_father_22 : decode cX9_father 22 = .ok (.ireturn, 1) := by decide +kernel
theorem dX9_father_23 : decode cX9_father 23 = .ok (.aload_n 0, 1) := by decide +kernel
theorem dX9_father_24 : decode cX9_father 24 = .ok (.iload_n 1, 1) := by decide +kernel
theorem dX9_father_25 : decode cX9_father 25 = .ok (.invokevirtual 187, 3) := by decide +kernel
theorem dX9_father_28 : decode cX9_father 28 = .ok (.astore_n 3, 1) := by decide +kernel
theorem dX9_father_29 : decode cX9_father 29 = .ok (.aload_n 0, 1) := by decide +kernel
theorem dX9_father_30 : decode cX9_father 30 = .ok (.iload_n 2, 1) := by decide +kernel
theorem dX9_father_31 : decode cX9_father 31 = .ok (.invokevirtual 187, 3) := by decide +kernel
theorem dX9_father_34 : decode cX9_father 34 = .ok (.astore 4, 2) := by decide +kernel
theorem dX9_father_36 : decode cX9_father 36 = .ok (.aload_n 3, 1) := by decide +kernel
theorem dX9_father_37 : decode cX9_father 37 = .ok (.getfield 147, 3) := by decide +kernel
theorem dX9_father_40 : decode cX9_father 40 = .ok (.aload 4, 2) := by decide +kernel
theorem dX9_father_42 : decode cX9_father 42 = .ok (.getfield 147, 3) := by decide +kernel
theorem dX9_father_45 : decode cX9_father 45 = .ok (.if_icmp .eq 5, 3) := by decide +kernel
theorem dX9_father_48 : decode cX9_father 48 = .ok (.iconst (-1), 1) := by decide +kernel
theorem dX9_father_49 : decode cX9_father 49 = .ok (.ireturn, 1) := by decide +kernel
theorem dX9_father_50 : decode cX9_father 50 = .ok (.aload_n 3, 1) := by decide +kernel
theorem dX9_father_51 : decode cX9_father 51 = .ok (.bipush 32, 2) := by decide +kernel
theorem dX9_father_53 : decode cX9_father 53 = .ok (.iconst 0, 1) := by decide +kernel
theorem dX9_father_54 : decode cX9_father 54 = .ok (.invokevirtual 217, 3) := by decide +kernel
theorem dX9_father_57 : decode cX9_father 57 = .ok (.istore 5, 2) := by decide +kernel
theorem dX9_father_59 : decode cX9_father 59 = .ok (.aload 4, 2) := by decide +kernel
theorem dX9_father_61 : decode cX9_father 61 = .ok (.iconst 2, 1) := by decide +kernel
theorem dX9_father_62 : decode cX9_father 62 = .ok (.iconst 0, 1) := by decide +kernel
theorem dX9_father_63 : decode cX9_father 63 = .ok (.invokevirtual 217, 3) := by decide +kernel
theorem dX9_father_66 : decode cX9_father 66 = .ok (.istore 6, 2) := by decide +kernel
theorem dX9_father_68 : decode cX9_father 68 = .ok (.iload 5, 2) := by decide +kernel
theorem dX9_father_70 : decode cX9_father 70 = .ok (.iconst (-1), 1) := by decide +kernel
theorem dX9_father_71 : decode cX9_father 71 = .ok (.if_icmp .eq 9, 3) := by decide +kernel
theorem dX9_father_74 : decode cX9_father 74 = .ok (.iload 6, 2) := by decide +kernel
theorem dX9_father_76 : decode cX9_father 76 = .ok (.iconst (-1), 1) := by decide +kernel
theorem dX9_father_77 : decode cX9_father 77 = .ok (.if_icmp .ne 5, 3) := by decide +kernel
theorem dX9_father_80 : decode cX9_father 80 = .ok (.iconst (-1), 1) := by decide +kernel
theorem dX9_father_81 : decode cX9_father 81 = .ok (.ireturn, 1) := by decide +kernel
theorem dX9_father_82 : decode cX9_father 82 = .ok (.aload_n 0, 1) := by decide +kernel
theorem dX9_father_83 : decode cX9_father 83 = .ok (.getfield 18, 3) := by decide +kernel
theorem dX9_father_86 : decode cX9_father 86 = .ok (.aload_n 3, 1) := by decide +kernel
theorem dX9_father_87 : decode cX9_father 87 = .ok (.getfield 147, 3) := by decide +kernel
theorem dX9_father_90 : decode cX9_father 90 = .ok (.aaload, 1) := by decide +kernel
theorem dX9_father_91 : decode cX9_father 91 = .ok (.aload 4, 2) := by decide +kernel
theorem dX9_father_93 : decode cX9_father 93 = .ok (.getfield 220, 3) := by decide +kernel
theorem dX9_father_96 : decode cX9_father 96 = .ok (.iload 6, 2) := by decide +kernel
theorem dX9_father_98 : decode cX9_father 98 = .ok (.aaload, 1) := by decide +kernel
theorem dX9_father_99 : decode cX9_father 99 = .ok (.aload_n 3, 1) := by decide +kernel
theorem dX9_father_100 : decode cX9_father 100 = .ok (.getfield 220, 3) := by decide +kernel
theorem dX9_father_103 : decode cX9_father 103 = .ok (.iload 5, 2) := by decide +kernel
theorem dX9_father_105 : decode cX9_father 105 = .ok (.aaload, 1) := by decide +kernel
theorem dX9_father_106 : decode cX9_father 106 = .ok (.invokevirtual 224, 3) := by decide +kernel
theorem dX9_father_109 : decode cX9_father 109 = .ok (.ifCond .eq 7, 3) := by decide +kernel
theorem dX9_father_112 : decode cX9_father 112 = .ok (.iconst 1, 1) := by decide +kernel
theorem dX9_father_113 : decode cX9_father 113 = .ok (.goto 4, 3) := by decide +kernel
theorem dX9_father_116 : decode cX9_father 116 = .ok (.iconst 0, 1) := by decide +kernel
theorem dX9_father_117 : decode cX9_father 117 = .ok (.ireturn, 1) := by decide +kernel
theorem dX9_table_0 : decode cX9_table 0 = .ok (.aload_n 0, 1) := by decide +kernel
theorem dX9_table_1 : decode cX9_table 1 = .ok (.getfield 12, 3) := by decide +kernel
theorem dX9_table_4 : decode cX9_table 4 = .ok (.iload_n 2, 1) := by decide +kernel
theorem dX9_table_5 : decode cX9_table 5 = .ok (.invokevirtual 105, 3) := by decide +kernel
theorem dX9_table_8 : decode cX9_table 8 = .ok (.ifCond .eq 22, 3) := by decide +kernel
theorem dX9_table_11 : decode cX9_table 11 = .ok (.aload_n 0, 1) := by decide +kernel
theorem dX9_table_12 : decode cX9_table 12 = .ok (.getfield 79, 3) := by decide +kernel
theorem dX9_table_15 : decode cX9_table 15 = .ok (.iload_n 1, 1) := by decide +kernel
theorem dX9_table_16 : decode cX9_table 16 = .ok (.aload_n 0, 1) := by decide +kernel
theorem dX9_table_17 : decode cX9_table 17 = .ok (.getfield 12, 3) := by decide +kernel
theorem dX9_table_20 : decode cX9_table 20 = .ok (.getfield 108, 3) := by decide +kernel
theorem dX9_table_23 : decode cX9_table 23 = .ok (.iload_n 2, 1) := by decide +kernel
theorem dX9_table_24 : decode cX9_table 24 = .ok (.invokevirtual 228, 3) := by decide +kernel
theorem dX9_table_27 : decode cX9_table 27 = .ok (.ifCond .ne 5, 3) := by decide +kernel
theorem dX9_table_30 : decode cX9_table 30 = .ok (.iconst 0, 1) := by decide +kernel
theorem dX9_table_31 : decode cX9_table 31 = .ok (.ireturn, 1) := by decide +kernel
theorem dX9_table_32 : decode cX9_table 32 = .ok (.aload_n 0, 1) := by decide +kernel
theorem dX9_table_33 : decode cX9_table 33 = .ok (.getfield 12, 3) := by decide +kernel
theorem dX9_table_36 : decode cX9_table 36 = .ok (.iconst 0, 1) := by decide +kernel
theorem dX9_table_37 : decode cX9_table 37 = .ok (.putfield 94, 3) := by decide +kernel
theorem dX9_table_40 : decode cX9_table 40 = .ok (.iconst 0, 1) := by decide +kernel
theorem dX9_table_41 : decode cX9_table 41 = .ok (.istore_n 3, 1) := by decide +kernel
theorem dX9_table_42 : decode cX9_table 42 = .ok (.iload_n 3, 1) := by decide +kernel
theorem dX9_table_43 : decode cX9_table 43 = .ok (.bipush 30, 2) := by decide +kernel
theorem dX9_table_45 : decode cX9_table 45 = .ok (.if_icmp .ge 19, 3) := by decide +kernel
theorem dX9_table_48 : decode cX9_table 48 = .ok (.aload_n 0, 1) := by decide +kernel
theorem dX9_table_49 : decode cX9_table 49 = .ok (.getfield 50, 3) := by decide +kernel
theorem dX9_table_52 : decode cX9_table 52 = .ok (.iload_n 3, 1) := by decide +kernel
theorem dX9_table_53 : decode cX9_table 53 = .ok (.aaload, 1) := by decide +kernel
theorem dX9_table_54 : decode cX9_table 54 = .ok (.iconst 0, 1) := by decide +kernel
theorem dX9_table_55 : decode cX9_table 55 = .ok (.putfield 153, 3) := by decide +kernel
theorem dX9_table_58 : decode cX9_table 58 = .ok (.iinc 3 1, 3) := by decide +kernel
theorem dX9_table_61 : decode cX9_table 61 = .ok (.goto (-19), 3) := by decide +kernel
theorem dX9_table_64 : decode cX9_table 64 = .ok (.iconst 1, 1) := by decide +kernel
theorem dX9_table_65 : decode cX9_table 65 = .ok (.ireturn, 1) := by decide +kernel
theorem dX9_fallen_0 : decode cX9_fallen 0 = .ok (.iconst 0, 1) := by decide +kernel
theorem dX9_fallen_1 : decode cX9_fallen 1 = .ok (.istore_n 1, 1) := by decide +kernel
theorem dX9_fallen_2 : decode cX9_fallen 2 = .ok (.iconst 0, 1) := by decide +kernel
theorem dX9_fallen_3 : decode cX9_fallen 3 = .ok (.istore_n 2, 1) := by decide +kernel
theorem dX9_fallen_4 : decode cX9_fallen 4 = .ok (.iload_n 2, 1) := by decide +kernel
theorem dX9_fallen_5 : decode cX9_fallen 5 = .ok (.aload_n 0, 1) := by decide +kernel
theorem dX9_fallen_6 : decode cX9_fallen 6 = .ok (.getfield 54, 3) := by decide +kernel
theorem dX9_fallen_9 : decode cX9_fallen 9 = .ok (.if_icmp .ge 69, 3) := by decide +kernel
theorem dX9_fallen_12 : decode cX9_fallen 12 = .ok (.iconst 0, 1) := by decide +kernel
theorem dX9_fallen_13 : decode cX9_fallen 13 = .ok (.istore_n 3, 1) := by decide +kernel
theorem dX9_fallen_14 : decode cX9_fallen 14 = .ok (.iload_n 3, 1) := by decide +kernel
theorem dX9_fallen_15 : decode cX9_fallen 15 = .ok (.iload_n 2, 1) := by decide +kernel
theorem dX9_fallen_16 : decode cX9_fallen 16 = .ok (.if_icmp .ge 56, 3) := by decide +kernel
theorem dX9_fallen_19 : decode cX9_fallen 19 = .ok (.aload_n 0, 1) := by decide +kernel
theorem dX9_fallen_20 : decode cX9_fallen 20 = .ok (.aload_n 0, 1) := by decide +kernel
theorem dX9_fallen_21 : decode cX9_fallen 21 = .ok (.getfield 50, 3) := by decide +kernel
theorem dX9_fallen_24 : decode cX9_fallen 24 = .ok (.iload_n 2, 1) := by decide +kernel
theorem dX9_fallen_25 : decode cX9_fallen 25 = .ok (.aaload, 1) := by decide +kernel
theorem dX9_fallen_26 : decode cX9_fallen 26 = .ok (.invokevirtual 232, 3) := by decide +kernel
theorem dX9_fallen_29 : decode cX9_fallen 29 = .ok (.aload_n 0, 1) := by decide +kernel
theorem dX9_fallen_30 : decode cX9_fallen 30 = .ok (.aload_n 0, 1) := by decide +kernel
theorem dX9_fallen_31 : decode cX9_fallen 31 = .ok (.getfield 50, 3) := by decide +kernel
theorem dX9_fallen_34 : decode cX9_fallen 34 = .ok (.iload_n 3, 1) := by decide +kernel
theorem dX9_fallen_35 : decode cX9_fallen 35 = .ok (.aaload, 1) := by decide +kernel
theorem dX9_fallen_36 : decode cX9_fallen 36 = .ok (.invokevirtual 232, 3) := by decide +kernel
theorem dX9_fallen_39 : decode cX9_fallen 39 = .ok (.invokevirtual 236, 3) := by decide +kernel
theorem dX9_fallen_42 : decode cX9_fallen 42 = .ok (.ifCond .eq 24, 3) := by decide +kernel
theorem dX9_fallen_45 : decode cX9_fallen 45 = .ok (.aload_n 0, 1) := by decide +kernel
theorem dX9_fallen_46 : decode cX9_fallen 46 = .ok (.getfield 50, 3) := by decide +kernel
theorem dX9_fallen_49 : decode cX9_fallen 49 = .ok (.iload_n 2, 1) := by decide +kernel
theorem dX9_fallen_50 : decode cX9_fallen 50 = .ok (.aaload, 1) := by decide +kernel
theorem dX9_fallen_51 : decode cX9_fallen 51 = .ok (.aload_n 0, 1) := by decide +kernel
theorem dX9_fallen_52 : decode cX9_fallen 52 = .ok (.getfield 50, 3) := by decide +kernel
theorem dX9_fallen_55 : decode cX9_fallen 55 = .ok (.iload_n 3, 1) := by decide +kernel
theorem dX9_fallen_56 : decode cX9_fallen 56 = .ok (.aaload, 1) := by decide +kernel
theorem dX9_fallen_57 : decode cX9_fallen 57 = .ok (.invokevirtual 240, 3) := by decide +kernel
theorem dX9_fallen_60 : decode cX9_fallen 60 = .ok (.ifCond .ne 6, 3) := by decide +kernel
theorem dX9_fallen_63 : decode cX9_fallen 63 = .ok (.iinc 1 1, 3) := by decide +kernel
theorem dX9_fallen_66 : decode cX9_fallen 66 = .ok (.iinc 3 1, 3) := by decide +kernel
theorem dX9_fallen_69 : decode cX9_fallen 69 = .ok (.goto (-55), 3) := by decide +kernel
theorem dX9_fallen_72 : decode cX9_fallen 72 = .ok (.iinc 2 1, 3) := by decide +kernel
theorem dX9_fallen_75 : decode cX9_fallen 75 = .ok (.goto (-71), 3) := by decide +kernel
theorem dX9_fallen_78 : decode cX9_fallen 78 = .ok (.iload_n 1, 1) := by decide +kernel
theorem dX9_fallen_79 : decode cX9_fallen 79 = .ok (.ireturn, 1) := by decide +kernel
theorem dX9_count_0 : decode cX9_count 0 = .ok (.iload_n 1, 1) := by decide +kernel
theorem dX9_count_1 : decode cX9_count 1 = .ok (.tableswitch 45 0 2 #[27, 35, 40], 27) := by decide +kernel
theorem dX9_count_28 : decode cX9_count 28 = .ok (.aload_n 0, 1) := by decide +kernel
theorem dX9_count_29 : decode cX9_count 29 = .ok (.getfield 37, 3) := by decide +kernel
theorem dX9_count_32 : decode cX9_count 32 = .ok (.getfield 132, 3) := by decide +kernel
theorem dX9_count_35 : decode cX9_count 35 = .ok (.ireturn, 1) := by decide +kernel
theorem dX9_count_36 : decode cX9_count 36 = .ok (.aload_n 0, 1) := by decide +kernel
theorem dX9_count_37 : decode cX9_count 37 = .ok (.getfield 54, 3) := by decide +kernel
theorem dX9_count_40 : decode cX9_count 40 = .ok (.ireturn, 1) := by decide +kernel
theorem dX9_count_41 : decode cX9_count 41 = .ok (.aload_n 0, 1) := by decide +kernel
theorem dX9_count_42 : decode cX9_count 42 = .ok (.invokevirtual 244, 3) := by decide +kernel
theorem dX9_count_45 : decode cX9_count 45 = .ok (.ireturn, 1) := by decide +kernel
theorem dX9_count_46 : decode cX9_count 46 = .ok (.iconst (-1), 1) := by decide +kernel
theorem dX9_count_47 : decode cX9_count 47 = .ok (.ireturn, 1) := by decide +kernel
theorem dX9_isLand_0 : decode cX9_isLand 0 = .ok (.iload_n 0, 1) := by decide +kernel
theorem dX9_isLand_1 : decode cX9_isLand 1 = .ok (.ifCond .lt 13, 3) := by decide +kernel
theorem dX9_isLand_4 : decode cX9_isLand 4 = .ok (.iload_n 0, 1) := by decide +kernel
theorem dX9_isLand_5 : decode cX9_isLand 5 = .ok (.bipush 6, 2) := by decide +kernel
theorem dX9_isLand_7 : decode cX9_isLand 7 = .ok (.if_icmp .ge 7, 3) := by decide +kernel
theorem dX9_isLand_10 : decode cX9_isLand 10 = .ok (.iconst 1, 1) := by decide +kernel
theorem dX9_isLand_11 : decode cX9_isLand 11 = .ok (.goto 4, 3) := by decide +kernel
theorem dX9_isLand_14 : decode cX9_isLand 14 = .ok (.iconst 0, 1) := by decide +kernel
theorem dX9_isLand_15 : decode cX9_isLand 15 = .ok (.ireturn, 1) := by decide +kernel
theorem dX9_isName_0 : decode cX9_isName 0 = .ok (.iload_n 1, 1) := by decide +kernel
theorem dX9_isName_1 : decode cX9_isName 1 = .ok (.ifCond .lt 15, 3) := by decide +kernel
theorem dX9_isName_4 : decode cX9_isName 4 = .ok (.iload_n 1, 1) := by decide +kernel
theorem dX9_isName_5 : decode cX9_isName 5 = .ok (.aload_n 0, 1) := by decide +kernel
theorem dX9_isName_6 : decode cX9_isName 6 = .ok (.getfield 54, 3) := by decide +kernel
theorem dX9_isName_9 : decode cX9_isName 9 = .ok (.if_icmp .ge 7, 3) := by decide +kernel
theorem dX9_isName_12 : decode cX9_isName 12 = .ok (.iconst 1, 1) := by decide +kernel
theorem dX9_isName_13 : decode cX9_isName 13 = .ok (.goto 4, 3) := by decide +kernel
theorem dX9_isName_16 : decode cX9_isName 16 = .ok (.iconst 0, 1) := by decide +kernel
theorem dX9_isName_17 : decode cX9_isName 17 = .ok (.ireturn, 1) := by decide +kernel
theorem dX9_isEntry_0 : decode cX9_isEntry 0 = .ok (.iload_n 1, 1) := by decide +kernel
theorem dX9_isEntry_1 : decode cX9_isEntry 1 = .ok (.invokestatic 101, 3) := by decide +kernel
theorem dX9_isEntry_4 : decode cX9_isEntry 4 = .ok (.ifCond .eq 46, 3) := by decide +kernel
theorem dX9_isEntry_7 : decode cX9_isEntry 7 = .ok (.iload_n 2, 1) := by decide +kernel
theorem dX9_isEntry_8 : decode cX9_isEntry 8 = .ok (.ifCond .lt 42, 3) := by decide +kernel
theorem dX9_isEntry_11 : decode cX9_isEntry 11 = .ok (.iload_n 2, 1) := by decide +kernel
theorem dX9_isEntry_12 : decode cX9_isEntry 12 = .ok (.iconst 4, 1) := by decide +kernel
theorem dX9_isEntry_13 : decode cX9_isEntry 13 = .ok (.if_icmp .gt 37, 3) := by decide +kernel
theorem dX9_isEntry_16 : decode cX9_isEntry 16 = .ok (.aload_n 0, 1) := by decide +kernel
theorem dX9_isEntry_17 : decode cX9_isEntry 17 = .ok (.getfield 12, 3) := by decide +kernel
theorem dX9_isEntry_20 : decode cX9_isEntry 20 = .ok (.iload_n 3, 1) := by decide +kernel
theorem dX9_isEntry_21 : decode cX9_isEntry 21 = .ok (.invokevirtual 105, 3) := by decide +kernel
theorem dX9_isEntry_24 : decode cX9_isEntry 24 = .ok (.ifCond .eq 26, 3) := by decide +kernel
theorem dX9_isEntry_27 : decode cX9_isEntry 27 = .ok (.aload_n 0, 1) := by decide +kernel
theorem dX9_isEntry_28 : decode cX9_isEntry 28 = .ok (.getfield 44, 3) := by decide +kernel
theorem dX9_isEntry_31 : decode cX9_isEntry 31 = .ok (.aload_n 0, 1) := by decide +kernel
theorem dX9_isEntry_32 : decode cX9_isEntry 32 = .ok (.getfield 12, 3) := by decide +kernel
theorem dX9_isEntry_35 : decode cX9_isEntry 35 = .ok (.getfield 108, 3) := by decide +kernel
theorem dX9_isEntry_38 : decode cX9_isEntry 38 = .ok (.iconst 0, 1) := by decide +kernel
theorem dX9_isEntry_39 : decode cX9_isEntry 39 = .ok (.iload_n 3, 1) := by decide +kernel
theorem dX9_isEntry_40 : decode cX9_isEntry 40 = .ok (.invokevirtual 248, 3) := by decide +kernel
theorem dX9_isEntry_43 : decode cX9_isEntry 43 = .ok (.ifCond .eq 7, 3) := by decide +kernel
theorem dX9_isEntry_46 : decode cX9_isEntry 46 = .ok (.iconst 1, 1) := by decide +kernel
theorem dX9_isEntry_47 : decode cX9_isEntry 47 = .ok (.goto 4, 3) := by decide +kernel
theorem dX9_isEntry_50 : decode cX9_isEntry 50 = .ok (.iconst 0, 1) := by decide +kernel
theorem dX9_isEntry_51 : decode cX9_isEntry 51 = .ok (.ireturn, 1) := by decide +kernel
theorem dX9_shapeCount_0 : decode cX9_shapeCount 0 = .ok (.iconst 0, 1) := by decide +kernel
theorem dX9_shapeCount_1 : decode cX9_shapeCount 1 = .ok (.istore_n 1, 1) := by decide +kernel
theorem dX9_shapeCount_2 : decode cX9_shapeCount 2 = .ok (.iconst 0, 1) := by decide +kernel
theorem dX9_shapeCount_3 : decode cX9_shapeCount 3 = .ok (.istore_n 2, 1) := by decide +kernel
theorem dX9_shapeCount_4 : decode cX9_shapeCount 4 = .ok (.iload_n 2, 1) := by decide +kernel
theorem dX9_shapeCount_5 : decode cX9_shapeCount 5 = .ok (.bipush 6, 2) := by decide +kernel
theorem dX9_shapeCount_7 : decode cX9_shapeCount 7 = .ok (.if_icmp .ge 29, 3) := by decide +kernel
theorem dX9_shapeCount_10 : decode cX9_shapeCount 10 = .ok (.iload_n 1, 1) := by decide +kernel
theorem dX9_shapeCount_11 : decode cX9_shapeCount 11 = .ok (.aload_n 0, 1) := by decide +kernel
theorem dX9_shapeCount_12 : decode cX9_shapeCount 12 = .ok (.getfield 18, 3) := by decide +kernel
theorem dX9_shapeCount_15 : decode cX9_shapeCount 15 = .ok (.iload_n 2, 1) := by decide +kernel
theorem dX9_shapeCount_16 : decode cX9_shapeCount 16 = .ok (.aaload, 1) := by decide +kernel
theorem dX9_shapeCount_17 : decode cX9_shapeCount 17 = .ok (.getfield 119, 3) := by decide +kernel
theorem dX9_shapeCount_20 : decode cX9_shapeCount 20 = .ok (.ifCond .le 7, 3) := by decide +kernel
theorem dX9_shapeCount_23 : decode cX9_shapeCount 23 = .ok (.iconst 1, 1) := by decide +kernel
theorem dX9_shapeCount_24 : decode cX9_shapeCount 24 = .ok (.goto 4, 3) := by decide +kernel
theorem dX9_shapeCount_27 : decode cX9_shapeCount 27 = .ok (.iconst 0, 1) := by decide +kernel
theorem dX9_shapeCount_28 : decode cX9_shapeCount 28 = .ok (.iadd, 1) := by decide +kernel
theorem dX9_shapeCount_29 : decode cX9_shapeCount 29 = .ok (.istore_n 1, 1) := by decide +kernel
theorem dX9_shapeCount_30 : decode cX9_shapeCount 30 = .ok (.iinc 2 1, 3) := by decide +kernel
theorem dX9_shapeCount_33 : decode cX9_shapeCount 33 = .ok (.goto (-29), 3) := by decide +kernel
theorem dX9_shapeCount_36 : decode cX9_shapeCount 36 = .ok (.iload_n 1, 1) := by decide +kernel
theorem dX9_shapeCount_37 : decode cX9_shapeCount 37 = .ok (.ireturn, 1) := by decide +kernel
theorem dX9_landChanged_0 : decode cX9_landChanged 0 = .ok (.iconst 0, 1) := by decide +kernel
theorem dX9_landChanged_1 : decode cX9_landChanged 1 = .ok (.istore_n 2, 1) := by decide +kernel
theorem dX9_landChanged_2 : decode cX9_landChanged 2 = .ok (.iload_n 2, 1) := by decide +kernel
theorem dX9_landChanged_3 : decode cX9_landChanged 3 = .ok (.aload_n 0, 1) := by decide +kernel
theorem dX9_landChanged_4 : decode cX9_landChanged 4 = .ok (.getfield 54, 3) := by decide +kernel
theorem dX9_landChanged_7 : decode cX9_landChanged 7 = .ok (.if_icmp .ge 32, 3) := by decide +kernel
theorem dX9_landChanged_10 : decode cX9_landChanged 10 = .ok (.aload_n 0, 1) := by decide +kernel
theorem dX9_landChanged_11 : decode cX9_landChanged 11 = .ok (.getfield 50, 3) := by decide +kernel
theorem dX9_landChanged_14 : decode cX9_landChanged 14 = .ok (.iload_n 2, 1) := by decide +kernel
theorem dX9_landChanged_15 : decode cX9_landChanged 15 = .ok (.aaload, 1) := by decide +kernel
theorem dX9_landChanged_16 : decode cX9_landChanged 16 = .ok (.getfield 147, 3) := by decide +kernel
theorem dX9_landChanged_19 : decode cX9_landChanged 19 = .ok (.iload_n 1, 1) := by decide +kernel
theorem dX9_landChanged_20 : decode cX9_landChanged 20 = .ok (.if_icmp .ne 13, 3) := by decide +kernel
theorem dX9_landChanged_23 : decode cX9_landChanged 23 = .ok (.aload_n 0, 1) := by decide +kernel
theorem dX9_landChanged_24 : decode cX9_landChanged 24 = .ok (.getfield 50, 3) := by decide +kernel
theorem dX9_landChanged_27 : decode cX9_landChanged 27 = .ok (.iload_n 2, 1) := by decide +kernel
theorem dX9_landChanged_28 : decode cX9_landChanged 28 = .ok (.aaload, 1) := by decide +kernel
theorem dX9_landChanged_29 : decode cX9_landChanged 29 = .ok (.iconst 0, 1) := by decide +kernel
theorem dX9_landChanged_30 : decode cX9_landChanged 30 = .ok (.putfield 150, 3) := by decide +kernel
theorem dX9_landChanged_33 : decode cX9_landChanged 33 = .ok (.iinc 2 1, 3) := by decide +kernel
theorem dX9_landChanged_36 : decode cX9_landChanged 36 = .ok (.goto (-34), 3) := by decide +kernel
theorem dX9_landChanged_39 : decode cX9_landChanged 39 = .ok (.aload_n 0, 1) := by decide +kernel
theorem dX9_landChanged_40 : decode cX9_landChanged 40 = .ok (.iconst (-1), 1) := by decide +kernel
theorem dX9_landChanged_41 : decode cX9_landChanged 41 = .ok (.putfield 65, 3) := by decide +kernel
theorem dX9_landChanged_44 : decode cX9_landChanged 44 = .ok (.aload_n 0, 1) := by decide +kernel
theorem dX9_landChanged_45 : decode cX9_landChanged 45 = .ok (.iconst 0, 1) := by decide +kernel
theorem dX9_landChanged_46 : decode cX9_landChanged 46 = .ok (.putfield 72, 3) := by decide +kernel
theorem dX9_landChanged_49 : decode cX9_landChanged 49 = .ok (.return_, 1) := by decide +kernel
theorem dX9_listReadings_0 : decode cX9_listReadings 0 = .ok (.aload_n 0, 1) := by decide +kernel
theorem dX9_listReadings_1 : decode cX9_listReadings 1 = .ok (.getfield 65, 3) := by decide +kernel
theorem dX9_listReadings_4 : decode cX9_listReadings 4 = .ok (.iload_n 1, 1) := by decide +kernel
theorem dX9_listReadings_5 : decode cX9_listReadings 5 = .ok (.if_icmp .eq 43, 3) := by decide +kernel
theorem dX9_listReadings_8 : decode cX9_listReadings 8 = .ok (.aload_n 0, 1) := by decide +kernel
theorem dX9_listReadings_9 : decode cX9_listReadings 9 = .ok (.getfield 50, 3) := by decide +kernel
theorem dX9_listReadings_12 : decode cX9_listReadings 12 = .ok (.iload_n 1, 1) := by decide +kernel
theorem dX9_listReadings_13 : decode cX9_listReadings 13 = .ok (.aaload, 1) := by decide +kernel
theorem dX9_listReadings_14 : decode cX9_listReadings 14 = .ok (.astore_n 2, 1) := by decide +kernel
theorem dX9_listReadings_15 : decode cX9_listReadings 15 = .ok (.aload_n 0, 1) := by decide +kernel
theorem dX9_listReadings_16 : decode cX9_listReadings 16 = .ok (.getfield 61, 3) := by decide +kernel
theorem dX9_listReadings_19 : decode cX9_listReadings 19 = .ok (.aload_n 2, 1) := by decide +kernel
theorem dX9_listReadings_20 : decode cX9_listReadings 20 = .ok (.aload_n 0, 1) := by decide +kernel
theorem dX9_listReadings_21 : decode cX9_listReadings 21 = .ok (.getfield 18, 3) := by decide +kernel
theorem dX9_listReadings_24 : decode cX9_listReadings 24 = .ok (.aload_n 2, 1) := by decide +kernel
theorem dX9_listReadings_25 : decode cX9_listReadings 25 = .ok (.getfield 147, 3) := by decide +kernel
theorem dX9_listReadings_28 : decode cX9_listReadings 28 = .ok (.aaload, 1) := by decide +kernel
theorem dX9_listReadings_29 : decode cX9_listReadings 29 = .ok (.aload_n 0, 1) := by decide +kernel
theorem dX9_listReadings_30 : decode cX9_listReadings 30 = .ok (.getfield 37, 3) := by decide +kernel
theorem dX9_listReadings_33 : decode cX9_listReadings 33 = .ok (.invokevirtual 251, 3) := by decide +kernel
theorem dX9_listReadings_36 : decode cX9_listReadings 36 = .ok (.aload_n 0, 1) := by decide +kernel
theorem dX9_listReadings_37 : decode cX9_listReadings 37 = .ok (.getfield 61, 3) := by decide +kernel
theorem dX9_listReadings_40 : decode cX9_listReadings 40 = .ok (.invokevirtual 255, 3) := by decide +kernel
theorem dX9_listReadings_43 : decode cX9_listReadings 43 = .ok (.aload_n 0, 1) := by decide +kernel
theorem dX9_listReadings_44 : decode cX9_listReadings 44 = .ok (.iload_n 1, 1) := by decide +kernel
theorem dX9_listReadings_45 : decode cX9_listReadings 45 = .ok (.putfield 65, 3) := by decide +kernel
theorem dX9_listReadings_48 : decode cX9_listReadings 48 = .ok (.return_, 1) := by decide +kernel
theorem dX9_freshName_0 : decode cX9_freshName 0 = .ok (.aload_n 0, 1) := by decide +kernel
theorem dX9_freshName_1 : decode cX9_freshName 1 = .ok (.getfield 50, 3) := by decide +kernel
theorem dX9_freshName_4 : decode cX9_freshName 4 = .ok (.iload_n 1, 1) := by decide +kernel
theorem dX9_freshName_5 : decode cX9_freshName 5 = .ok (.aaload, 1) := by decide +kernel
theorem dX9_freshName_6 : decode cX9_freshName 6 = .ok (.astore_n 2, 1) := by decide +kernel
theorem dX9_freshName_7 : decode cX9_freshName 7 = .ok (.aload_n 2, 1) := by decide +kernel
theorem dX9_freshName_8 : decode cX9_freshName 8 = .ok (.getfield 150, 3) := by decide +kernel
theorem dX9_freshName_11 : decode cX9_freshName 11 = .ok (.ifCond .ne 71, 3) := by decide +kernel
theorem dX9_freshName_14 : decode cX9_freshName 14 = .ok (.aload_n 0, 1) := by decide +kernel
theorem dX9_freshName_15 : decode cX9_freshName 15 = .ok (.getfield 18, 3) := by decide +kernel
theorem dX9_freshName_18 : decode cX9_freshName 18 = .ok (.aload_n 2, 1) := by decide +kernel
theorem dX9_freshName_19 : decode cX9_freshName 19 = .ok (.getfield 147, 3) := by decide +kernel
theorem dX9_freshName_22 : decode cX9_freshName 22 = .ok (.aaload, 1) := by decide +kernel
theorem dX9_freshName_23 : decode cX9_freshName 23 = .ok (.astore_n 3, 1) := by decide +kernel
theorem dX9_freshName_24 : decode cX9_freshName 24 = .ok (.aload_n 0, 1) := by decide +kernel
theorem dX9_freshName_25 : decode cX9_freshName 25 = .ok (.iconst (-1), 1) := by decide +kernel
theorem dX9_freshName_26 : decode cX9_freshName 26 = .ok (.putfield 65, 3) := by decide +kernel
theorem dX9_freshName_29 : decode cX9_freshName 29 = .ok (.aload_n 0, 1) := by decide +kernel
theorem dX9_freshName_30 : decode cX9_freshName 30 = .ok (.getfield 61, 3) := by decide +kernel
theorem dX9_freshName_33 : decode cX9_freshName 33 = .ok (.aload_n 2, 1) := by decide +kernel
theorem dX9_freshName_34 : decode cX9_freshName 34 = .ok (.aload_n 3, 1) := by decide +kernel
theorem dX9_freshName_35 : decode cX9_freshName 35 = .ok (.aload_n 0, 1) := by decide +kernel
theorem dX9_freshName_36 : decode cX9_freshName 36 = .ok (.getfield 37, 3) := by decide +kernel
theorem dX9_freshName_39 : decode cX9_freshName 39 = .ok (.invokevirtual 251, 3) := by decide +kernel
theorem dX9_freshName_42 : decode cX9_freshName 42 = .ok (.aload_n 2, 1) := by decide +kernel
theorem dX9_freshName_43 : decode cX9_freshName 43 = .ok (.aload_n 0, 1) := by decide +kernel
theorem dX9_freshName_44 : decode cX9_freshName 44 = .ok (.getfield 61, 3) := by decide +kernel
theorem dX9_freshName_47 : decode cX9_freshName 47 = .ok (.aload_n 2, 1) := by decide +kernel
theorem dX9_freshName_48 : decode cX9_freshName 48 = .ok (.getfield 258, 3) := by decide +kernel
theorem dX9_freshName_51 : decode cX9_freshName 51 = .ok (.invokevirtual 261, 3) := by decide +kernel
theorem dX9_freshName_54 : decode cX9_freshName 54 = .ok (.putfield 207, 3) := by decide +kernel
theorem dX9_freshName_57 : decode cX9_freshName 57 = .ok (.aload_n 2, 1) := by decide +kernel
theorem dX9_freshName_58 : decode cX9_freshName 58 = .ok (.aload_n 2, 1) := by decide +kernel
theorem dX9_freshName_59 : decode cX9_freshName 59 = .ok (.aload_n 3, 1) := by decide +kernel
theorem dX9_freshName_60 : decode cX9_freshName 60 = .ok (.getfield 265, 3) := by decide +kernel
theorem dX9_freshName_63 : decode cX9_freshName 63 = .ok (.aload_n 3, 1) := by decide +kernel
theorem dX9_freshName_64 : decode cX9_freshName 64 = .ok (.getfield 268, 3) := by decide +kernel
theorem dX9_freshName_67 : decode cX9_freshName 67 = .ok (.aload_n 2, 1) := by decide +kernel
theorem dX9_freshName_68 : decode cX9_freshName 68 = .ok (.getfield 271, 3) := by decide +kernel
theorem dX9_freshName_71 : decode cX9_freshName 71 = .ok (.invokevirtual 274, 3) := by decide +kernel
theorem dX9_freshName_74 : decode cX9_freshName 74 = .ok (.putfield 191, 3) := by decide +kernel
theorem dX9_freshName_77 : decode cX9_freshName 77 = .ok (.aload_n 2, 1) := by decide +kernel
theorem dX9_freshName_78 : decode cX9_freshName 78 = .ok (.iconst 1, 1) := by decide +kernel
theorem dX9_freshName_79 : decode cX9_freshName 79 = .ok (.putfield 150, 3) := by decide +kernel
theorem dX9_freshName_82 : decode cX9_freshName 82 = .ok (.aload_n 2, 1) := by decide +kernel
theorem dX9_freshName_83 : decode cX9_freshName 83 = .ok (.areturn, 1) := by decide +kernel
theorem dX9_rank_0 : decode cX9_rank 0 = .ok (.aload_n 0, 1) := by decide +kernel
theorem dX9_rank_1 : decode cX9_rank 1 = .ok (.getfield 72, 3) := by decide +kernel
theorem dX9_rank_4 : decode cX9_rank 4 = .ok (.ifCond .eq 4, 3) := by decide +kernel
theorem dX9_rank_7 : decode cX9_rank 7 = .ok (.return_, 1) := by decide +kernel
theorem dX9_rank_8 : decode cX9_rank 8 = .ok (.iconst 0, 1) := by decide +kernel
theorem dX9_rank_9 : decode cX9_rank 9 = .ok (.istore_n 1, 1) := by decide +kernel
theorem dX9_rank_10 : decode cX9_rank 10 = .ok (.iload_n 1, 1) := by decide +kernel
theorem dX9_rank_11 : decode cX9_rank 11 = .ok (.aload_n 0, 1) := by decide +kernel
theorem dX9_rank_12 : decode cX9_rank 12 = .ok (.getfield 54, 3) := by decide +kernel
theorem dX9_rank_15 : decode cX9_rank 15 = .ok (.if_icmp .ge 68, 3) := by decide +kernel
theorem dX9_rank_18 : decode cX9_rank 18 = .ok (.aload_n 0, 1) := by decide +kernel
theorem dX9_rank_19 : decode cX9_rank 19 = .ok (.iload_n 1, 1) := by decide +kernel
theorem dX9_rank_20 : decode cX9_rank 20 = .ok (.invokevirtual 187, 3) := by decide +kernel
theorem dX9_rank_23 : decode cX9_rank 23 = .ok (.astore_n 2, 1) := by decide +kernel
theorem dX9_rank_24 : decode cX9_rank 24 = .ok (.iload_n 1, 1) := by decide +kernel
theorem dX9_rank_25 : decode cX9_rank 25 = .ok (.istore_n 3, 1) := by decide +kernel
theorem dX9_rank_26 : decode cX9_rank 26 = .ok (.iload_n 3, 1) := by decide +kernel
theorem dX9_rank_27 : decode cX9_rank 27 = .ok (.ifCond .le 43, 3) := by decide +kernel
theorem dX9_rank_30 : decode cX9_rank 30 = .ok (.aload_n 2, 1) := by decide +kernel
theorem dX9_rank_31 : decode cX9_rank 31 = .ok (.aload_n 0, 1) := by decide +kernel
theorem dX9_rank_32 : decode cX9_rank 32 = .ok (.getfield 50, 3) := by decide +kernel
theorem dX9_rank_35 : decode cX9_rank 35 = .ok (.aload_n 0, 1) := by decide +kernel
theorem dX9_rank_36 : decode cX9_rank 36 = .ok (.getfield 68, 3) := by decide +kernel
theorem dX9_rank_39 : decode cX9_rank 39 = .ok (.iload_n 3, 1) := by decide +kernel
theorem dX9_rank_40 : decode cX9_rank 40 = .ok (.iconst 1, 1) := by decide +kernel
theorem dX9_rank_41 : decode cX9_rank 41 = .ok (.isub, 1) := by decide +kernel
theorem dX9_rank_42 : decode cX9_rank 42 = .ok (.iaload, 1) := by decide +kernel
theorem dX9_rank_43 : decode cX9_rank 43 = .ok (.aaload, 1) := by decide +kernel
theorem dX9_rank_44 : decode cX9_rank 44 = .ok (.invokevirtual 278, 3) := by decide +kernel
theorem dX9_rank_47 : decode cX9_rank 47 = .ok (.ifCond .eq 23, 3) := by decide +kernel
theorem dX9_rank_50 : decode cX9_rank 50 = .ok (.aload_n 0, 1) := by decide +kernel
theorem dX9_rank_51 : decode cX9_rank 51 = .ok (.getfield 68, 3) := by decide +kernel
theorem dX9_rank_54 : decode cX9_rank 54 = .ok (.iload_n 3, 1) := by decide +kernel
theorem dX9_rank_55 : decode cX9_rank 55 = .ok (.aload_n 0, 1) := by decide +kernel
theorem dX9_rank_56 : decode cX9_rank 56 = .ok (.getfield 68, 3) := by decide +kernel
theorem dX9_rank_59 : decode cX9_rank 59 = .ok (.iload_n 3, 1) := by decide +kernel
theorem dX9_rank_60 : decode cX9_rank 60 = .ok (.iconst 1, 1) := by decide +kernel
theorem dX9_rank_61 : decode cX9_rank 61 = .ok (.isub, 1) := by decide +kernel
theorem dX9_rank_62 : decode cX9_rank 62 = .ok (.iaload, 1) := by decide +kernel
theorem dX9_rank_63 : decode cX9_rank 63 = .ok (.iastore, 1) := by decide +kernel
theorem dX9_rank_64 : decode cX9_rank 64 = .ok (.iinc 3 (-1), 3) := by decide +kernel
theorem dX9_rank_67 : decode cX9_rank 67 = .ok (.goto (-41), 3) := by decide +kernel
theorem dX9_rank_70 : decode cX9_rank 70 = .ok (.aload_n 0, 1) := by decide +kernel
theorem dX9_rank_71 : decode cX9_rank 71 = .ok (.getfield 68, 3) := by decide +kernel
theorem dX9_rank_74 : decode cX9_rank 74 = .ok (.iload_n 3, 1) := by decide +kernel
theorem dX9_rank_75 : decode cX9_rank 75 = .ok (.iload_n 1, 1) := by decide +kernel
theorem dX9_rank_76 : decode cX9_rank 76 = .ok (.iastore, 1) := by decide +kernel
theorem dX9_rank_77 : decode cX9_rank 77 = .ok (.iinc 1 1, 3) := by decide +kernel
theorem dX9_rank_80 : decode cX9_rank 80 = .ok (.goto (-70), 3) := by decide +kernel
theorem dX9_rank_83 : decode cX9_rank 83 = .ok (.aload_n 0, 1) := by decide +kernel
theorem dX9_rank_84 : decode cX9_rank 84 = .ok (.iconst 1, 1) := by decide +kernel
theorem dX9_rank_85 : decode cX9_rank 85 = .ok (.putfield 72, 3) := by decide +kernel
theorem dX9_rank_88 : decode cX9_rank 88 = .ok (.return_, 1) := by decide +kernel
theorem dX9_placeInRanking_0 : decode cX9_placeInRanking 0 = .ok (.iconst 0, 1) := by decide +kernel
theorem dX9_placeInRanking_1 : decode cX9_placeInRanking 1 = .ok (.istore_n 2, 1) := by decide +kernel
theorem dX9_placeInRanking_2 : decode cX9_placeInRanking 2 = .ok (.iload_n 2, 1) := by decide +kernel
theorem dX9_placeInRanking_3 : decode cX9_placeInRanking 3 = .ok (.aload_n 0, 1) := by decide +kernel
theorem dX9_placeInRanking_4 : decode cX9_placeInRanking 4 = .ok (.getfield 54, 3) := by decide +kernel
theorem dX9_placeInRanking_7 : decode cX9_placeInRanking 7 = .ok (.if_icmp .ge 21, 3) := by decide +kernel
theorem dX9_placeInRanking_10 : decode cX9_placeInRanking 10 = .ok (.aload_n 0, 1) := by decide +kernel
theorem dX9_placeInRanking_11 : decode cX9_placeInRanking 11 = .ok (.getfield 68, 3) := by decide +kernel
theorem dX9_placeInRanking_14 : decode cX9_placeInRanking 14 = .ok (.iload_n 2, 1) := by decide +kernel
theorem dX9_placeInRanking_15 : decode cX9_placeInRanking 15 = .ok (.iaload, 1) := by decide +kernel
theorem dX9_placeInRanking_16 : decode cX9_placeInRanking 16 = .ok (.iload_n 1, 1) := by decide +kernel
theorem dX9_placeInRanking_17 : decode cX9_placeInRanking 17 = .ok (.if_icmp .ne 5, 3) := by decide +kernel
theorem dX9_placeInRanking_20 : decode cX9_placeInRanking 20 = .ok (.iload_n 2, 1) := by decide +kernel
theorem dX9_placeInRanking_21 : decode cX9_placeInRanking 21 = .ok (.ireturn, 1) := by decide +kernel
theorem dX9_placeInRanking_22 : decode cX9_placeInRanking 22 = .ok (.iinc 2 1, 3) := by decide +kernel
theorem dX9_placeInRanking_25 : decode cX9_placeInRanking 25 = .ok (.goto (-23), 3) := by decide +kernel
theorem dX9_placeInRanking_28 : decode cX9_placeInRanking 28 = .ok (.iconst (-1), 1) := by decide +kernel
theorem dX9_placeInRanking_29 : decode cX9_placeInRanking 29 = .ok (.ireturn, 1) := by decide +kernel
theorem dX9_lineOf_0 : decode cX9_lineOf 0 = .ok (.iload_n 2, 1) := by decide +kernel
theorem dX9_lineOf_1 : decode cX9_lineOf 1 = .ok (.iconst 1, 1) := by decide +kernel
theorem dX9_lineOf_2 : decode cX9_lineOf 2 = .ok (.if_icmp .ne 14, 3) := by decide +kernel
theorem dX9_lineOf_5 : decode cX9_lineOf 5 = .ok (.aload_n 0, 1) := by decide +kernel
theorem dX9_lineOf_6 : decode cX9_lineOf 6 = .ok (.aload_n 0, 1) := by decide +kernel
theorem dX9_lineOf_7 : decode cX9_lineOf 7 = .ok (.getfield 50, 3) := by decide +kernel
theorem dX9_lineOf_10 : decode cX9_lineOf 10 = .ok (.iload_n 1, 1) := by decide +kernel
theorem dX9_lineOf_11 : decode cX9_lineOf 11 = .ok (.aaload, 1) := by decide +kernel
theorem dX9_lineOf_12 : decode cX9_lineOf 12 = .ok (.invokevirtual 232, 3) := by decide +kernel
theorem dX9_lineOf_15 : decode cX9_lineOf 15 = .ok (.areturn, 1) := by decide +kernel
theorem dX9_lineOf_16 : decode cX9_lineOf 16 = .ok (.aload_n 0, 1) := by decide +kernel
theorem dX9_lineOf_17 : decode cX9_lineOf 17 = .ok (.iload_n 1, 1) := by decide +kernel
theorem dX9_lineOf_18 : decode cX9_lineOf 18 = .ok (.invokevirtual 187, 3) := by decide +kernel
theorem dX9_lineOf_21 : decode cX9_lineOf 21 = .ok (.astore_n 3, 1) := by decide +kernel
theorem dX9_lineOf_22 : decode cX9_lineOf 22 = .ok (.aload_n 0, 1) := by decide +kernel
theorem dX9_lineOf_23 : decode cX9_lineOf 23 = .ok (.getfield 86, 3) := by decide +kernel
theorem dX9_lineOf_26 : decode cX9_lineOf 26 = .ok (.iconst 0, 1) := by decide +kernel
theorem dX9_lineOf_27 : decode cX9_lineOf 27 = .ok (.putfield 198, 3) := by decide +kernel
theorem dX9_lineOf_30 : decode cX9_lineOf 30 = .ok (.iload_n 2, 1) := by decide +kernel
theorem dX9_lineOf_31 : decode cX9_lineOf 31 = .ok (.iconst 2, 1) := by decide +kernel
theorem dX9_lineOf_32 : decode cX9_lineOf 32 = .ok (.if_icmp .ne 65, 3) := by decide +kernel
theorem dX9_lineOf_35 : decode cX9_lineOf 35 = .ok (.iconst 0, 1) := by decide +kernel
theorem dX9_lineOf_36 : decode cX9_lineOf 36 = .ok (.istore 4, 2) := by decide +kernel
theorem dX9_lineOf_38 : decode cX9_lineOf 38 = .ok (.iload 4, 2) := by decide +kernel
theorem dX9_lineOf_40 : decode cX9_lineOf 40 = .ok (.aload_n 3, 1) := by decide +kernel
theorem dX9_lineOf_41 : decode cX9_lineOf 41 = .ok (.getfield 191, 3) := by decide +kernel
theorem dX9_lineOf_44 : decode cX9_lineOf 44 = .ok (.if_icmp .ge 48, 3) := by decide +kernel
theorem dX9_lineOf_47 : decode cX9_lineOf 47 = .ok (.aload_n 0, 1) := by decide +kernel
theorem dX9_lineOf_48 : decode cX9_lineOf 48 = .ok (.getfield 86, 3) := by decide +kernel
theorem dX9_lineOf_51 : decode cX9_lineOf 51 = .ok (.aload_n 3, 1) := by decide +kernel
theorem dX9_lineOf_52 : decode cX9_lineOf 52 = .ok (.getfield 220, 3) := by decide +kernel
theorem dX9_lineOf_55 : decode cX9_lineOf 55 = .ok (.aload_n 3, 1) := by decide +kernel
theorem dX9_lineOf_56 : decode cX9_lineOf 56 = .ok (.getfield 271, 3) := by decide +kernel
theorem dX9_lineOf_59 : decode cX9_lineOf 59 = .ok (.iload 4, 2) := by decide +kernel
theorem dX9_lineOf_61 : decode cX9_lineOf 61 = .ok (.iaload, 1) := by decide +kernel
theorem dX9_lineOf_62 : decode cX9_lineOf 62 = .ok (.aaload, 1) := by decide +kernel
theorem dX9_lineOf_63 : decode cX9_lineOf 63 = .ok (.getfield 281, 3) := by decide +kernel
theorem dX9_lineOf_66 : decode cX9_lineOf 66 = .ok (.aload_n 3, 1) := by decide +kernel
theorem dX9_lineOf_67 : decode cX9_lineOf 67 = .ok (.getfield 220, 3) := by decide +kernel
theorem dX9_lineOf_70 : decode cX9_lineOf 70 = .ok (.aload_n 3, 1) := by decide +kernel
theorem dX9_lineOf_71 : decode cX9_lineOf 71 = .ok (.getfield 271, 3) := by decide +kernel
theorem dX9_lineOf_74 : decode cX9_lineOf 74 = .ok (.iload 4, 2) := by decide +kernel
theorem dX9_lineOf_76 : decode cX9_lineOf 76 = .ok (.iaload, 1) := by decide +kernel
theorem dX9_lineOf_77 : decode cX9_lineOf 77 = .ok (.aaload, 1) := by decide +kernel
theorem dX9_lineOf_78 : decode cX9_lineOf 78 = .ok (.getfield 284, 3) := by decide +kernel
theorem dX9_lineOf_81 : decode cX9_lineOf 81 = .ok (.iload 4, 2) := by decide +kernel
theorem dX9_lineOf_83 : decode cX9_lineOf 83 = .ok (.invokevirtual 287, 3) := by decide +kernel
theorem dX9_lineOf_86 : decode cX9_lineOf 86 = .ok (.iinc 4 1, 3) := by decide +kernel
theorem dX9_lineOf_89 : decode cX9_lineOf 89 = .ok (.goto (-51), 3) := by decide +kernel
theorem dX9_lineOf_92 : decode cX9_lineOf 92 = .ok (.aload_n 0, 1) := by decide +kernel
theorem dX9_lineOf_93 : decode cX9_lineOf 93 = .ok (.getfield 86, 3) := by decide +kernel
theorem dX9_lineOf_96 : decode cX9_lineOf 96 = .ok (.areturn, 1) := by decide +kernel
theorem dX9_lineOf_97 : decode cX9_lineOf 97 = .ok (.aload_n 0, 1) := by decide +kernel
theorem dX9_lineOf_98 : decode cX9_lineOf 98 = .ok (.getfield 18, 3) := by decide +kernel
theorem dX9_lineOf_101 : decode cX9_lineOf 101 = .ok (.aload_n 3, 1) := by decide +kernel
theorem dX9_lineOf_102 : decode cX9_lineOf 102 = .ok (.getfield 147, 3) := by decide +kernel
theorem dX9_lineOf_105 : decode cX9_lineOf 105 = .ok (.aaload, 1) := by decide +kernel
theorem dX9_lineOf_106 : decode cX9_lineOf 106 = .ok (.astore 4, 2) := by decide +kernel
theorem dX9_lineOf_108 : decode cX9_lineOf 108 = .ok (.aload_n 3, 1) := by decide +kernel
theorem dX9_lineOf_109 : decode cX9_lineOf 109 = .ok (.aload 4, 2) := by decide +kernel
theorem dX9_lineOf_111 : decode cX9_lineOf 111 = .ok (.getfield 291, 3) := by decide +kernel
theorem dX9_lineOf_114 : decode cX9_lineOf 114 = .ok (.aload 4, 2) := by decide +kernel
theorem dX9_lineOf_116 : decode cX9_lineOf 116 = .ok (.getfield 294, 3) := by decide +kernel
theorem dX9_lineOf_119 : decode cX9_lineOf 119 = .ok (.aload_n 0, 1) := by decide +kernel
theorem dX9_lineOf_120 : decode cX9_lineOf 120 = .ok (.getfield 90, 3) := by decide +kernel
theorem dX9_lineOf_123 : decode cX9_lineOf 123 = .ok (.invokevirtual 274, 3) := by decide +kernel
theorem dX9_lineOf_126 : decode cX9_lineOf 126 = .ok (.istore 5, 2) := by decide +kernel
theorem dX9_lineOf_128 : decode cX9_lineOf 128 = .ok (.iconst 0, 1) := by decide +kernel
theorem dX9_lineOf_129 : decode cX9_lineOf 129 = .ok (.istore 6, 2) := by decide +kernel
theorem dX9_lineOf_131 : decode cX9_lineOf 131 = .ok (.iload 6, 2) := by decide +kernel
theorem dX9_lineOf_133 : decode cX9_lineOf 133 = .ok (.iload 5, 2) := by decide +kernel
theorem dX9_lineOf_135 : decode cX9_lineOf 135 = .ok (.if_icmp .ge 48, 3) := by decide +kernel
theorem dX9_lineOf_138 : decode cX9_lineOf 138 = .ok (.aload_n 0, 1) := by decide +kernel
theorem dX9_lineOf_139 : decode cX9_lineOf 139 = .ok (.getfield 86, 3) := by decide +kernel
theorem dX9_lineOf_142 : decode cX9_lineOf 142 = .ok (.aload_n 3, 1) := by decide +kernel
theorem dX9_lineOf_143 : decode cX9_lineOf 143 = .ok (.getfield 220, 3) := by decide +kernel
theorem dX9_lineOf_146 : decode cX9_lineOf 146 = .ok (.aload_n 0, 1) := by decide +kernel
theorem dX9_lineOf_147 : decode cX9_lineOf 147 = .ok (.getfield 90, 3) := by decide +kernel
theorem dX9_lineOf_150 : decode cX9_lineOf 150 = .ok (.iload 6, 2) := by decide +kernel
theorem dX9_lineOf_152 : decode cX9_lineOf 152 = .ok (.iaload, 1) := by decide +kernel
theorem dX9_lineOf_153 : decode cX9_lineOf 153 = .ok (.aaload, 1) := by decide +kernel
theorem dX9_lineOf_154 : decode cX9_lineOf 154 = .ok (.getfield 297, 3) := by decide +kernel
theorem dX9_lineOf_157 : decode cX9_lineOf 157 = .ok (.aload_n 3, 1) := by decide +kernel
theorem dX9_lineOf_158 : decode cX9_lineOf 158 = .ok (.getfield 220, 3) := by decide +kernel
theorem dX9_lineOf_161 : decode cX9_lineOf 161 = .ok (.aload_n 0, 1) := by decide +kernel
theorem dX9_lineOf_162 : decode cX9_lineOf 162 = .ok (.getfield 90, 3) := by decide +kernel
theorem dX9_lineOf_165 : decode cX9_lineOf 165 = .ok (.iload 6, 2) := by decide +kernel
theorem dX9_lineOf_167 : decode cX9_lineOf 167 = .ok (.iaload, 1) := by decide +kernel
theorem dX9_lineOf_168 : decode cX9_lineOf 168 = .ok (.aaload, 1) := by decide +kernel
theorem dX9_lineOf_169 : decode cX9_lineOf 169 = .ok (.getfield 300, 3) := by decide +kernel
theorem dX9_lineOf_172 : decode cX9_lineOf 172 = .ok (.iload 6, 2) := by decide +kernel
theorem dX9_lineOf_174 : decode cX9_lineOf 174 = .ok (.invokevirtual 287, 3) := by decide +kernel
theorem dX9_lineOf_177 : decode cX9_lineOf 177 = .ok (.iinc 6 1, 3) := by decide +kernel
theorem dX9_lineOf_180 : decode cX9_lineOf 180 = .ok (.goto (-49), 3) := by decide +kernel
theorem dX9_lineOf_183 : decode cX9_lineOf 183 = .ok (.aload_n 0, 1) := by decide +kernel
theorem dX9_lineOf_184 : decode cX9_lineOf 184 = .ok (.getfield 86, 3) := by decide +kernel
theorem dX9_lineOf_187 : decode cX9_lineOf 187 = .ok (.areturn, 1) := by decide +kernel
theorem dX9_putLine_0 : decode cX9_putLine 0 = .ok (.aload_n 1, 1) := by decide +kernel
theorem dX9_putLine_1 : decode cX9_putLine 1 = .ok (.getfield 153, 3) := by decide +kernel
theorem dX9_putLine_4 : decode cX9_putLine 4 = .ok (.ifCond .ne 50, 3) := by decide +kernel
theorem dX9_putLine_7 : decode cX9_putLine 7 = .ok (.aload_n 1, 1) := by decide +kernel
theorem dX9_putLine_8 : decode cX9_putLine 8 = .ok (.getfield 303, 3) := by decide +kernel
theorem dX9_putLine_11 : decode cX9_putLine 11 = .ok (.iconst 0, 1) := by decide +kernel
theorem dX9_putLine_12 : decode cX9_putLine 12 = .ok (.putfield 198, 3) := by decide +kernel
theorem dX9_putLine_15 : decode cX9_putLine 15 = .ok (.iconst 0, 1) := by decide +kernel
theorem dX9_putLine_16 : decode cX9_putLine 16 = .ok (.istore_n 2, 1) := by decide +kernel
theorem dX9_putLine_17 : decode cX9_putLine 17 = .ok (.iload_n 2, 1) := by decide +kernel
theorem dX9_putLine_18 : decode cX9_putLine 18 = .ok (.aload_n 1, 1) := by decide +kernel
theorem dX9_putLine_19 : decode cX9_putLine 19 = .ok (.getfield 180, 3) := by decide +kernel
theorem dX9_putLine_22 : decode cX9_putLine 22 = .ok (.if_icmp .ge 27, 3) := by decide +kernel
theorem dX9_putLine_25 : decode cX9_putLine 25 = .ok (.aload_n 0, 1) := by decide +kernel
theorem dX9_putLine_26 : decode cX9_putLine 26 = .ok (.getfield 79, 3) := by decide +kernel
theorem dX9_putLine_29 : decode cX9_putLine 29 = .ok (.aload_n 1, 1) := by decide +kernel
theorem dX9_putLine_30 : decode cX9_putLine 30 = .ok (.getfield 220, 3) := by decide +kernel
theorem dX9_putLine_33 : decode cX9_putLine 33 = .ok (.iload_n 2, 1) := by decide +kernel
theorem dX9_putLine_34 : decode cX9_putLine 34 = .ok (.aaload, 1) := by decide +kernel
theorem dX9_putLine_35 : decode cX9_putLine 35 = .ok (.iload_n 2, 1) := by decide +kernel
theorem dX9_putLine_36 : decode cX9_putLine 36 = .ok (.aload_n 1, 1) := by decide +kernel
theorem dX9_putLine_37 : decode cX9_putLine 37 = .ok (.getfield 303, 3) := by decide +kernel
theorem dX9_putLine_40 : decode cX9_putLine 40 = .ok (.invokevirtual 306, 3) := by decide +kernel
theorem dX9_putLine_43 : decode cX9_putLine 43 = .ok (.iinc 2 1, 3) := by decide +kernel
theorem dX9_putLine_46 : decode cX9_putLine 46 = .ok (.goto (-29), 3) := by decide +kernel
theorem dX9_putLine_49 : decode cX9_putLine 49 = .ok (.aload_n 1, 1) := by decide +kernel
theorem dX9_putLine_50 : decode cX9_putLine 50 = .ok (.iconst 1, 1) := by decide +kernel
theorem dX9_putLine_51 : decode cX9_putLine 51 = .ok (.putfield 153, 3) := by decide +kernel
theorem dX9_putLine_54 : decode cX9_putLine 54 = .ok (.aload_n 1, 1) := by decide +kernel
theorem dX9_putLine_55 : decode cX9_putLine 55 = .ok (.getfield 303, 3) := by decide +kernel
theorem dX9_putLine_58 : decode cX9_putLine 58 = .ok (.areturn, 1) := by decide +kernel
theorem dX9_sameFamily_0 : decode cX9_sameFamily 0 = .ok (.aload_n 0, 1) := by decide +kernel
theorem dX9_sameFamily_1 : decode cX9_sameFamily 1 = .ok (.bipush 16, 2) := by decide +kernel
theorem dX9_sameFamily_3 : decode cX9_sameFamily 3 = .ok (.iconst 0, 1) := by decide +kernel
theorem dX9_sameFamily_4 : decode cX9_sameFamily 4 = .ok (.invokevirtual 217, 3) := by decide +kernel
theorem dX9_sameFamily_7 : decode cX9_sameFamily 7 = .ok (.istore_n 2, 1) := by decide +kernel
theorem dX9_sameFamily_8 : decode cX9_sameFamily 8 = .ok (.aload_n 1, 1) := by decide +kernel
theorem dX9_sameFamily_9 : decode cX9_sameFamily 9 = .ok (.bipush 16, 2) := by decide +kernel
theorem dX9_sameFamily_11 : decode cX9_sameFamily 11 = .ok (.iconst 0, 1) := by decide +kernel
theorem dX9_sameFamily_12 : decode cX9_sameFamily 12 = .ok (.invokevirtual 217, 3) := by decide +kernel
theorem dX9_sameFamily_15 : decode cX9_sameFamily 15 = .ok (.istore_n 3, 1) := by decide +kernel
theorem dX9_sameFamily_16 : decode cX9_sameFamily 16 = .ok (.iconst 0, 1) := by decide +kernel
theorem dX9_sameFamily_17 : decode cX9_sameFamily 17 = .ok (.istore 4, 2) := by decide +kernel
theorem dX9_sameFamily_19 : decode cX9_sameFamily 19 = .ok (.iload 4, 2) := by decide +kernel
theorem dX9_sameFamily_21 : decode cX9_sameFamily 21 = .ok (.bipush 8, 2) := by decide +kernel
theorem dX9_sameFamily_23 : decode cX9_sameFamily 23 = .ok (.if_icmp .ge 59, 3) := by decide +kernel
theorem dX9_sameFamily_26 : decode cX9_sameFamily 26 = .ok (.iload_n 2, 1) := by decide +kernel
theorem dX9_sameFamily_27 : decode cX9_sameFamily 27 = .ok (.iconst (-1), 1) := by decide +kernel
theorem dX9_sameFamily_28 : decode cX9_sameFamily 28 = .ok (.if_icmp .eq 54, 3) := by decide +kernel
theorem dX9_sameFamily_31 : decode cX9_sameFamily 31 = .ok (.iload_n 3, 1) := by decide +kernel
theorem dX9_sameFamily_32 : decode cX9_sameFamily 32 = .ok (.iconst (-1), 1) := by decide +kernel
theorem dX9_sameFamily_33 : decode cX9_sameFamily 33 = .ok (.if_icmp .eq 49, 3) := by decide +kernel
theorem dX9_sameFamily_36 : decode cX9_sameFamily 36 = .ok (.aload_n 0, 1) := by decide +kernel
theorem dX9_sameFamily_37 : decode cX9_sameFamily 37 = .ok (.getfield 220, 3) := by decide +kernel
theorem dX9_sameFamily_40 : decode cX9_sameFamily 40 = .ok (.iload_n 2, 1) := by decide +kernel
theorem dX9_sameFamily_41 : decode cX9_sameFamily 41 = .ok (.aaload, 1) := by decide +kernel
theorem dX9_sameFamily_42 : decode cX9_sameFamily 42 = .ok (.aload_n 1, 1) := by decide +kernel
theorem dX9_sameFamily_43 : decode cX9_sameFamily 43 = .ok (.getfield 220, 3) := by decide +kernel
theorem dX9_sameFamily_46 : decode cX9_sameFamily 46 = .ok (.iload_n 3, 1) := by decide +kernel
theorem dX9_sameFamily_47 : decode cX9_sameFamily 47 = .ok (.aaload, 1) := by decide +kernel
theorem dX9_sameFamily_48 : decode cX9_sameFamily 48 = .ok (.invokevirtual 310, 3) := by decide +kernel
theorem dX9_sameFamily_51 : decode cX9_sameFamily 51 = .ok (.ifCond .ne 5, 3) := by decide +kernel
theorem dX9_sameFamily_54 : decode cX9_sameFamily 54 = .ok (.iconst 0, 1) := by decide +kernel
theorem dX9_sameFamily_55 : decode cX9_sameFamily 55 = .ok (.ireturn, 1) := by decide +kernel
theorem dX9_sameFamily_56 : decode cX9_sameFamily 56 = .ok (.aload_n 0, 1) := by decide +kernel
theorem dX9_sameFamily_57 : decode cX9_sameFamily 57 = .ok (.bipush 16, 2) := by decide +kernel
theorem dX9_sameFamily_59 : decode cX9_sameFamily 59 = .ok (.iload_n 2, 1) := by decide +kernel
theorem dX9_sameFamily_60 : decode cX9_sameFamily 60 = .ok (.iconst 1, 1) := by decide +kernel
theorem dX9_sameFamily_61 : decode cX9_sameFamily 61 = .ok (.iadd, 1) := by decide +kernel
theorem dX9_sameFamily_62 : decode cX9_sameFamily 62 = .ok (.invokevirtual 217, 3) := by decide +kernel
theorem dX9_sameFamily_65 : decode cX9_sameFamily 65 = .ok (.istore_n 2, 1) := by decide +kernel
theorem dX9_sameFamily_66 : decode cX9_sameFamily 66 = .ok (.aload_n 1, 1) := by decide +kernel
theorem dX9_sameFamily_67 : decode cX9_sameFamily 67 = .ok (.bipush 16, 2) := by decide +kernel
theorem dX9_sameFamily_69 : decode cX9_sameFamily 69 = .ok (.iload_n 3, 1) := by decide +kernel
theorem dX9_sameFamily_70 : decode cX9_sameFamily 70 = .ok (.iconst 1, 1) := by decide +kernel
theorem dX9_sameFamily_71 : decode cX9_sameFamily 71 = .ok (.iadd, 1) := by decide +kernel
theorem dX9_sameFamily_72 : decode cX9_sameFamily 72 = .ok (.invokevirtual 217, 3) := by decide +kernel
theorem dX9_sameFamily_75 : decode cX9_sameFamily 75 = .ok (.istore_n 3, 1) := by decide +kernel
theorem dX9_sameFamily_76 : decode cX9_sameFamily 76 = .ok (.iinc 4 1, 3) := by decide +kernel
theorem dX9_sameFamily_79 : decode cX9_sameFamily 79 = .ok (.goto (-60), 3) := by decide +kernel
theorem dX9_sameFamily_82 : decode cX9_sameFamily 82 = .ok (.iload_n 2, 1) := by decide +kernel
theorem dX9_sameFamily_83 : decode cX9_sameFamily 83 = .ok (.iconst (-1), 1) := by decide +kernel
theorem dX9_sameFamily_84 : decode cX9_sameFamily 84 = .ok (.if_icmp .ne 12, 3) := by decide +kernel
theorem dX9_sameFamily_87 : decode cX9_sameFamily 87 = .ok (.iload_n 3, 1) := by decide +kernel
theorem dX9_sameFamily_88 : decode cX9_sameFamily 88 = .ok (.iconst (-1), 1) := by decide +kernel
theorem dX9_sameFamily_89 : decode cX9_sameFamily 89 = .ok (.if_icmp .ne 7, 3) := by decide +kernel
theorem dX9_sameFamily_92 : decode cX9_sameFamily 92 = .ok (.iconst 1, 1) := by decide +kernel
theorem dX9_sameFamily_93 : decode cX9_sameFamily 93 = .ok (.goto 4, 3) := by decide +kernel
theorem dX9_sameFamily_96 : decode cX9_sameFamily 96 = .ok (.iconst 0, 1) := by decide +kernel
theorem dX9_sameFamily_97 : decode cX9_sameFamily 97 = .ok (.ireturn, 1) := by decide +kernel
theorem dX9_fittingGiven_0 : decode cX9_fittingGiven 0 = .ok (.bipush 66, 2) := by decide +kernel
theorem dX9_fittingGiven_2 : decode cX9_fittingGiven 2 = .ok (.istore_n 2, 1) := by decide +kernel
theorem dX9_fittingGiven_3 : decode cX9_fittingGiven 3 = .ok (.aload_n 0, 1) := by decide +kernel
theorem dX9_fittingGiven_4 : decode cX9_fittingGiven 4 = .ok (.iload_n 2, 1) := by decide +kernel
theorem dX9_fittingGiven_5 : decode cX9_fittingGiven 5 = .ok (.iconst 0, 1) := by decide +kernel
theorem dX9_fittingGiven_6 : decode cX9_fittingGiven 6 = .ok (.invokevirtual 217, 3) := by decide +kernel
theorem dX9_fittingGiven_9 : decode cX9_fittingGiven 9 = .ok (.istore_n 3, 1) := by decide +kernel
theorem dX9_fittingGiven_10 : decode cX9_fittingGiven 10 = .ok (.aload_n 1, 1) := by decide +kernel
theorem dX9_fittingGiven_11 : decode cX9_fittingGiven 11 = .ok (.iload_n 2, 1) := by decide +kernel
theorem dX9_fittingGiven_12 : decode cX9_fittingGiven 12 = .ok (.iconst 0, 1) := by decide +kernel
theorem dX9_fittingGiven_13 : decode cX9_fittingGiven 13 = .ok (.invokevirtual 217, 3) := by decide +kernel
theorem dX9_fittingGiven_16 : decode cX9_fittingGiven 16 = .ok (.istore 4, 2) := by decide +kernel
theorem dX9_fittingGiven_18 : decode cX9_fittingGiven 18 = .ok (.iconst 0, 1) := by decide +kernel
theorem dX9_fittingGiven_19 : decode cX9_fittingGiven 19 = .ok (.istore 5, 2) := by decide +kernel
theorem dX9_fittingGiven_21 : decode cX9_fittingGiven 21 = .ok (.iload 5, 2) := by decide +kernel
theorem dX9_fittingGiven_23 : decode cX9_fittingGiven 23 = .ok (.bipush 8, 2) := by decide +kernel
theorem dX9_fittingGiven_25 : decode cX9_fittingGiven 25 = .ok (.if_icmp .ge 61, 3) := by decide +kernel
theorem dX9_fittingGiven_28 : decode cX9_fittingGiven 28 = .ok (.iload_n 3, 1) := by decide +kernel
theorem dX9_fittingGiven_29 : decode cX9_fittingGiven 29 = .ok (.iconst (-1), 1) := by decide +kernel
theorem dX9_fittingGiven_30 : decode cX9_fittingGiven 30 = .ok (.if_icmp .eq 56, 3) := by decide +kernel
theorem dX9_fittingGiven_33 : decode cX9_fittingGiven 33 = .ok (.iload 4, 2) := by decide +kernel
theorem dX9_fittingGiven_35 : decode cX9_fittingGiven 35 = .ok (.iconst (-1), 1) := by decide +kernel
theorem dX9_fittingGiven_36 : decode cX9_fittingGiven 36 = .ok (.if_icmp .eq 50, 3) := by decide +kernel
theorem dX9_fittingGiven_39 : decode cX9_fittingGiven 39 = .ok (.aload_n 0, 1) := by decide +kernel
theorem dX9_fittingGiven_40 : decode cX9_fittingGiven 40 = .ok (.getfield 220, 3) := by decide +kernel
theorem dX9_fittingGiven_43 : decode cX9_fittingGiven 43 = .ok (.iload_n 3, 1) := by decide +kernel
theorem dX9_fittingGiven_44 : decode cX9_fittingGiven 44 = .ok (.aaload, 1) := by decide +kernel
theorem dX9_fittingGiven_45 : decode cX9_fittingGiven 45 = .ok (.aload_n 1, 1) := by decide +kernel
theorem dX9_fittingGiven_46 : decode cX9_fittingGiven 46 = .ok (.getfield 220, 3) := by decide +kernel
theorem dX9_fittingGiven_49 : decode cX9_fittingGiven 49 = .ok (.iload 4, 2) := by decide +kernel
theorem dX9_fittingGiven_51 : decode cX9_fittingGiven 51 = .ok (.aaload, 1) := by decide +kernel
theorem dX9_fittingGiven_52 : decode cX9_fittingGiven 52 = .ok (.invokevirtual 313, 3) := by decide +kernel
theorem dX9_fittingGiven_55 : decode cX9_fittingGiven 55 = .ok (.ifCond .ne 5, 3) := by decide +kernel
theorem dX9_fittingGiven_58 : decode cX9_fittingGiven 58 = .ok (.iconst 0, 1) := by decide +kernel
theorem dX9_fittingGiven_59 : decode cX9_fittingGiven 59 = .ok (.ireturn, 1) := by decide +kernel
theorem dX9_fittingGiven_60 : decode cX9_fittingGiven 60 = .ok (.aload_n 0, 1) := by decide +kernel
theorem dX9_fittingGiven_61 : decode cX9_fittingGiven 61 = .ok (.iload_n 2, 1) := by decide +kernel
theorem dX9_fittingGiven_62 : decode cX9_fittingGiven 62 = .ok (.iload_n 3, 1) := by decide +kernel
theorem dX9_fittingGiven_63 : decode cX9_fittingGiven 63 = .ok (.iconst 1, 1) := by decide +kernel
theorem dX9_fittingGiven_64 : decode cX9_fittingGiven 64 = .ok (.iadd, 1) := by decide +kernel
theorem dX9_fittingGiven_65 : decode cX9_fittingGiven 65 = .ok (.invokevirtual 217, 3) := by decide +kernel
theorem dX9_fittingGiven_68 : decode cX9_fittingGiven 68 = .ok (.istore_n 3, 1) := by decide +kernel
theorem dX9_fittingGiven_69 : decode cX9_fittingGiven 69 = .ok (.aload_n 1, 1) := by decide +kernel
theorem dX9_fittingGiven_70 : decode cX9_fittingGiven 70 = .ok (.iload_n 2, 1) := by decide +kernel
theorem dX9_fittingGiven_71 : decode cX9_fittingGiven 71 = .ok (.iload 4, 2) := by decide +kernel
theorem dX9_fittingGiven_73 : decode cX9_fittingGiven 73 = .ok (.iconst 1, 1) := by decide +kernel
theorem dX9_fittingGiven_74 : decode cX9_fittingGiven 74 = .ok (.iadd, 1) := by decide +kernel
theorem dX9_fittingGiven_75 : decode cX9_fittingGiven 75 = .ok (.invokevirtual 217, 3) := by decide +kernel
theorem dX9_fittingGiven_78 : decode cX9_fittingGiven 78 = .ok (.istore 4, 2) := by decide +kernel
theorem dX9_fittingGiven_80 : decode cX9_fittingGiven 80 = .ok (.iinc 5 1, 3) := by decide +kernel
theorem dX9_fittingGiven_83 : decode cX9_fittingGiven 83 = .ok (.goto (-62), 3) := by decide +kernel
theorem dX9_fittingGiven_86 : decode cX9_fittingGiven 86 = .ok (.iconst 1, 1) := by decide +kernel
theorem dX9_fittingGiven_87 : decode cX9_fittingGiven 87 = .ok (.ireturn, 1) := by decide +kernel
theorem dX9_isSmall_0 : decode cX9_isSmall 0 = .ok (.iload_n 0, 1) := by decide +kernel
theorem dX9_isSmall_1 : decode cX9_isSmall 1 = .ok (.bipush 97, 2) := by decide +kernel
theorem dX9_isSmall_3 : decode cX9_isSmall 3 = .ok (.if_icmp .lt 13, 3) := by decide +kernel
theorem dX9_isSmall_6 : decode cX9_isSmall 6 = .ok (.iload_n 0, 1) := by decide +kernel
theorem dX9_isSmall_7 : decode cX9_isSmall 7 = .ok (.bipush 122, 2) := by decide +kernel
theorem dX9_isSmall_9 : decode cX9_isSmall 9 = .ok (.if_icmp .gt 7, 3) := by decide +kernel
theorem dX9_isSmall_12 : decode cX9_isSmall 12 = .ok (.iconst 1, 1) := by decide +kernel
theorem dX9_isSmall_13 : decode cX9_isSmall 13 = .ok (.goto 4, 3) := by decide +kernel
theorem dX9_isSmall_16 : decode cX9_isSmall 16 = .ok (.iconst 0, 1) := by decide +kernel
theorem dX9_isSmall_17 : decode cX9_isSmall 17 = .ok (.ireturn, 1) := by decide +kernel
theorem dX9_isBig_0 : decode cX9_isBig 0 = .ok (.iload_n 0, 1) := by decide +kernel
theorem dX9_isBig_1 : decode cX9_isBig 1 = .ok (.bipush 65, 2) := by decide +kernel
theorem dX9_isBig_3 : decode cX9_isBig 3 = .ok (.if_icmp .lt 13, 3) := by decide +kernel
theorem dX9_isBig_6 : decode cX9_isBig 6 = .ok (.iload_n 0, 1) := by decide +kernel
theorem dX9_isBig_7 : decode cX9_isBig 7 = .ok (.bipush 90, 2) := by decide +kernel
theorem dX9_isBig_9 : decode cX9_isBig 9 = .ok (.if_icmp .gt 7, 3) := by decide +kernel
theorem dX9_isBig_12 : decode cX9_isBig 12 = .ok (.iconst 1, 1) := by decide +kernel
theorem dX9_isBig_13 : decode cX9_isBig 13 = .ok (.goto 4, 3) := by decide +kernel
theorem dX9_isBig_16 : decode cX9_isBig 16 = .ok (.iconst 0, 1) := by decide +kernel
theorem dX9_isBig_17 : decode cX9_isBig 17 = .ok (.ireturn, 1) := by decide +kernel
theorem dX10_init_0 : decode cX10_init 0 = .ok (.aload_n 0, 1) := by decide +kernel
theorem dX10_init_1 : decode cX10_init 1 = .ok (.invokespecial 1, 3) := by decide +kernel
theorem dX10_init_4 : decode cX10_init 4 = .ok (.aload_n 0, 1) := by decide +kernel
theorem dX10_init_5 : decode cX10_init 5 = .ok (.sipush 400, 3) := by decide +kernel
theorem dX10_init_8 : decode cX10_init 8 = .ok (.newarray .int, 2) := by decide +kernel
theorem dX10_init_10 : decode cX10_init 10 = .ok (.putfield 7, 3) := by decide +kernel
theorem dX10_init_13 : decode cX10_init 13 = .ok (.aload_n 0, 1) := by decide +kernel
theorem dX10_init_14 : decode cX10_init 14 = .ok (.bipush 80, 2) := by decide +kernel
theorem dX10_init_16 : decode cX10_init 16 = .ok (.newarray .int, 2) := by decide +kernel
theorem dX10_init_18 : decode cX10_init 18 = .ok (.putfield 13, 3) := by decide +kernel
theorem dX10_init_21 : decode cX10_init 21 = .ok (.aload_n 0, 1) := by decide +kernel
theorem dX10_init_22 : decode cX10_init 22 = .ok (.bipush 80, 2) := by decide +kernel
theorem dX10_init_24 : decode cX10_init 24 = .ok (.newarray .int, 2) := by decide +kernel
theorem dX10_init_26 : decode cX10_init 26 = .ok (.putfield 16, 3) := by decide +kernel
theorem dX10_init_29 : decode cX10_init 29 = .ok (.aload_n 0, 1) := by decide +kernel
theorem dX10_init_30 : decode cX10_init 30 = .ok (.bipush 80, 2) := by decide +kernel
theorem dX10_init_32 : decode cX10_init 32 = .ok (.newarray .int, 2) := by decide +kernel
theorem dX10_init_34 : decode cX10_init 34 = .ok (.putfield 19, 3) := by decide +kernel
theorem dX10_init_37 : decode cX10_init 37 = .ok (.aload_n 0, 1) := by decide +kernel
theorem dX10_init_38 : decode cX10_init 38 = .ok (.sipush 1680, 3) := by decide +kernel
theorem dX10_init_41 : decode cX10_init 41 = .ok (.newarray .int, 2) := by decide +kernel
theorem dX10_init_43 : decode cX10_init 43 = .ok (.putfield 22, 3) := by decide +kernel
theorem dX10_init_46 : decode cX10_init 46 = .ok (.aload_n 0, 1) := by decide +kernel
theorem dX10_init_47 : decode cX10_init 47 = .ok (.bipush 6, 2) := by decide +kernel
theorem dX10_init_49 : decode cX10_init 49 = .ok (.newarray .boolean, 2) := by decide +kernel
theorem dX10_init_51 : decode cX10_init 51 = .ok (.putfield 25, 3) := by decide +kernel
theorem dX10_init_54 : decode cX10_init 54 = .ok (.aload_n 0, 1) := by decide +kernel
theorem dX10_init_55 : decode cX10_init 55 = .ok (.bipush 6, 2) := by decide +kernel
theorem dX10_init_57 : decode cX10_init 57 = .ok (.newarray .int, 2) := by decide +kernel
theorem dX10_init_59 : decode cX10_init 59 = .ok (.putfield 29, 3) := by decide +kernel
theorem dX10_init_62 : decode cX10_init 62 = .ok (.aload_n 0, 1) := by decide +kernel
theorem dX10_init_63 : decode cX10_init 63 = .ok (.bipush 48, 2) := by decide +kernel
theorem dX10_init_65 : decode cX10_init 65 = .ok (.newarray .int, 2) := by decide +kernel
theorem dX10_init_67 : decode cX10_init 67 = .ok (.putfield 32, 3) := by decide +kernel
theorem dX10_init_70 : decode cX10_init 70 = .ok (.aload_n 0, 1) := by decide +kernel
theorem dX10_init_71 : decode cX10_init 71 = .ok (.bipush 48, 2) := by decide +kernel
theorem dX10_init_73 : decode cX10_init 73 = .ok (.newarray .int, 2) := by decide +kernel
theorem dX10_init_75 : decode cX10_init 75 = .ok (.putfield 35, 3) := by decide +kernel
theorem dX10_init_78 : decode cX10_init 78 = .ok (.aload_n 0, 1) := by decide +kernel
theorem dX10_init_79 : decode cX10_init 79 = .ok (.bipush 6, 2) := by decide +kernel
theorem dX10_init_81 : decode cX10_init 81 = .ok (.newarray .int, 2) := by decide +kernel
theorem dX10_init_83 : decode cX10_init 83 = .ok (.putfield 38, 3) := by decide +kernel
theorem dX10_init_86 : decode cX10_init 86 = .ok (.aload_n 0, 1) := by decide +kernel
theorem dX10_init_87 : decode cX10_init 87 = .ok (.bipush 42, 2) := by decide +kernel
theorem dX10_init_89 : decode cX10_init 89 = .ok (.newarray .int, 2) := by decide +kernel
theorem dX10_init_91 : decode cX10_init 91 = .ok (.putfield 41, 3) := by decide +kernel
theorem dX10_init_94 : decode cX10_init 94 = .ok (.aload_n 0, 1) := by decide +kernel
theorem dX10_init_95 : decode cX10_init 95 = .ok (.bipush 6, 2) := by decide +kernel
theorem dX10_init_97 : decode cX10_init 97 = .ok (.newarray .int, 2) := by decide +kernel
theorem dX10_init_99 : decode cX10_init 99 = .ok (.putfield 44, 3) := by decide +kernel
theorem dX10_init_102 : decode cX10_init 102 = .ok (.aload_n 0, 1) := by decide +kernel
theorem dX10_init_103 : decode cX10_init 103 = .ok (.bipush 42, 2) := by decide +kernel
theorem dX10_init_105 : decode cX10_init 105 = .ok (.newarray .int, 2) := by decide +kernel
theorem dX10_init_107 : decode cX10_init 107 = .ok (.putfield 47, 3) := by decide +kernel
theorem dX10_init_110 : decode cX10_init 110 = .ok (.aload_n 0, 1) := by decide +kernel
theorem dX10_init_111 : decode cX10_init 111 = .ok (.bipush 6, 2) := by decide +kernel
theorem dX10_init_113 : decode cX10_init 113 = .ok (.newarray .int, 2) := by decide +kernel
theorem dX10_init_115 : decode cX10_init 115 = .ok (.putfield 50, 3) := by decide +kernel
theorem dX10_init_118 : decode cX10_init 118 = .ok (.aload_n 0, 1) := by decide +kernel
theorem dX10_init_119 : decode cX10_init 119 = .ok (.bipush 36, 2) := by decide +kernel
theorem dX10_init_121 : decode cX10_init 121 = .ok (.newarray .int, 2) := by decide +kernel
theorem dX10_init_123 : decode cX10_init 123 = .ok (.putfield 53, 3) := by decide +kernel
theorem dX10_init_126 : decode cX10_init 126 = .ok (.aload_n 0, 1) := by decide +kernel
theorem dX10_init_127 : decode cX10_init 127 = .ok (.iconst (-1), 1) := by decide +kernel
theorem dX10_init_128 : decode cX10_init 128 = .ok (.putfield 56, 3) := by decide +kernel
theorem dX10_init_131 : decode cX10_init 131 = .ok (.aload_n 0, 1) := by decide +kernel
theorem dX10_init_132 : decode cX10_init 132 = .ok (.bipush 30, 2) := by decide +kernel
theorem dX10_init_134 : decode cX10_init 134 = .ok (.newarray .int, 2) := by decide +kernel
theorem dX10_init_136 : decode cX10_init 136 = .ok (.putfield 60, 3) := by decide +kernel
theorem dX10_init_139 : decode cX10_init 139 = .ok (.aload_n 0, 1) := by decide +kernel
theorem dX10_init_140 : decode cX10_init 140 = .ok (.bipush 30, 2) := by decide +kernel
theorem dX10_init_142 : decode cX10_init 142 = .ok (.newarray .int, 2) := by decide +kernel
theorem dX10_init_144 : decode cX10_init 144 = .ok (.putfield 63, 3) := by decide +kernel
theorem dX10_init_147 : decode cX10_init 147 = .ok (.aload_n 0, 1) := by decide +kernel
theorem dX10_init_148 : decode cX10_init 148 = .ok (.sipush 5040, 3) := by decide +kernel
theorem dX10_init_151 : decode cX10_init 151 = .ok (.newarray .int, 2) := by decide +kernel
theorem dX10_init_153 : decode cX10_init 153 = .ok (.putfield 66, 3) := by decide +kernel
theorem dX10_init_156 : decode cX10_init 156 = .ok (.aload_n 0, 1) := by decide +kernel
theorem dX10_init_157 : decode cX10_init 157 = .ok (.sipush 240, 3) := by decide +kernel
theorem dX10_init_160 : decode cX10_init 160 = .ok (.newarray .int, 2) := by decide +kernel
theorem dX10_init_162 : decode cX10_init 162 = .ok (.putfield 69, 3) := by decide +kernel
theorem dX10_init_165 : decode cX10_init 165 = .ok (.aload_n 0, 1) := by decide +kernel
theorem dX10_init_166 : decode cX10_init 166 = .ok (.sipush 5040, 3) := by decide +kernel
theorem dX10_init_169 : decode cX10_init 169 = .ok (.newarray .int, 2) := by decide +kernel
theorem dX10_init_171 : decode cX10_init 171 = .ok (.putfield 72, 3) := by decide +kernel
theorem dX10_init_174 : decode cX10_init 174 = .ok (.aload_n 0, 1) := by decide +kernel
theorem dX10_init_175 : decode cX10_init 175 = .ok (.sipush 240, 3) := by decide +kernel
theorem dX10_init_178 : decode cX10_init 178 = .ok (.newarray .int, 2) := by decide +kernel
theorem dX10_init_180 : decode cX10_init 180 = .ok (.putfield 75, 3) := by decide +kernel
theorem dX10_init_183 : decode cX10_init 183 = .ok (.aload_n 0, 1) := by decide +kernel
theorem dX10_init_184 : decode cX10_init 184 = .ok (.bipush 78, 2) := by decide +kernel
theorem dX10_init_186 : decode cX10_init 186 = .ok (.newarray .int, 2) := by decide +kernel
theorem dX10_init_188 : decode cX10_init 188 = .ok (.putfield 78, 3) := by decide +kernel
theorem dX10_init_191 : decode cX10_init 191 = .ok (.aload_n 0, 1) := by decide +kernel
theorem dX10_init_192 : decode cX10_init 192 = .ok (.bipush 26, 2) := by decide +kernel
theorem dX10_init_194 : decode cX10_init 194 = .ok (.newarray .int, 2) := by decide +kernel
theorem dX10_init_196 : decode cX10_init 196 = .ok (.putfield 81, 3) := by decide +kernel
theorem dX10_init_199 : decode cX10_init 199 = .ok (.aload_n 0, 1) := by decide +kernel
theorem dX10_init_200 : decode cX10_init 200 = .ok (.bipush 8, 2) := by decide +kernel
theorem dX10_init_202 : decode cX10_init 202 = .ok (.newarray .int, 2) := by decide +kernel
theorem dX10_init_204 : decode cX10_init 204 = .ok (.putfield 84, 3) := by decide +kernel
theorem dX10_init_207 : decode cX10_init 207 = .ok (.aload_n 0, 1) := by decide +kernel
theorem dX10_init_208 : decode cX10_init 208 = .ok (.bipush 8, 2) := by decide +kernel
theorem dX10_init_210 : decode cX10_init 210 = .ok (.newarray .int, 2) := by decide +kernel
theorem dX10_init_212 : decode cX10_init 212 = .ok (.putfield 87, 3) := by decide +kernel
theorem dX10_init_215 : decode cX10_init 215 = .ok (.aload_n 0, 1) := by decide +kernel
theorem dX10_init_216 : decode cX10_init 216 = .ok (.bipush 14, 2) := by decide +kernel
theorem dX10_init_218 : decode cX10_init 218 = .ok (.newarray .int, 2) := by decide +kernel
theorem dX10_init_220 : decode cX10_init 220 = .ok (.putfield 90, 3) := by decide +kernel
theorem dX10_init_223 : decode cX10_init 223 = .ok (.aload_n 0, 1) := by decide +kernel
theorem dX10_init_224 : decode cX10_init 224 = .ok (.iconst 2, 1) := by decide +kernel
theorem dX10_init_225 : decode cX10_init 225 = .ok (.newarray .int, 2) := by decide +kernel
theorem dX10_init_227 : decode cX10_init 227 = .ok (.putfield 93, 3) := by decide +kernel
theorem dX10_init_230 : decode cX10_init 230 = .ok (.aload_n 0, 1) := by decide +kernel
theorem dX10_init_231 : decode cX10_init 231 = .ok (.bipush 6, 2) := by decide +kernel
theorem dX10_init_233 : decode cX10_init 233 = .ok (.newarray .int, 2) := by decide +kernel
theorem dX10_init_235 : decode cX10_init 235 = .ok (.putfield 96, 3) := by decide +kernel
theorem dX10_init_238 : decode cX10_init 238 = .ok (.aload_n 0, 1) := by decide +kernel
theorem dX10_init_239 : decode cX10_init 239 = .ok (.bipush 24, 2) := by decide +kernel
theorem dX10_init_241 : decode cX10_init 241 = .ok (.newarray .int, 2) := by decide +kernel
theorem dX10_init_243 : decode cX10_init 243 = .ok (.putfield 99, 3) := by decide +kernel
theorem dX10_init_246 : decode cX10_init 246 = .ok (.aload_n 0, 1) := by decide +kernel
theorem dX10_init_247 : decode cX10_init 247 = .ok (.bipush 56, 2) := by decide +kernel
theorem dX10_init_249 : decode cX10_init 249 = .ok (.newarray .int, 2) := by decide +kernel
theorem dX10_init_251 : decode cX10_init 251 = .ok (.putfield 102, 3) := by decide +kernel
theorem dX10_init_254 : decode cX10_init 254 = .ok (.aload_n 0, 1) := by decide +kernel
theorem dX10_init_255 : decode cX10_init 255 = .ok (.bipush 9, 2) := by decide +kernel
theorem dX10_init_257 : decode cX10_init 257 = .ok (.newarray .int, 2) := by decide +kernel
theorem dX10_init_259 : decode cX10_init 259 = .ok (.putfield 105, 3) := by decide +kernel
theorem dX10_init_262 : decode cX10_init 262 = .ok (.aload_n 0, 1) := by decide +kernel
theorem dX10_init_263 : decode cX10_init 263 = .ok (.sipush 6500, 3) := by decide +kernel
theorem dX10_init_266 : decode cX10_init 266 = .ok (.newarray .int, 2) := by decide +kernel
theorem dX10_init_268 : decode cX10_init 268 = .ok (.putfield 108, 3) := by decide +kernel
theorem dX10_init_271 : decode cX10_init 271 = .ok (.aload_n 0, 1) := by decide +kernel
theorem dX10_init_272 : decode cX10_init 272 = .ok (.sipush 6500, 3) := by decide +kernel
theorem dX10_init_275 : decode cX10_init 275 = .ok (.newarray .int, 2) := by decide +kernel
theorem dX10_init_277 : decode cX10_init 277 = .ok (.putfield 111, 3) := by decide +kernel
theorem dX10_init_280 : decode cX10_init 280 = .ok (.aload_n 0, 1) := by decide +kernel
theorem dX10_init_281 : decode cX10_init 281 = .ok (.sipush 240, 3) := by decide +kernel
theorem dX10_init_284 : decode cX10_init 284 = .ok (.newarray .int, 2) := by decide +kernel
theorem dX10_init_286 : decode cX10_init 286 = .ok (.putfield 114, 3) := by decide +kernel
theorem dX10_init_289 : decode cX10_init 289 = .ok (.aload_n 0, 1) := by decide +kernel
theorem dX10_init_290 : decode cX10_init 290 = .ok (.bipush 30, 2) := by decide +kernel
theorem dX10_init_292 : decode cX10_init 292 = .ok (.newarray .boolean, 2) := by decide +kernel
theorem dX10_init_294 : decode cX10_init 294 = .ok (.putfield 117, 3) := by decide +kernel
theorem dX10_init_297 : decode cX10_init 297 = .ok (.aload_n 0, 1) := by decide +kernel
theorem dX10_init_298 : decode cX10_init 298 = .ok (.sipush 240, 3) := by decide +kernel
theorem dX10_init_301 : decode cX10_init 301 = .ok (.newarray .int, 2) := by decide +kernel
theorem dX10_init_303 : decode cX10_init 303 = .ok (.putfield 120, 3) := by decide +kernel
theorem dX10_init_306 : decode cX10_init 306 = .ok (.aload_n 0, 1) := by decide +kernel
theorem dX10_init_307 : decode cX10_init 307 = .ok (.bipush 30, 2) := by decide +kernel
theorem dX10_init_309 : decode cX10_init 309 = .ok (.newarray .int, 2) := by decide +kernel
theorem dX10_init_311 : decode cX10_init 311 = .ok (.putfield 123, 3) := by decide +kernel
theorem dX10_init_314 : decode cX10_init 314 = .ok (.iconst 0, 1) := by decide +kernel
theorem dX10_init_315 : decode cX10_init 315 = .ok (.istore_n 1, 1) := by decide +kernel
theorem dX10_init_316 : decode cX10_init 316 = .ok (.iload_n 1, 1) := by decide +kernel
theorem dX10_init_317 : decode cX10_init 317 = .ok (.bipush 26, 2) := by decide +kernel
theorem dX10_init_319 : decode cX10_init 319 = .ok (.if_icmp .ge 28, 3) := by decide +kernel
theorem dX10_init_322 : decode cX10_init 322 = .ok (.aload_n 0, 1) := by decide +kernel
theorem dX10_init_323 : decode cX10_init 323 = .ok (.getfield 78, 3) := by decide +kernel
theorem dX10_init_326 : decode cX10_init 326 = .ok (.iconst 3, 1) := by decide +kernel
theorem dX10_init_327 : decode cX10_init 327 = .ok (.iload_n 1, 1) := by decide +kernel
theorem dX10_init_328 : decode cX10_init 328 = .ok (.imul, 1) := by decide +kernel
theorem dX10_init_329 : decode cX10_init 329 = .ok (.bipush 97, 2) := by decide +kernel
theorem dX10_init_331 : decode cX10_init 331 = .ok (.iload_n 1, 1) := by decide +kernel
theorem dX10_init_332 : decode cX10_init 332 = .ok (.iadd, 1) := by decide +kernel
theorem dX10_init_333 : decode cX10_init 333 = .ok (.iastore, 1) := by decide +kernel
theorem dX10_init_334 : decode cX10_init 334 = .ok (.aload_n 0, 1) := by decide +kernel
theorem dX10_init_335 : decode cX10_init 335 = .ok (.getfield 81, 3) := by decide +kernel
theorem dX10_init_338 : decode cX10_init 338 = .ok (.iload_n 1, 1) := by decide +kernel
theorem dX10_init_339 : decode cX10_init 339 = .ok (.iconst 1, 1) := by decide +kernel
theorem dX10_init_340 : decode cX10_init 340 = .ok (.iastore, 1) := by decide +kernel
theorem dX10_init_341 : decode cX10_init 341 = .ok (.iinc 1 1, 3) := by decide +kernel
theorem dX10_init_344 : decode cX10_init 344 = .ok (.goto (-28), 3) := by decide +kernel
theorem dX10_init_347 : decode cX10_init 347 = .ok (.return_, 1) := by decide +kernel
theorem dX10_thrown_0 : decode cX10_thrown 0 = .ok (.aload_n 0, 1) := by decide +kernel
theorem dX10_thrown_1 : decode cX10_thrown 1 = .ok (.getfield 126, 3) := by decide +kernel
theorem dX10_thrown_4 : decode cX10_thrown 4 = .ok (.ireturn, 1) := by decide +kernel
theorem dX10_feed_0 : decode cX10_feed 0 = .ok (.aload_n 0, 1) := by decide +kernel
theorem dX10_feed_1 : decode cX10_feed 1 = .ok (.iconst 0, 1) := by decide +kernel
theorem dX10_feed_2 : decode cX10_feed 2 = .ok (.putfield 126, 3) := by decide +kernel
theorem dX10_feed_5 : decode cX10_feed 5 = .ok (.aload_n 0, 1) := by decide +kernel
theorem dX10_feed_6 : decode cX10_feed 6 = .ok (.getfield 129, 3) := by decide +kernel
theorem dX10_feed_9 : decode cX10_feed 9 = .ok (.bipush 20, 2) := by decide +kernel
theorem dX10_feed_11 : decode cX10_feed 11 = .ok (.iadd, 1) := by decide +kernel
theorem dX10_feed_12 : decode cX10_feed 12 = .ok (.sipush 400, 3) := by decide +kernel
theorem dX10_feed_15 : decode cX10_feed 15 = .ok (.if_icmp .le 5, 3) := by decide +kernel
theorem dX10_feed_18 : decode cX10_feed 18 = .ok (.iconst (-1), 1) := by decide +kernel
theorem dX10_feed_19 : decode cX10_feed 19 = .ok (.ireturn, 1) := by decide +kernel
theorem dX10_feed_20 : decode cX10_feed 20 = .ok (.iconst 0, 1) := by decide +kernel
theorem dX10_feed_21 : decode cX10_feed 21 = .ok (.istore 6, 2) := by decide +kernel
theorem dX10_feed_23 : decode cX10_feed 23 = .ok (.iload 6, 2) := by decide +kernel
theorem dX10_feed_25 : decode cX10_feed 25 = .ok (.bipush 20, 2) := by decide +kernel
theorem dX10_feed_27 : decode cX10_feed 27 = .ok (.if_icmp .ge 86, 3) := by decide +kernel
theorem dX10_feed_30 : decode cX10_feed 30 = .ok (.iload 6, 2) := by decide +kernel
theorem dX10_feed_32 : decode cX10_feed 32 = .ok (.iconst 4, 1) := by decide +kernel
theorem dX10_feed_33 : decode cX10_feed 33 = .ok (.if_icmp .ge 7, 3) := by decide +kernel
theorem dX10_feed_36 : decode cX10_feed 36 = .ok (.iload_n 1, 1) := by decide +kernel
theorem dX10_feed_37 : decode cX10_feed 37 = .ok (.goto 39, 3) := by decide +kernel
theorem dX10_feed_40 : decode cX10_feed 40 = .ok (.iload 6, 2) := by decide +kernel
theorem dX10_feed_42 : decode cX10_feed 42 = .ok (.bipush 8, 2) := by decide +kernel
theorem dX10_feed_44 : decode cX10_feed 44 = .ok (.if_icmp .ge 7, 3) := by decide +kernel
theorem dX10_feed_47 : decode cX10_feed 47 = .ok (.iload_n 2, 1) := by decide +kernel
theorem dX10_feed_48 : decode cX10_feed 48 = .ok (.goto 28, 3) := by decide +kernel
theorem dX10_feed_51 : decode cX10_feed 51 = .ok (.iload 6, 2) := by decide +kernel
theorem dX10_feed_53 : decode cX10_feed 53 = .ok (.bipush 12, 2) := by decide +kernel
theorem dX10_feed_55 : decode cX10_feed 55 = .ok (.if_icmp .ge 7, 3) := by decide +kernel
theorem dX10_feed_58 : decode cX10_feed 58 = .ok (.iload_n 3, 1) := by decide +kernel
theorem dX10_feed_59 : decode cX10_feed 59 = .ok (.goto 17, 3) := by decide +kernel
theorem dX10_feed_62 : decode cX10_feed 62 = .ok (.iload 6, 2) := by decide +kernel
theorem dX10_feed_64 : decode cX10_feed 64 = .ok (.bipush 16, 2) := by decide +kernel
theorem dX10_feed_66 : decode cX10_feed 66 = .ok (.if_icmp .ge 8, 3) := by decide +kernel
theorem dX10_feed_69 : decode cX10_feed 69 = .ok (.iload 4, 2) := by decide +kernel
theorem dX10_feed_71 : decode cX10_feed 71 = .ok (.goto 5, 3) := by decide +kernel
theorem dX10_feed_74 : decode cX10_feed 74 = .ok (.iload 5, 2) := by decide +kernel
theorem dX10_feed_76 : decode cX10_feed 76 = .ok (.istore 7, 2) := by decide +kernel
theorem dX10_feed_78 : decode cX10_feed 78 = .ok (.aload_n 0, 1) := by decide +kernel
theorem dX10_feed_79 : decode cX10_feed 79 = .ok (.getfield 7, 3) := by decide +kernel
theorem dX10_feed_82 : decode cX10_feed 82 = .ok (.aload_n 0, 1) := by decide +kernel
theorem dX10_feed_83 : decode cX10_feed 83 = .ok (.getfield 129, 3) := by decide +kernel
theorem dX10_feed_86 : decode cX10_feed 86 = .ok (.iload 6, 2) := by decide +kernel
theorem dX10_feed_88 : decode cX10_feed 88 = .ok (.iadd, 1) := by decide +kernel
theorem dX10_feed_89 : decode cX10_feed 89 = .ok (.iload 7, 2) := by decide +kernel
theorem dX10_feed_91 : decode cX10_feed 91 = .ok (.bipush 24, 2) := by decide +kernel
theorem dX10_feed_93 : decode cX10_feed 93 = .ok (.bipush 8, 2) := by decide +kernel
theorem dX10_feed_95 : decode cX10_feed 95 = .ok (.iload 6, 2) := by decide +kernel
theorem dX10_feed_97 : decode cX10_feed 97 = .ok (.iconst 4, 1) := by decide +kernel
theorem dX10_feed_98 : decode cX10_feed 98 = .ok (.irem, 1) := by decide +kernel
theorem dX10_feed_99 : decode cX10_feed 99 = .ok (.imul, 1) := by decide +kernel
theorem dX10_feed_100 : decode cX10_feed 100 = .ok (.isub, 1) := by decide +kernel
theorem dX10_feed_101 : decode cX10_feed 101 = .ok (.ishr, 1) := by decide +kernel
theorem dX10_feed_102 : decode cX10_feed 102 = .ok (.sipush 255, 3) := by decide +kernel
theorem dX10_feed_105 : decode cX10_feed 105 = .ok (.iand, 1) := by decide +kernel
theorem dX10_feed_106 : decode cX10_feed 106 = .ok (.iastore, 1) := by decide +kernel
theorem dX10_feed_107 : decode cX10_feed 107 = .ok (.iinc 6 1, 3) := by decide +kernel
theorem dX10_feed_110 : decode cX10_feed 110 = .ok (.goto (-87), 3) := by decide +kernel
theorem dX10_feed_113 : decode cX10_feed 113 = .ok (.aload_n 0, 1) := by decide +kernel
theorem dX10_feed_114 : decode cX10_feed 114 = .ok (.dup, 1) := by decide +kernel
theorem dX10_feed_115 : decode cX10_feed 115 = .ok (.getfield 129, 3) := by decide +kernel
theorem dX10_feed_118 : decode cX10_feed 118 = .ok (.bipush 20, 2) := by decide +kernel
theorem dX10_feed_120 : decode cX10_feed 120 = .ok (.iadd, 1) := by decide +kernel
theorem dX10_feed_121 : decode cX10_feed 121 = .ok (.putfield 129, 3) := by decide +kernel
theorem dX10_feed_124 : decode cX10_feed 124 = .ok (.aload_n 0, 1) := by decide +kernel
theorem dX10_feed_125 : decode cX10_feed 125 = .ok (.getfield 129, 3) := by decide +kernel
theorem dX10_feed_128 : decode cX10_feed 128 = .ok (.ireturn, 1) := by decide +kernel
theorem dX10_wrong_0 : decode cX10_wrong 0 = .ok (.aload_n 0, 1) := by decide +kernel
theorem dX10_wrong_1 : decode cX10_wrong 1 = .ok (.iload_n 1, 1) := by decide +kernel
theorem dX10_wrong_2 : decode cX10_wrong 2 = .ok (.putfield 132, 3) := by decide +kernel
theorem dX10_wrong_5 : decode cX10_wrong 5 = .ok (.aload_n 0, 1) := by decide +kernel
theorem dX10_wrong_6 : decode cX10_wrong 6 = .ok (.iload_n 2, 1) := by decide +kernel
theorem dX10_wrong_7 : decode cX10_wrong 7 = .ok (.putfield 56, 3) := by decide +kernel
theorem dX10_wrong_10 : decode cX10_wrong 10 = .ok (.iconst 0, 1) := by decide +kernel
theorem dX10_wrong_11 : decode cX10_wrong 11 = .ok (.ireturn, 1) := by decide +kernel
theorem dX10_see_0 : decode cX10_see 0 = .ok (.aload_n 0, 1) := by decide +kernel
theorem dX10_see_1 : decode cX10_see 1 = .ok (.getfield 135, 3) := by decide +kernel
theorem dX10_see_4 : decode cX10_see 4 = .ok (.aload_n 0, 1) := by decide +kernel
theorem dX10_see_5 : decode cX10_see 5 = .ok (.getfield 138, 3) := by decide +kernel
theorem dX10_see_8 : decode cX10_see 8 = .ok (.if_icmp .ge 15, 3) := by decide +kernel
theorem dX10_see_11 : decode cX10_see 11 = .ok (.aload_n 0, 1) := by decide +kernel
theorem dX10_see_12 : decode cX10_see 12 = .ok (.getfield 7, 3) := by decide +kernel
theorem dX10_see_15 : decode cX10_see 15 = .ok (.aload_n 0, 1) := by decide +kernel
theorem dX10_see_16 : decode cX10_see 16 = .ok (.getfield 135, 3) := by decide +kernel
theorem dX10_see_19 : decode cX10_see 19 = .ok (.iaload, 1) := by decide +kernel
theorem dX10_see_20 : decode cX10_see 20 = .ok (.goto 4, 3) := by decide +kernel
theorem dX10_see_23 : decode cX10_see 23 = .ok (.iconst (-1), 1) := by decide +kernel
theorem dX10_see_24 : decode cX10_see 24 = .ok (.ireturn, 1) := by decide +kernel
theorem dX10_kindOf_0 : decode cX10_kindOf 0 = .ok (.iload_n 0, 1) := by decide +kernel
theorem dX10_kindOf_1 : decode cX10_kindOf 1 = .ok (.bipush 84, 2) := by decide +kernel
theorem dX10_kindOf_3 : decode cX10_kindOf 3 = .ok (.if_icmp .ne 7, 3) := by decide +kernel
theorem dX10_kindOf_6 : decode cX10_kindOf 6 = .ok (.iconst 0, 1) := by decide +kernel
theorem dX10_kindOf_7 : decode cX10_kindOf 7 = .ok (.goto 65, 3) := by decide +kernel
theorem dX10_kindOf_10 : decode cX10_kindOf 10 = .ok (.iload_n 0, 1) := by decide +kernel
theorem dX10_kindOf_11 : decode cX10_kindOf 11 = .ok (.bipush 71, 2) := by decide +kernel
theorem dX10_kindOf_13 : decode cX10_kindOf 13 = .ok (.if_icmp .ne 7, 3) := by decide +kernel
theorem dX10_kindOf_16 : decode cX10_kindOf 16 = .ok (.iconst 1, 1) := by decide +kernel
theorem dX10_kindOf_17 : decode cX10_kindOf 17 = .ok (.goto 55, 3) := by decide +kernel
theorem dX10_kindOf_20 : decode cX10_kindOf 20 = .ok (.iload_n 0, 1) := by decide +kernel
theorem dX10_kindOf_21 : decode cX10_kindOf 21 = .ok (.bipush 80, 2) := by decide +kernel
theorem dX10_kindOf_23 : decode cX10_kindOf 23 = .ok (.if_icmp .ne 7, 3) := by decide +kernel
theorem dX10_kindOf_26 : decode cX10_kindOf 26 = .ok (.iconst 2, 1) := by decide +kernel
theorem dX10_kindOf_27 : decode cX10_kindOf 27 = .ok (.goto 45, 3) := by decide +kernel
theorem dX10_kindOf_30 : decode cX10_kindOf 30 = .ok (.iload_n 0, 1) := by decide +kernel
theorem dX10_kindOf_31 : decode cX10_kindOf 31 = .ok (.bipush 81, 2) := by decide +kernel
theorem dX10_kindOf_33 : decode cX10_kindOf 33 = .ok (.if_icmp .ne 7, 3) := by decide +kernel
theorem dX10_kindOf_36 : decode cX10_kindOf 36 = .ok (.iconst 3, 1) := by decide +kernel
theorem dX10_kindOf_37 : decode cX10_kindOf 37 = .ok (.goto 35, 3) := by decide +kernel
theorem dX10_kindOf_40 : decode cX10_kindOf 40 = .ok (.iload_n 0, 1) := by decide +kernel
theorem dX10_kindOf_41 : decode cX10_kindOf 41 = .ok (.bipush 70, 2) := by decide +kernel
theorem dX10_kindOf_43 : decode cX10_kindOf 43 = .ok (.if_icmp .ne 7, 3) := by decide +kernel
theorem dX10_kindOf_46 : decode cX10_kindOf 46 = .ok (.iconst 4, 1) := by decide +kernel
theorem dX10_kindOf_47 : decode cX10_kindOf 47 = .ok (.goto 25, 3) := by decide +kernel
theorem dX10_kindOf_50 : decode cX10_kindOf 50 = .ok (.iload_n 0, 1) := by decide +kernel
theorem dX10_kindOf_51 : decode cX10_kindOf 51 = .ok (.bipush 77, 2) := by decide +kernel
theorem dX10_kindOf_53 : decode cX10_kindOf 53 = .ok (.if_icmp .ne 7, 3) := by decide +kernel
theorem dX10_kindOf_56 : decode cX10_kindOf 56 = .ok (.iconst 5, 1) := by decide +kernel
theorem dX10_kindOf_57 : decode cX10_kindOf 57 = .ok (.goto 15, 3) := by decide +kernel
theorem dX10_kindOf_60 : decode cX10_kindOf 60 = .ok (.iload_n 0, 1) := by decide +kernel
theorem dX10_kindOf_61 : decode cX10_kindOf 61 = .ok (.bipush 73, 2) := by decide +kernel
theorem dX10_kindOf_63 : decode cX10_kindOf 63 = .ok (.if_icmp .ne 8, 3) := by decide +kernel
theorem dX10_kindOf_66 : decode cX10_kindOf 66 = .ok (.bipush 6, 2) := by decide +kernel
theorem dX10_kindOf_68 : decode cX10_kindOf 68 = .ok (.goto 4, 3) := by decide +kernel
theorem dX10_kindOf_71 : decode cX10_kindOf 71 = .ok (.iconst (-1), 1) := by decide +kernel
theorem dX10_kindOf_72 : decode cX10_kindOf 72 = .ok (.ireturn, 1) := by decide +kernel
theorem dX10_slotsRead_0 : decode cX10_slotsRead 0 = .ok (.aload_n 0, 1) := by decide +kernel
theorem dX10_slotsRead_1 : decode cX10_slotsRead 1 = .ok (.iconst 0, 1) := by decide +kernel
theorem dX10_slotsRead_2 : decode cX10_slotsRead 2 = .ok (.putfield 141, 3) := by decide +kernel
theorem dX10_slotsRead_5 : decode cX10_slotsRead 5 = .ok (.iconst 1, 1) := by decide +kernel
theorem dX10_slotsRead_6 : decode cX10_slotsRead 6 = .ok (.istore_n 1, 1) := by decide +kernel
theorem dX10_slotsRead_7 : decode cX10_slotsRead 7 = .ok (.iload_n 1, 1) := by decide +kernel
theorem dX10_slotsRead_8 : decode cX10_slotsRead 8 = .ok (.ifCond .eq 159, 3) := by decide +kernel
theorem dX10_slotsRead_11 : decode cX10_slotsRead 11 = .ok (.aload_n 0, 1) := by decide +kernel
theorem dX10_slotsRead_12 : decode cX10_slotsRead 12 = .ok (.invokevirtual 144, 3) := by decide +kernel
theorem dX10_slotsRead_15 : decode cX10_slotsRead 15 = .ok (.invokestatic 148, 3) := by decide +kernel
theorem dX10_slotsRead_18 : decode cX10_slotsRead 18 = .ok (.istore_n 2, 1) := by decide +kernel
theorem dX10_slotsRead_19 : decode cX10_slotsRead 19 = .ok (.iload_n 2, 1) := by decide +kernel
theorem dX10_slotsRead_20 : decode cX10_slotsRead 20 = .ok (.ifCond .ge 13, 3) := by decide +kernel
theorem dX10_slotsRead_23 : decode cX10_slotsRead 23 = .ok (.aload_n 0, 1) := by decide +kernel
theorem dX10_slotsRead_24 : decode cX10_slotsRead 24 = .ok (.iconst 1, 1) := by decide +kernel
theorem dX10_slotsRead_25 : decode cX10_slotsRead 25 = .ok (.aload_n 0, 1) := by decide +kernel
theorem dX10_slotsRead_26 : decode cX10_slotsRead 26 = .ok (.getfield 135, 3) := by decide +kernel
theorem dX10_slotsRead_29 : decode cX10_slotsRead 29 = .ok (.invokevirtual 152, 3) := by decide +kernel
theorem dX10_slotsRead_32 : decode cX10_slotsRead 32 = .ok (.ireturn, 1) := by decide +kernel
theorem dX10_slotsRead_33 : decode cX10_slotsRead 33 = .ok (.aload_n 0, 1) := by decide +kernel
theorem dX10_slotsRead_34 : decode cX10_slotsRead 34 = .ok (.getfield 141, 3) := by decide +kernel
theorem dX10_slotsRead_37 : decode cX10_slotsRead 37 = .ok (.bipush 8, 2) := by decide +kernel
theorem dX10_slotsRead_39 : decode cX10_slotsRead 39 = .ok (.if_icmp .ne 13, 3) := by decide +kernel
theorem dX10_slotsRead_42 : decode cX10_slotsRead 42 = .ok (.aload_n 0, 1) := by decide +kernel
theorem dX10_slotsRead_43 : decode cX10_slotsRead 43 = .ok (.iconst 2, 1) := by decide +kernel
theorem dX10_slotsRead_44 : decode cX10_slotsRead 44 = .ok (.aload_n 0, 1) := by decide +kernel
theorem dX10_slotsRead_45 : decode cX10_slotsRead 45 = .ok (.getfield 135, 3) := by decide +kernel
theorem dX10_slotsRead_48 : decode cX10_slotsRead 48 = .ok (.invokevirtual 152, 3) := by decide +kernel
theorem dX10_slotsRead_51 : decode cX10_slotsRead 51 = .ok (.ireturn, 1) := by decide +kernel
theorem dX10_slotsRead_52 : decode cX10_slotsRead 52 = .ok (.aload_n 0, 1) := by decide +kernel
theorem dX10_slotsRead_53 : decode cX10_slotsRead 53 = .ok (.dup, 1) := by decide +kernel
theorem dX10_slotsRead_54 : decode cX10_slotsRead 54 = .ok (.getfield 135, 3) := by decide +kernel
theorem dX10_slotsRead_57 : decode cX10_slotsRead 57 = .ok (.iconst 1, 1) := by decide +kernel
theorem dX10_slotsRead_58 : decode cX10_slotsRead 58 = .ok (.iadd, 1) := by decide +kernel
theorem dX10_slotsRead_59 : decode cX10_slotsRead 59 = .ok (.putfield 135, 3) := by decide +kernel
theorem dX10_slotsRead_62 : decode cX10_slotsRead 62 = .ok (.aload_n 0, 1) := by decide +kernel
theorem dX10_slotsRead_63 : decode cX10_slotsRead 63 = .ok (.invokevirtual 144, 3) := by decide +kernel
theorem dX10_slotsRead_66 : decode cX10_slotsRead 66 = .ok (.istore_n 3, 1) := by decide +kernel
theorem dX10_slotsRead_67 : decode cX10_slotsRead 67 = .ok (.aload_n 0, 1) := by decide +kernel
theorem dX10_slotsRead_68 : decode cX10_slotsRead 68 = .ok (.getfield 84, 3) := by decide +kernel
theorem dX10_slotsRead_71 : decode cX10_slotsRead 71 = .ok (.aload_n 0, 1) := by decide +kernel
theorem dX10_slotsRead_72 : decode cX10_slotsRead 72 = .ok (.getfield 141, 3) := by decide +kernel
theorem dX10_slotsRead_75 : decode cX10_slotsRead 75 = .ok (.iload_n 2, 1) := by decide +kernel
theorem dX10_slotsRead_76 : decode cX10_slotsRead 76 = .ok (.iastore, 1) := by decide +kernel
theorem dX10_slotsRead_77 : decode cX10_slotsRead 77 = .ok (.aload_n 0, 1) := by decide +kernel
theorem dX10_slotsRead_78 : decode cX10_slotsRead 78 = .ok (.getfield 87, 3) := by decide +kernel
theorem dX10_slotsRead_81 : decode cX10_slotsRead 81 = .ok (.aload_n 0, 1) := by decide +kernel
theorem dX10_slotsRead_82 : decode cX10_slotsRead 82 = .ok (.getfield 141, 3) := by decide +kernel
theorem dX10_slotsRead_85 : decode cX10_slotsRead 85 = .ok (.iload_n 3, 1) := by decide +kernel
theorem dX10_slotsRead_86 : decode cX10_slotsRead 86 = .ok (.bipush 63, 2) := by decide +kernel
theorem dX10_slotsRead_88 : decode cX10_slotsRead 88 = .ok (.if_icmp .ne 7, 3) := by decide +kernel
theorem dX10_slotsRead_91 : decode cX10_slotsRead 91 = .ok (.iconst 1, 1) := by decide +kernel
theorem dX10_slotsRead_92 : decode cX10_slotsRead 92 = .ok (.goto 24, 3) := by decide +kernel
theorem dX10_slotsRead_95 : decode cX10_slotsRead 95 = .ok (.iload_n 3, 1) := by decide +kernel
theorem dX10_slotsRead_96 : decode cX10_slotsRead 96 = .ok (.bipush 42, 2) := by decide +kernel
theorem dX10_slotsRead_98 : decode cX10_slotsRead 98 = .ok (.if_icmp .ne 7, 3) := by decide +kernel
theorem dX10_slotsRead_101 : decode cX10_slotsRead 101 = .ok (.iconst 2, 1) := by decide +kernel
theorem dX10_slotsRead_102 : decode cX10_slotsRead 102 = .ok (.goto 14, 3) := by decide +kernel
theorem dX10_slotsRead_105 : decode cX10_slotsRead 105 = .ok (.iload_n 3, 1) := by decide +kernel
theorem dX10_slotsRead_106 : decode cX10_slotsRead 106 = .ok (.bipush 43, 2) := by decide +kernel
theorem dX10_slotsRead_108 : decode cX10_slotsRead 108 = .ok (.if_icmp .ne 7, 3) := by decide +kernel
theorem dX10_slotsRead_111 : decode cX10_slotsRead 111 = .ok (.iconst 3, 1) := by decide +kernel
theorem dX10_slotsRead_112 : decode cX10_slotsRead 112 = .ok (.goto 4, 3) := by decide +kernel
theorem dX10_slotsRead_115 : decode cX10_slotsRead 115 = .ok (.iconst 0, 1) := by decide +kernel
theorem dX10_slotsRead_116 : decode cX10_slotsRead 116 = .ok (.iastore, 1) := by decide +kernel
theorem dX10_slotsRead_117 : decode cX10_slotsRead 117 = .ok (.aload_n 0, 1) := by decide +kernel
theorem dX10_slotsRead_118 : decode cX10_slotsRead 118 = .ok (.getfield 87, 3) := by decide +kernel
theorem dX10_slotsRead_121 : decode cX10_slotsRead 121 = .ok (.aload_n 0, 1) := by decide +kernel
theorem dX10_slotsRead_122 : decode cX10_slotsRead 122 = .ok (.getfield 141, 3) := by decide +kernel
theorem dX10_slotsRead_125 : decode cX10_slotsRead 125 = .ok (.iaload, 1) := by decide +kernel
theorem dX10_slotsRead_126 : decode cX10_slotsRead 126 = .ok (.ifCond .le 13, 3) := by decide +kernel
theorem dX10_slotsRead_129 : decode cX10_slotsRead 129 = .ok (.aload_n 0, 1) := by decide +kernel
theorem dX10_slotsRead_130 : decode cX10_slotsRead 130 = .ok (.dup, 1) := by decide +kernel
theorem dX10_slotsRead_131 : decode cX10_slotsRead 131 = .ok (.getfield 135, 3) := by decide +kernel
theorem dX10_slotsRead_134 : decode cX10_slotsRead 134 = .ok (.iconst 1, 1) := by decide +kernel
theorem dX10_slotsRead_135 : decode cX10_slotsRead 135 = .ok (.iadd, 1) := by decide +kernel
theorem dX10_slotsRead_136 : decode cX10_slotsRead 136 = .ok (.putfield 135, 3) := by decide +kernel
theorem dX10_slotsRead_139 : decode cX10_slotsRead 139 = .ok (.aload_n 0, 1) := by decide +kernel
theorem dX10_slotsRead_140 : decode cX10_slotsRead 140 = .ok (.dup, 1) := by decide +kernel
theorem dX10_slotsRead_141 : decode cX10_slotsRead 141 = .ok (.getfield 141, 3) := by decide +kernel
theorem dX10_slotsRead_144 : decode cX10_slotsRead 144 = .ok (.iconst 1, 1) := by decide +kernel
theorem dX10_slotsRead_145 : decode cX10_slotsRead 145 = .ok (.iadd, 1) := by decide +kernel
theorem dX10_slotsRead_146 : decode cX10_slotsRead 146 = .ok (.putfield 141, 3) := by decide +kernel
theorem dX10_slotsRead_149 : decode cX10_slotsRead 149 = .ok (.aload_n 0, 1) := by decide +kernel
theorem dX10_slotsRead_150 : decode cX10_slotsRead 150 = .ok (.invokevirtual 144, 3) := by decide +kernel
theorem dX10_slotsRead_153 : decode cX10_slotsRead 153 = .ok (.bipush 59, 2) := by decide +kernel
theorem dX10_slotsRead_155 : decode cX10_slotsRead 155 = .ok (.if_icmp .eq 7, 3) := by decide +kernel
theorem dX10_slotsRead_158 : decode cX10_slotsRead 158 = .ok (.iconst 1, 1) := by decide +kernel
theorem dX10_slotsRead_159 : decode cX10_slotsRead 159 = .ok (.goto 4, 3) := by decide +kernel
theorem dX10_slotsRead_162 : decode cX10_slotsRead 162 = .ok (.iconst 0, 1) := by decide +kernel
theorem dX10_slotsRead_163 : decode cX10_slotsRead 163 = .ok (.istore_n 1, 1) := by decide +kernel
theorem dX10_slotsRead_164 : decode cX10_slotsRead 164 = .ok (.goto (-157), 3) := by decide +kernel
theorem dX10_slotsRead_167 : decode cX10_slotsRead 167 = .ok (.aload_n 0, 1) := by decide +kernel
theorem dX10_slotsRead_168 : decode cX10_slotsRead 168 = .ok (.dup, 1) := by decide +kernel
theorem dX10_slotsRead_169 : decode cX10_slotsRead 169 = .ok (.getfield 135, 3) := by decide +kernel
theorem dX10_slotsRead_172 : decode cX10_slotsRead 172 = .ok (.iconst 1, 1) := by decide +kernel
theorem dX10_slotsRead_173 : decode cX10_slotsRead 173 = .ok (.iadd, 1) := by decide +kernel
theorem dX10_slotsRead_174 : decode cX10_slotsRead 174 = .ok (.putfield 135, 3) := by decide +kernel
theorem dX10_slotsRead_177 : decode cX10_slotsRead 177 = .ok (.iconst 1, 1) := by decide +kernel
theorem dX10_slotsRead_178 : decode cX10_slotsRead 178 = .ok (.ireturn, 1) := by decide +kernel
theorem dX10_lettersRead_0 : decode cX10_lettersRead 0 = .ok (.aload_n 0, 1) := by decide +kernel
theorem dX10_lettersRead_1 : decode cX10_lettersRead 1 = .ok (.getfield 93, 3) := by decide +kernel
theorem dX10_lettersRead_4 : decode cX10_lettersRead 4 = .ok (.iload_n 1, 1) := by decide +kernel
theorem dX10_lettersRead_5 : decode cX10_lettersRead 5 = .ok (.iconst 0, 1) := by decide +kernel
theorem dX10_lettersRead_6 : decode cX10_lettersRead 6 = .ok (.iastore, 1) := by decide +kernel
theorem dX10_lettersRead_7 : decode cX10_lettersRead 7 = .ok (.iconst 1, 1) := by decide +kernel
theorem dX10_lettersRead_8 : decode cX10_lettersRead 8 = .ok (.istore_n 2, 1) := by decide +kernel
theorem dX10_lettersRead_9 : decode cX10_lettersRead 9 = .ok (.iload_n 2, 1) := by decide +kernel
theorem dX10_lettersRead_10 : decode cX10_lettersRead 10 = .ok (.ifCond .eq 126, 3) := by decide +kernel
theorem dX10_lettersRead_13 : decode cX10_lettersRead 13 = .ok (.aload_n 0, 1) := by decide +kernel
theorem dX10_lettersRead_14 : decode cX10_lettersRead 14 = .ok (.invokevirtual 144, 3) := by decide +kernel
theorem dX10_lettersRead_17 : decode cX10_lettersRead 17 = .ok (.invokestatic 148, 3) := by decide +kernel
theorem dX10_lettersRead_20 : decode cX10_lettersRead 20 = .ok (.istore_n 3, 1) := by decide +kernel
theorem dX10_lettersRead_21 : decode cX10_lettersRead 21 = .ok (.iload_n 3, 1) := by decide +kernel
theorem dX10_lettersRead_22 : decode cX10_lettersRead 22 = .ok (.ifCond .ge 13, 3) := by decide +kernel
theorem dX10_lettersRead_25 : decode cX10_lettersRead 25 = .ok (.aload_n 0, 1) := by decide +kernel
theorem dX10_lettersRead_26 : decode cX10_lettersRead 26 = .ok (.iconst 1, 1) := by decide +kernel
theorem dX10_lettersRead_27 : decode cX10_lettersRead 27 = .ok (.aload_n 0, 1) := by decide +kernel
theorem dX10_lettersRead_28 : decode cX10_lettersRead 28 = .ok (.getfield 135, 3) := by decide +kernel
theorem dX10_lettersRead_31 : decode cX10_lettersRead 31 = .ok (.invokevirtual 152, 3) := by decide +kernel
theorem dX10_lettersRead_34 : decode cX10_lettersRead 34 = .ok (.ireturn, 1) := by decide +kernel
theorem dX10_lettersRead_35 : decode cX10_lettersRead 35 = .ok (.iconst 0, 1) := by decide +kernel
theorem dX10_lettersRead_36 : decode cX10_lettersRead 36 = .ok (.istore 4, 2) := by decide +kernel
theorem dX10_lettersRead_38 : decode cX10_lettersRead 38 = .ok (.iload 4, 2) := by decide +kernel
theorem dX10_lettersRead_40 : decode cX10_lettersRead 40 = .ok (.aload_n 0, 1) := by decide +kernel
theorem dX10_lettersRead_41 : decode cX10_lettersRead 41 = .ok (.getfield 93, 3) := by decide +kernel
theorem dX10_lettersRead_44 : decode cX10_lettersRead 44 = .ok (.iload_n 1, 1) := by decide +kernel
theorem dX10_lettersRead_45 : decode cX10_lettersRead 45 = .ok (.iaload, 1) := by decide +kernel
theorem dX10_lettersRead_46 : decode cX10_lettersRead 46 = .ok (.if_icmp .ge 35, 3) := by decide +kernel
theorem dX10_lettersRead_49 : decode cX10_lettersRead 49 = .ok (.aload_n 0, 1) := by decide +kernel
theorem dX10_lettersRead_50 : decode cX10_lettersRead 50 = .ok (.getfield 90, 3) := by decide +kernel
theorem dX10_lettersRead_53 : decode cX10_lettersRead 53 = .ok (.bipush 7, 2) := by decide +kernel
theorem dX10_lettersRead_55 : decode cX10_lettersRead 55 = .ok (.iload_n 1, 1) := by decide +kernel
theorem dX10_lettersRead_56 : decode cX10_lettersRead 56 = .ok (.imul, 1) := by decide +kernel
theorem dX10_lettersRead_57 : decode cX10_lettersRead 57 = .ok (.iload 4, 2) := by decide +kernel
theorem dX10_lettersRead_59 : decode cX10_lettersRead 59 = .ok (.iadd, 1) := by decide +kernel
theorem dX10_lettersRead_60 : decode cX10_lettersRead 60 = .ok (.iaload, 1) := by decide +kernel
theorem dX10_lettersRead_61 : decode cX10_lettersRead 61 = .ok (.iload_n 3, 1) := by decide +kernel
theorem dX10_lettersRead_62 : decode cX10_lettersRead 62 = .ok (.if_icmp .ne 13, 3) := by decide +kernel
theorem dX10_lettersRead_65 : decode cX10_lettersRead 65 = .ok (.aload_n 0, 1) := by decide +kernel
theorem dX10_lettersRead_66 : decode cX10_lettersRead 66 = .ok (.iconst 3, 1) := by decide +kernel
theorem dX10_lettersRead_67 : decode cX10_lettersRead 67 = .ok (.aload_n 0, 1) := by decide +kernel
theorem dX10_lettersRead_68 : decode cX10_lettersRead 68 = .ok (.getfield 135, 3) := by decide +kernel
theorem dX10_lettersRead_71 : decode cX10_lettersRead 71 = .ok (.invokevirtual 152, 3) := by decide +kernel
theorem dX10_lettersRead_74 : decode cX10_lettersRead 74 = .ok (.ireturn, 1) := by decide +kernel
theorem dX10_lettersRead_75 : decode cX10_lettersRead 75 = .ok (.iinc 4 1, 3) := by decide +kernel
theorem dX10_lettersRead_78 : decode cX10_lettersRead 78 = .ok (.goto (-40), 3) := by decide +kernel
theorem dX10_lettersRead_81 : decode cX10_lettersRead 81 = .ok (.aload_n 0, 1) := by decide +kernel
theorem dX10_lettersRead_82 : decode cX10_lettersRead 82 = .ok (.getfield 90, 3) := by decide +kernel
theorem dX10_lettersRead_85 : decode cX10_lettersRead 85 = .ok (.bipush 7, 2) := by decide +kernel
theorem dX10_lettersRead_87 : decode cX10_lettersRead 87 = .ok (.iload_n 1, 1) := by decide +kernel
theorem dX10_lettersRead_88 : decode cX10_lettersRead 88 = .ok (.imul, 1) := by decide +kernel
theorem dX10_lettersRead_89 : decode cX10_lettersRead 89 = .ok (.aload_n 0, 1) := by decide +kernel
theorem dX10_lettersRead_90 : decode cX10_lettersRead 90 = .ok (.getfield 93, 3) := by decide +kernel
theorem dX10_lettersRead_93 : decode cX10_lettersRead 93 = .ok (.iload_n 1, 1) := by decide +kernel
theorem dX10_lettersRead_94 : decode cX10_lettersRead 94 = .ok (.iaload, 1) := by decide +kernel
theorem dX10_lettersRead_95 : decode cX10_lettersRead 95 = .ok (.iadd, 1) := by decide +kernel
theorem dX10_lettersRead_96 : decode cX10_lettersRead 96 = .ok (.iload_n 3, 1) := by decide +kernel
theorem dX10_lettersRead_97 : decode cX10_lettersRead 97 = .ok (.iastore, 1) := by decide +kernel
theorem dX10_lettersRead_98 : decode cX10_lettersRead 98 = .ok (.aload_n 0, 1) := by decide +kernel
theorem dX10_lettersRead_99 : decode cX10_lettersRead 99 = .ok (.getfield 93, 3) := by decide +kernel
theorem dX10_lettersRead_102 : decode cX10_lettersRead 102 = .ok (.iload_n 1, 1) := by decide +kernel
theorem dX10_lettersRead_103 : decode cX10_lettersRead 103 = .ok (.dup2, 1) := by decide +kernel
theorem dX10_lettersRead_104 : decode cX10_lettersRead 104 = .ok (.iaload, 1) := by decide +kernel
theorem dX10_lettersRead_105 : decode cX10_lettersRead 105 = .ok (.iconst 1, 1) := by decide +kernel
theorem dX10_lettersRead_106 : decode cX10_lettersRead 106 = .ok (.iadd, 1) := by decide +kernel
theorem dX10_lettersRead_107 : decode cX10_lettersRead 107 = .ok (.iastore, 1) := by decide +kernel
theorem dX10_lettersRead_108 : decode cX10_lettersRead 108 = .ok (.aload_n 0, 1) := by decide +kernel
theorem dX10_lettersRead_109 : decode cX10_lettersRead 109 = .ok (.dup, 1) := by decide +kernel
theorem dX10_lettersRead_110 : decode cX10_lettersRead 110 = .ok (.getfield 135, 3) := by decide +kernel
theorem dX10_lettersRead_113 : decode cX10_lettersRead 113 = .ok (.iconst 1, 1) := by decide +kernel
theorem dX10_lettersRead_114 : decode cX10_lettersRead 114 = .ok (.iadd, 1) := by decide +kernel
theorem dX10_lettersRead_115 : decode cX10_lettersRead 115 = .ok (.putfield 135, 3) := by decide +kernel
theorem dX10_lettersRead_118 : decode cX10_lettersRead 118 = .ok (.aload_n 0, 1) := by decide +kernel
theorem dX10_lettersRead_119 : decode cX10_lettersRead 119 = .ok (.invokevirtual 144, 3) := by decide +kernel
theorem dX10_lettersRead_122 : decode cX10_lettersRead 122 = .ok (.bipush 59, 2) := by decide +kernel
theorem dX10_lettersRead_124 : decode cX10_lettersRead 124 = .ok (.if_icmp .eq 7, 3) := by decide +kernel
theorem dX10_lettersRead_127 : decode cX10_lettersRead 127 = .ok (.iconst 1, 1) := by decide +kernel
theorem dX10_lettersRead_128 : decode cX10_lettersRead 128 = .ok (.goto 4, 3) := by decide +kernel
theorem dX10_lettersRead_131 : decode cX10_lettersRead 131 = .ok (.iconst 0, 1) := by decide +kernel
theorem dX10_lettersRead_132 : decode cX10_lettersRead 132 = .ok (.istore_n 2, 1) := by decide +kernel
theorem dX10_lettersRead_133 : decode cX10_lettersRead 133 = .ok (.goto (-124), 3) := by decide +kernel
theorem dX10_lettersRead_136 : decode cX10_lettersRead 136 = .ok (.aload_n 0, 1) := by decide +kernel
theorem dX10_lettersRead_137 : decode cX10_lettersRead 137 = .ok (.dup, 1) := by decide +kernel
theorem dX10_lettersRead_138 : decode cX10_lettersRead 138 = .ok (.getfield 135, 3) := by decide +kernel
theorem dX10_lettersRead_141 : decode cX10_lettersRead 141 = .ok (.iconst 1, 1) := by decide +kernel
theorem dX10_lettersRead_142 : decode cX10_lettersRead 142 = .ok (.iadd, 1) := by decide +kernel
theorem dX10_lettersRead_143 : decode cX10_lettersRead 143 = .ok (.putfield 135, 3) := by decide +kernel
theorem dX10_lettersRead_146 : decode cX10_lettersRead 146 = .ok (.iconst 1, 1) := by decide +kernel
