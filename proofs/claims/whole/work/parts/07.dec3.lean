theorem dX10_lettersRead_147 : decode cX10_lettersRead 147 = .ok (.ireturn, 1) := by decide +kernel
theorem dX10_endingRead_0 : decode cX10_endingRead 0 = .ok (.aload_n 0, 1) := by decide +kernel
theorem dX10_endingRead_1 : decode cX10_endingRead 1 = .ok (.iconst 0, 1) := by decide +kernel
theorem dX10_endingRead_2 : decode cX10_endingRead 2 = .ok (.putfield 156, 3) := by decide +kernel
theorem dX10_endingRead_5 : decode cX10_endingRead 5 = .ok (.aload_n 0, 1) := by decide +kernel
theorem dX10_endingRead_6 : decode cX10_endingRead 6 = .ok (.invokevirtual 144, 3) := by decide +kernel
theorem dX10_endingRead_9 : decode cX10_endingRead 9 = .ok (.bipush 45, 2) := by decide +kernel
theorem dX10_endingRead_11 : decode cX10_endingRead 11 = .ok (.if_icmp .ne 16, 3) := by decide +kernel
theorem dX10_endingRead_14 : decode cX10_endingRead 14 = .ok (.aload_n 0, 1) := by decide +kernel
theorem dX10_endingRead_15 : decode cX10_endingRead 15 = .ok (.dup, 1) := by decide +kernel
theorem dX10_endingRead_16 : decode cX10_endingRead 16 = .ok (.getfield 135, 3) := by decide +kernel
theorem dX10_endingRead_19 : decode cX10_endingRead 19 = .ok (.iconst 1, 1) := by decide +kernel
theorem dX10_endingRead_20 : decode cX10_endingRead 20 = .ok (.iadd, 1) := by decide +kernel
theorem dX10_endingRead_21 : decode cX10_endingRead 21 = .ok (.putfield 135, 3) := by decide +kernel
theorem dX10_endingRead_24 : decode cX10_endingRead 24 = .ok (.goto 103, 3) := by decide +kernel
theorem dX10_endingRead_27 : decode cX10_endingRead 27 = .ok (.iconst 1, 1) := by decide +kernel
theorem dX10_endingRead_28 : decode cX10_endingRead 28 = .ok (.istore_n 1, 1) := by decide +kernel
theorem dX10_endingRead_29 : decode cX10_endingRead 29 = .ok (.iload_n 1, 1) := by decide +kernel
theorem dX10_endingRead_30 : decode cX10_endingRead 30 = .ok (.ifCond .eq 97, 3) := by decide +kernel
theorem dX10_endingRead_33 : decode cX10_endingRead 33 = .ok (.aload_n 0, 1) := by decide +kernel
theorem dX10_endingRead_34 : decode cX10_endingRead 34 = .ok (.invokevirtual 144, 3) := by decide +kernel
theorem dX10_endingRead_37 : decode cX10_endingRead 37 = .ok (.istore_n 2, 1) := by decide +kernel
theorem dX10_endingRead_38 : decode cX10_endingRead 38 = .ok (.iload_n 2, 1) := by decide +kernel
theorem dX10_endingRead_39 : decode cX10_endingRead 39 = .ok (.bipush 97, 2) := by decide +kernel
theorem dX10_endingRead_41 : decode cX10_endingRead 41 = .ok (.if_icmp .lt 9, 3) := by decide +kernel
theorem dX10_endingRead_44 : decode cX10_endingRead 44 = .ok (.iload_n 2, 1) := by decide +kernel
theorem dX10_endingRead_45 : decode cX10_endingRead 45 = .ok (.bipush 122, 2) := by decide +kernel
theorem dX10_endingRead_47 : decode cX10_endingRead 47 = .ok (.if_icmp .le 13, 3) := by decide +kernel
theorem dX10_endingRead_50 : decode cX10_endingRead 50 = .ok (.aload_n 0, 1) := by decide +kernel
theorem dX10_endingRead_51 : decode cX10_endingRead 51 = .ok (.iconst 1, 1) := by decide +kernel
theorem dX10_endingRead_52 : decode cX10_endingRead 52 = .ok (.aload_n 0, 1) := by decide +kernel
theorem dX10_endingRead_53 : decode cX10_endingRead 53 = .ok (.getfield 135, 3) := by decide +kernel
theorem dX10_endingRead_56 : decode cX10_endingRead 56 = .ok (.invokevirtual 152, 3) := by decide +kernel
theorem dX10_endingRead_59 : decode cX10_endingRead 59 = .ok (.ireturn, 1) := by decide +kernel
theorem dX10_endingRead_60 : decode cX10_endingRead 60 = .ok (.aload_n 0, 1) := by decide +kernel
theorem dX10_endingRead_61 : decode cX10_endingRead 61 = .ok (.getfield 156, 3) := by decide +kernel
theorem dX10_endingRead_64 : decode cX10_endingRead 64 = .ok (.bipush 6, 2) := by decide +kernel
theorem dX10_endingRead_66 : decode cX10_endingRead 66 = .ok (.if_icmp .ne 13, 3) := by decide +kernel
theorem dX10_endingRead_69 : decode cX10_endingRead 69 = .ok (.aload_n 0, 1) := by decide +kernel
theorem dX10_endingRead_70 : decode cX10_endingRead 70 = .ok (.iconst 2, 1) := by decide +kernel
theorem dX10_endingRead_71 : decode cX10_endingRead 71 = .ok (.aload_n 0, 1) := by decide +kernel
theorem dX10_endingRead_72 : decode cX10_endingRead 72 = .ok (.getfield 135, 3) := by decide +kernel
theorem dX10_endingRead_75 : decode cX10_endingRead 75 = .ok (.invokevirtual 152, 3) := by decide +kernel
theorem dX10_endingRead_78 : decode cX10_endingRead 78 = .ok (.ireturn, 1) := by decide +kernel
theorem dX10_endingRead_79 : decode cX10_endingRead 79 = .ok (.aload_n 0, 1) := by decide +kernel
theorem dX10_endingRead_80 : decode cX10_endingRead 80 = .ok (.getfield 96, 3) := by decide +kernel
theorem dX10_endingRead_83 : decode cX10_endingRead 83 = .ok (.aload_n 0, 1) := by decide +kernel
theorem dX10_endingRead_84 : decode cX10_endingRead 84 = .ok (.getfield 156, 3) := by decide +kernel
theorem dX10_endingRead_87 : decode cX10_endingRead 87 = .ok (.iload_n 2, 1) := by decide +kernel
theorem dX10_endingRead_88 : decode cX10_endingRead 88 = .ok (.iastore, 1) := by decide +kernel
theorem dX10_endingRead_89 : decode cX10_endingRead 89 = .ok (.aload_n 0, 1) := by decide +kernel
theorem dX10_endingRead_90 : decode cX10_endingRead 90 = .ok (.dup, 1) := by decide +kernel
theorem dX10_endingRead_91 : decode cX10_endingRead 91 = .ok (.getfield 156, 3) := by decide +kernel
theorem dX10_endingRead_94 : decode cX10_endingRead 94 = .ok (.iconst 1, 1) := by decide +kernel
theorem dX10_endingRead_95 : decode cX10_endingRead 95 = .ok (.iadd, 1) := by decide +kernel
theorem dX10_endingRead_96 : decode cX10_endingRead 96 = .ok (.putfield 156, 3) := by decide +kernel
theorem dX10_endingRead_99 : decode cX10_endingRead 99 = .ok (.aload_n 0, 1) := by decide +kernel
theorem dX10_endingRead_100 : decode cX10_endingRead 100 = .ok (.dup, 1) := by decide +kernel
theorem dX10_endingRead_101 : decode cX10_endingRead 101 = .ok (.getfield 135, 3) := by decide +kernel
theorem dX10_endingRead_104 : decode cX10_endingRead 104 = .ok (.iconst 1, 1) := by decide +kernel
theorem dX10_endingRead_105 : decode cX10_endingRead 105 = .ok (.iadd, 1) := by decide +kernel
theorem dX10_endingRead_106 : decode cX10_endingRead 106 = .ok (.putfield 135, 3) := by decide +kernel
theorem dX10_endingRead_109 : decode cX10_endingRead 109 = .ok (.aload_n 0, 1) := by decide +kernel
theorem dX10_endingRead_110 : decode cX10_endingRead 110 = .ok (.invokevirtual 144, 3) := by decide +kernel
theorem dX10_endingRead_113 : decode cX10_endingRead 113 = .ok (.bipush 46, 2) := by decide +kernel
theorem dX10_endingRead_115 : decode cX10_endingRead 115 = .ok (.if_icmp .eq 7, 3) := by decide +kernel
theorem dX10_endingRead_118 : decode cX10_endingRead 118 = .ok (.iconst 1, 1) := by decide +kernel
theorem dX10_endingRead_119 : decode cX10_endingRead 119 = .ok (.goto 4, 3) := by decide +kernel
theorem dX10_endingRead_122 : decode cX10_endingRead 122 = .ok (.iconst 0, 1) := by decide +kernel
theorem dX10_endingRead_123 : decode cX10_endingRead 123 = .ok (.istore_n 1, 1) := by decide +kernel
theorem dX10_endingRead_124 : decode cX10_endingRead 124 = .ok (.goto (-95), 3) := by decide +kernel
theorem dX10_endingRead_127 : decode cX10_endingRead 127 = .ok (.aload_n 0, 1) := by decide +kernel
theorem dX10_endingRead_128 : decode cX10_endingRead 128 = .ok (.invokevirtual 144, 3) := by decide +kernel
theorem dX10_endingRead_131 : decode cX10_endingRead 131 = .ok (.bipush 46, 2) := by decide +kernel
theorem dX10_endingRead_133 : decode cX10_endingRead 133 = .ok (.if_icmp .eq 13, 3) := by decide +kernel
theorem dX10_endingRead_136 : decode cX10_endingRead 136 = .ok (.aload_n 0, 1) := by decide +kernel
theorem dX10_endingRead_137 : decode cX10_endingRead 137 = .ok (.iconst 1, 1) := by decide +kernel
theorem dX10_endingRead_138 : decode cX10_endingRead 138 = .ok (.aload_n 0, 1) := by decide +kernel
theorem dX10_endingRead_139 : decode cX10_endingRead 139 = .ok (.getfield 135, 3) := by decide +kernel
theorem dX10_endingRead_142 : decode cX10_endingRead 142 = .ok (.invokevirtual 152, 3) := by decide +kernel
theorem dX10_endingRead_145 : decode cX10_endingRead 145 = .ok (.ireturn, 1) := by decide +kernel
theorem dX10_endingRead_146 : decode cX10_endingRead 146 = .ok (.aload_n 0, 1) := by decide +kernel
theorem dX10_endingRead_147 : decode cX10_endingRead 147 = .ok (.dup, 1) := by decide +kernel
theorem dX10_endingRead_148 : decode cX10_endingRead 148 = .ok (.getfield 135, 3) := by decide +kernel
theorem dX10_endingRead_151 : decode cX10_endingRead 151 = .ok (.iconst 1, 1) := by decide +kernel
theorem dX10_endingRead_152 : decode cX10_endingRead 152 = .ok (.iadd, 1) := by decide +kernel
theorem dX10_endingRead_153 : decode cX10_endingRead 153 = .ok (.putfield 135, 3) := by decide +kernel
theorem dX10_endingRead_156 : decode cX10_endingRead 156 = .ok (.aload_n 0, 1) := by decide +kernel
theorem dX10_endingRead_157 : decode cX10_endingRead 157 = .ok (.getfield 135, 3) := by decide +kernel
theorem dX10_endingRead_160 : decode cX10_endingRead 160 = .ok (.aload_n 0, 1) := by decide +kernel
theorem dX10_endingRead_161 : decode cX10_endingRead 161 = .ok (.getfield 138, 3) := by decide +kernel
theorem dX10_endingRead_164 : decode cX10_endingRead 164 = .ok (.if_icmp .eq 15, 3) := by decide +kernel
theorem dX10_endingRead_167 : decode cX10_endingRead 167 = .ok (.aload_n 0, 1) := by decide +kernel
theorem dX10_endingRead_168 : decode cX10_endingRead 168 = .ok (.iconst 1, 1) := by decide +kernel
theorem dX10_endingRead_169 : decode cX10_endingRead 169 = .ok (.aload_n 0, 1) := by decide +kernel
theorem dX10_endingRead_170 : decode cX10_endingRead 170 = .ok (.getfield 135, 3) := by decide +kernel
theorem dX10_endingRead_173 : decode cX10_endingRead 173 = .ok (.invokevirtual 152, 3) := by decide +kernel
theorem dX10_endingRead_176 : decode cX10_endingRead 176 = .ok (.ifCond .eq 7, 3) := by decide +kernel
theorem dX10_endingRead_179 : decode cX10_endingRead 179 = .ok (.iconst 1, 1) := by decide +kernel
theorem dX10_endingRead_180 : decode cX10_endingRead 180 = .ok (.goto 4, 3) := by decide +kernel
theorem dX10_endingRead_183 : decode cX10_endingRead 183 = .ok (.iconst 0, 1) := by decide +kernel
theorem dX10_endingRead_184 : decode cX10_endingRead 184 = .ok (.ireturn, 1) := by decide +kernel
theorem dX10_shape_0 : decode cX10_shape 0 = .ok (.aload_n 0, 1) := by decide +kernel
theorem dX10_shape_1 : decode cX10_shape 1 = .ok (.iconst 0, 1) := by decide +kernel
theorem dX10_shape_2 : decode cX10_shape 2 = .ok (.putfield 126, 3) := by decide +kernel
theorem dX10_shape_5 : decode cX10_shape 5 = .ok (.iload_n 1, 1) := by decide +kernel
theorem dX10_shape_6 : decode cX10_shape 6 = .ok (.ifCond .lt 20, 3) := by decide +kernel
theorem dX10_shape_9 : decode cX10_shape 9 = .ok (.iload_n 1, 1) := by decide +kernel
theorem dX10_shape_10 : decode cX10_shape 10 = .ok (.iconst 5, 1) := by decide +kernel
theorem dX10_shape_11 : decode cX10_shape 11 = .ok (.if_icmp .gt 15, 3) := by decide +kernel
theorem dX10_shape_14 : decode cX10_shape 14 = .ok (.iload_n 2, 1) := by decide +kernel
theorem dX10_shape_15 : decode cX10_shape 15 = .ok (.ifCond .lt 11, 3) := by decide +kernel
theorem dX10_shape_18 : decode cX10_shape 18 = .ok (.iload_n 2, 1) := by decide +kernel
theorem dX10_shape_19 : decode cX10_shape 19 = .ok (.aload_n 0, 1) := by decide +kernel
theorem dX10_shape_20 : decode cX10_shape 20 = .ok (.getfield 129, 3) := by decide +kernel
theorem dX10_shape_23 : decode cX10_shape 23 = .ok (.if_icmp .le 6, 3) := by decide +kernel
theorem dX10_shape_26 : decode cX10_shape 26 = .ok (.bipush (-2), 2) := by decide +kernel
theorem dX10_shape_28 : decode cX10_shape 28 = .ok (.ireturn, 1) := by decide +kernel
theorem dX10_shape_29 : decode cX10_shape 29 = .ok (.aload_n 0, 1) := by decide +kernel
theorem dX10_shape_30 : decode cX10_shape 30 = .ok (.iconst 0, 1) := by decide +kernel
theorem dX10_shape_31 : decode cX10_shape 31 = .ok (.putfield 135, 3) := by decide +kernel
theorem dX10_shape_34 : decode cX10_shape 34 = .ok (.aload_n 0, 1) := by decide +kernel
theorem dX10_shape_35 : decode cX10_shape 35 = .ok (.iload_n 2, 1) := by decide +kernel
theorem dX10_shape_36 : decode cX10_shape 36 = .ok (.putfield 138, 3) := by decide +kernel
theorem dX10_shape_39 : decode cX10_shape 39 = .ok (.aload_n 0, 1) := by decide +kernel
theorem dX10_shape_40 : decode cX10_shape 40 = .ok (.iconst 0, 1) := by decide +kernel
theorem dX10_shape_41 : decode cX10_shape 41 = .ok (.putfield 129, 3) := by decide +kernel
theorem dX10_shape_44 : decode cX10_shape 44 = .ok (.aload_n 0, 1) := by decide +kernel
theorem dX10_shape_45 : decode cX10_shape 45 = .ok (.iconst 0, 1) := by decide +kernel
theorem dX10_shape_46 : decode cX10_shape 46 = .ok (.putfield 132, 3) := by decide +kernel
theorem dX10_shape_49 : decode cX10_shape 49 = .ok (.aload_n 0, 1) := by decide +kernel
theorem dX10_shape_50 : decode cX10_shape 50 = .ok (.iconst (-1), 1) := by decide +kernel
theorem dX10_shape_51 : decode cX10_shape 51 = .ok (.putfield 56, 3) := by decide +kernel
theorem dX10_shape_54 : decode cX10_shape 54 = .ok (.aload_n 0, 1) := by decide +kernel
theorem dX10_shape_55 : decode cX10_shape 55 = .ok (.invokevirtual 159, 3) := by decide +kernel
theorem dX10_shape_58 : decode cX10_shape 58 = .ok (.ifCond .eq 26, 3) := by decide +kernel
theorem dX10_shape_61 : decode cX10_shape 61 = .ok (.aload_n 0, 1) := by decide +kernel
theorem dX10_shape_62 : decode cX10_shape 62 = .ok (.iconst 0, 1) := by decide +kernel
theorem dX10_shape_63 : decode cX10_shape 63 = .ok (.invokevirtual 163, 3) := by decide +kernel
theorem dX10_shape_66 : decode cX10_shape 66 = .ok (.ifCond .eq 18, 3) := by decide +kernel
theorem dX10_shape_69 : decode cX10_shape 69 = .ok (.aload_n 0, 1) := by decide +kernel
theorem dX10_shape_70 : decode cX10_shape 70 = .ok (.iconst 1, 1) := by decide +kernel
theorem dX10_shape_71 : decode cX10_shape 71 = .ok (.invokevirtual 163, 3) := by decide +kernel
theorem dX10_shape_74 : decode cX10_shape 74 = .ok (.ifCond .eq 10, 3) := by decide +kernel
theorem dX10_shape_77 : decode cX10_shape 77 = .ok (.aload_n 0, 1) := by decide +kernel
theorem dX10_shape_78 : decode cX10_shape 78 = .ok (.invokevirtual 167, 3) := by decide +kernel
theorem dX10_shape_81 : decode cX10_shape 81 = .ok (.ifCond .ne 5, 3) := by decide +kernel
theorem dX10_shape_84 : decode cX10_shape 84 = .ok (.iconst (-1), 1) := by decide +kernel
theorem dX10_shape_85 : decode cX10_shape 85 = .ok (.ireturn, 1) := by decide +kernel
theorem dX10_shape_86 : decode cX10_shape 86 = .ok (.aload_n 0, 1) := by decide +kernel
theorem dX10_shape_87 : decode cX10_shape 87 = .ok (.getfield 25, 3) := by decide +kernel
theorem dX10_shape_90 : decode cX10_shape 90 = .ok (.iload_n 1, 1) := by decide +kernel
theorem dX10_shape_91 : decode cX10_shape 91 = .ok (.iconst 1, 1) := by decide +kernel
theorem dX10_shape_92 : decode cX10_shape 92 = .ok (.bastore, 1) := by decide +kernel
theorem dX10_shape_93 : decode cX10_shape 93 = .ok (.aload_n 0, 1) := by decide +kernel
theorem dX10_shape_94 : decode cX10_shape 94 = .ok (.getfield 29, 3) := by decide +kernel
theorem dX10_shape_97 : decode cX10_shape 97 = .ok (.iload_n 1, 1) := by decide +kernel
theorem dX10_shape_98 : decode cX10_shape 98 = .ok (.aload_n 0, 1) := by decide +kernel
theorem dX10_shape_99 : decode cX10_shape 99 = .ok (.getfield 141, 3) := by decide +kernel
theorem dX10_shape_102 : decode cX10_shape 102 = .ok (.iastore, 1) := by decide +kernel
theorem dX10_shape_103 : decode cX10_shape 103 = .ok (.iconst 0, 1) := by decide +kernel
theorem dX10_shape_104 : decode cX10_shape 104 = .ok (.istore_n 3, 1) := by decide +kernel
theorem dX10_shape_105 : decode cX10_shape 105 = .ok (.iload_n 3, 1) := by decide +kernel
theorem dX10_shape_106 : decode cX10_shape 106 = .ok (.aload_n 0, 1) := by decide +kernel
theorem dX10_shape_107 : decode cX10_shape 107 = .ok (.getfield 141, 3) := by decide +kernel
theorem dX10_shape_110 : decode cX10_shape 110 = .ok (.if_icmp .ge 43, 3) := by decide +kernel
theorem dX10_shape_113 : decode cX10_shape 113 = .ok (.aload_n 0, 1) := by decide +kernel
theorem dX10_shape_114 : decode cX10_shape 114 = .ok (.getfield 32, 3) := by decide +kernel
theorem dX10_shape_117 : decode cX10_shape 117 = .ok (.bipush 8, 2) := by decide +kernel
theorem dX10_shape_119 : decode cX10_shape 119 = .ok (.iload_n 1, 1) := by decide +kernel
theorem dX10_shape_120 : decode cX10_shape 120 = .ok (.imul, 1) := by decide +kernel
theorem dX10_shape_121 : decode cX10_shape 121 = .ok (.iload_n 3, 1) := by decide +kernel
theorem dX10_shape_122 : decode cX10_shape 122 = .ok (.iadd, 1) := by decide +kernel
theorem dX10_shape_123 : decode cX10_shape 123 = .ok (.aload_n 0, 1) := by decide +kernel
theorem dX10_shape_124 : decode cX10_shape 124 = .ok (.getfield 84, 3) := by decide +kernel
theorem dX10_shape_127 : decode cX10_shape 127 = .ok (.iload_n 3, 1) := by decide +kernel
theorem dX10_shape_128 : decode cX10_shape 128 = .ok (.iaload, 1) := by decide +kernel
theorem dX10_shape_129 : decode cX10_shape 129 = .ok (.iastore, 1) := by decide +kernel
theorem dX10_shape_130 : decode cX10_shape 130 = .ok (.aload_n 0, 1) := by decide +kernel
theorem dX10_shape_131 : decode cX10_shape 131 = .ok (.getfield 35, 3) := by decide +kernel
theorem dX10_shape_134 : decode cX10_shape 134 = .ok (.bipush 8, 2) := by decide +kernel
theorem dX10_shape_136 : decode cX10_shape 136 = .ok (.iload_n 1, 1) := by decide +kernel
theorem dX10_shape_137 : decode cX10_shape 137 = .ok (.imul, 1) := by decide +kernel
theorem dX10_shape_138 : decode cX10_shape 138 = .ok (.iload_n 3, 1) := by decide +kernel
theorem dX10_shape_139 : decode cX10_shape 139 = .ok (.iadd, 1) := by decide +kernel
theorem dX10_shape_140 : decode cX10_shape 140 = .ok (.aload_n 0, 1) := by decide +kernel
theorem dX10_shape_141 : decode cX10_shape 141 = .ok (.getfield 87, 3) := by decide +kernel
theorem dX10_shape_144 : decode cX10_shape 144 = .ok (.iload_n 3, 1) := by decide +kernel
theorem dX10_shape_145 : decode cX10_shape 145 = .ok (.iaload, 1) := by decide +kernel
theorem dX10_shape_146 : decode cX10_shape 146 = .ok (.iastore, 1) := by decide +kernel
theorem dX10_shape_147 : decode cX10_shape 147 = .ok (.iinc 3 1, 3) := by decide +kernel
theorem dX10_shape_150 : decode cX10_shape 150 = .ok (.goto (-45), 3) := by decide +kernel
theorem dX10_shape_153 : decode cX10_shape 153 = .ok (.aload_n 0, 1) := by decide +kernel
theorem dX10_shape_154 : decode cX10_shape 154 = .ok (.getfield 38, 3) := by decide +kernel
theorem dX10_shape_157 : decode cX10_shape 157 = .ok (.iload_n 1, 1) := by decide +kernel
theorem dX10_shape_158 : decode cX10_shape 158 = .ok (.aload_n 0, 1) := by decide +kernel
theorem dX10_shape_159 : decode cX10_shape 159 = .ok (.getfield 93, 3) := by decide +kernel
theorem dX10_shape_162 : decode cX10_shape 162 = .ok (.iconst 0, 1) := by decide +kernel
theorem dX10_shape_163 : decode cX10_shape 163 = .ok (.iaload, 1) := by decide +kernel
theorem dX10_shape_164 : decode cX10_shape 164 = .ok (.iastore, 1) := by decide +kernel
theorem dX10_shape_165 : decode cX10_shape 165 = .ok (.aload_n 0, 1) := by decide +kernel
theorem dX10_shape_166 : decode cX10_shape 166 = .ok (.getfield 44, 3) := by decide +kernel
theorem dX10_shape_169 : decode cX10_shape 169 = .ok (.iload_n 1, 1) := by decide +kernel
theorem dX10_shape_170 : decode cX10_shape 170 = .ok (.aload_n 0, 1) := by decide +kernel
theorem dX10_shape_171 : decode cX10_shape 171 = .ok (.getfield 93, 3) := by decide +kernel
theorem dX10_shape_174 : decode cX10_shape 174 = .ok (.iconst 1, 1) := by decide +kernel
theorem dX10_shape_175 : decode cX10_shape 175 = .ok (.iaload, 1) := by decide +kernel
theorem dX10_shape_176 : decode cX10_shape 176 = .ok (.iastore, 1) := by decide +kernel
theorem dX10_shape_177 : decode cX10_shape 177 = .ok (.iconst 0, 1) := by decide +kernel
theorem dX10_shape_178 : decode cX10_shape 178 = .ok (.istore_n 3, 1) := by decide +kernel
theorem dX10_shape_179 : decode cX10_shape 179 = .ok (.iload_n 3, 1) := by decide +kernel
theorem dX10_shape_180 : decode cX10_shape 180 = .ok (.bipush 7, 2) := by decide +kernel
theorem dX10_shape_182 : decode cX10_shape 182 = .ok (.if_icmp .ge 46, 3) := by decide +kernel
theorem dX10_shape_185 : decode cX10_shape 185 = .ok (.aload_n 0, 1) := by decide +kernel
theorem dX10_shape_186 : decode cX10_shape 186 = .ok (.getfield 41, 3) := by decide +kernel
theorem dX10_shape_189 : decode cX10_shape 189 = .ok (.bipush 7, 2) := by decide +kernel
theorem dX10_shape_191 : decode cX10_shape 191 = .ok (.iload_n 1, 1) := by decide +kernel
theorem dX10_shape_192 : decode cX10_shape 192 = .ok (.imul, 1) := by decide +kernel
theorem dX10_shape_193 : decode cX10_shape 193 = .ok (.iload_n 3, 1) := by decide +kernel
theorem dX10_shape_194 : decode cX10_shape 194 = .ok (.iadd, 1) := by decide +kernel
theorem dX10_shape_195 : decode cX10_shape 195 = .ok (.aload_n 0, 1) := by decide +kernel
theorem dX10_shape_196 : decode cX10_shape 196 = .ok (.getfield 90, 3) := by decide +kernel
theorem dX10_shape_199 : decode cX10_shape 199 = .ok (.iload_n 3, 1) := by decide +kernel
theorem dX10_shape_200 : decode cX10_shape 200 = .ok (.iaload, 1) := by decide +kernel
theorem dX10_shape_201 : decode cX10_shape 201 = .ok (.iastore, 1) := by decide +kernel
theorem dX10_shape_202 : decode cX10_shape 202 = .ok (.aload_n 0, 1) := by decide +kernel
theorem dX10_shape_203 : decode cX10_shape 203 = .ok (.getfield 47, 3) := by decide +kernel
theorem dX10_shape_206 : decode cX10_shape 206 = .ok (.bipush 7, 2) := by decide +kernel
theorem dX10_shape_208 : decode cX10_shape 208 = .ok (.iload_n 1, 1) := by decide +kernel
theorem dX10_shape_209 : decode cX10_shape 209 = .ok (.imul, 1) := by decide +kernel
theorem dX10_shape_210 : decode cX10_shape 210 = .ok (.iload_n 3, 1) := by decide +kernel
theorem dX10_shape_211 : decode cX10_shape 211 = .ok (.iadd, 1) := by decide +kernel
theorem dX10_shape_212 : decode cX10_shape 212 = .ok (.aload_n 0, 1) := by decide +kernel
theorem dX10_shape_213 : decode cX10_shape 213 = .ok (.getfield 90, 3) := by decide +kernel
theorem dX10_shape_216 : decode cX10_shape 216 = .ok (.bipush 7, 2) := by decide +kernel
theorem dX10_shape_218 : decode cX10_shape 218 = .ok (.iload_n 3, 1) := by decide +kernel
theorem dX10_shape_219 : decode cX10_shape 219 = .ok (.iadd, 1) := by decide +kernel
theorem dX10_shape_220 : decode cX10_shape 220 = .ok (.iaload, 1) := by decide +kernel
theorem dX10_shape_221 : decode cX10_shape 221 = .ok (.iastore, 1) := by decide +kernel
theorem dX10_shape_222 : decode cX10_shape 222 = .ok (.iinc 3 1, 3) := by decide +kernel
theorem dX10_shape_225 : decode cX10_shape 225 = .ok (.goto (-46), 3) := by decide +kernel
theorem dX10_shape_228 : decode cX10_shape 228 = .ok (.aload_n 0, 1) := by decide +kernel
theorem dX10_shape_229 : decode cX10_shape 229 = .ok (.getfield 50, 3) := by decide +kernel
theorem dX10_shape_232 : decode cX10_shape 232 = .ok (.iload_n 1, 1) := by decide +kernel
theorem dX10_shape_233 : decode cX10_shape 233 = .ok (.aload_n 0, 1) := by decide +kernel
theorem dX10_shape_234 : decode cX10_shape 234 = .ok (.getfield 156, 3) := by decide +kernel
theorem dX10_shape_237 : decode cX10_shape 237 = .ok (.iastore, 1) := by decide +kernel
theorem dX10_shape_238 : decode cX10_shape 238 = .ok (.iconst 0, 1) := by decide +kernel
theorem dX10_shape_239 : decode cX10_shape 239 = .ok (.istore_n 3, 1) := by decide +kernel
theorem dX10_shape_240 : decode cX10_shape 240 = .ok (.iload_n 3, 1) := by decide +kernel
theorem dX10_shape_241 : decode cX10_shape 241 = .ok (.bipush 6, 2) := by decide +kernel
theorem dX10_shape_243 : decode cX10_shape 243 = .ok (.if_icmp .ge 26, 3) := by decide +kernel
theorem dX10_shape_246 : decode cX10_shape 246 = .ok (.aload_n 0, 1) := by decide +kernel
theorem dX10_shape_247 : decode cX10_shape 247 = .ok (.getfield 53, 3) := by decide +kernel
theorem dX10_shape_250 : decode cX10_shape 250 = .ok (.bipush 6, 2) := by decide +kernel
theorem dX10_shape_252 : decode cX10_shape 252 = .ok (.iload_n 1, 1) := by decide +kernel
theorem dX10_shape_253 : decode cX10_shape 253 = .ok (.imul, 1) := by decide +kernel
theorem dX10_shape_254 : decode cX10_shape 254 = .ok (.iload_n 3, 1) := by decide +kernel
theorem dX10_shape_255 : decode cX10_shape 255 = .ok (.iadd, 1) := by decide +kernel
theorem dX10_shape_256 : decode cX10_shape 256 = .ok (.aload_n 0, 1) := by decide +kernel
theorem dX10_shape_257 : decode cX10_shape 257 = .ok (.getfield 96, 3) := by decide +kernel
theorem dX10_shape_260 : decode cX10_shape 260 = .ok (.iload_n 3, 1) := by decide +kernel
theorem dX10_shape_261 : decode cX10_shape 261 = .ok (.iaload, 1) := by decide +kernel
theorem dX10_shape_262 : decode cX10_shape 262 = .ok (.iastore, 1) := by decide +kernel
theorem dX10_shape_263 : decode cX10_shape 263 = .ok (.iinc 3 1, 3) := by decide +kernel
theorem dX10_shape_266 : decode cX10_shape 266 = .ok (.goto (-26), 3) := by decide +kernel
theorem dX10_shape_269 : decode cX10_shape 269 = .ok (.aload_n 0, 1) := by decide +kernel
theorem dX10_shape_270 : decode cX10_shape 270 = .ok (.getfield 141, 3) := by decide +kernel
theorem dX10_shape_273 : decode cX10_shape 273 = .ok (.ireturn, 1) := by decide +kernel
theorem dX10_fault_0 : decode cX10_fault 0 = .ok (.aload_n 0, 1) := by decide +kernel
theorem dX10_fault_1 : decode cX10_fault 1 = .ok (.iconst 0, 1) := by decide +kernel
theorem dX10_fault_2 : decode cX10_fault 2 = .ok (.putfield 126, 3) := by decide +kernel
theorem dX10_fault_5 : decode cX10_fault 5 = .ok (.iload_n 1, 1) := by decide +kernel
theorem dX10_fault_6 : decode cX10_fault 6 = .ok (.ifCond .ne 10, 3) := by decide +kernel
theorem dX10_fault_9 : decode cX10_fault 9 = .ok (.aload_n 0, 1) := by decide +kernel
theorem dX10_fault_10 : decode cX10_fault 10 = .ok (.getfield 132, 3) := by decide +kernel
theorem dX10_fault_13 : decode cX10_fault 13 = .ok (.goto 16, 3) := by decide +kernel
theorem dX10_fault_16 : decode cX10_fault 16 = .ok (.iload_n 1, 1) := by decide +kernel
theorem dX10_fault_17 : decode cX10_fault 17 = .ok (.iconst 1, 1) := by decide +kernel
theorem dX10_fault_18 : decode cX10_fault 18 = .ok (.if_icmp .ne 10, 3) := by decide +kernel
theorem dX10_fault_21 : decode cX10_fault 21 = .ok (.aload_n 0, 1) := by decide +kernel
theorem dX10_fault_22 : decode cX10_fault 22 = .ok (.getfield 56, 3) := by decide +kernel
theorem dX10_fault_25 : decode cX10_fault 25 = .ok (.goto 4, 3) := by decide +kernel
theorem dX10_fault_28 : decode cX10_fault 28 = .ok (.iconst (-1), 1) := by decide +kernel
theorem dX10_fault_29 : decode cX10_fault 29 = .ok (.ireturn, 1) := by decide +kernel
theorem dX10_isLetter_0 : decode cX10_isLetter 0 = .ok (.iload_n 0, 1) := by decide +kernel
theorem dX10_isLetter_1 : decode cX10_isLetter 1 = .ok (.bipush 65, 2) := by decide +kernel
theorem dX10_isLetter_3 : decode cX10_isLetter 3 = .ok (.if_icmp .lt 9, 3) := by decide +kernel
theorem dX10_isLetter_6 : decode cX10_isLetter 6 = .ok (.iload_n 0, 1) := by decide +kernel
theorem dX10_isLetter_7 : decode cX10_isLetter 7 = .ok (.bipush 90, 2) := by decide +kernel
theorem dX10_isLetter_9 : decode cX10_isLetter 9 = .ok (.if_icmp .le 15, 3) := by decide +kernel
theorem dX10_isLetter_12 : decode cX10_isLetter 12 = .ok (.iload_n 0, 1) := by decide +kernel
theorem dX10_isLetter_13 : decode cX10_isLetter 13 = .ok (.bipush 97, 2) := by decide +kernel
theorem dX10_isLetter_15 : decode cX10_isLetter 15 = .ok (.if_icmp .lt 13, 3) := by decide +kernel
theorem dX10_isLetter_18 : decode cX10_isLetter 18 = .ok (.iload_n 0, 1) := by decide +kernel
theorem dX10_isLetter_19 : decode cX10_isLetter 19 = .ok (.bipush 122, 2) := by decide +kernel
theorem dX10_isLetter_21 : decode cX10_isLetter 21 = .ok (.if_icmp .gt 7, 3) := by decide +kernel
theorem dX10_isLetter_24 : decode cX10_isLetter 24 = .ok (.iconst 1, 1) := by decide +kernel
theorem dX10_isLetter_25 : decode cX10_isLetter 25 = .ok (.goto 4, 3) := by decide +kernel
theorem dX10_isLetter_28 : decode cX10_isLetter 28 = .ok (.iconst 0, 1) := by decide +kernel
theorem dX10_isLetter_29 : decode cX10_isLetter 29 = .ok (.ireturn, 1) := by decide +kernel
theorem dX10_isWord_0 : decode cX10_isWord 0 = .ok (.iload_n 2, 1) := by decide +kernel
theorem dX10_isWord_1 : decode cX10_isWord 1 = .ok (.iload_n 1, 1) := by decide +kernel
theorem dX10_isWord_2 : decode cX10_isWord 2 = .ok (.isub, 1) := by decide +kernel
theorem dX10_isWord_3 : decode cX10_isWord 3 = .ok (.istore_n 3, 1) := by decide +kernel
theorem dX10_isWord_4 : decode cX10_isWord 4 = .ok (.iload_n 3, 1) := by decide +kernel
theorem dX10_isWord_5 : decode cX10_isWord 5 = .ok (.ifCond .le 20, 3) := by decide +kernel
theorem dX10_isWord_8 : decode cX10_isWord 8 = .ok (.aload_n 0, 1) := by decide +kernel
theorem dX10_isWord_9 : decode cX10_isWord 9 = .ok (.getfield 7, 3) := by decide +kernel
theorem dX10_isWord_12 : decode cX10_isWord 12 = .ok (.iload_n 2, 1) := by decide +kernel
theorem dX10_isWord_13 : decode cX10_isWord 13 = .ok (.iconst 1, 1) := by decide +kernel
theorem dX10_isWord_14 : decode cX10_isWord 14 = .ok (.isub, 1) := by decide +kernel
theorem dX10_isWord_15 : decode cX10_isWord 15 = .ok (.iaload, 1) := by decide +kernel
theorem dX10_isWord_16 : decode cX10_isWord 16 = .ok (.bipush 46, 2) := by decide +kernel
theorem dX10_isWord_18 : decode cX10_isWord 18 = .ok (.if_icmp .ne 7, 3) := by decide +kernel
theorem dX10_isWord_21 : decode cX10_isWord 21 = .ok (.iconst 1, 1) := by decide +kernel
theorem dX10_isWord_22 : decode cX10_isWord 22 = .ok (.goto 4, 3) := by decide +kernel
theorem dX10_isWord_25 : decode cX10_isWord 25 = .ok (.iconst 0, 1) := by decide +kernel
theorem dX10_isWord_26 : decode cX10_isWord 26 = .ok (.istore 4, 2) := by decide +kernel
theorem dX10_isWord_28 : decode cX10_isWord 28 = .ok (.iload 4, 2) := by decide +kernel
theorem dX10_isWord_30 : decode cX10_isWord 30 = .ok (.ifCond .eq 9, 3) := by decide +kernel
theorem dX10_isWord_33 : decode cX10_isWord 33 = .ok (.iload_n 3, 1) := by decide +kernel
theorem dX10_isWord_34 : decode cX10_isWord 34 = .ok (.iconst 1, 1) := by decide +kernel
theorem dX10_isWord_35 : decode cX10_isWord 35 = .ok (.isub, 1) := by decide +kernel
theorem dX10_isWord_36 : decode cX10_isWord 36 = .ok (.goto 4, 3) := by decide +kernel
theorem dX10_isWord_39 : decode cX10_isWord 39 = .ok (.iload_n 3, 1) := by decide +kernel
theorem dX10_isWord_40 : decode cX10_isWord 40 = .ok (.istore 5, 2) := by decide +kernel
theorem dX10_isWord_42 : decode cX10_isWord 42 = .ok (.iload 5, 2) := by decide +kernel
theorem dX10_isWord_44 : decode cX10_isWord 44 = .ok (.iconst 1, 1) := by decide +kernel
theorem dX10_isWord_45 : decode cX10_isWord 45 = .ok (.if_icmp .lt 22, 3) := by decide +kernel
theorem dX10_isWord_48 : decode cX10_isWord 48 = .ok (.iload 5, 2) := by decide +kernel
theorem dX10_isWord_50 : decode cX10_isWord 50 = .ok (.bipush 20, 2) := by decide +kernel
theorem dX10_isWord_52 : decode cX10_isWord 52 = .ok (.if_icmp .gt 15, 3) := by decide +kernel
theorem dX10_isWord_55 : decode cX10_isWord 55 = .ok (.aload_n 0, 1) := by decide +kernel
theorem dX10_isWord_56 : decode cX10_isWord 56 = .ok (.getfield 7, 3) := by decide +kernel
theorem dX10_isWord_59 : decode cX10_isWord 59 = .ok (.iload_n 1, 1) := by decide +kernel
theorem dX10_isWord_60 : decode cX10_isWord 60 = .ok (.iaload, 1) := by decide +kernel
theorem dX10_isWord_61 : decode cX10_isWord 61 = .ok (.invokestatic 170, 3) := by decide +kernel
theorem dX10_isWord_64 : decode cX10_isWord 64 = .ok (.ifCond .ne 5, 3) := by decide +kernel
theorem dX10_isWord_67 : decode cX10_isWord 67 = .ok (.iconst 0, 1) := by decide +kernel
theorem dX10_isWord_68 : decode cX10_isWord 68 = .ok (.ireturn, 1) := by decide +kernel
theorem dX10_isWord_69 : decode cX10_isWord 69 = .ok (.aload_n 0, 1) := by decide +kernel
theorem dX10_isWord_70 : decode cX10_isWord 70 = .ok (.iconst 0, 1) := by decide +kernel
theorem dX10_isWord_71 : decode cX10_isWord 71 = .ok (.putfield 173, 3) := by decide +kernel
theorem dX10_isWord_74 : decode cX10_isWord 74 = .ok (.iload_n 1, 1) := by decide +kernel
theorem dX10_isWord_75 : decode cX10_isWord 75 = .ok (.istore 6, 2) := by decide +kernel
theorem dX10_isWord_77 : decode cX10_isWord 77 = .ok (.iload 6, 2) := by decide +kernel
theorem dX10_isWord_79 : decode cX10_isWord 79 = .ok (.iload_n 1, 1) := by decide +kernel
theorem dX10_isWord_80 : decode cX10_isWord 80 = .ok (.iload 5, 2) := by decide +kernel
theorem dX10_isWord_82 : decode cX10_isWord 82 = .ok (.iadd, 1) := by decide +kernel
theorem dX10_isWord_83 : decode cX10_isWord 83 = .ok (.if_icmp .ge 86, 3) := by decide +kernel
theorem dX10_isWord_86 : decode cX10_isWord 86 = .ok (.aload_n 0, 1) := by decide +kernel
theorem dX10_isWord_87 : decode cX10_isWord 87 = .ok (.getfield 7, 3) := by decide +kernel
theorem dX10_isWord_90 : decode cX10_isWord 90 = .ok (.iload 6, 2) := by decide +kernel
theorem dX10_isWord_92 : decode cX10_isWord 92 = .ok (.iaload, 1) := by decide +kernel
theorem dX10_isWord_93 : decode cX10_isWord 93 = .ok (.istore 7, 2) := by decide +kernel
theorem dX10_isWord_95 : decode cX10_isWord 95 = .ok (.iload 7, 2) := by decide +kernel
theorem dX10_isWord_97 : decode cX10_isWord 97 = .ok (.invokestatic 170, 3) := by decide +kernel
theorem dX10_isWord_100 : decode cX10_isWord 100 = .ok (.ifCond .ne 19, 3) := by decide +kernel
theorem dX10_isWord_103 : decode cX10_isWord 103 = .ok (.iload 7, 2) := by decide +kernel
theorem dX10_isWord_105 : decode cX10_isWord 105 = .ok (.bipush 39, 2) := by decide +kernel
theorem dX10_isWord_107 : decode cX10_isWord 107 = .ok (.if_icmp .eq 12, 3) := by decide +kernel
theorem dX10_isWord_110 : decode cX10_isWord 110 = .ok (.iload 7, 2) := by decide +kernel
theorem dX10_isWord_112 : decode cX10_isWord 112 = .ok (.bipush 45, 2) := by decide +kernel
theorem dX10_isWord_114 : decode cX10_isWord 114 = .ok (.if_icmp .eq 5, 3) := by decide +kernel
theorem dX10_isWord_117 : decode cX10_isWord 117 = .ok (.iconst 0, 1) := by decide +kernel
theorem dX10_isWord_118 : decode cX10_isWord 118 = .ok (.ireturn, 1) := by decide +kernel
theorem dX10_isWord_119 : decode cX10_isWord 119 = .ok (.iload 7, 2) := by decide +kernel
theorem dX10_isWord_121 : decode cX10_isWord 121 = .ok (.invokestatic 170, 3) := by decide +kernel
theorem dX10_isWord_124 : decode cX10_isWord 124 = .ok (.ifCond .eq 39, 3) := by decide +kernel
theorem dX10_isWord_127 : decode cX10_isWord 127 = .ok (.aload_n 0, 1) := by decide +kernel
theorem dX10_isWord_128 : decode cX10_isWord 128 = .ok (.getfield 99, 3) := by decide +kernel
theorem dX10_isWord_131 : decode cX10_isWord 131 = .ok (.aload_n 0, 1) := by decide +kernel
theorem dX10_isWord_132 : decode cX10_isWord 132 = .ok (.getfield 173, 3) := by decide +kernel
theorem dX10_isWord_135 : decode cX10_isWord 135 = .ok (.iload 7, 2) := by decide +kernel
theorem dX10_isWord_137 : decode cX10_isWord 137 = .ok (.bipush 97, 2) := by decide +kernel
theorem dX10_isWord_139 : decode cX10_isWord 139 = .ok (.if_icmp .ge 11, 3) := by decide +kernel
theorem dX10_isWord_142 : decode cX10_isWord 142 = .ok (.iload 7, 2) := by decide +kernel
theorem dX10_isWord_144 : decode cX10_isWord 144 = .ok (.bipush 32, 2) := by decide +kernel
theorem dX10_isWord_146 : decode cX10_isWord 146 = .ok (.iadd, 1) := by decide +kernel
theorem dX10_isWord_147 : decode cX10_isWord 147 = .ok (.goto 5, 3) := by decide +kernel
theorem dX10_isWord_150 : decode cX10_isWord 150 = .ok (.iload 7, 2) := by decide +kernel
theorem dX10_isWord_152 : decode cX10_isWord 152 = .ok (.iastore, 1) := by decide +kernel
theorem dX10_isWord_153 : decode cX10_isWord 153 = .ok (.aload_n 0, 1) := by decide +kernel
theorem dX10_isWord_154 : decode cX10_isWord 154 = .ok (.dup, 1) := by decide +kernel
theorem dX10_isWord_155 : decode cX10_isWord 155 = .ok (.getfield 173, 3) := by decide +kernel
theorem dX10_isWord_158 : decode cX10_isWord 158 = .ok (.iconst 1, 1) := by decide +kernel
theorem dX10_isWord_159 : decode cX10_isWord 159 = .ok (.iadd, 1) := by decide +kernel
theorem dX10_isWord_160 : decode cX10_isWord 160 = .ok (.putfield 173, 3) := by decide +kernel
theorem dX10_isWord_163 : decode cX10_isWord 163 = .ok (.iinc 6 1, 3) := by decide +kernel
theorem dX10_isWord_166 : decode cX10_isWord 166 = .ok (.goto (-89), 3) := by decide +kernel
theorem dX10_isWord_169 : decode cX10_isWord 169 = .ok (.iconst 1, 1) := by decide +kernel
theorem dX10_isWord_170 : decode cX10_isWord 170 = .ok (.ireturn, 1) := by decide +kernel
theorem dX10_entry_0 : decode cX10_entry 0 = .ok (.iconst 0, 1) := by decide +kernel
theorem dX10_entry_1 : decode cX10_entry 1 = .ok (.istore 6, 2) := by decide +kernel
theorem dX10_entry_3 : decode cX10_entry 3 = .ok (.iload 6, 2) := by decide +kernel
theorem dX10_entry_5 : decode cX10_entry 5 = .ok (.aload_n 0, 1) := by decide +kernel
theorem dX10_entry_6 : decode cX10_entry 6 = .ok (.getfield 176, 3) := by decide +kernel
theorem dX10_entry_9 : decode cX10_entry 9 = .ok (.if_icmp .ge 109, 3) := by decide +kernel
theorem dX10_entry_12 : decode cX10_entry 12 = .ok (.aload_n 0, 1) := by decide +kernel
theorem dX10_entry_13 : decode cX10_entry 13 = .ok (.getfield 13, 3) := by decide +kernel
theorem dX10_entry_16 : decode cX10_entry 16 = .ok (.iload 6, 2) := by decide +kernel
theorem dX10_entry_18 : decode cX10_entry 18 = .ok (.iaload, 1) := by decide +kernel
theorem dX10_entry_19 : decode cX10_entry 19 = .ok (.iload_n 1, 1) := by decide +kernel
theorem dX10_entry_20 : decode cX10_entry 20 = .ok (.if_icmp .ne 30, 3) := by decide +kernel
theorem dX10_entry_23 : decode cX10_entry 23 = .ok (.aload_n 0, 1) := by decide +kernel
theorem dX10_entry_24 : decode cX10_entry 24 = .ok (.getfield 16, 3) := by decide +kernel
theorem dX10_entry_27 : decode cX10_entry 27 = .ok (.iload 6, 2) := by decide +kernel
theorem dX10_entry_29 : decode cX10_entry 29 = .ok (.iaload, 1) := by decide +kernel
theorem dX10_entry_30 : decode cX10_entry 30 = .ok (.iload_n 2, 1) := by decide +kernel
theorem dX10_entry_31 : decode cX10_entry 31 = .ok (.if_icmp .ne 19, 3) := by decide +kernel
theorem dX10_entry_34 : decode cX10_entry 34 = .ok (.aload_n 0, 1) := by decide +kernel
theorem dX10_entry_35 : decode cX10_entry 35 = .ok (.getfield 19, 3) := by decide +kernel
theorem dX10_entry_38 : decode cX10_entry 38 = .ok (.iload 6, 2) := by decide +kernel
theorem dX10_entry_40 : decode cX10_entry 40 = .ok (.iaload, 1) := by decide +kernel
theorem dX10_entry_41 : decode cX10_entry 41 = .ok (.iload 5, 2) := by decide +kernel
theorem dX10_entry_43 : decode cX10_entry 43 = .ok (.if_icmp .ne 7, 3) := by decide +kernel
theorem dX10_entry_46 : decode cX10_entry 46 = .ok (.iconst 1, 1) := by decide +kernel
theorem dX10_entry_47 : decode cX10_entry 47 = .ok (.goto 4, 3) := by decide +kernel
theorem dX10_entry_50 : decode cX10_entry 50 = .ok (.iconst 0, 1) := by decide +kernel
theorem dX10_entry_51 : decode cX10_entry 51 = .ok (.istore 7, 2) := by decide +kernel
theorem dX10_entry_53 : decode cX10_entry 53 = .ok (.iconst 0, 1) := by decide +kernel
theorem dX10_entry_54 : decode cX10_entry 54 = .ok (.istore 8, 2) := by decide +kernel
theorem dX10_entry_56 : decode cX10_entry 56 = .ok (.iload 8, 2) := by decide +kernel
theorem dX10_entry_58 : decode cX10_entry 58 = .ok (.iload 5, 2) := by decide +kernel
theorem dX10_entry_60 : decode cX10_entry 60 = .ok (.if_icmp .ge 44, 3) := by decide +kernel
theorem dX10_entry_63 : decode cX10_entry 63 = .ok (.iload 7, 2) := by decide +kernel
theorem dX10_entry_65 : decode cX10_entry 65 = .ok (.ifCond .eq 39, 3) := by decide +kernel
theorem dX10_entry_68 : decode cX10_entry 68 = .ok (.aload_n 0, 1) := by decide +kernel
theorem dX10_entry_69 : decode cX10_entry 69 = .ok (.getfield 22, 3) := by decide +kernel
theorem dX10_entry_72 : decode cX10_entry 72 = .ok (.bipush 21, 2) := by decide +kernel
theorem dX10_entry_74 : decode cX10_entry 74 = .ok (.iload 6, 2) := by decide +kernel
theorem dX10_entry_76 : decode cX10_entry 76 = .ok (.imul, 1) := by decide +kernel
theorem dX10_entry_77 : decode cX10_entry 77 = .ok (.iload 8, 2) := by decide +kernel
theorem dX10_entry_79 : decode cX10_entry 79 = .ok (.iadd, 1) := by decide +kernel
theorem dX10_entry_80 : decode cX10_entry 80 = .ok (.iaload, 1) := by decide +kernel
theorem dX10_entry_81 : decode cX10_entry 81 = .ok (.aload_n 3, 1) := by decide +kernel
theorem dX10_entry_82 : decode cX10_entry 82 = .ok (.iload 4, 2) := by decide +kernel
theorem dX10_entry_84 : decode cX10_entry 84 = .ok (.iload 8, 2) := by decide +kernel
theorem dX10_entry_86 : decode cX10_entry 86 = .ok (.iadd, 1) := by decide +kernel
theorem dX10_entry_87 : decode cX10_entry 87 = .ok (.iaload, 1) := by decide +kernel
theorem dX10_entry_88 : decode cX10_entry 88 = .ok (.if_icmp .ne 7, 3) := by decide +kernel
theorem dX10_entry_91 : decode cX10_entry 91 = .ok (.iconst 1, 1) := by decide +kernel
theorem dX10_entry_92 : decode cX10_entry 92 = .ok (.goto 4, 3) := by decide +kernel
theorem dX10_entry_95 : decode cX10_entry 95 = .ok (.iconst 0, 1) := by decide +kernel
theorem dX10_entry_96 : decode cX10_entry 96 = .ok (.istore 7, 2) := by decide +kernel
theorem dX10_entry_98 : decode cX10_entry 98 = .ok (.iinc 8 1, 3) := by decide +kernel
theorem dX10_entry_101 : decode cX10_entry 101 = .ok (.goto (-45), 3) := by decide +kernel
theorem dX10_entry_104 : decode cX10_entry 104 = .ok (.iload 7, 2) := by decide +kernel
theorem dX10_entry_106 : decode cX10_entry 106 = .ok (.ifCond .eq 6, 3) := by decide +kernel
theorem dX10_entry_109 : decode cX10_entry 109 = .ok (.iload 6, 2) := by decide +kernel
theorem dX10_entry_111 : decode cX10_entry 111 = .ok (.ireturn, 1) := by decide +kernel
theorem dX10_entry_112 : decode cX10_entry 112 = .ok (.iinc 6 1, 3) := by decide +kernel
theorem dX10_entry_115 : decode cX10_entry 115 = .ok (.goto (-112), 3) := by decide +kernel
theorem dX10_entry_118 : decode cX10_entry 118 = .ok (.iconst (-1), 1) := by decide +kernel
theorem dX10_entry_119 : decode cX10_entry 119 = .ok (.ireturn, 1) := by decide +kernel
theorem dX10_isKept_0 : decode cX10_isKept 0 = .ok (.iload_n 0, 1) := by decide +kernel
theorem dX10_isKept_1 : decode cX10_isKept 1 = .ok (.ifCond .lt 12, 3) := by decide +kernel
theorem dX10_isKept_4 : decode cX10_isKept 4 = .ok (.iload_n 0, 1) := by decide +kernel
theorem dX10_isKept_5 : decode cX10_isKept 5 = .ok (.iconst 4, 1) := by decide +kernel
theorem dX10_isKept_6 : decode cX10_isKept 6 = .ok (.if_icmp .gt 7, 3) := by decide +kernel
theorem dX10_isKept_9 : decode cX10_isKept 9 = .ok (.iconst 1, 1) := by decide +kernel
theorem dX10_isKept_10 : decode cX10_isKept 10 = .ok (.goto 4, 3) := by decide +kernel
theorem dX10_isKept_13 : decode cX10_isKept 13 = .ok (.iconst 0, 1) := by decide +kernel
theorem dX10_isKept_14 : decode cX10_isKept 14 = .ok (.ireturn, 1) := by decide +kernel
theorem dX10_know_0 : decode cX10_know 0 = .ok (.aload_n 0, 1) := by decide +kernel
theorem dX10_know_1 : decode cX10_know 1 = .ok (.iconst 0, 1) := by decide +kernel
theorem dX10_know_2 : decode cX10_know 2 = .ok (.putfield 126, 3) := by decide +kernel
theorem dX10_know_5 : decode cX10_know 5 = .ok (.iload_n 1, 1) := by decide +kernel
theorem dX10_know_6 : decode cX10_know 6 = .ok (.ifCond .lt 63, 3) := by decide +kernel
theorem dX10_know_9 : decode cX10_know 9 = .ok (.iload_n 1, 1) := by decide +kernel
theorem dX10_know_10 : decode cX10_know 10 = .ok (.iconst 5, 1) := by decide +kernel
theorem dX10_know_11 : decode cX10_know 11 = .ok (.if_icmp .gt 58, 3) := by decide +kernel
theorem dX10_know_14 : decode cX10_know 14 = .ok (.iload_n 2, 1) := by decide +kernel
theorem dX10_know_15 : decode cX10_know 15 = .ok (.invokestatic 179, 3) := by decide +kernel
theorem dX10_know_18 : decode cX10_know 18 = .ok (.ifCond .eq 51, 3) := by decide +kernel
theorem dX10_know_21 : decode cX10_know 21 = .ok (.iload_n 3, 1) := by decide +kernel
theorem dX10_know_22 : decode cX10_know 22 = .ok (.ifCond .lt 47, 3) := by decide +kernel
theorem dX10_know_25 : decode cX10_know 25 = .ok (.iload_n 3, 1) := by decide +kernel
theorem dX10_know_26 : decode cX10_know 26 = .ok (.aload_n 0, 1) := by decide +kernel
theorem dX10_know_27 : decode cX10_know 27 = .ok (.getfield 129, 3) := by decide +kernel
theorem dX10_know_30 : decode cX10_know 30 = .ok (.if_icmp .gt 39, 3) := by decide +kernel
theorem dX10_know_33 : decode cX10_know 33 = .ok (.aload_n 0, 1) := by decide +kernel
theorem dX10_know_34 : decode cX10_know 34 = .ok (.getfield 176, 3) := by decide +kernel
theorem dX10_know_37 : decode cX10_know 37 = .ok (.bipush 80, 2) := by decide +kernel
theorem dX10_know_39 : decode cX10_know 39 = .ok (.if_icmp .eq 30, 3) := by decide +kernel
theorem dX10_know_42 : decode cX10_know 42 = .ok (.aload_n 0, 1) := by decide +kernel
theorem dX10_know_43 : decode cX10_know 43 = .ok (.iconst 0, 1) := by decide +kernel
theorem dX10_know_44 : decode cX10_know 44 = .ok (.iload_n 3, 1) := by decide +kernel
theorem dX10_know_45 : decode cX10_know 45 = .ok (.invokevirtual 182, 3) := by decide +kernel
theorem dX10_know_48 : decode cX10_know 48 = .ok (.ifCond .eq 21, 3) := by decide +kernel
theorem dX10_know_51 : decode cX10_know 51 = .ok (.aload_n 0, 1) := by decide +kernel
theorem dX10_know_52 : decode cX10_know 52 = .ok (.iload_n 1, 1) := by decide +kernel
theorem dX10_know_53 : decode cX10_know 53 = .ok (.iload_n 2, 1) := by decide +kernel
theorem dX10_know_54 : decode cX10_know 54 = .ok (.aload_n 0, 1) := by decide +kernel
theorem dX10_know_55 : decode cX10_know 55 = .ok (.getfield 99, 3) := by decide +kernel
theorem dX10_know_58 : decode cX10_know 58 = .ok (.iconst 0, 1) := by decide +kernel
theorem dX10_know_59 : decode cX10_know 59 = .ok (.aload_n 0, 1) := by decide +kernel
theorem dX10_know_60 : decode cX10_know 60 = .ok (.getfield 173, 3) := by decide +kernel
theorem dX10_know_63 : decode cX10_know 63 = .ok (.invokevirtual 185, 3) := by decide +kernel
theorem dX10_know_66 : decode cX10_know 66 = .ok (.ifCond .lt 5, 3) := by decide +kernel
theorem dX10_know_69 : decode cX10_know 69 = .ok (.iconst (-1), 1) := by decide +kernel
theorem dX10_know_70 : decode cX10_know 70 = .ok (.ireturn, 1) := by decide +kernel
theorem dX10_know_71 : decode cX10_know 71 = .ok (.aload_n 0, 1) := by decide +kernel
theorem dX10_know_72 : decode cX10_know 72 = .ok (.iconst 0, 1) := by decide +kernel
theorem dX10_know_73 : decode cX10_know 73 = .ok (.putfield 129, 3) := by decide +kernel
theorem dX10_know_76 : decode cX10_know 76 = .ok (.aload_n 0, 1) := by decide +kernel
theorem dX10_know_77 : decode cX10_know 77 = .ok (.getfield 13, 3) := by decide +kernel
theorem dX10_know_80 : decode cX10_know 80 = .ok (.aload_n 0, 1) := by decide +kernel
theorem dX10_know_81 : decode cX10_know 81 = .ok (.getfield 176, 3) := by decide +kernel
theorem dX10_know_84 : decode cX10_know 84 = .ok (.iload_n 1, 1) := by decide +kernel
theorem dX10_know_85 : decode cX10_know 85 = .ok (.iastore, 1) := by decide +kernel
theorem dX10_know_86 : decode cX10_know 86 = .ok (.aload_n 0, 1) := by decide +kernel
theorem dX10_know_87 : decode cX10_know 87 = .ok (.getfield 16, 3) := by decide +kernel
theorem dX10_know_90 : decode cX10_know 90 = .ok (.aload_n 0, 1) := by decide +kernel
theorem dX10_know_91 : decode cX10_know 91 = .ok (.getfield 176, 3) := by decide +kernel
theorem dX10_know_94 : decode cX10_know 94 = .ok (.iload_n 2, 1) := by decide +kernel
theorem dX10_know_95 : decode cX10_know 95 = .ok (.iastore, 1) := by decide +kernel
theorem dX10_know_96 : decode cX10_know 96 = .ok (.aload_n 0, 1) := by decide +kernel
theorem dX10_know_97 : decode cX10_know 97 = .ok (.getfield 19, 3) := by decide +kernel
theorem dX10_know_100 : decode cX10_know 100 = .ok (.aload_n 0, 1) := by decide +kernel
theorem dX10_know_101 : decode cX10_know 101 = .ok (.getfield 176, 3) := by decide +kernel
theorem dX10_know_104 : decode cX10_know 104 = .ok (.aload_n 0, 1) := by decide +kernel
theorem dX10_know_105 : decode cX10_know 105 = .ok (.getfield 173, 3) := by decide +kernel
theorem dX10_know_108 : decode cX10_know 108 = .ok (.iastore, 1) := by decide +kernel
theorem dX10_know_109 : decode cX10_know 109 = .ok (.iconst 0, 1) := by decide +kernel
theorem dX10_know_110 : decode cX10_know 110 = .ok (.istore 4, 2) := by decide +kernel
theorem dX10_know_112 : decode cX10_know 112 = .ok (.iload 4, 2) := by decide +kernel
theorem dX10_know_114 : decode cX10_know 114 = .ok (.aload_n 0, 1) := by decide +kernel
theorem dX10_know_115 : decode cX10_know 115 = .ok (.getfield 173, 3) := by decide +kernel
theorem dX10_know_118 : decode cX10_know 118 = .ok (.if_icmp .ge 31, 3) := by decide +kernel
theorem dX10_know_121 : decode cX10_know 121 = .ok (.aload_n 0, 1) := by decide +kernel
theorem dX10_know_122 : decode cX10_know 122 = .ok (.getfield 22, 3) := by decide +kernel
theorem dX10_know_125 : decode cX10_know 125 = .ok (.bipush 21, 2) := by decide +kernel
theorem dX10_know_127 : decode cX10_know 127 = .ok (.aload_n 0, 1) := by decide +kernel
theorem dX10_know_128 : decode cX10_know 128 = .ok (.getfield 176, 3) := by decide +kernel
theorem dX10_know_131 : decode cX10_know 131 = .ok (.imul, 1) := by decide +kernel
theorem dX10_know_132 : decode cX10_know 132 = .ok (.iload 4, 2) := by decide +kernel
theorem dX10_know_134 : decode cX10_know 134 = .ok (.iadd, 1) := by decide +kernel
theorem dX10_know_135 : decode cX10_know 135 = .ok (.aload_n 0, 1) := by decide +kernel
theorem dX10_know_136 : decode cX10_know 136 = .ok (.getfield 99, 3) := by decide +kernel
theorem dX10_know_139 : decode cX10_know 139 = .ok (.iload 4, 2) := by decide +kernel
theorem dX10_know_141 : decode cX10_know 141 = .ok (.iaload, 1) := by decide +kernel
theorem dX10_know_142 : decode cX10_know 142 = .ok (.iastore, 1) := by decide +kernel
theorem dX10_know_143 : decode cX10_know 143 = .ok (.iinc 4 1, 3) := by decide +kernel
theorem dX10_know_146 : decode cX10_know 146 = .ok (.goto (-34), 3) := by decide +kernel
theorem dX10_know_149 : decode cX10_know 149 = .ok (.aload_n 0, 1) := by decide +kernel
theorem dX10_know_150 : decode cX10_know 150 = .ok (.dup, 1) := by decide +kernel
theorem dX10_know_151 : decode cX10_know 151 = .ok (.getfield 176, 3) := by decide +kernel
theorem dX10_know_154 : decode cX10_know 154 = .ok (.iconst 1, 1) := by decide +kernel
theorem dX10_know_155 : decode cX10_know 155 = .ok (.iadd, 1) := by decide +kernel
theorem dX10_know_156 : decode cX10_know 156 = .ok (.putfield 176, 3) := by decide +kernel
theorem dX10_know_159 : decode cX10_know 159 = .ok (.aload_n 0, 1) := by decide +kernel
theorem dX10_know_160 : decode cX10_know 160 = .ok (.getfield 176, 3) := by decide +kernel
theorem dX10_know_163 : decode cX10_know 163 = .ok (.ireturn, 1) := by decide +kernel
theorem dX10_forget_0 : decode cX10_forget 0 = .ok (.aload_n 0, 1) := by decide +kernel
theorem dX10_forget_1 : decode cX10_forget 1 = .ok (.iconst 0, 1) := by decide +kernel
theorem dX10_forget_2 : decode cX10_forget 2 = .ok (.putfield 126, 3) := by decide +kernel
theorem dX10_forget_5 : decode cX10_forget 5 = .ok (.iload_n 1, 1) := by decide +kernel
theorem dX10_forget_6 : decode cX10_forget 6 = .ok (.ifCond .lt 36, 3) := by decide +kernel
theorem dX10_forget_9 : decode cX10_forget 9 = .ok (.iload_n 1, 1) := by decide +kernel
theorem dX10_forget_10 : decode cX10_forget 10 = .ok (.iconst 5, 1) := by decide +kernel
theorem dX10_forget_11 : decode cX10_forget 11 = .ok (.if_icmp .gt 31, 3) := by decide +kernel
theorem dX10_forget_14 : decode cX10_forget 14 = .ok (.iload_n 2, 1) := by decide +kernel
theorem dX10_forget_15 : decode cX10_forget 15 = .ok (.invokestatic 179, 3) := by decide +kernel
theorem dX10_forget_18 : decode cX10_forget 18 = .ok (.ifCond .eq 24, 3) := by decide +kernel
theorem dX10_forget_21 : decode cX10_forget 21 = .ok (.iload_n 3, 1) := by decide +kernel
theorem dX10_forget_22 : decode cX10_forget 22 = .ok (.ifCond .lt 20, 3) := by decide +kernel
theorem dX10_forget_25 : decode cX10_forget 25 = .ok (.iload_n 3, 1) := by decide +kernel
theorem dX10_forget_26 : decode cX10_forget 26 = .ok (.aload_n 0, 1) := by decide +kernel
theorem dX10_forget_27 : decode cX10_forget 27 = .ok (.getfield 129, 3) := by decide +kernel
theorem dX10_forget_30 : decode cX10_forget 30 = .ok (.if_icmp .gt 12, 3) := by decide +kernel
theorem dX10_forget_33 : decode cX10_forget 33 = .ok (.aload_n 0, 1) := by decide +kernel
theorem dX10_forget_34 : decode cX10_forget 34 = .ok (.iconst 0, 1) := by decide +kernel
theorem dX10_forget_35 : decode cX10_forget 35 = .ok (.iload_n 3, 1) := by decide +kernel
theorem dX10_forget_36 : decode cX10_forget 36 = .ok (.invokevirtual 182, 3) := by decide +kernel
theorem dX10_forget_39 : decode cX10_forget 39 = .ok (.ifCond .ne 5, 3) := by decide +kernel
theorem dX10_forget_42 : decode cX10_forget 42 = .ok (.iconst 0, 1) := by decide +kernel
theorem dX10_forget_43 : decode cX10_forget 43 = .ok (.ireturn, 1) := by decide +kernel
theorem dX10_forget_44 : decode cX10_forget 44 = .ok (.aload_n 0, 1) := by decide +kernel
theorem dX10_forget_45 : decode cX10_forget 45 = .ok (.iload_n 1, 1) := by decide +kernel
theorem dX10_forget_46 : decode cX10_forget 46 = .ok (.iload_n 2, 1) := by decide +kernel
theorem dX10_forget_47 : decode cX10_forget 47 = .ok (.aload_n 0, 1) := by decide +kernel
theorem dX10_forget_48 : decode cX10_forget 48 = .ok (.getfield 99, 3) := by decide +kernel
theorem dX10_forget_51 : decode cX10_forget 51 = .ok (.iconst 0, 1) := by decide +kernel
theorem dX10_forget_52 : decode cX10_forget 52 = .ok (.aload_n 0, 1) := by decide +kernel
theorem dX10_forget_53 : decode cX10_forget 53 = .ok (.getfield 173, 3) := by decide +kernel
theorem dX10_forget_56 : decode cX10_forget 56 = .ok (.invokevirtual 185, 3) := by decide +kernel
theorem dX10_forget_59 : decode cX10_forget 59 = .ok (.istore 4, 2) := by decide +kernel
theorem dX10_forget_61 : decode cX10_forget 61 = .ok (.iload 4, 2) := by decide +kernel
theorem dX10_forget_63 : decode cX10_forget 63 = .ok (.ifCond .ge 5, 3) := by decide +kernel
theorem dX10_forget_66 : decode cX10_forget 66 = .ok (.iconst 0, 1) := by decide +kernel
theorem dX10_forget_67 : decode cX10_forget 67 = .ok (.ireturn, 1) := by decide +kernel
theorem dX10_forget_68 : decode cX10_forget 68 = .ok (.aload_n 0, 1) := by decide +kernel
theorem dX10_forget_69 : decode cX10_forget 69 = .ok (.iconst 0, 1) := by decide +kernel
theorem dX10_forget_70 : decode cX10_forget 70 = .ok (.putfield 129, 3) := by decide +kernel
theorem dX10_forget_73 : decode cX10_forget 73 = .ok (.aload_n 0, 1) := by decide +kernel
theorem dX10_forget_74 : decode cX10_forget 74 = .ok (.dup, 1) := by decide +kernel
theorem dX10_forget_75 : decode cX10_forget 75 = .ok (.getfield 176, 3) := by decide +kernel
theorem dX10_forget_78 : decode cX10_forget 78 = .ok (.iconst 1, 1) := by decide +kernel
theorem dX10_forget_79 : decode cX10_forget 79 = .ok (.isub, 1) := by decide +kernel
theorem dX10_forget_80 : decode cX10_forget 80 = .ok (.putfield 176, 3) := by decide +kernel
theorem dX10_forget_83 : decode cX10_forget 83 = .ok (.iload 4, 2) := by decide +kernel
theorem dX10_forget_85 : decode cX10_forget 85 = .ok (.istore 5, 2) := by decide +kernel
theorem dX10_forget_87 : decode cX10_forget 87 = .ok (.iload 5, 2) := by decide +kernel
theorem dX10_forget_89 : decode cX10_forget 89 = .ok (.aload_n 0, 1) := by decide +kernel
theorem dX10_forget_90 : decode cX10_forget 90 = .ok (.getfield 176, 3) := by decide +kernel
theorem dX10_forget_93 : decode cX10_forget 93 = .ok (.if_icmp .ge 102, 3) := by decide +kernel
theorem dX10_forget_96 : decode cX10_forget 96 = .ok (.aload_n 0, 1) := by decide +kernel
theorem dX10_forget_97 : decode cX10_forget 97 = .ok (.getfield 13, 3) := by decide +kernel
theorem dX10_forget_100 : decode cX10_forget 100 = .ok (.iload 5, 2) := by decide +kernel
theorem dX10_forget_102 : decode cX10_forget 102 = .ok (.aload_n 0, 1) := by decide +kernel
theorem dX10_forget_103 : decode cX10_forget 103 = .ok (.getfield 13, 3) := by decide +kernel
theorem dX10_forget_106 : decode cX10_forget 106 = .ok (.iload 5, 2) := by decide +kernel
theorem dX10_forget_108 : decode cX10_forget 108 = .ok (.iconst 1, 1) := by decide +kernel
theorem dX10_forget_109 : decode cX10_forget 109 = .ok (.iadd, 1) := by decide +kernel
theorem dX10_forget_110 : decode cX10_forget 110 = .ok (.iaload, 1) := by decide +kernel
theorem dX10_forget_111 : decode cX10_forget 111 = .ok (.iastore, 1) := by decide +kernel
theorem dX10_forget_112 : decode cX10_forget 112 = .ok (.aload_n 0, 1) := by decide +kernel
theorem dX10_forget_113 : decode cX10_forget 113 = .ok (.getfield 16, 3) := by decide +kernel
theorem dX10_forget_116 : decode cX10_forget 116 = .ok (.iload 5, 2) := by decide +kernel
theorem dX10_forget_118 : decode cX10_forget 118 = .ok (.aload_n 0, 1) := by decide +kernel
theorem dX10_forget_119 : decode cX10_forget 119 = .ok (.getfield 16, 3) := by decide +kernel
theorem dX10_forget_122 : decode cX10_forget 122 = .ok (.iload 5, 2) := by decide +kernel
theorem dX10_forget_124 : decode cX10_forget 124 = .ok (.iconst 1, 1) := by decide +kernel
theorem dX10_forget_125 : decode cX10_forget 125 = .ok (.iadd, 1) := by decide +kernel
theorem dX10_forget_126 : decode cX10_forget 126 = .ok (.iaload, 1) := by decide +kernel
theorem dX10_forget_127 : decode cX10_forget 127 = .ok (.iastore, 1) := by decide +kernel
theorem dX10_forget_128 : decode cX10_forget 128 = .ok (.aload_n 0, 1) := by decide +kernel
theorem dX10_forget_129 : decode cX10_forget 129 = .ok (.getfield 19, 3) := by decide +kernel
theorem dX10_forget_132 : decode cX10_forget 132 = .ok (.iload 5, 2) := by decide +kernel
theorem dX10_forget_134 : decode cX10_forget 134 = .ok (.aload_n 0, 1) := by decide +kernel
theorem dX10_forget_135 : decode cX10_forget 135 = .ok (.getfield 19, 3) := by decide +kernel
theorem dX10_forget_138 : decode cX10_forget 138 = .ok (.iload 5, 2) := by decide +kernel
theorem dX10_forget_140 : decode cX10_forget 140 = .ok (.iconst 1, 1) := by decide +kernel
theorem dX10_forget_141 : decode cX10_forget 141 = .ok (.iadd, 1) := by decide +kernel
theorem dX10_forget_142 : decode cX10_forget 142 = .ok (.iaload, 1) := by decide +kernel
theorem dX10_forget_143 : decode cX10_forget 143 = .ok (.iastore, 1) := by decide +kernel
theorem dX10_forget_144 : decode cX10_forget 144 = .ok (.iconst 0, 1) := by decide +kernel
theorem dX10_forget_145 : decode cX10_forget 145 = .ok (.istore 6, 2) := by decide +kernel
theorem dX10_forget_147 : decode cX10_forget 147 = .ok (.iload 6, 2) := by decide +kernel
theorem dX10_forget_149 : decode cX10_forget 149 = .ok (.bipush 21, 2) := by decide +kernel
theorem dX10_forget_151 : decode cX10_forget 151 = .ok (.if_icmp .ge 38, 3) := by decide +kernel
theorem dX10_forget_154 : decode cX10_forget 154 = .ok (.aload_n 0, 1) := by decide +kernel
theorem dX10_forget_155 : decode cX10_forget 155 = .ok (.getfield 22, 3) := by decide +kernel
theorem dX10_forget_158 : decode cX10_forget 158 = .ok (.bipush 21, 2) := by decide +kernel
theorem dX10_forget_160 : decode cX10_forget 160 = .ok (.iload 5, 2) := by decide +kernel
theorem dX10_forget_162 : decode cX10_forget 162 = .ok (.imul, 1) := by decide +kernel
theorem dX10_forget_163 : decode cX10_forget 163 = .ok (.iload 6, 2) := by decide +kernel
theorem dX10_forget_165 : decode cX10_forget 165 = .ok (.iadd, 1) := by decide +kernel
theorem dX10_forget_166 : decode cX10_forget 166 = .ok (.aload_n 0, 1) := by decide +kernel
theorem dX10_forget_167 : decode cX10_forget 167 = .ok (.getfield 22, 3) := by decide +kernel
theorem dX10_forget_170 : decode cX10_forget 170 = .ok (.bipush 21, 2) := by decide +kernel
theorem dX10_forget_172 : decode cX10_forget 172 = .ok (.iload 5, 2) := by decide +kernel
theorem dX10_forget_174 : decode cX10_forget 174 = .ok (.imul, 1) := by decide +kernel
theorem dX10_forget_175 : decode cX10_forget 175 = .ok (.bipush 21, 2) := by decide +kernel
theorem dX10_forget_177 : decode cX10_forget 177 = .ok (.iadd, 1) := by decide +kernel
theorem dX10_forget_178 : decode cX10_forget 178 = .ok (.iload 6, 2) := by decide +kernel
theorem dX10_forget_180 : decode cX10_forget 180 = .ok (.iadd, 1) := by decide +kernel
theorem dX10_forget_181 : decode cX10_forget 181 = .ok (.iaload, 1) := by decide +kernel
theorem dX10_forget_182 : decode cX10_forget 182 = .ok (.iastore, 1) := by decide +kernel
theorem dX10_forget_183 : decode cX10_forget 183 = .ok (.iinc 6 1, 3) := by decide +kernel
theorem dX10_forget_186 : decode cX10_forget 186 = .ok (.goto (-39), 3) := by decide +kernel
theorem dX10_forget_189 : decode cX10_forget 189 = .ok (.iinc 5 1, 3) := by decide +kernel
theorem dX10_forget_192 : decode cX10_forget 192 = .ok (.goto (-105), 3) := by decide +kernel
theorem dX10_forget_195 : decode cX10_forget 195 = .ok (.iconst 1, 1) := by decide +kernel
theorem dX10_forget_196 : decode cX10_forget 196 = .ok (.ireturn, 1) := by decide +kernel
theorem dX10_name_0 : decode cX10_name 0 = .ok (.aload_n 0, 1) := by decide +kernel
theorem dX10_name_1 : decode cX10_name 1 = .ok (.iconst 0, 1) := by decide +kernel
theorem dX10_name_2 : decode cX10_name 2 = .ok (.putfield 126, 3) := by decide +kernel
theorem dX10_name_5 : decode cX10_name 5 = .ok (.iload_n 1, 1) := by decide +kernel
theorem dX10_name_6 : decode cX10_name 6 = .ok (.ifCond .lt 30, 3) := by decide +kernel
theorem dX10_name_9 : decode cX10_name 9 = .ok (.iload_n 1, 1) := by decide +kernel
theorem dX10_name_10 : decode cX10_name 10 = .ok (.iconst 5, 1) := by decide +kernel
theorem dX10_name_11 : decode cX10_name 11 = .ok (.if_icmp .gt 25, 3) := by decide +kernel
theorem dX10_name_14 : decode cX10_name 14 = .ok (.iload_n 2, 1) := by decide +kernel
theorem dX10_name_15 : decode cX10_name 15 = .ok (.iconst 1, 1) := by decide +kernel
theorem dX10_name_16 : decode cX10_name 16 = .ok (.if_icmp .lt 20, 3) := by decide +kernel
theorem dX10_name_19 : decode cX10_name 19 = .ok (.iload_n 2, 1) := by decide +kernel
theorem dX10_name_20 : decode cX10_name 20 = .ok (.aload_n 0, 1) := by decide +kernel
theorem dX10_name_21 : decode cX10_name 21 = .ok (.getfield 129, 3) := by decide +kernel
theorem dX10_name_24 : decode cX10_name 24 = .ok (.if_icmp .gt 12, 3) := by decide +kernel
theorem dX10_name_27 : decode cX10_name 27 = .ok (.aload_n 0, 1) := by decide +kernel
theorem dX10_name_28 : decode cX10_name 28 = .ok (.getfield 189, 3) := by decide +kernel
theorem dX10_name_31 : decode cX10_name 31 = .ok (.bipush 30, 2) := by decide +kernel
theorem dX10_name_33 : decode cX10_name 33 = .ok (.if_icmp .ne 5, 3) := by decide +kernel
theorem dX10_name_36 : decode cX10_name 36 = .ok (.iconst (-1), 1) := by decide +kernel
theorem dX10_name_37 : decode cX10_name 37 = .ok (.ireturn, 1) := by decide +kernel
theorem dX10_name_38 : decode cX10_name 38 = .ok (.iconst 0, 1) := by decide +kernel
theorem dX10_name_39 : decode cX10_name 39 = .ok (.istore_n 3, 1) := by decide +kernel
theorem dX10_name_40 : decode cX10_name 40 = .ok (.iconst 0, 1) := by decide +kernel
theorem dX10_name_41 : decode cX10_name 41 = .ok (.istore 4, 2) := by decide +kernel
theorem dX10_name_43 : decode cX10_name 43 = .ok (.iconst 0, 1) := by decide +kernel
theorem dX10_name_44 : decode cX10_name 44 = .ok (.istore 5, 2) := by decide +kernel
theorem dX10_name_46 : decode cX10_name 46 = .ok (.iload 5, 2) := by decide +kernel
theorem dX10_name_48 : decode cX10_name 48 = .ok (.iload_n 2, 1) := by decide +kernel
theorem dX10_name_49 : decode cX10_name 49 = .ok (.if_icmp .gt 172, 3) := by decide +kernel
theorem dX10_name_52 : decode cX10_name 52 = .ok (.iload 5, 2) := by decide +kernel
theorem dX10_name_54 : decode cX10_name 54 = .ok (.iload_n 2, 1) := by decide +kernel
theorem dX10_name_55 : decode cX10_name 55 = .ok (.if_icmp .ge 18, 3) := by decide +kernel
theorem dX10_name_58 : decode cX10_name 58 = .ok (.aload_n 0, 1) := by decide +kernel
theorem dX10_name_59 : decode cX10_name 59 = .ok (.getfield 7, 3) := by decide +kernel
theorem dX10_name_62 : decode cX10_name 62 = .ok (.iload 5, 2) := by decide +kernel
theorem dX10_name_64 : decode cX10_name 64 = .ok (.iaload, 1) := by decide +kernel
theorem dX10_name_65 : decode cX10_name 65 = .ok (.bipush 32, 2) := by decide +kernel
theorem dX10_name_67 : decode cX10_name 67 = .ok (.if_icmp .eq 6, 3) := by decide +kernel
theorem dX10_name_70 : decode cX10_name 70 = .ok (.goto 145, 3) := by decide +kernel
theorem dX10_name_73 : decode cX10_name 73 = .ok (.iload_n 3, 1) := by decide +kernel
theorem dX10_name_74 : decode cX10_name 74 = .ok (.bipush 8, 2) := by decide +kernel
theorem dX10_name_76 : decode cX10_name 76 = .ok (.if_icmp .eq 14, 3) := by decide +kernel
theorem dX10_name_79 : decode cX10_name 79 = .ok (.aload_n 0, 1) := by decide +kernel
theorem dX10_name_80 : decode cX10_name 80 = .ok (.iload 4, 2) := by decide +kernel
theorem dX10_name_82 : decode cX10_name 82 = .ok (.iload 5, 2) := by decide +kernel
theorem dX10_name_84 : decode cX10_name 84 = .ok (.invokevirtual 182, 3) := by decide +kernel
theorem dX10_name_87 : decode cX10_name 87 = .ok (.ifCond .ne 5, 3) := by decide +kernel
theorem dX10_name_90 : decode cX10_name 90 = .ok (.iconst (-1), 1) := by decide +kernel
theorem dX10_name_91 : decode cX10_name 91 = .ok (.ireturn, 1) := by decide +kernel
theorem dX10_name_92 : decode cX10_name 92 = .ok (.bipush 8, 2) := by decide +kernel
theorem dX10_name_94 : decode cX10_name 94 = .ok (.aload_n 0, 1) := by decide +kernel
theorem dX10_name_95 : decode cX10_name 95 = .ok (.getfield 189, 3) := by decide +kernel
theorem dX10_name_98 : decode cX10_name 98 = .ok (.imul, 1) := by decide +kernel
theorem dX10_name_99 : decode cX10_name 99 = .ok (.iload_n 3, 1) := by decide +kernel
theorem dX10_name_100 : decode cX10_name 100 = .ok (.iadd, 1) := by decide +kernel
theorem dX10_name_101 : decode cX10_name 101 = .ok (.istore 6, 2) := by decide +kernel
theorem dX10_name_103 : decode cX10_name 103 = .ok (.aload_n 0, 1) := by decide +kernel
theorem dX10_name_104 : decode cX10_name 104 = .ok (.getfield 69, 3) := by decide +kernel
theorem dX10_name_107 : decode cX10_name 107 = .ok (.iload 6, 2) := by decide +kernel
theorem dX10_name_109 : decode cX10_name 109 = .ok (.iload 5, 2) := by decide +kernel
theorem dX10_name_111 : decode cX10_name 111 = .ok (.iload 4, 2) := by decide +kernel
theorem dX10_name_113 : decode cX10_name 113 = .ok (.isub, 1) := by decide +kernel
theorem dX10_name_114 : decode cX10_name 114 = .ok (.iastore, 1) := by decide +kernel
theorem dX10_name_115 : decode cX10_name 115 = .ok (.iconst 0, 1) := by decide +kernel
theorem dX10_name_116 : decode cX10_name 116 = .ok (.istore 7, 2) := by decide +kernel
theorem dX10_name_118 : decode cX10_name 118 = .ok (.iload 7, 2) := by decide +kernel
theorem dX10_name_120 : decode cX10_name 120 = .ok (.iload 5, 2) := by decide +kernel
theorem dX10_name_122 : decode cX10_name 122 = .ok (.iload 4, 2) := by decide +kernel
theorem dX10_name_124 : decode cX10_name 124 = .ok (.isub, 1) := by decide +kernel
theorem dX10_name_125 : decode cX10_name 125 = .ok (.if_icmp .ge 32, 3) := by decide +kernel
theorem dX10_name_128 : decode cX10_name 128 = .ok (.aload_n 0, 1) := by decide +kernel
theorem dX10_name_129 : decode cX10_name 129 = .ok (.getfield 66, 3) := by decide +kernel
theorem dX10_name_132 : decode cX10_name 132 = .ok (.bipush 21, 2) := by decide +kernel
theorem dX10_name_134 : decode cX10_name 134 = .ok (.iload 6, 2) := by decide +kernel
theorem dX10_name_136 : decode cX10_name 136 = .ok (.imul, 1) := by decide +kernel
theorem dX10_name_137 : decode cX10_name 137 = .ok (.iload 7, 2) := by decide +kernel
theorem dX10_name_139 : decode cX10_name 139 = .ok (.iadd, 1) := by decide +kernel
theorem dX10_name_140 : decode cX10_name 140 = .ok (.aload_n 0, 1) := by decide +kernel
theorem dX10_name_141 : decode cX10_name 141 = .ok (.getfield 7, 3) := by decide +kernel
theorem dX10_name_144 : decode cX10_name 144 = .ok (.iload 4, 2) := by decide +kernel
theorem dX10_name_146 : decode cX10_name 146 = .ok (.iload 7, 2) := by decide +kernel
theorem dX10_name_148 : decode cX10_name 148 = .ok (.iadd, 1) := by decide +kernel
theorem dX10_name_149 : decode cX10_name 149 = .ok (.iaload, 1) := by decide +kernel
theorem dX10_name_150 : decode cX10_name 150 = .ok (.iastore, 1) := by decide +kernel
theorem dX10_name_151 : decode cX10_name 151 = .ok (.iinc 7 1, 3) := by decide +kernel
theorem dX10_name_154 : decode cX10_name 154 = .ok (.goto (-36), 3) := by decide +kernel
theorem dX10_name_157 : decode cX10_name 157 = .ok (.aload_n 0, 1) := by decide +kernel
theorem dX10_name_158 : decode cX10_name 158 = .ok (.getfield 75, 3) := by decide +kernel
theorem dX10_name_161 : decode cX10_name 161 = .ok (.iload 6, 2) := by decide +kernel
theorem dX10_name_163 : decode cX10_name 163 = .ok (.aload_n 0, 1) := by decide +kernel
theorem dX10_name_164 : decode cX10_name 164 = .ok (.getfield 173, 3) := by decide +kernel
theorem dX10_name_167 : decode cX10_name 167 = .ok (.iastore, 1) := by decide +kernel
theorem dX10_name_168 : decode cX10_name 168 = .ok (.iconst 0, 1) := by decide +kernel
theorem dX10_name_169 : decode cX10_name 169 = .ok (.istore 7, 2) := by decide +kernel
theorem dX10_name_171 : decode cX10_name 171 = .ok (.iload 7, 2) := by decide +kernel
theorem dX10_name_173 : decode cX10_name 173 = .ok (.aload_n 0, 1) := by decide +kernel
theorem dX10_name_174 : decode cX10_name 174 = .ok (.getfield 173, 3) := by decide +kernel
theorem dX10_name_177 : decode cX10_name 177 = .ok (.if_icmp .ge 29, 3) := by decide +kernel
theorem dX10_name_180 : decode cX10_name 180 = .ok (.aload_n 0, 1) := by decide +kernel
theorem dX10_name_181 : decode cX10_name 181 = .ok (.getfield 72, 3) := by decide +kernel
theorem dX10_name_184 : decode cX10_name 184 = .ok (.bipush 21, 2) := by decide +kernel
theorem dX10_name_186 : decode cX10_name 186 = .ok (.iload 6, 2) := by decide +kernel
theorem dX10_name_188 : decode cX10_name 188 = .ok (.imul, 1) := by decide +kernel
theorem dX10_name_189 : decode cX10_name 189 = .ok (.iload 7, 2) := by decide +kernel
theorem dX10_name_191 : decode cX10_name 191 = .ok (.iadd, 1) := by decide +kernel
theorem dX10_name_192 : decode cX10_name 192 = .ok (.aload_n 0, 1) := by decide +kernel
theorem dX10_name_193 : decode cX10_name 193 = .ok (.getfield 99, 3) := by decide +kernel
theorem dX10_name_196 : decode cX10_name 196 = .ok (.iload 7, 2) := by decide +kernel
theorem dX10_name_198 : decode cX10_name 198 = .ok (.iaload, 1) := by decide +kernel
theorem dX10_name_199 : decode cX10_name 199 = .ok (.iastore, 1) := by decide +kernel
theorem dX10_name_200 : decode cX10_name 200 = .ok (.iinc 7 1, 3) := by decide +kernel
theorem dX10_name_203 : decode cX10_name 203 = .ok (.goto (-32), 3) := by decide +kernel
theorem dX10_name_206 : decode cX10_name 206 = .ok (.iinc 3 1, 3) := by decide +kernel
theorem dX10_name_209 : decode cX10_name 209 = .ok (.iload 5, 2) := by decide +kernel
theorem dX10_name_211 : decode cX10_name 211 = .ok (.iconst 1, 1) := by decide +kernel
theorem dX10_name_212 : decode cX10_name 212 = .ok (.iadd, 1) := by decide +kernel
theorem dX10_name_213 : decode cX10_name 213 = .ok (.istore 4, 2) := by decide +kernel
theorem dX10_name_215 : decode cX10_name 215 = .ok (.iinc 5 1, 3) := by decide +kernel
theorem dX10_name_218 : decode cX10_name 218 = .ok (.goto (-172), 3) := by decide +kernel
theorem dX10_name_221 : decode cX10_name 221 = .ok (.aload_n 0, 1) := by decide +kernel
theorem dX10_name_222 : decode cX10_name 222 = .ok (.iconst 0, 1) := by decide +kernel
theorem dX10_name_223 : decode cX10_name 223 = .ok (.putfield 129, 3) := by decide +kernel
theorem dX10_name_226 : decode cX10_name 226 = .ok (.aload_n 0, 1) := by decide +kernel
theorem dX10_name_227 : decode cX10_name 227 = .ok (.getfield 60, 3) := by decide +kernel
theorem dX10_name_230 : decode cX10_name 230 = .ok (.aload_n 0, 1) := by decide +kernel
theorem dX10_name_231 : decode cX10_name 231 = .ok (.getfield 189, 3) := by decide +kernel
theorem dX10_name_234 : decode cX10_name 234 = .ok (.iload_n 1, 1) := by decide +kernel
theorem dX10_name_235 : decode cX10_name 235 = .ok (.iastore, 1) := by decide +kernel
theorem dX10_name_236 : decode cX10_name 236 = .ok (.aload_n 0, 1) := by decide +kernel
theorem dX10_name_237 : decode cX10_name 237 = .ok (.getfield 63, 3) := by decide +kernel
theorem dX10_name_240 : decode cX10_name 240 = .ok (.aload_n 0, 1) := by decide +kernel
theorem dX10_name_241 : decode cX10_name 241 = .ok (.getfield 189, 3) := by decide +kernel
theorem dX10_name_244 : decode cX10_name 244 = .ok (.iload_n 3, 1) := by decide +kernel
theorem dX10_name_245 : decode cX10_name 245 = .ok (.iastore, 1) := by decide +kernel
theorem dX10_name_246 : decode cX10_name 246 = .ok (.aload_n 0, 1) := by decide +kernel
theorem dX10_name_247 : decode cX10_name 247 = .ok (.dup, 1) := by decide +kernel
theorem dX10_name_248 : decode cX10_name 248 = .ok (.getfield 189, 3) := by decide +kernel
theorem dX10_name_251 : decode cX10_name 251 = .ok (.iconst 1, 1) := by decide +kernel
theorem dX10_name_252 : decode cX10_name 252 = .ok (.iadd, 1) := by decide +kernel
theorem dX10_name_253 : decode cX10_name 253 = .ok (.putfield 189, 3) := by decide +kernel
theorem dX10_name_256 : decode cX10_name 256 = .ok (.aload_n 0, 1) := by decide +kernel
theorem dX10_name_257 : decode cX10_name 257 = .ok (.getfield 189, 3) := by decide +kernel
theorem dX10_name_260 : decode cX10_name 260 = .ok (.iconst 1, 1) := by decide +kernel
theorem dX10_name_261 : decode cX10_name 261 = .ok (.isub, 1) := by decide +kernel
theorem dX10_name_262 : decode cX10_name 262 = .ok (.ireturn, 1) := by decide +kernel
theorem dX10_costOf_0 : decode cX10_costOf 0 = .ok (.iload_n 3, 1) := by decide +kernel
theorem dX10_costOf_1 : decode cX10_costOf 1 = .ok (.invokestatic 179, 3) := by decide +kernel
theorem dX10_costOf_4 : decode cX10_costOf 4 = .ok (.ifCond .eq 30, 3) := by decide +kernel
theorem dX10_costOf_7 : decode cX10_costOf 7 = .ok (.aload_n 0, 1) := by decide +kernel
theorem dX10_costOf_8 : decode cX10_costOf 8 = .ok (.iload_n 1, 1) := by decide +kernel
theorem dX10_costOf_9 : decode cX10_costOf 9 = .ok (.iload_n 3, 1) := by decide +kernel
theorem dX10_costOf_10 : decode cX10_costOf 10 = .ok (.aload_n 0, 1) := by decide +kernel
theorem dX10_costOf_11 : decode cX10_costOf 11 = .ok (.getfield 72, 3) := by decide +kernel
theorem dX10_costOf_14 : decode cX10_costOf 14 = .ok (.bipush 21, 2) := by decide +kernel
theorem dX10_costOf_16 : decode cX10_costOf 16 = .ok (.iload_n 2, 1) := by decide +kernel
theorem dX10_costOf_17 : decode cX10_costOf 17 = .ok (.imul, 1) := by decide +kernel
theorem dX10_costOf_18 : decode cX10_costOf 18 = .ok (.aload_n 0, 1) := by decide +kernel
theorem dX10_costOf_19 : decode cX10_costOf 19 = .ok (.getfield 75, 3) := by decide +kernel
theorem dX10_costOf_22 : decode cX10_costOf 22 = .ok (.iload_n 2, 1) := by decide +kernel
theorem dX10_costOf_23 : decode cX10_costOf 23 = .ok (.iaload, 1) := by decide +kernel
theorem dX10_costOf_24 : decode cX10_costOf 24 = .ok (.invokevirtual 185, 3) := by decide +kernel
theorem dX10_costOf_27 : decode cX10_costOf 27 = .ok (.ifCond .lt 7, 3) := by decide +kernel
theorem dX10_costOf_30 : decode cX10_costOf 30 = .ok (.iconst 1, 1) := by decide +kernel
theorem dX10_costOf_31 : decode cX10_costOf 31 = .ok (.goto 4, 3) := by decide +kernel
theorem dX10_costOf_34 : decode cX10_costOf 34 = .ok (.iconst 0, 1) := by decide +kernel
theorem dX10_costOf_35 : decode cX10_costOf 35 = .ok (.istore 4, 2) := by decide +kernel
theorem dX10_costOf_37 : decode cX10_costOf 37 = .ok (.iload_n 3, 1) := by decide +kernel
theorem dX10_costOf_38 : decode cX10_costOf 38 = .ok (.ifCond .eq 13, 3) := by decide +kernel
theorem dX10_costOf_41 : decode cX10_costOf 41 = .ok (.iload_n 3, 1) := by decide +kernel
theorem dX10_costOf_42 : decode cX10_costOf 42 = .ok (.iconst 2, 1) := by decide +kernel
theorem dX10_costOf_43 : decode cX10_costOf 43 = .ok (.if_icmp .eq 8, 3) := by decide +kernel
theorem dX10_costOf_46 : decode cX10_costOf 46 = .ok (.iload_n 3, 1) := by decide +kernel
theorem dX10_costOf_47 : decode cX10_costOf 47 = .ok (.iconst 3, 1) := by decide +kernel
theorem dX10_costOf_48 : decode cX10_costOf 48 = .ok (.if_icmp .ne 14, 3) := by decide +kernel
theorem dX10_costOf_51 : decode cX10_costOf 51 = .ok (.iload 4, 2) := by decide +kernel
theorem dX10_costOf_53 : decode cX10_costOf 53 = .ok (.ifCond .eq 7, 3) := by decide +kernel
theorem dX10_costOf_56 : decode cX10_costOf 56 = .ok (.iconst 0, 1) := by decide +kernel
theorem dX10_costOf_57 : decode cX10_costOf 57 = .ok (.goto 4, 3) := by decide +kernel
theorem dX10_costOf_60 : decode cX10_costOf 60 = .ok (.iconst (-1), 1) := by decide +kernel
theorem dX10_costOf_61 : decode cX10_costOf 61 = .ok (.ireturn, 1) := by decide +kernel
theorem dX10_costOf_62 : decode cX10_costOf 62 = .ok (.iload_n 3, 1) := by decide +kernel
theorem dX10_costOf_63 : decode cX10_costOf 63 = .ok (.bipush 6, 2) := by decide +kernel
theorem dX10_costOf_65 : decode cX10_costOf 65 = .ok (.if_icmp .ne 19, 3) := by decide +kernel
theorem dX10_costOf_68 : decode cX10_costOf 68 = .ok (.aload_n 0, 1) := by decide +kernel
theorem dX10_costOf_69 : decode cX10_costOf 69 = .ok (.getfield 75, 3) := by decide +kernel
theorem dX10_costOf_72 : decode cX10_costOf 72 = .ok (.iload_n 2, 1) := by decide +kernel
theorem dX10_costOf_73 : decode cX10_costOf 73 = .ok (.iaload, 1) := by decide +kernel
theorem dX10_costOf_74 : decode cX10_costOf 74 = .ok (.iconst 1, 1) := by decide +kernel
theorem dX10_costOf_75 : decode cX10_costOf 75 = .ok (.if_icmp .ne 7, 3) := by decide +kernel
theorem dX10_costOf_78 : decode cX10_costOf 78 = .ok (.iconst 0, 1) := by decide +kernel
theorem dX10_costOf_79 : decode cX10_costOf 79 = .ok (.goto 4, 3) := by decide +kernel
theorem dX10_costOf_82 : decode cX10_costOf 82 = .ok (.iconst (-1), 1) := by decide +kernel
theorem dX10_costOf_83 : decode cX10_costOf 83 = .ok (.ireturn, 1) := by decide +kernel
theorem dX10_costOf_84 : decode cX10_costOf 84 = .ok (.iload_n 3, 1) := by decide +kernel
theorem dX10_costOf_85 : decode cX10_costOf 85 = .ok (.iconst 5, 1) := by decide +kernel
theorem dX10_costOf_86 : decode cX10_costOf 86 = .ok (.if_icmp .ne 112, 3) := by decide +kernel
theorem dX10_costOf_89 : decode cX10_costOf 89 = .ok (.aload_n 0, 1) := by decide +kernel
theorem dX10_costOf_90 : decode cX10_costOf 90 = .ok (.getfield 75, 3) := by decide +kernel
theorem dX10_costOf_93 : decode cX10_costOf 93 = .ok (.iload_n 2, 1) := by decide +kernel
theorem dX10_costOf_94 : decode cX10_costOf 94 = .ok (.iaload, 1) := by decide +kernel
theorem dX10_costOf_95 : decode cX10_costOf 95 = .ok (.aload_n 0, 1) := by decide +kernel
theorem dX10_costOf_96 : decode cX10_costOf 96 = .ok (.getfield 50, 3) := by decide +kernel
theorem dX10_costOf_99 : decode cX10_costOf 99 = .ok (.iload_n 1, 1) := by decide +kernel
theorem dX10_costOf_100 : decode cX10_costOf 100 = .ok (.iaload, 1) := by decide +kernel
theorem dX10_costOf_101 : decode cX10_costOf 101 = .ok (.isub, 1) := by decide +kernel
theorem dX10_costOf_102 : decode cX10_costOf 102 = .ok (.istore 5, 2) := by decide +kernel
theorem dX10_costOf_104 : decode cX10_costOf 104 = .ok (.aload_n 0, 1) := by decide +kernel
theorem dX10_costOf_105 : decode cX10_costOf 105 = .ok (.getfield 50, 3) := by decide +kernel
theorem dX10_costOf_108 : decode cX10_costOf 108 = .ok (.iload_n 1, 1) := by decide +kernel
theorem dX10_costOf_109 : decode cX10_costOf 109 = .ok (.iaload, 1) := by decide +kernel
theorem dX10_costOf_110 : decode cX10_costOf 110 = .ok (.ifCond .eq 9, 3) := by decide +kernel
theorem dX10_costOf_113 : decode cX10_costOf 113 = .ok (.iload 5, 2) := by decide +kernel
theorem dX10_costOf_115 : decode cX10_costOf 115 = .ok (.iconst 1, 1) := by decide +kernel
theorem dX10_costOf_116 : decode cX10_costOf 116 = .ok (.if_icmp .ge 5, 3) := by decide +kernel
theorem dX10_costOf_119 : decode cX10_costOf 119 = .ok (.iconst (-1), 1) := by decide +kernel
theorem dX10_costOf_120 : decode cX10_costOf 120 = .ok (.ireturn, 1) := by decide +kernel
theorem dX10_costOf_121 : decode cX10_costOf 121 = .ok (.iconst 0, 1) := by decide +kernel
theorem dX10_costOf_122 : decode cX10_costOf 122 = .ok (.istore 6, 2) := by decide +kernel
theorem dX10_costOf_124 : decode cX10_costOf 124 = .ok (.iload 6, 2) := by decide +kernel
theorem dX10_costOf_126 : decode cX10_costOf 126 = .ok (.aload_n 0, 1) := by decide +kernel
theorem dX10_costOf_127 : decode cX10_costOf 127 = .ok (.getfield 50, 3) := by decide +kernel
theorem dX10_costOf_130 : decode cX10_costOf 130 = .ok (.iload_n 1, 1) := by decide +kernel
theorem dX10_costOf_131 : decode cX10_costOf 131 = .ok (.iaload, 1) := by decide +kernel
theorem dX10_costOf_132 : decode cX10_costOf 132 = .ok (.if_icmp .ge 41, 3) := by decide +kernel
theorem dX10_costOf_135 : decode cX10_costOf 135 = .ok (.aload_n 0, 1) := by decide +kernel
theorem dX10_costOf_136 : decode cX10_costOf 136 = .ok (.getfield 72, 3) := by decide +kernel
theorem dX10_costOf_139 : decode cX10_costOf 139 = .ok (.bipush 21, 2) := by decide +kernel
theorem dX10_costOf_141 : decode cX10_costOf 141 = .ok (.iload_n 2, 1) := by decide +kernel
theorem dX10_costOf_142 : decode cX10_costOf 142 = .ok (.imul, 1) := by decide +kernel
theorem dX10_costOf_143 : decode cX10_costOf 143 = .ok (.iload 5, 2) := by decide +kernel
theorem dX10_costOf_145 : decode cX10_costOf 145 = .ok (.iadd, 1) := by decide +kernel
theorem dX10_costOf_146 : decode cX10_costOf 146 = .ok (.iload 6, 2) := by decide +kernel
theorem dX10_costOf_148 : decode cX10_costOf 148 = .ok (.iadd, 1) := by decide +kernel
theorem dX10_costOf_149 : decode cX10_costOf 149 = .ok (.iaload, 1) := by decide +kernel
theorem dX10_costOf_150 : decode cX10_costOf 150 = .ok (.aload_n 0, 1) := by decide +kernel
theorem dX10_costOf_151 : decode cX10_costOf 151 = .ok (.getfield 53, 3) := by decide +kernel
theorem dX10_costOf_154 : decode cX10_costOf 154 = .ok (.bipush 6, 2) := by decide +kernel
theorem dX10_costOf_156 : decode cX10_costOf 156 = .ok (.iload_n 1, 1) := by decide +kernel
theorem dX10_costOf_157 : decode cX10_costOf 157 = .ok (.imul, 1) := by decide +kernel
theorem dX10_costOf_158 : decode cX10_costOf 158 = .ok (.iload 6, 2) := by decide +kernel
theorem dX10_costOf_160 : decode cX10_costOf 160 = .ok (.iadd, 1) := by decide +kernel
theorem dX10_costOf_161 : decode cX10_costOf 161 = .ok (.iaload, 1) := by decide +kernel
theorem dX10_costOf_162 : decode cX10_costOf 162 = .ok (.if_icmp .eq 5, 3) := by decide +kernel
theorem dX10_costOf_165 : decode cX10_costOf 165 = .ok (.iconst (-1), 1) := by decide +kernel
theorem dX10_costOf_166 : decode cX10_costOf 166 = .ok (.ireturn, 1) := by decide +kernel
theorem dX10_costOf_167 : decode cX10_costOf 167 = .ok (.iinc 6 1, 3) := by decide +kernel
theorem dX10_costOf_170 : decode cX10_costOf 170 = .ok (.goto (-46), 3) := by decide +kernel
theorem dX10_costOf_173 : decode cX10_costOf 173 = .ok (.aload_n 0, 1) := by decide +kernel
theorem dX10_costOf_174 : decode cX10_costOf 174 = .ok (.iload_n 1, 1) := by decide +kernel
theorem dX10_costOf_175 : decode cX10_costOf 175 = .ok (.iconst 1, 1) := by decide +kernel
theorem dX10_costOf_176 : decode cX10_costOf 176 = .ok (.aload_n 0, 1) := by decide +kernel
theorem dX10_costOf_177 : decode cX10_costOf 177 = .ok (.getfield 72, 3) := by decide +kernel
theorem dX10_costOf_180 : decode cX10_costOf 180 = .ok (.bipush 21, 2) := by decide +kernel
theorem dX10_costOf_182 : decode cX10_costOf 182 = .ok (.iload_n 2, 1) := by decide +kernel
theorem dX10_costOf_183 : decode cX10_costOf 183 = .ok (.imul, 1) := by decide +kernel
theorem dX10_costOf_184 : decode cX10_costOf 184 = .ok (.iload 5, 2) := by decide +kernel
theorem dX10_costOf_186 : decode cX10_costOf 186 = .ok (.invokevirtual 185, 3) := by decide +kernel
theorem dX10_costOf_189 : decode cX10_costOf 189 = .ok (.ifCond .lt 7, 3) := by decide +kernel
theorem dX10_costOf_192 : decode cX10_costOf 192 = .ok (.iconst 0, 1) := by decide +kernel
theorem dX10_costOf_193 : decode cX10_costOf 193 = .ok (.goto 4, 3) := by decide +kernel
theorem dX10_costOf_196 : decode cX10_costOf 196 = .ok (.iconst 3, 1) := by decide +kernel
theorem dX10_costOf_197 : decode cX10_costOf 197 = .ok (.ireturn, 1) := by decide +kernel
theorem dX10_costOf_198 : decode cX10_costOf 198 = .ok (.iload 4, 2) := by decide +kernel
theorem dX10_costOf_200 : decode cX10_costOf 200 = .ok (.ifCond .eq 5, 3) := by decide +kernel
theorem dX10_costOf_203 : decode cX10_costOf 203 = .ok (.iconst 0, 1) := by decide +kernel
theorem dX10_costOf_204 : decode cX10_costOf 204 = .ok (.ireturn, 1) := by decide +kernel
theorem dX10_costOf_205 : decode cX10_costOf 205 = .ok (.aload_n 0, 1) := by decide +kernel
theorem dX10_costOf_206 : decode cX10_costOf 206 = .ok (.iload_n 1, 1) := by decide +kernel
theorem dX10_costOf_207 : decode cX10_costOf 207 = .ok (.iconst 0, 1) := by decide +kernel
theorem dX10_costOf_208 : decode cX10_costOf 208 = .ok (.aload_n 0, 1) := by decide +kernel
theorem dX10_costOf_209 : decode cX10_costOf 209 = .ok (.getfield 72, 3) := by decide +kernel
theorem dX10_costOf_212 : decode cX10_costOf 212 = .ok (.bipush 21, 2) := by decide +kernel
theorem dX10_costOf_214 : decode cX10_costOf 214 = .ok (.iload_n 2, 1) := by decide +kernel
theorem dX10_costOf_215 : decode cX10_costOf 215 = .ok (.imul, 1) := by decide +kernel
theorem dX10_costOf_216 : decode cX10_costOf 216 = .ok (.aload_n 0, 1) := by decide +kernel
theorem dX10_costOf_217 : decode cX10_costOf 217 = .ok (.getfield 75, 3) := by decide +kernel
theorem dX10_costOf_220 : decode cX10_costOf 220 = .ok (.iload_n 2, 1) := by decide +kernel
theorem dX10_costOf_221 : decode cX10_costOf 221 = .ok (.iaload, 1) := by decide +kernel
theorem dX10_costOf_222 : decode cX10_costOf 222 = .ok (.invokevirtual 185, 3) := by decide +kernel
theorem dX10_costOf_225 : decode cX10_costOf 225 = .ok (.ifCond .ge 49, 3) := by decide +kernel
theorem dX10_costOf_228 : decode cX10_costOf 228 = .ok (.aload_n 0, 1) := by decide +kernel
theorem dX10_costOf_229 : decode cX10_costOf 229 = .ok (.iload_n 1, 1) := by decide +kernel
theorem dX10_costOf_230 : decode cX10_costOf 230 = .ok (.iconst 2, 1) := by decide +kernel
theorem dX10_costOf_231 : decode cX10_costOf 231 = .ok (.aload_n 0, 1) := by decide +kernel
theorem dX10_costOf_232 : decode cX10_costOf 232 = .ok (.getfield 72, 3) := by decide +kernel
theorem dX10_costOf_235 : decode cX10_costOf 235 = .ok (.bipush 21, 2) := by decide +kernel
theorem dX10_costOf_237 : decode cX10_costOf 237 = .ok (.iload_n 2, 1) := by decide +kernel
theorem dX10_costOf_238 : decode cX10_costOf 238 = .ok (.imul, 1) := by decide +kernel
theorem dX10_costOf_239 : decode cX10_costOf 239 = .ok (.aload_n 0, 1) := by decide +kernel
theorem dX10_costOf_240 : decode cX10_costOf 240 = .ok (.getfield 75, 3) := by decide +kernel
theorem dX10_costOf_243 : decode cX10_costOf 243 = .ok (.iload_n 2, 1) := by decide +kernel
theorem dX10_costOf_244 : decode cX10_costOf 244 = .ok (.iaload, 1) := by decide +kernel
theorem dX10_costOf_245 : decode cX10_costOf 245 = .ok (.invokevirtual 185, 3) := by decide +kernel
theorem dX10_costOf_248 : decode cX10_costOf 248 = .ok (.ifCond .ge 26, 3) := by decide +kernel
theorem dX10_costOf_251 : decode cX10_costOf 251 = .ok (.aload_n 0, 1) := by decide +kernel
theorem dX10_costOf_252 : decode cX10_costOf 252 = .ok (.iload_n 1, 1) := by decide +kernel
theorem dX10_costOf_253 : decode cX10_costOf 253 = .ok (.iconst 3, 1) := by decide +kernel
theorem dX10_costOf_254 : decode cX10_costOf 254 = .ok (.aload_n 0, 1) := by decide +kernel
theorem dX10_costOf_255 : decode cX10_costOf 255 = .ok (.getfield 72, 3) := by decide +kernel
theorem dX10_costOf_258 : decode cX10_costOf 258 = .ok (.bipush 21, 2) := by decide +kernel
theorem dX10_costOf_260 : decode cX10_costOf 260 = .ok (.iload_n 2, 1) := by decide +kernel
theorem dX10_costOf_261 : decode cX10_costOf 261 = .ok (.imul, 1) := by decide +kernel
theorem dX10_costOf_262 : decode cX10_costOf 262 = .ok (.aload_n 0, 1) := by decide +kernel
theorem dX10_costOf_263 : decode cX10_costOf 263 = .ok (.getfield 75, 3) := by decide +kernel
theorem dX10_costOf_266 : decode cX10_costOf 266 = .ok (.iload_n 2, 1) := by decide +kernel
theorem dX10_costOf_267 : decode cX10_costOf 267 = .ok (.iaload, 1) := by decide +kernel
theorem dX10_costOf_268 : decode cX10_costOf 268 = .ok (.invokevirtual 185, 3) := by decide +kernel
theorem dX10_costOf_271 : decode cX10_costOf 271 = .ok (.ifCond .lt 7, 3) := by decide +kernel
theorem dX10_costOf_274 : decode cX10_costOf 274 = .ok (.iconst 1, 1) := by decide +kernel
theorem dX10_costOf_275 : decode cX10_costOf 275 = .ok (.goto 4, 3) := by decide +kernel
theorem dX10_costOf_278 : decode cX10_costOf 278 = .ok (.iconst 0, 1) := by decide +kernel
theorem dX10_costOf_279 : decode cX10_costOf 279 = .ok (.istore 5, 2) := by decide +kernel
theorem dX10_costOf_281 : decode cX10_costOf 281 = .ok (.iload 5, 2) := by decide +kernel
theorem dX10_costOf_283 : decode cX10_costOf 283 = .ok (.ifCond .eq 7, 3) := by decide +kernel
theorem dX10_costOf_286 : decode cX10_costOf 286 = .ok (.iconst 5, 1) := by decide +kernel
theorem dX10_costOf_287 : decode cX10_costOf 287 = .ok (.goto 4, 3) := by decide +kernel
theorem dX10_costOf_290 : decode cX10_costOf 290 = .ok (.iconst 2, 1) := by decide +kernel
theorem dX10_costOf_291 : decode cX10_costOf 291 = .ok (.ireturn, 1) := by decide +kernel
theorem dX10_slips_0 : decode cX10_slips 0 = .ok (.iload_n 2, 1) := by decide +kernel
theorem dX10_slips_1 : decode cX10_slips 1 = .ok (.istore_n 3, 1) := by decide +kernel
theorem dX10_slips_2 : decode cX10_slips 2 = .ok (.iconst 0, 1) := by decide +kernel
theorem dX10_slips_3 : decode cX10_slips 3 = .ok (.istore 4, 2) := by decide +kernel
theorem dX10_slips_5 : decode cX10_slips 5 = .ok (.iload 4, 2) := by decide +kernel
theorem dX10_slips_7 : decode cX10_slips 7 = .ok (.aload_n 0, 1) := by decide +kernel
theorem dX10_slips_8 : decode cX10_slips 8 = .ok (.getfield 29, 3) := by decide +kernel
theorem dX10_slips_11 : decode cX10_slips 11 = .ok (.iload_n 1, 1) := by decide +kernel
theorem dX10_slips_12 : decode cX10_slips 12 = .ok (.iaload, 1) := by decide +kernel
theorem dX10_slips_13 : decode cX10_slips 13 = .ok (.if_icmp .ge 54, 3) := by decide +kernel
theorem dX10_slips_16 : decode cX10_slips 16 = .ok (.aload_n 0, 1) := by decide +kernel
theorem dX10_slips_17 : decode cX10_slips 17 = .ok (.getfield 35, 3) := by decide +kernel
theorem dX10_slips_20 : decode cX10_slips 20 = .ok (.bipush 8, 2) := by decide +kernel
theorem dX10_slips_22 : decode cX10_slips 22 = .ok (.iload_n 1, 1) := by decide +kernel
theorem dX10_slips_23 : decode cX10_slips 23 = .ok (.imul, 1) := by decide +kernel
theorem dX10_slips_24 : decode cX10_slips 24 = .ok (.iload 4, 2) := by decide +kernel
theorem dX10_slips_26 : decode cX10_slips 26 = .ok (.iadd, 1) := by decide +kernel
theorem dX10_slips_27 : decode cX10_slips 27 = .ok (.iaload, 1) := by decide +kernel
theorem dX10_slips_28 : decode cX10_slips 28 = .ok (.istore 5, 2) := by decide +kernel
theorem dX10_slips_30 : decode cX10_slips 30 = .ok (.iload_n 3, 1) := by decide +kernel
theorem dX10_slips_31 : decode cX10_slips 31 = .ok (.iload 4, 2) := by decide +kernel
theorem dX10_slips_33 : decode cX10_slips 33 = .ok (.ishr, 1) := by decide +kernel
theorem dX10_slips_34 : decode cX10_slips 34 = .ok (.iconst 1, 1) := by decide +kernel
theorem dX10_slips_35 : decode cX10_slips 35 = .ok (.iand, 1) := by decide +kernel
theorem dX10_slips_36 : decode cX10_slips 36 = .ok (.iconst 1, 1) := by decide +kernel
theorem dX10_slips_37 : decode cX10_slips 37 = .ok (.if_icmp .ne 24, 3) := by decide +kernel
theorem dX10_slips_40 : decode cX10_slips 40 = .ok (.iload 5, 2) := by decide +kernel
theorem dX10_slips_42 : decode cX10_slips 42 = .ok (.iconst 1, 1) := by decide +kernel
theorem dX10_slips_43 : decode cX10_slips 43 = .ok (.if_icmp .eq 9, 3) := by decide +kernel
theorem dX10_slips_46 : decode cX10_slips 46 = .ok (.iload 5, 2) := by decide +kernel
theorem dX10_slips_48 : decode cX10_slips 48 = .ok (.iconst 2, 1) := by decide +kernel
theorem dX10_slips_49 : decode cX10_slips 49 = .ok (.if_icmp .ne 12, 3) := by decide +kernel
theorem dX10_slips_52 : decode cX10_slips 52 = .ok (.iload_n 3, 1) := by decide +kernel
theorem dX10_slips_53 : decode cX10_slips 53 = .ok (.iconst 1, 1) := by decide +kernel
theorem dX10_slips_54 : decode cX10_slips 54 = .ok (.iload 4, 2) := by decide +kernel
theorem dX10_slips_56 : decode cX10_slips 56 = .ok (.iconst 1, 1) := by decide +kernel
theorem dX10_slips_57 : decode cX10_slips 57 = .ok (.iadd, 1) := by decide +kernel
theorem dX10_slips_58 : decode cX10_slips 58 = .ok (.ishl, 1) := by decide +kernel
theorem dX10_slips_59 : decode cX10_slips 59 = .ok (.ior, 1) := by decide +kernel
theorem dX10_slips_60 : decode cX10_slips 60 = .ok (.istore_n 3, 1) := by decide +kernel
theorem dX10_slips_61 : decode cX10_slips 61 = .ok (.iinc 4 1, 3) := by decide +kernel
theorem dX10_slips_64 : decode cX10_slips 64 = .ok (.goto (-59), 3) := by decide +kernel
theorem dX10_slips_67 : decode cX10_slips 67 = .ok (.iload_n 3, 1) := by decide +kernel
theorem dX10_slips_68 : decode cX10_slips 68 = .ok (.ireturn, 1) := by decide +kernel
theorem dX10_goes_0 : decode cX10_goes 0 = .ok (.iconst 0, 1) := by decide +kernel
theorem dX10_goes_1 : decode cX10_goes 1 = .ok (.istore 4, 2) := by decide +kernel
theorem dX10_goes_3 : decode cX10_goes 3 = .ok (.iconst 0, 1) := by decide +kernel
theorem dX10_goes_4 : decode cX10_goes 4 = .ok (.istore 5, 2) := by decide +kernel
theorem dX10_goes_6 : decode cX10_goes 6 = .ok (.iload 5, 2) := by decide +kernel
theorem dX10_goes_8 : decode cX10_goes 8 = .ok (.aload_n 0, 1) := by decide +kernel
theorem dX10_goes_9 : decode cX10_goes 9 = .ok (.getfield 29, 3) := by decide +kernel
theorem dX10_goes_12 : decode cX10_goes 12 = .ok (.iload_n 1, 1) := by decide +kernel
theorem dX10_goes_13 : decode cX10_goes 13 = .ok (.iaload, 1) := by decide +kernel
theorem dX10_goes_14 : decode cX10_goes 14 = .ok (.if_icmp .ge 95, 3) := by decide +kernel
theorem dX10_goes_17 : decode cX10_goes 17 = .ok (.iload_n 2, 1) := by decide +kernel
theorem dX10_goes_18 : decode cX10_goes 18 = .ok (.iload 5, 2) := by decide +kernel
theorem dX10_goes_20 : decode cX10_goes 20 = .ok (.ishr, 1) := by decide +kernel
theorem dX10_goes_21 : decode cX10_goes 21 = .ok (.iconst 1, 1) := by decide +kernel
theorem dX10_goes_22 : decode cX10_goes 22 = .ok (.iand, 1) := by decide +kernel
theorem dX10_goes_23 : decode cX10_goes 23 = .ok (.ifCond .eq 80, 3) := by decide +kernel
theorem dX10_goes_26 : decode cX10_goes 26 = .ok (.aload_n 0, 1) := by decide +kernel
theorem dX10_goes_27 : decode cX10_goes 27 = .ok (.getfield 32, 3) := by decide +kernel
theorem dX10_goes_30 : decode cX10_goes 30 = .ok (.bipush 8, 2) := by decide +kernel
theorem dX10_goes_32 : decode cX10_goes 32 = .ok (.iload_n 1, 1) := by decide +kernel
theorem dX10_goes_33 : decode cX10_goes 33 = .ok (.imul, 1) := by decide +kernel
theorem dX10_goes_34 : decode cX10_goes 34 = .ok (.iload 5, 2) := by decide +kernel
theorem dX10_goes_36 : decode cX10_goes 36 = .ok (.iadd, 1) := by decide +kernel
theorem dX10_goes_37 : decode cX10_goes 37 = .ok (.iaload, 1) := by decide +kernel
theorem dX10_goes_38 : decode cX10_goes 38 = .ok (.iload_n 3, 1) := by decide +kernel
theorem dX10_goes_39 : decode cX10_goes 39 = .ok (.if_icmp .eq 6, 3) := by decide +kernel
theorem dX10_goes_42 : decode cX10_goes 42 = .ok (.goto 61, 3) := by decide +kernel
theorem dX10_goes_45 : decode cX10_goes 45 = .ok (.aload_n 0, 1) := by decide +kernel
theorem dX10_goes_46 : decode cX10_goes 46 = .ok (.getfield 35, 3) := by decide +kernel
theorem dX10_goes_49 : decode cX10_goes 49 = .ok (.bipush 8, 2) := by decide +kernel
theorem dX10_goes_51 : decode cX10_goes 51 = .ok (.iload_n 1, 1) := by decide +kernel
theorem dX10_goes_52 : decode cX10_goes 52 = .ok (.imul, 1) := by decide +kernel
theorem dX10_goes_53 : decode cX10_goes 53 = .ok (.iload 5, 2) := by decide +kernel
theorem dX10_goes_55 : decode cX10_goes 55 = .ok (.iadd, 1) := by decide +kernel
theorem dX10_goes_56 : decode cX10_goes 56 = .ok (.iaload, 1) := by decide +kernel
theorem dX10_goes_57 : decode cX10_goes 57 = .ok (.istore 6, 2) := by decide +kernel
theorem dX10_goes_59 : decode cX10_goes 59 = .ok (.iload 4, 2) := by decide +kernel
theorem dX10_goes_61 : decode cX10_goes 61 = .ok (.iconst 1, 1) := by decide +kernel
theorem dX10_goes_62 : decode cX10_goes 62 = .ok (.iload 5, 2) := by decide +kernel
theorem dX10_goes_64 : decode cX10_goes 64 = .ok (.iconst 1, 1) := by decide +kernel
theorem dX10_goes_65 : decode cX10_goes 65 = .ok (.iadd, 1) := by decide +kernel
theorem dX10_goes_66 : decode cX10_goes 66 = .ok (.ishl, 1) := by decide +kernel
theorem dX10_goes_67 : decode cX10_goes 67 = .ok (.ior, 1) := by decide +kernel
theorem dX10_goes_68 : decode cX10_goes 68 = .ok (.istore 4, 2) := by decide +kernel
theorem dX10_goes_70 : decode cX10_goes 70 = .ok (.iload 6, 2) := by decide +kernel
theorem dX10_goes_72 : decode cX10_goes 72 = .ok (.iconst 2, 1) := by decide +kernel
theorem dX10_goes_73 : decode cX10_goes 73 = .ok (.if_icmp .ne 12, 3) := by decide +kernel
theorem dX10_goes_76 : decode cX10_goes 76 = .ok (.iload 4, 2) := by decide +kernel
theorem dX10_goes_78 : decode cX10_goes 78 = .ok (.iconst 1, 1) := by decide +kernel
theorem dX10_goes_79 : decode cX10_goes 79 = .ok (.iload 5, 2) := by decide +kernel
theorem dX10_goes_81 : decode cX10_goes 81 = .ok (.ishl, 1) := by decide +kernel
theorem dX10_goes_82 : decode cX10_goes 82 = .ok (.ior, 1) := by decide +kernel
theorem dX10_goes_83 : decode cX10_goes 83 = .ok (.istore 4, 2) := by decide +kernel
theorem dX10_goes_85 : decode cX10_goes 85 = .ok (.iload 6, 2) := by decide +kernel
theorem dX10_goes_87 : decode cX10_goes 87 = .ok (.iconst 3, 1) := by decide +kernel
theorem dX10_goes_88 : decode cX10_goes 88 = .ok (.if_icmp .ne 15, 3) := by decide +kernel
theorem dX10_goes_91 : decode cX10_goes 91 = .ok (.iload 4, 2) := by decide +kernel
theorem dX10_goes_93 : decode cX10_goes 93 = .ok (.iconst 1, 1) := by decide +kernel
theorem dX10_goes_94 : decode cX10_goes 94 = .ok (.iload 5, 2) := by decide +kernel
theorem dX10_goes_96 : decode cX10_goes 96 = .ok (.bipush 9, 2) := by decide +kernel
theorem dX10_goes_98 : decode cX10_goes 98 = .ok (.iadd, 1) := by decide +kernel
theorem dX10_goes_99 : decode cX10_goes 99 = .ok (.ishl, 1) := by decide +kernel
theorem dX10_goes_100 : decode cX10_goes 100 = .ok (.ior, 1) := by decide +kernel
theorem dX10_goes_101 : decode cX10_goes 101 = .ok (.istore 4, 2) := by decide +kernel
theorem dX10_goes_103 : decode cX10_goes 103 = .ok (.iinc 5 1, 3) := by decide +kernel
theorem dX10_goes_106 : decode cX10_goes 106 = .ok (.goto (-100), 3) := by decide +kernel
theorem dX10_goes_109 : decode cX10_goes 109 = .ok (.iconst 0, 1) := by decide +kernel
theorem dX10_goes_110 : decode cX10_goes 110 = .ok (.istore 5, 2) := by decide +kernel
theorem dX10_goes_112 : decode cX10_goes 112 = .ok (.iload 5, 2) := by decide +kernel
theorem dX10_goes_114 : decode cX10_goes 114 = .ok (.aload_n 0, 1) := by decide +kernel
theorem dX10_goes_115 : decode cX10_goes 115 = .ok (.getfield 29, 3) := by decide +kernel
theorem dX10_goes_118 : decode cX10_goes 118 = .ok (.iload_n 1, 1) := by decide +kernel
theorem dX10_goes_119 : decode cX10_goes 119 = .ok (.iaload, 1) := by decide +kernel
theorem dX10_goes_120 : decode cX10_goes 120 = .ok (.if_icmp .ge 57, 3) := by decide +kernel
theorem dX10_goes_123 : decode cX10_goes 123 = .ok (.iload_n 2, 1) := by decide +kernel
theorem dX10_goes_124 : decode cX10_goes 124 = .ok (.iload 5, 2) := by decide +kernel
theorem dX10_goes_126 : decode cX10_goes 126 = .ok (.bipush 9, 2) := by decide +kernel
theorem dX10_goes_128 : decode cX10_goes 128 = .ok (.iadd, 1) := by decide +kernel
theorem dX10_goes_129 : decode cX10_goes 129 = .ok (.ishr, 1) := by decide +kernel
theorem dX10_goes_130 : decode cX10_goes 130 = .ok (.iconst 1, 1) := by decide +kernel
theorem dX10_goes_131 : decode cX10_goes 131 = .ok (.iand, 1) := by decide +kernel
theorem dX10_goes_132 : decode cX10_goes 132 = .ok (.iconst 1, 1) := by decide +kernel
theorem dX10_goes_133 : decode cX10_goes 133 = .ok (.if_icmp .ne 38, 3) := by decide +kernel
theorem dX10_goes_136 : decode cX10_goes 136 = .ok (.aload_n 0, 1) := by decide +kernel
theorem dX10_goes_137 : decode cX10_goes 137 = .ok (.getfield 32, 3) := by decide +kernel
theorem dX10_goes_140 : decode cX10_goes 140 = .ok (.bipush 8, 2) := by decide +kernel
theorem dX10_goes_142 : decode cX10_goes 142 = .ok (.iload_n 1, 1) := by decide +kernel
theorem dX10_goes_143 : decode cX10_goes 143 = .ok (.imul, 1) := by decide +kernel
theorem dX10_goes_144 : decode cX10_goes 144 = .ok (.iload 5, 2) := by decide +kernel
theorem dX10_goes_146 : decode cX10_goes 146 = .ok (.iadd, 1) := by decide +kernel
theorem dX10_goes_147 : decode cX10_goes 147 = .ok (.iaload, 1) := by decide +kernel
theorem dX10_goes_148 : decode cX10_goes 148 = .ok (.iload_n 3, 1) := by decide +kernel
theorem dX10_goes_149 : decode cX10_goes 149 = .ok (.if_icmp .ne 22, 3) := by decide +kernel
theorem dX10_goes_152 : decode cX10_goes 152 = .ok (.iload 4, 2) := by decide +kernel
theorem dX10_goes_154 : decode cX10_goes 154 = .ok (.iconst 1, 1) := by decide +kernel
theorem dX10_goes_155 : decode cX10_goes 155 = .ok (.iload 5, 2) := by decide +kernel
theorem dX10_goes_157 : decode cX10_goes 157 = .ok (.bipush 9, 2) := by decide +kernel
theorem dX10_goes_159 : decode cX10_goes 159 = .ok (.iadd, 1) := by decide +kernel
theorem dX10_goes_160 : decode cX10_goes 160 = .ok (.ishl, 1) := by decide +kernel
theorem dX10_goes_161 : decode cX10_goes 161 = .ok (.iconst 1, 1) := by decide +kernel
theorem dX10_goes_162 : decode cX10_goes 162 = .ok (.iload 5, 2) := by decide +kernel
theorem dX10_goes_164 : decode cX10_goes 164 = .ok (.iconst 1, 1) := by decide +kernel
theorem dX10_goes_165 : decode cX10_goes 165 = .ok (.iadd, 1) := by decide +kernel
theorem dX10_goes_166 : decode cX10_goes 166 = .ok (.ishl, 1) := by decide +kernel
theorem dX10_goes_167 : decode cX10_goes 167 = .ok (.ior, 1) := by decide +kernel
theorem dX10_goes_168 : decode cX10_goes 168 = .ok (.ior, 1) := by decide +kernel
theorem dX10_goes_169 : decode cX10_goes 169 = .ok (.istore 4, 2) := by decide +kernel
theorem dX10_goes_171 : decode cX10_goes 171 = .ok (.iinc 5 1, 3) := by decide +kernel
theorem dX10_goes_174 : decode cX10_goes 174 = .ok (.goto (-62), 3) := by decide +kernel
theorem dX10_goes_177 : decode cX10_goes 177 = .ok (.iload 4, 2) := by decide +kernel
theorem dX10_goes_179 : decode cX10_goes 179 = .ok (.ireturn, 1) := by decide +kernel
theorem dX10_fill_0 : decode cX10_fill 0 = .ok (.aload_n 0, 1) := by decide +kernel
theorem dX10_fill_1 : decode cX10_fill 1 = .ok (.iconst 0, 1) := by decide +kernel
theorem dX10_fill_2 : decode cX10_fill 2 = .ok (.putfield 192, 3) := by decide +kernel
theorem dX10_fill_5 : decode cX10_fill 5 = .ok (.aload_n 0, 1) := by decide +kernel
theorem dX10_fill_6 : decode cX10_fill 6 = .ok (.getfield 60, 3) := by decide +kernel
theorem dX10_fill_9 : decode cX10_fill 9 = .ok (.iload_n 1, 1) := by decide +kernel
theorem dX10_fill_10 : decode cX10_fill 10 = .ok (.iaload, 1) := by decide +kernel
theorem dX10_fill_11 : decode cX10_fill 11 = .ok (.istore_n 2, 1) := by decide +kernel
theorem dX10_fill_12 : decode cX10_fill 12 = .ok (.aload_n 0, 1) := by decide +kernel
theorem dX10_fill_13 : decode cX10_fill 13 = .ok (.getfield 63, 3) := by decide +kernel
theorem dX10_fill_16 : decode cX10_fill 16 = .ok (.iload_n 1, 1) := by decide +kernel
theorem dX10_fill_17 : decode cX10_fill 17 = .ok (.iaload, 1) := by decide +kernel
theorem dX10_fill_18 : decode cX10_fill 18 = .ok (.istore_n 3, 1) := by decide +kernel
theorem dX10_fill_19 : decode cX10_fill 19 = .ok (.aload_n 0, 1) := by decide +kernel
theorem dX10_fill_20 : decode cX10_fill 20 = .ok (.getfield 25, 3) := by decide +kernel
theorem dX10_fill_23 : decode cX10_fill 23 = .ok (.iload_n 2, 1) := by decide +kernel
theorem dX10_fill_24 : decode cX10_fill 24 = .ok (.baload, 1) := by decide +kernel
theorem dX10_fill_25 : decode cX10_fill 25 = .ok (.ifCond .ne 4, 3) := by decide +kernel
theorem dX10_fill_28 : decode cX10_fill 28 = .ok (.return_, 1) := by decide +kernel
theorem dX10_fill_29 : decode cX10_fill 29 = .ok (.iconst 0, 1) := by decide +kernel
theorem dX10_fill_30 : decode cX10_fill 30 = .ok (.istore 4, 2) := by decide +kernel
theorem dX10_fill_32 : decode cX10_fill 32 = .ok (.iload 4, 2) := by decide +kernel
theorem dX10_fill_34 : decode cX10_fill 34 = .ok (.iload_n 3, 1) := by decide +kernel
theorem dX10_fill_35 : decode cX10_fill 35 = .ok (.if_icmp .ge 52, 3) := by decide +kernel
theorem dX10_fill_38 : decode cX10_fill 38 = .ok (.iconst 0, 1) := by decide +kernel
theorem dX10_fill_39 : decode cX10_fill 39 = .ok (.istore 5, 2) := by decide +kernel
theorem dX10_fill_41 : decode cX10_fill 41 = .ok (.iload 5, 2) := by decide +kernel
theorem dX10_fill_43 : decode cX10_fill 43 = .ok (.bipush 7, 2) := by decide +kernel
theorem dX10_fill_45 : decode cX10_fill 45 = .ok (.if_icmp .ge 36, 3) := by decide +kernel
theorem dX10_fill_48 : decode cX10_fill 48 = .ok (.aload_n 0, 1) := by decide +kernel
theorem dX10_fill_49 : decode cX10_fill 49 = .ok (.getfield 102, 3) := by decide +kernel
theorem dX10_fill_52 : decode cX10_fill 52 = .ok (.bipush 7, 2) := by decide +kernel
theorem dX10_fill_54 : decode cX10_fill 54 = .ok (.iload 4, 2) := by decide +kernel
theorem dX10_fill_56 : decode cX10_fill 56 = .ok (.imul, 1) := by decide +kernel
theorem dX10_fill_57 : decode cX10_fill 57 = .ok (.iload 5, 2) := by decide +kernel
theorem dX10_fill_59 : decode cX10_fill 59 = .ok (.iadd, 1) := by decide +kernel
theorem dX10_fill_60 : decode cX10_fill 60 = .ok (.aload_n 0, 1) := by decide +kernel
theorem dX10_fill_61 : decode cX10_fill 61 = .ok (.iload_n 2, 1) := by decide +kernel
theorem dX10_fill_62 : decode cX10_fill 62 = .ok (.bipush 8, 2) := by decide +kernel
theorem dX10_fill_64 : decode cX10_fill 64 = .ok (.iload_n 1, 1) := by decide +kernel
theorem dX10_fill_65 : decode cX10_fill 65 = .ok (.imul, 1) := by decide +kernel
theorem dX10_fill_66 : decode cX10_fill 66 = .ok (.iload 4, 2) := by decide +kernel
theorem dX10_fill_68 : decode cX10_fill 68 = .ok (.iadd, 1) := by decide +kernel
theorem dX10_fill_69 : decode cX10_fill 69 = .ok (.iload 5, 2) := by decide +kernel
theorem dX10_fill_71 : decode cX10_fill 71 = .ok (.invokevirtual 195, 3) := by decide +kernel
theorem dX10_fill_74 : decode cX10_fill 74 = .ok (.iastore, 1) := by decide +kernel
theorem dX10_fill_75 : decode cX10_fill 75 = .ok (.iinc 5 1, 3) := by decide +kernel
theorem dX10_fill_78 : decode cX10_fill 78 = .ok (.goto (-37), 3) := by decide +kernel
theorem dX10_fill_81 : decode cX10_fill 81 = .ok (.iinc 4 1, 3) := by decide +kernel
theorem dX10_fill_84 : decode cX10_fill 84 = .ok (.goto (-52), 3) := by decide +kernel
theorem dX10_fill_87 : decode cX10_fill 87 = .ok (.iconst 0, 1) := by decide +kernel
theorem dX10_fill_88 : decode cX10_fill 88 = .ok (.istore 4, 2) := by decide +kernel
theorem dX10_fill_90 : decode cX10_fill 90 = .ok (.iconst 0, 1) := by decide +kernel
theorem dX10_fill_91 : decode cX10_fill 91 = .ok (.istore 5, 2) := by decide +kernel
theorem dX10_fill_93 : decode cX10_fill 93 = .ok (.iconst 0, 1) := by decide +kernel
theorem dX10_fill_94 : decode cX10_fill 94 = .ok (.istore 6, 2) := by decide +kernel
theorem dX10_fill_96 : decode cX10_fill 96 = .ok (.aload_n 0, 1) := by decide +kernel
theorem dX10_fill_97 : decode cX10_fill 97 = .ok (.getfield 105, 3) := by decide +kernel
theorem dX10_fill_100 : decode cX10_fill 100 = .ok (.iconst 0, 1) := by decide +kernel
theorem dX10_fill_101 : decode cX10_fill 101 = .ok (.aload_n 0, 1) := by decide +kernel
theorem dX10_fill_102 : decode cX10_fill 102 = .ok (.iload_n 2, 1) := by decide +kernel
theorem dX10_fill_103 : decode cX10_fill 103 = .ok (.iconst 1, 1) := by decide +kernel
theorem dX10_fill_104 : decode cX10_fill 104 = .ok (.invokevirtual 199, 3) := by decide +kernel
theorem dX10_fill_107 : decode cX10_fill 107 = .ok (.iastore, 1) := by decide +kernel
theorem dX10_fill_108 : decode cX10_fill 108 = .ok (.iconst 0, 1) := by decide +kernel
theorem dX10_fill_109 : decode cX10_fill 109 = .ok (.istore 7, 2) := by decide +kernel
theorem dX10_fill_111 : decode cX10_fill 111 = .ok (.iload 4, 2) := by decide +kernel
theorem dX10_fill_113 : decode cX10_fill 113 = .ok (.ifCond .lt 232, 3) := by decide +kernel
theorem dX10_fill_116 : decode cX10_fill 116 = .ok (.iload 7, 2) := by decide +kernel
theorem dX10_fill_118 : decode cX10_fill 118 = .ok (.bipush 7, 2) := by decide +kernel
theorem dX10_fill_120 : decode cX10_fill 120 = .ok (.if_icmp .ne 48, 3) := by decide +kernel
theorem dX10_fill_123 : decode cX10_fill 123 = .ok (.iinc 4 (-1), 3) := by decide +kernel
theorem dX10_fill_126 : decode cX10_fill 126 = .ok (.iload 4, 2) := by decide +kernel
theorem dX10_fill_128 : decode cX10_fill 128 = .ok (.ifCond .lt (-17), 3) := by decide +kernel
theorem dX10_fill_131 : decode cX10_fill 131 = .ok (.iload 5, 2) := by decide +kernel
theorem dX10_fill_133 : decode cX10_fill 133 = .ok (.bipush 7, 2) := by decide +kernel
theorem dX10_fill_135 : decode cX10_fill 135 = .ok (.iand, 1) := by decide +kernel
theorem dX10_fill_136 : decode cX10_fill 136 = .ok (.istore 7, 2) := by decide +kernel
theorem dX10_fill_138 : decode cX10_fill 138 = .ok (.iload 5, 2) := by decide +kernel
theorem dX10_fill_140 : decode cX10_fill 140 = .ok (.iconst 3, 1) := by decide +kernel
theorem dX10_fill_141 : decode cX10_fill 141 = .ok (.ishr, 1) := by decide +kernel
theorem dX10_fill_142 : decode cX10_fill 142 = .ok (.istore 5, 2) := by decide +kernel
theorem dX10_fill_144 : decode cX10_fill 144 = .ok (.iload 6, 2) := by decide +kernel
theorem dX10_fill_146 : decode cX10_fill 146 = .ok (.aload_n 0, 1) := by decide +kernel
theorem dX10_fill_147 : decode cX10_fill 147 = .ok (.getfield 102, 3) := by decide +kernel
theorem dX10_fill_150 : decode cX10_fill 150 = .ok (.bipush 7, 2) := by decide +kernel
theorem dX10_fill_152 : decode cX10_fill 152 = .ok (.iload 4, 2) := by decide +kernel
theorem dX10_fill_154 : decode cX10_fill 154 = .ok (.imul, 1) := by decide +kernel
theorem dX10_fill_155 : decode cX10_fill 155 = .ok (.iload 7, 2) := by decide +kernel
theorem dX10_fill_157 : decode cX10_fill 157 = .ok (.iadd, 1) := by decide +kernel
theorem dX10_fill_158 : decode cX10_fill 158 = .ok (.iaload, 1) := by decide +kernel
theorem dX10_fill_159 : decode cX10_fill 159 = .ok (.isub, 1) := by decide +kernel
theorem dX10_fill_160 : decode cX10_fill 160 = .ok (.istore 6, 2) := by decide +kernel
theorem dX10_fill_162 : decode cX10_fill 162 = .ok (.iinc 7 1, 3) := by decide +kernel
theorem dX10_fill_165 : decode cX10_fill 165 = .ok (.goto (-54), 3) := by decide +kernel
theorem dX10_fill_168 : decode cX10_fill 168 = .ok (.aload_n 0, 1) := by decide +kernel
theorem dX10_fill_169 : decode cX10_fill 169 = .ok (.getfield 102, 3) := by decide +kernel
theorem dX10_fill_172 : decode cX10_fill 172 = .ok (.bipush 7, 2) := by decide +kernel
theorem dX10_fill_174 : decode cX10_fill 174 = .ok (.iload 4, 2) := by decide +kernel
theorem dX10_fill_176 : decode cX10_fill 176 = .ok (.imul, 1) := by decide +kernel
theorem dX10_fill_177 : decode cX10_fill 177 = .ok (.iload 7, 2) := by decide +kernel
theorem dX10_fill_179 : decode cX10_fill 179 = .ok (.iadd, 1) := by decide +kernel
theorem dX10_fill_180 : decode cX10_fill 180 = .ok (.iaload, 1) := by decide +kernel
theorem dX10_fill_181 : decode cX10_fill 181 = .ok (.ifCond .ge 7, 3) := by decide +kernel
theorem dX10_fill_184 : decode cX10_fill 184 = .ok (.iconst 0, 1) := by decide +kernel
theorem dX10_fill_185 : decode cX10_fill 185 = .ok (.goto 22, 3) := by decide +kernel
theorem dX10_fill_188 : decode cX10_fill 188 = .ok (.aload_n 0, 1) := by decide +kernel
theorem dX10_fill_189 : decode cX10_fill 189 = .ok (.iload_n 2, 1) := by decide +kernel
theorem dX10_fill_190 : decode cX10_fill 190 = .ok (.aload_n 0, 1) := by decide +kernel
theorem dX10_fill_191 : decode cX10_fill 191 = .ok (.iload_n 2, 1) := by decide +kernel
theorem dX10_fill_192 : decode cX10_fill 192 = .ok (.aload_n 0, 1) := by decide +kernel
theorem dX10_fill_193 : decode cX10_fill 193 = .ok (.getfield 105, 3) := by decide +kernel
theorem dX10_fill_196 : decode cX10_fill 196 = .ok (.iload 4, 2) := by decide +kernel
theorem dX10_fill_198 : decode cX10_fill 198 = .ok (.iaload, 1) := by decide +kernel
theorem dX10_fill_199 : decode cX10_fill 199 = .ok (.iload 7, 2) := by decide +kernel
theorem dX10_fill_201 : decode cX10_fill 201 = .ok (.invokevirtual 203, 3) := by decide +kernel
theorem dX10_fill_204 : decode cX10_fill 204 = .ok (.invokevirtual 199, 3) := by decide +kernel
theorem dX10_fill_207 : decode cX10_fill 207 = .ok (.istore 8, 2) := by decide +kernel
theorem dX10_fill_209 : decode cX10_fill 209 = .ok (.iload 8, 2) := by decide +kernel
theorem dX10_fill_211 : decode cX10_fill 211 = .ok (.ifCond .ne 9, 3) := by decide +kernel
theorem dX10_fill_214 : decode cX10_fill 214 = .ok (.iinc 7 1, 3) := by decide +kernel
theorem dX10_fill_217 : decode cX10_fill 217 = .ok (.goto (-106), 3) := by decide +kernel
theorem dX10_fill_220 : decode cX10_fill 220 = .ok (.iload 4, 2) := by decide +kernel
theorem dX10_fill_222 : decode cX10_fill 222 = .ok (.iload_n 3, 1) := by decide +kernel
theorem dX10_fill_223 : decode cX10_fill 223 = .ok (.iconst 1, 1) := by decide +kernel
theorem dX10_fill_224 : decode cX10_fill 224 = .ok (.isub, 1) := by decide +kernel
theorem dX10_fill_225 : decode cX10_fill 225 = .ok (.if_icmp .ne 75, 3) := by decide +kernel
theorem dX10_fill_228 : decode cX10_fill 228 = .ok (.iload 8, 2) := by decide +kernel
theorem dX10_fill_230 : decode cX10_fill 230 = .ok (.aload_n 0, 1) := by decide +kernel
theorem dX10_fill_231 : decode cX10_fill 231 = .ok (.getfield 29, 3) := by decide +kernel
theorem dX10_fill_234 : decode cX10_fill 234 = .ok (.iload_n 2, 1) := by decide +kernel
theorem dX10_fill_235 : decode cX10_fill 235 = .ok (.iaload, 1) := by decide +kernel
theorem dX10_fill_236 : decode cX10_fill 236 = .ok (.ishr, 1) := by decide +kernel
theorem dX10_fill_237 : decode cX10_fill 237 = .ok (.iconst 1, 1) := by decide +kernel
theorem dX10_fill_238 : decode cX10_fill 238 = .ok (.iand, 1) := by decide +kernel
theorem dX10_fill_239 : decode cX10_fill 239 = .ok (.iconst 1, 1) := by decide +kernel
theorem dX10_fill_240 : decode cX10_fill 240 = .ok (.if_icmp .ne 54, 3) := by decide +kernel
theorem dX10_fill_243 : decode cX10_fill 243 = .ok (.aload_n 0, 1) := by decide +kernel
theorem dX10_fill_244 : decode cX10_fill 244 = .ok (.getfield 108, 3) := by decide +kernel
theorem dX10_fill_247 : decode cX10_fill 247 = .ok (.aload_n 0, 1) := by decide +kernel
theorem dX10_fill_248 : decode cX10_fill 248 = .ok (.getfield 192, 3) := by decide +kernel
theorem dX10_fill_251 : decode cX10_fill 251 = .ok (.iload 5, 2) := by decide +kernel
theorem dX10_fill_253 : decode cX10_fill 253 = .ok (.iconst 3, 1) := by decide +kernel
theorem dX10_fill_254 : decode cX10_fill 254 = .ok (.ishl, 1) := by decide +kernel
theorem dX10_fill_255 : decode cX10_fill 255 = .ok (.iload 7, 2) := by decide +kernel
theorem dX10_fill_257 : decode cX10_fill 257 = .ok (.ior, 1) := by decide +kernel
theorem dX10_fill_258 : decode cX10_fill 258 = .ok (.iastore, 1) := by decide +kernel
theorem dX10_fill_259 : decode cX10_fill 259 = .ok (.aload_n 0, 1) := by decide +kernel
theorem dX10_fill_260 : decode cX10_fill 260 = .ok (.getfield 111, 3) := by decide +kernel
theorem dX10_fill_263 : decode cX10_fill 263 = .ok (.aload_n 0, 1) := by decide +kernel
theorem dX10_fill_264 : decode cX10_fill 264 = .ok (.getfield 192, 3) := by decide +kernel
theorem dX10_fill_267 : decode cX10_fill 267 = .ok (.iload 6, 2) := by decide +kernel
theorem dX10_fill_269 : decode cX10_fill 269 = .ok (.aload_n 0, 1) := by decide +kernel
theorem dX10_fill_270 : decode cX10_fill 270 = .ok (.getfield 102, 3) := by decide +kernel
theorem dX10_fill_273 : decode cX10_fill 273 = .ok (.bipush 7, 2) := by decide +kernel
theorem dX10_fill_275 : decode cX10_fill 275 = .ok (.iload 4, 2) := by decide +kernel
theorem dX10_fill_277 : decode cX10_fill 277 = .ok (.imul, 1) := by decide +kernel
theorem dX10_fill_278 : decode cX10_fill 278 = .ok (.iload 7, 2) := by decide +kernel
theorem dX10_fill_280 : decode cX10_fill 280 = .ok (.iadd, 1) := by decide +kernel
