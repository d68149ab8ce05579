theorem ni_dX10_nodeLength_26 : decode cX10_nodeLength 26 = .ok (.invokestatic 25, 3) := by decide +kernel
theorem ni_dX10_nodeLength_29 : decode cX10_nodeLength 29 = .ok (.invokestatic 68, 3) := by decide +kernel
theorem ni_dX10_nodeLength_32 : decode cX10_nodeLength 32 = .ok (.ireturn, 1) := by decide +kernel
theorem ni_dX10_nodesOf_0 : decode cX10_nodesOf 0 = .ok (.iload 4, 2) := by decide +kernel
theorem ni_dX10_nodesOf_2 : decode cX10_nodesOf 2 = .ok (.bipush 16, 2) := by decide +kernel
theorem ni_dX10_nodesOf_4 : decode cX10_nodesOf 4 = .ok (.if_icmp .le 5, 3) := by decide +kernel
theorem ni_dX10_nodesOf_7 : decode cX10_nodesOf 7 = .ok (.iconst 0, 1) := by decide +kernel
theorem ni_dX10_nodesOf_8 : decode cX10_nodesOf 8 = .ok (.ireturn, 1) := by decide +kernel
theorem ni_dX10_nodesOf_9 : decode cX10_nodesOf 9 = .ok (.aload_n 0, 1) := by decide +kernel
theorem ni_dX10_nodesOf_10 : decode cX10_nodesOf 10 = .ok (.iload_n 1, 1) := by decide +kernel
theorem ni_dX10_nodesOf_11 : decode cX10_nodesOf 11 = .ok (.iload_n 2, 1) := by decide +kernel
theorem ni_dX10_nodesOf_12 : decode cX10_nodesOf 12 = .ok (.iload_n 3, 1) := by decide +kernel
theorem ni_dX10_nodesOf_13 : decode cX10_nodesOf 13 = .ok (.invokestatic 42, 3) := by decide +kernel
theorem ni_dX10_nodesOf_16 : decode cX10_nodesOf 16 = .ok (.istore 5, 2) := by decide +kernel
theorem ni_dX10_nodesOf_18 : decode cX10_nodesOf 18 = .ok (.aload_n 0, 1) := by decide +kernel
theorem ni_dX10_nodesOf_19 : decode cX10_nodesOf 19 = .ok (.iload 5, 2) := by decide +kernel
theorem ni_dX10_nodesOf_21 : decode cX10_nodesOf 21 = .ok (.iload_n 2, 1) := by decide +kernel
theorem ni_dX10_nodesOf_22 : decode cX10_nodesOf 22 = .ok (.iload_n 3, 1) := by decide +kernel
theorem ni_dX10_nodesOf_23 : decode cX10_nodesOf 23 = .ok (.invokestatic 46, 3) := by decide +kernel
theorem ni_dX10_nodesOf_26 : decode cX10_nodesOf 26 = .ok (.istore 6, 2) := by decide +kernel
theorem ni_dX10_nodesOf_28 : decode cX10_nodesOf 28 = .ok (.iconst 1, 1) := by decide +kernel
theorem ni_dX10_nodesOf_29 : decode cX10_nodesOf 29 = .ok (.istore 7, 2) := by decide +kernel
theorem ni_dX10_nodesOf_31 : decode cX10_nodesOf 31 = .ok (.iload 5, 2) := by decide +kernel
theorem ni_dX10_nodesOf_33 : decode cX10_nodesOf 33 = .ok (.iload 6, 2) := by decide +kernel
theorem ni_dX10_nodesOf_35 : decode cX10_nodesOf 35 = .ok (.if_icmp .ge 28, 3) := by decide +kernel
theorem ni_dX10_nodesOf_38 : decode cX10_nodesOf 38 = .ok (.iload 7, 2) := by decide +kernel
theorem ni_dX10_nodesOf_40 : decode cX10_nodesOf 40 = .ok (.aload_n 0, 1) := by decide +kernel
theorem ni_dX10_nodesOf_41 : decode cX10_nodesOf 41 = .ok (.iload 5, 2) := by decide +kernel
theorem ni_dX10_nodesOf_43 : decode cX10_nodesOf 43 = .ok (.iload 6, 2) := by decide +kernel
theorem ni_dX10_nodesOf_45 : decode cX10_nodesOf 45 = .ok (.aload_n 0, 1) := by decide +kernel
theorem ni_dX10_nodesOf_46 : decode cX10_nodesOf 46 = .ok (.iload 5, 2) := by decide +kernel
theorem ni_dX10_nodesOf_48 : decode cX10_nodesOf 48 = .ok (.iload 6, 2) := by decide +kernel
theorem ni_dX10_nodesOf_50 : decode cX10_nodesOf 50 = .ok (.invokestatic 52, 3) := by decide +kernel
theorem ni_dX10_nodesOf_53 : decode cX10_nodesOf 53 = .ok (.iload 4, 2) := by decide +kernel
theorem ni_dX10_nodesOf_55 : decode cX10_nodesOf 55 = .ok (.iconst 1, 1) := by decide +kernel
theorem ni_dX10_nodesOf_56 : decode cX10_nodesOf 56 = .ok (.iadd, 1) := by decide +kernel
theorem ni_dX10_nodesOf_57 : decode cX10_nodesOf 57 = .ok (.invokestatic 35, 3) := by decide +kernel
theorem ni_dX10_nodesOf_60 : decode cX10_nodesOf 60 = .ok (.iadd, 1) := by decide +kernel
theorem ni_dX10_nodesOf_61 : decode cX10_nodesOf 61 = .ok (.istore 7, 2) := by decide +kernel
theorem ni_dX10_nodesOf_63 : decode cX10_nodesOf 63 = .ok (.iload 6, 2) := by decide +kernel
theorem ni_dX10_nodesOf_65 : decode cX10_nodesOf 65 = .ok (.iload_n 2, 1) := by decide +kernel
theorem ni_dX10_nodesOf_66 : decode cX10_nodesOf 66 = .ok (.if_icmp .ge 26, 3) := by decide +kernel
theorem ni_dX10_nodesOf_69 : decode cX10_nodesOf 69 = .ok (.iload 7, 2) := by decide +kernel
theorem ni_dX10_nodesOf_71 : decode cX10_nodesOf 71 = .ok (.aload_n 0, 1) := by decide +kernel
theorem ni_dX10_nodesOf_72 : decode cX10_nodesOf 72 = .ok (.iload 6, 2) := by decide +kernel
theorem ni_dX10_nodesOf_74 : decode cX10_nodesOf 74 = .ok (.iload_n 2, 1) := by decide +kernel
theorem ni_dX10_nodesOf_75 : decode cX10_nodesOf 75 = .ok (.aload_n 0, 1) := by decide +kernel
theorem ni_dX10_nodesOf_76 : decode cX10_nodesOf 76 = .ok (.iload 6, 2) := by decide +kernel
theorem ni_dX10_nodesOf_78 : decode cX10_nodesOf 78 = .ok (.iload_n 2, 1) := by decide +kernel
theorem ni_dX10_nodesOf_79 : decode cX10_nodesOf 79 = .ok (.invokestatic 52, 3) := by decide +kernel
theorem ni_dX10_nodesOf_82 : decode cX10_nodesOf 82 = .ok (.iload 4, 2) := by decide +kernel
theorem ni_dX10_nodesOf_84 : decode cX10_nodesOf 84 = .ok (.iconst 1, 1) := by decide +kernel
theorem ni_dX10_nodesOf_85 : decode cX10_nodesOf 85 = .ok (.iadd, 1) := by decide +kernel
theorem ni_dX10_nodesOf_86 : decode cX10_nodesOf 86 = .ok (.invokestatic 35, 3) := by decide +kernel
theorem ni_dX10_nodesOf_89 : decode cX10_nodesOf 89 = .ok (.iadd, 1) := by decide +kernel
theorem ni_dX10_nodesOf_90 : decode cX10_nodesOf 90 = .ok (.istore 7, 2) := by decide +kernel
theorem ni_dX10_nodesOf_92 : decode cX10_nodesOf 92 = .ok (.iload 7, 2) := by decide +kernel
theorem ni_dX10_nodesOf_94 : decode cX10_nodesOf 94 = .ok (.ireturn, 1) := by decide +kernel
theorem ni_dL_below_0 : decode cL_below 0 = .ok (.iload_n 0, 1) := by decide +kernel
theorem ni_dL_below_1 : decode cL_below 1 = .ok (.ldc 7, 2) := by decide +kernel
theorem ni_dL_below_3 : decode cL_below 3 = .ok (.iand, 1) := by decide +kernel
theorem ni_dL_below_4 : decode cL_below 4 = .ok (.iload_n 1, 1) := by decide +kernel
theorem ni_dL_below_5 : decode cL_below 5 = .ok (.irem, 1) := by decide +kernel
theorem ni_dL_below_6 : decode cL_below 6 = .ok (.ireturn, 1) := by decide +kernel
theorem ni_dL_build_0 : decode cL_build 0 = .ok (.iconst 0, 1) := by decide +kernel
theorem ni_dL_build_1 : decode cL_build 1 = .ok (.istore_n 3, 1) := by decide +kernel
theorem ni_dL_build_2 : decode cL_build 2 = .ok (.iload_n 3, 1) := by decide +kernel
theorem ni_dL_build_3 : decode cL_build 3 = .ok (.iload_n 2, 1) := by decide +kernel
theorem ni_dL_build_4 : decode cL_build 4 = .ok (.if_icmp .ge 14, 3) := by decide +kernel
theorem ni_dL_build_7 : decode cL_build 7 = .ok (.aload_n 0, 1) := by decide +kernel
theorem ni_dL_build_8 : decode cL_build 8 = .ok (.invokevirtual 9, 3) := by decide +kernel
theorem ni_dL_build_11 : decode cL_build 11 = .ok (.pop, 1) := by decide +kernel
theorem ni_dL_build_12 : decode cL_build 12 = .ok (.iinc 3 1, 3) := by decide +kernel
theorem ni_dL_build_15 : decode cL_build 15 = .ok (.goto (-13), 3) := by decide +kernel
theorem ni_dL_build_18 : decode cL_build 18 = .ok (.iload_n 2, 1) := by decide +kernel
theorem ni_dL_build_19 : decode cL_build 19 = .ok (.iconst 1, 1) := by decide +kernel
theorem ni_dL_build_20 : decode cL_build 20 = .ok (.isub, 1) := by decide +kernel
theorem ni_dL_build_21 : decode cL_build 21 = .ok (.aload_n 1, 1) := by decide +kernel
theorem ni_dL_build_22 : decode cL_build 22 = .ok (.iconst 1, 1) := by decide +kernel
theorem ni_dL_build_23 : decode cL_build 23 = .ok (.invokestatic 15, 3) := by decide +kernel
theorem ni_dL_build_26 : decode cL_build 26 = .ok (.iconst 5, 1) := by decide +kernel
theorem ni_dL_build_27 : decode cL_build 27 = .ok (.invokestatic 21, 3) := by decide +kernel
theorem ni_dL_build_30 : decode cL_build 30 = .ok (.iadd, 1) := by decide +kernel
theorem ni_dL_build_31 : decode cL_build 31 = .ok (.anewarray 25, 3) := by decide +kernel
theorem ni_dL_build_34 : decode cL_build 34 = .ok (.astore_n 3, 1) := by decide +kernel
theorem ni_dL_build_35 : decode cL_build 35 = .ok (.iconst 0, 1) := by decide +kernel
theorem ni_dL_build_36 : decode cL_build 36 = .ok (.istore 4, 2) := by decide +kernel
theorem ni_dL_build_38 : decode cL_build 38 = .ok (.iload 4, 2) := by decide +kernel
theorem ni_dL_build_40 : decode cL_build 40 = .ok (.aload_n 3, 1) := by decide +kernel
theorem ni_dL_build_41 : decode cL_build 41 = .ok (.arraylength, 1) := by decide +kernel
theorem ni_dL_build_42 : decode cL_build 42 = .ok (.if_icmp .ge 156, 3) := by decide +kernel
theorem ni_dL_build_45 : decode cL_build 45 = .ok (.aload_n 1, 1) := by decide +kernel
theorem ni_dL_build_46 : decode cL_build 46 = .ok (.iconst 2, 1) := by decide +kernel
theorem ni_dL_build_47 : decode cL_build 47 = .ok (.iload 4, 2) := by decide +kernel
theorem ni_dL_build_49 : decode cL_build 49 = .ok (.bipush 8, 2) := by decide +kernel
theorem ni_dL_build_51 : decode cL_build 51 = .ok (.irem, 1) := by decide +kernel
theorem ni_dL_build_52 : decode cL_build 52 = .ok (.iadd, 1) := by decide +kernel
theorem ni_dL_build_53 : decode cL_build 53 = .ok (.invokestatic 15, 3) := by decide +kernel
theorem ni_dL_build_56 : decode cL_build 56 = .ok (.iload 4, 2) := by decide +kernel
theorem ni_dL_build_58 : decode cL_build 58 = .ok (.bipush 8, 2) := by decide +kernel
theorem ni_dL_build_60 : decode cL_build 60 = .ok (.idiv, 1) := by decide +kernel
theorem ni_dL_build_61 : decode cL_build 61 = .ok (.bipush 6, 2) := by decide +kernel
theorem ni_dL_build_63 : decode cL_build 63 = .ok (.imul, 1) := by decide +kernel
theorem ni_dL_build_64 : decode cL_build 64 = .ok (.ishr, 1) := by decide +kernel
theorem ni_dL_build_65 : decode cL_build 65 = .ok (.istore 5, 2) := by decide +kernel
theorem ni_dL_build_67 : decode cL_build 67 = .ok (.iload 4, 2) := by decide +kernel
theorem ni_dL_build_69 : decode cL_build 69 = .ok (.iload_n 2, 1) := by decide +kernel
theorem ni_dL_build_70 : decode cL_build 70 = .ok (.iconst 1, 1) := by decide +kernel
theorem ni_dL_build_71 : decode cL_build 71 = .ok (.isub, 1) := by decide +kernel
theorem ni_dL_build_72 : decode cL_build 72 = .ok (.if_icmp .ge 8, 3) := by decide +kernel
theorem ni_dL_build_75 : decode cL_build 75 = .ok (.iload 4, 2) := by decide +kernel
theorem ni_dL_build_77 : decode cL_build 77 = .ok (.goto 9, 3) := by decide +kernel
theorem ni_dL_build_80 : decode cL_build 80 = .ok (.iload 5, 2) := by decide +kernel
theorem ni_dL_build_82 : decode cL_build 82 = .ok (.iload_n 2, 1) := by decide +kernel
theorem ni_dL_build_83 : decode cL_build 83 = .ok (.invokestatic 21, 3) := by decide +kernel
theorem ni_dL_build_86 : decode cL_build 86 = .ok (.istore 6, 2) := by decide +kernel
theorem ni_dL_build_88 : decode cL_build 88 = .ok (.iload 4, 2) := by decide +kernel
theorem ni_dL_build_90 : decode cL_build 90 = .ok (.iload_n 2, 1) := by decide +kernel
theorem ni_dL_build_91 : decode cL_build 91 = .ok (.iconst 1, 1) := by decide +kernel
theorem ni_dL_build_92 : decode cL_build 92 = .ok (.isub, 1) := by decide +kernel
theorem ni_dL_build_93 : decode cL_build 93 = .ok (.if_icmp .ge 10, 3) := by decide +kernel
theorem ni_dL_build_96 : decode cL_build 96 = .ok (.iload 4, 2) := by decide +kernel
theorem ni_dL_build_98 : decode cL_build 98 = .ok (.iconst 1, 1) := by decide +kernel
theorem ni_dL_build_99 : decode cL_build 99 = .ok (.iadd, 1) := by decide +kernel
theorem ni_dL_build_100 : decode cL_build 100 = .ok (.goto 20, 3) := by decide +kernel
theorem ni_dL_build_103 : decode cL_build 103 = .ok (.iload 6, 2) := by decide +kernel
theorem ni_dL_build_105 : decode cL_build 105 = .ok (.iconst 1, 1) := by decide +kernel
theorem ni_dL_build_106 : decode cL_build 106 = .ok (.iadd, 1) := by decide +kernel
theorem ni_dL_build_107 : decode cL_build 107 = .ok (.iload 5, 2) := by decide +kernel
theorem ni_dL_build_109 : decode cL_build 109 = .ok (.iconst 3, 1) := by decide +kernel
theorem ni_dL_build_110 : decode cL_build 110 = .ok (.ishr, 1) := by decide +kernel
theorem ni_dL_build_111 : decode cL_build 111 = .ok (.iload_n 2, 1) := by decide +kernel
theorem ni_dL_build_112 : decode cL_build 112 = .ok (.iconst 1, 1) := by decide +kernel
theorem ni_dL_build_113 : decode cL_build 113 = .ok (.isub, 1) := by decide +kernel
theorem ni_dL_build_114 : decode cL_build 114 = .ok (.invokestatic 21, 3) := by decide +kernel
theorem ni_dL_build_117 : decode cL_build 117 = .ok (.iadd, 1) := by decide +kernel
theorem ni_dL_build_118 : decode cL_build 118 = .ok (.iload_n 2, 1) := by decide +kernel
theorem ni_dL_build_119 : decode cL_build 119 = .ok (.irem, 1) := by decide +kernel
theorem ni_dL_build_120 : decode cL_build 120 = .ok (.istore 7, 2) := by decide +kernel
theorem ni_dL_build_122 : decode cL_build 122 = .ok (.aload_n 3, 1) := by decide +kernel
theorem ni_dL_build_123 : decode cL_build 123 = .ok (.iload 4, 2) := by decide +kernel
theorem ni_dL_build_125 : decode cL_build 125 = .ok (.iconst 5, 1) := by decide +kernel
theorem ni_dL_build_126 : decode cL_build 126 = .ok (.newarray .int, 2) := by decide +kernel
theorem ni_dL_build_128 : decode cL_build 128 = .ok (.dup, 1) := by decide +kernel
theorem ni_dL_build_129 : decode cL_build 129 = .ok (.iconst 0, 1) := by decide +kernel
theorem ni_dL_build_130 : decode cL_build 130 = .ok (.iload 6, 2) := by decide +kernel
theorem ni_dL_build_132 : decode cL_build 132 = .ok (.iastore, 1) := by decide +kernel
theorem ni_dL_build_133 : decode cL_build 133 = .ok (.dup, 1) := by decide +kernel
theorem ni_dL_build_134 : decode cL_build 134 = .ok (.iconst 1, 1) := by decide +kernel
theorem ni_dL_build_135 : decode cL_build 135 = .ok (.iload 7, 2) := by decide +kernel
theorem ni_dL_build_137 : decode cL_build 137 = .ok (.iastore, 1) := by decide +kernel
theorem ni_dL_build_138 : decode cL_build 138 = .ok (.dup, 1) := by decide +kernel
theorem ni_dL_build_139 : decode cL_build 139 = .ok (.iconst 2, 1) := by decide +kernel
theorem ni_dL_build_140 : decode cL_build 140 = .ok (.iconst 1, 1) := by decide +kernel
theorem ni_dL_build_141 : decode cL_build 141 = .ok (.iload 5, 2) := by decide +kernel
theorem ni_dL_build_143 : decode cL_build 143 = .ok (.iconst 2, 1) := by decide +kernel
theorem ni_dL_build_144 : decode cL_build 144 = .ok (.ishr, 1) := by decide +kernel
theorem ni_dL_build_145 : decode cL_build 145 = .ok (.iconst 4, 1) := by decide +kernel
theorem ni_dL_build_146 : decode cL_build 146 = .ok (.invokestatic 21, 3) := by decide +kernel
theorem ni_dL_build_149 : decode cL_build 149 = .ok (.iadd, 1) := by decide +kernel
theorem ni_dL_build_150 : decode cL_build 150 = .ok (.iastore, 1) := by decide +kernel
theorem ni_dL_build_151 : decode cL_build 151 = .ok (.dup, 1) := by decide +kernel
theorem ni_dL_build_152 : decode cL_build 152 = .ok (.iconst 3, 1) := by decide +kernel
theorem ni_dL_build_153 : decode cL_build 153 = .ok (.iconst 1, 1) := by decide +kernel
theorem ni_dL_build_154 : decode cL_build 154 = .ok (.iastore, 1) := by decide +kernel
theorem ni_dL_build_155 : decode cL_build 155 = .ok (.dup, 1) := by decide +kernel
theorem ni_dL_build_156 : decode cL_build 156 = .ok (.iconst 4, 1) := by decide +kernel
theorem ni_dL_build_157 : decode cL_build 157 = .ok (.iconst 1, 1) := by decide +kernel
theorem ni_dL_build_158 : decode cL_build 158 = .ok (.iload 5, 2) := by decide +kernel
theorem ni_dL_build_160 : decode cL_build 160 = .ok (.iconst 4, 1) := by decide +kernel
theorem ni_dL_build_161 : decode cL_build 161 = .ok (.ishr, 1) := by decide +kernel
theorem ni_dL_build_162 : decode cL_build 162 = .ok (.iconst 3, 1) := by decide +kernel
theorem ni_dL_build_163 : decode cL_build 163 = .ok (.invokestatic 21, 3) := by decide +kernel
theorem ni_dL_build_166 : decode cL_build 166 = .ok (.iadd, 1) := by decide +kernel
theorem ni_dL_build_167 : decode cL_build 167 = .ok (.iastore, 1) := by decide +kernel
theorem ni_dL_build_168 : decode cL_build 168 = .ok (.aastore, 1) := by decide +kernel
theorem ni_dL_build_169 : decode cL_build 169 = .ok (.aload_n 0, 1) := by decide +kernel
theorem ni_dL_build_170 : decode cL_build 170 = .ok (.iload 6, 2) := by decide +kernel
theorem ni_dL_build_172 : decode cL_build 172 = .ok (.iload 7, 2) := by decide +kernel
theorem ni_dL_build_174 : decode cL_build 174 = .ok (.aload_n 3, 1) := by decide +kernel
theorem ni_dL_build_175 : decode cL_build 175 = .ok (.iload 4, 2) := by decide +kernel
theorem ni_dL_build_177 : decode cL_build 177 = .ok (.aaload, 1) := by decide +kernel
theorem ni_dL_build_178 : decode cL_build 178 = .ok (.iconst 2, 1) := by decide +kernel
theorem ni_dL_build_179 : decode cL_build 179 = .ok (.iaload, 1) := by decide +kernel
theorem ni_dL_build_180 : decode cL_build 180 = .ok (.bipush 100, 2) := by decide +kernel
theorem ni_dL_build_182 : decode cL_build 182 = .ok (.aload_n 3, 1) := by decide +kernel
theorem ni_dL_build_183 : decode cL_build 183 = .ok (.iload 4, 2) := by decide +kernel
theorem ni_dL_build_185 : decode cL_build 185 = .ok (.aaload, 1) := by decide +kernel
theorem ni_dL_build_186 : decode cL_build 186 = .ok (.iconst 4, 1) := by decide +kernel
theorem ni_dL_build_187 : decode cL_build 187 = .ok (.iaload, 1) := by decide +kernel
theorem ni_dL_build_188 : decode cL_build 188 = .ok (.invokevirtual 27, 3) := by decide +kernel
theorem ni_dL_build_191 : decode cL_build 191 = .ok (.pop, 1) := by decide +kernel
theorem ni_dL_build_192 : decode cL_build 192 = .ok (.iinc 4 1, 3) := by decide +kernel
theorem ni_dL_build_195 : decode cL_build 195 = .ok (.goto (-157), 3) := by decide +kernel
theorem ni_dL_build_198 : decode cL_build 198 = .ok (.aload_n 3, 1) := by decide +kernel
theorem ni_dL_build_199 : decode cL_build 199 = .ok (.areturn, 1) := by decide +kernel
theorem ni_dL_cell_0 : decode cL_cell 0 = .ok (.iload_n 1, 1) := by decide +kernel
theorem ni_dL_cell_1 : decode cL_cell 1 = .ok (.aload_n 0, 1) := by decide +kernel
theorem ni_dL_cell_2 : decode cL_cell 2 = .ok (.arraylength, 1) := by decide +kernel
theorem ni_dL_cell_3 : decode cL_cell 3 = .ok (.if_icmp .ge 9, 3) := by decide +kernel
theorem ni_dL_cell_6 : decode cL_cell 6 = .ok (.aload_n 0, 1) := by decide +kernel
theorem ni_dL_cell_7 : decode cL_cell 7 = .ok (.iload_n 1, 1) := by decide +kernel
theorem ni_dL_cell_8 : decode cL_cell 8 = .ok (.iaload, 1) := by decide +kernel
theorem ni_dL_cell_9 : decode cL_cell 9 = .ok (.goto 9, 3) := by decide +kernel
theorem ni_dL_cell_12 : decode cL_cell 12 = .ok (.ldc 8, 2) := by decide +kernel
theorem ni_dL_cell_14 : decode cL_cell 14 = .ok (.iload_n 1, 1) := by decide +kernel
theorem ni_dL_cell_15 : decode cL_cell 15 = .ok (.iconst 3, 1) := by decide +kernel
theorem ni_dL_cell_16 : decode cL_cell 16 = .ok (.iadd, 1) := by decide +kernel
theorem ni_dL_cell_17 : decode cL_cell 17 = .ok (.imul, 1) := by decide +kernel
theorem ni_dL_cell_18 : decode cL_cell 18 = .ok (.ireturn, 1) := by decide +kernel
theorem ni_dL_isSound_0 : decode cL_isSound 0 = .ok (.iconst 0, 1) := by decide +kernel
theorem ni_dL_isSound_1 : decode cL_isSound 1 = .ok (.istore_n 3, 1) := by decide +kernel
theorem ni_dL_isSound_2 : decode cL_isSound 2 = .ok (.iconst 0, 1) := by decide +kernel
theorem ni_dL_isSound_3 : decode cL_isSound 3 = .ok (.istore 4, 2) := by decide +kernel
theorem ni_dL_isSound_5 : decode cL_isSound 5 = .ok (.iconst 0, 1) := by decide +kernel
theorem ni_dL_isSound_6 : decode cL_isSound 6 = .ok (.istore 5, 2) := by decide +kernel
theorem ni_dL_isSound_8 : decode cL_isSound 8 = .ok (.iload 5, 2) := by decide +kernel
theorem ni_dL_isSound_10 : decode cL_isSound 10 = .ok (.iload_n 2, 1) := by decide +kernel
theorem ni_dL_isSound_11 : decode cL_isSound 11 = .ok (.if_icmp .ge 166, 3) := by decide +kernel
theorem ni_dL_isSound_14 : decode cL_isSound 14 = .ok (.iload_n 3, 1) := by decide +kernel
theorem ni_dL_isSound_15 : decode cL_isSound 15 = .ok (.aload_n 0, 1) := by decide +kernel
theorem ni_dL_isSound_16 : decode cL_isSound 16 = .ok (.iload 5, 2) := by decide +kernel
theorem ni_dL_isSound_18 : decode cL_isSound 18 = .ok (.invokevirtual 37, 3) := by decide +kernel
theorem ni_dL_isSound_21 : decode cL_isSound 21 = .ok (.iadd, 1) := by decide +kernel
theorem ni_dL_isSound_22 : decode cL_isSound 22 = .ok (.istore_n 3, 1) := by decide +kernel
theorem ni_dL_isSound_23 : decode cL_isSound 23 = .ok (.iload 4, 2) := by decide +kernel
theorem ni_dL_isSound_25 : decode cL_isSound 25 = .ok (.aload_n 0, 1) := by decide +kernel
theorem ni_dL_isSound_26 : decode cL_isSound 26 = .ok (.iload 5, 2) := by decide +kernel
theorem ni_dL_isSound_28 : decode cL_isSound 28 = .ok (.invokevirtual 41, 3) := by decide +kernel
theorem ni_dL_isSound_31 : decode cL_isSound 31 = .ok (.aload_n 0, 1) := by decide +kernel
theorem ni_dL_isSound_32 : decode cL_isSound 32 = .ok (.iload 5, 2) := by decide +kernel
theorem ni_dL_isSound_34 : decode cL_isSound 34 = .ok (.invokevirtual 44, 3) := by decide +kernel
theorem ni_dL_isSound_37 : decode cL_isSound 37 = .ok (.iadd, 1) := by decide +kernel
theorem ni_dL_isSound_38 : decode cL_isSound 38 = .ok (.iadd, 1) := by decide +kernel
theorem ni_dL_isSound_39 : decode cL_isSound 39 = .ok (.istore 4, 2) := by decide +kernel
theorem ni_dL_isSound_41 : decode cL_isSound 41 = .ok (.iconst 0, 1) := by decide +kernel
theorem ni_dL_isSound_42 : decode cL_isSound 42 = .ok (.istore 6, 2) := by decide +kernel
theorem ni_dL_isSound_44 : decode cL_isSound 44 = .ok (.iload 6, 2) := by decide +kernel
theorem ni_dL_isSound_46 : decode cL_isSound 46 = .ok (.bipush 7, 2) := by decide +kernel
theorem ni_dL_isSound_48 : decode cL_isSound 48 = .ok (.if_icmp .ge 22, 3) := by decide +kernel
theorem ni_dL_isSound_51 : decode cL_isSound 51 = .ok (.iload 4, 2) := by decide +kernel
theorem ni_dL_isSound_53 : decode cL_isSound 53 = .ok (.aload_n 0, 1) := by decide +kernel
theorem ni_dL_isSound_54 : decode cL_isSound 54 = .ok (.iload 5, 2) := by decide +kernel
theorem ni_dL_isSound_56 : decode cL_isSound 56 = .ok (.iload 6, 2) := by decide +kernel
theorem ni_dL_isSound_58 : decode cL_isSound 58 = .ok (.invokevirtual 47, 3) := by decide +kernel
theorem ni_dL_isSound_61 : decode cL_isSound 61 = .ok (.iadd, 1) := by decide +kernel
theorem ni_dL_isSound_62 : decode cL_isSound 62 = .ok (.istore 4, 2) := by decide +kernel
theorem ni_dL_isSound_64 : decode cL_isSound 64 = .ok (.iinc 6 1, 3) := by decide +kernel
theorem ni_dL_isSound_67 : decode cL_isSound 67 = .ok (.goto (-23), 3) := by decide +kernel
theorem ni_dL_isSound_70 : decode cL_isSound 70 = .ok (.aload_n 0, 1) := by decide +kernel
theorem ni_dL_isSound_71 : decode cL_isSound 71 = .ok (.iload 5, 2) := by decide +kernel
theorem ni_dL_isSound_73 : decode cL_isSound 73 = .ok (.invokevirtual 41, 3) := by decide +kernel
theorem ni_dL_isSound_76 : decode cL_isSound 76 = .ok (.aload_n 0, 1) := by decide +kernel
theorem ni_dL_isSound_77 : decode cL_isSound 77 = .ok (.iload 5, 2) := by decide +kernel
theorem ni_dL_isSound_79 : decode cL_isSound 79 = .ok (.invokevirtual 37, 3) := by decide +kernel
theorem ni_dL_isSound_82 : decode cL_isSound 82 = .ok (.if_icmp .gt 87, 3) := by decide +kernel
theorem ni_dL_isSound_85 : decode cL_isSound 85 = .ok (.aload_n 0, 1) := by decide +kernel
theorem ni_dL_isSound_86 : decode cL_isSound 86 = .ok (.iload 5, 2) := by decide +kernel
theorem ni_dL_isSound_88 : decode cL_isSound 88 = .ok (.invokevirtual 50, 3) := by decide +kernel
theorem ni_dL_isSound_91 : decode cL_isSound 91 = .ok (.iconst 1, 1) := by decide +kernel
theorem ni_dL_isSound_92 : decode cL_isSound 92 = .ok (.aload_n 0, 1) := by decide +kernel
theorem ni_dL_isSound_93 : decode cL_isSound 93 = .ok (.iload 5, 2) := by decide +kernel
theorem ni_dL_isSound_95 : decode cL_isSound 95 = .ok (.invokevirtual 41, 3) := by decide +kernel
theorem ni_dL_isSound_98 : decode cL_isSound 98 = .ok (.invokestatic 53, 3) := by decide +kernel
theorem ni_dL_isSound_101 : decode cL_isSound 101 = .ok (.if_icmp .ge 68, 3) := by decide +kernel
theorem ni_dL_isSound_104 : decode cL_isSound 104 = .ok (.aload_n 0, 1) := by decide +kernel
theorem ni_dL_isSound_105 : decode cL_isSound 105 = .ok (.iload 5, 2) := by decide +kernel
theorem ni_dL_isSound_107 : decode cL_isSound 107 = .ok (.invokevirtual 56, 3) := by decide +kernel
theorem ni_dL_isSound_110 : decode cL_isSound 110 = .ok (.ifCond .ge 7, 3) := by decide +kernel
theorem ni_dL_isSound_113 : decode cL_isSound 113 = .ok (.iconst 1, 1) := by decide +kernel
theorem ni_dL_isSound_114 : decode cL_isSound 114 = .ok (.goto 4, 3) := by decide +kernel
theorem ni_dL_isSound_117 : decode cL_isSound 117 = .ok (.iconst 0, 1) := by decide +kernel
theorem ni_dL_isSound_118 : decode cL_isSound 118 = .ok (.aload_n 0, 1) := by decide +kernel
theorem ni_dL_isSound_119 : decode cL_isSound 119 = .ok (.iload 5, 2) := by decide +kernel
theorem ni_dL_isSound_121 : decode cL_isSound 121 = .ok (.invokevirtual 41, 3) := by decide +kernel
theorem ni_dL_isSound_124 : decode cL_isSound 124 = .ok (.ifCond .ne 7, 3) := by decide +kernel
theorem ni_dL_isSound_127 : decode cL_isSound 127 = .ok (.iconst 1, 1) := by decide +kernel
theorem ni_dL_isSound_128 : decode cL_isSound 128 = .ok (.goto 4, 3) := by decide +kernel
theorem ni_dL_isSound_131 : decode cL_isSound 131 = .ok (.iconst 0, 1) := by decide +kernel
theorem ni_dL_isSound_132 : decode cL_isSound 132 = .ok (.if_icmp .ne 37, 3) := by decide +kernel
theorem ni_dL_isSound_135 : decode cL_isSound 135 = .ok (.aload_n 0, 1) := by decide +kernel
theorem ni_dL_isSound_136 : decode cL_isSound 136 = .ok (.iload 5, 2) := by decide +kernel
theorem ni_dL_isSound_138 : decode cL_isSound 138 = .ok (.invokevirtual 59, 3) := by decide +kernel
theorem ni_dL_isSound_141 : decode cL_isSound 141 = .ok (.iconst 0, 1) := by decide +kernel
theorem ni_dL_isSound_142 : decode cL_isSound 142 = .ok (.aload_n 0, 1) := by decide +kernel
theorem ni_dL_isSound_143 : decode cL_isSound 143 = .ok (.iload 5, 2) := by decide +kernel
theorem ni_dL_isSound_145 : decode cL_isSound 145 = .ok (.invokevirtual 56, 3) := by decide +kernel
theorem ni_dL_isSound_148 : decode cL_isSound 148 = .ok (.invokestatic 53, 3) := by decide +kernel
theorem ni_dL_isSound_151 : decode cL_isSound 151 = .ok (.i2d, 1) := by decide +kernel
theorem ni_dL_isSound_152 : decode cL_isSound 152 = .ok (.dcmp .l, 1) := by decide +kernel
theorem ni_dL_isSound_153 : decode cL_isSound 153 = .ok (.ifCond .gt 16, 3) := by decide +kernel
theorem ni_dL_isSound_156 : decode cL_isSound 156 = .ok (.aload_n 0, 1) := by decide +kernel
theorem ni_dL_isSound_157 : decode cL_isSound 157 = .ok (.iload 5, 2) := by decide +kernel
theorem ni_dL_isSound_159 : decode cL_isSound 159 = .ok (.invokevirtual 63, 3) := by decide +kernel
theorem ni_dL_isSound_162 : decode cL_isSound 162 = .ok (.aload_n 0, 1) := by decide +kernel
theorem ni_dL_isSound_163 : decode cL_isSound 163 = .ok (.invokevirtual 66, 3) := by decide +kernel
theorem ni_dL_isSound_166 : decode cL_isSound 166 = .ok (.if_icmp .le 5, 3) := by decide +kernel
theorem ni_dL_isSound_169 : decode cL_isSound 169 = .ok (.iconst 0, 1) := by decide +kernel
theorem ni_dL_isSound_170 : decode cL_isSound 170 = .ok (.ireturn, 1) := by decide +kernel
theorem ni_dL_isSound_171 : decode cL_isSound 171 = .ok (.iinc 5 1, 3) := by decide +kernel
theorem ni_dL_isSound_174 : decode cL_isSound 174 = .ok (.goto (-166), 3) := by decide +kernel
theorem ni_dL_isSound_177 : decode cL_isSound 177 = .ok (.iconst 0, 1) := by decide +kernel
theorem ni_dL_isSound_178 : decode cL_isSound 178 = .ok (.istore 5, 2) := by decide +kernel
theorem ni_dL_isSound_180 : decode cL_isSound 180 = .ok (.iload 5, 2) := by decide +kernel
theorem ni_dL_isSound_182 : decode cL_isSound 182 = .ok (.aload_n 1, 1) := by decide +kernel
theorem ni_dL_isSound_183 : decode cL_isSound 183 = .ok (.arraylength, 1) := by decide +kernel
theorem ni_dL_isSound_184 : decode cL_isSound 184 = .ok (.if_icmp .ge 185, 3) := by decide +kernel
theorem ni_dL_isSound_187 : decode cL_isSound 187 = .ok (.iload 4, 2) := by decide +kernel
theorem ni_dL_isSound_189 : decode cL_isSound 189 = .ok (.aload_n 0, 1) := by decide +kernel
theorem ni_dL_isSound_190 : decode cL_isSound 190 = .ok (.iload 5, 2) := by decide +kernel
theorem ni_dL_isSound_192 : decode cL_isSound 192 = .ok (.invokevirtual 69, 3) := by decide +kernel
theorem ni_dL_isSound_195 : decode cL_isSound 195 = .ok (.iadd, 1) := by decide +kernel
theorem ni_dL_isSound_196 : decode cL_isSound 196 = .ok (.istore 4, 2) := by decide +kernel
theorem ni_dL_isSound_198 : decode cL_isSound 198 = .ok (.iconst 0, 1) := by decide +kernel
theorem ni_dL_isSound_199 : decode cL_isSound 199 = .ok (.istore 6, 2) := by decide +kernel
theorem ni_dL_isSound_201 : decode cL_isSound 201 = .ok (.iload 6, 2) := by decide +kernel
theorem ni_dL_isSound_203 : decode cL_isSound 203 = .ok (.iconst 2, 1) := by decide +kernel
theorem ni_dL_isSound_204 : decode cL_isSound 204 = .ok (.if_icmp .ge 159, 3) := by decide +kernel
theorem ni_dL_isSound_207 : decode cL_isSound 207 = .ok (.iload 6, 2) := by decide +kernel
theorem ni_dL_isSound_209 : decode cL_isSound 209 = .ok (.iconst 1, 1) := by decide +kernel
theorem ni_dL_isSound_210 : decode cL_isSound 210 = .ok (.if_icmp .ne 7, 3) := by decide +kernel
theorem ni_dL_isSound_213 : decode cL_isSound 213 = .ok (.iconst 1, 1) := by decide +kernel
theorem ni_dL_isSound_214 : decode cL_isSound 214 = .ok (.goto 4, 3) := by decide +kernel
theorem ni_dL_isSound_217 : decode cL_isSound 217 = .ok (.iconst 0, 1) := by decide +kernel
theorem ni_dL_isSound_218 : decode cL_isSound 218 = .ok (.istore 7, 2) := by decide +kernel
theorem ni_dL_isSound_220 : decode cL_isSound 220 = .ok (.iconst 0, 1) := by decide +kernel
theorem ni_dL_isSound_221 : decode cL_isSound 221 = .ok (.istore 8, 2) := by decide +kernel
theorem ni_dL_isSound_223 : decode cL_isSound 223 = .ok (.iconst 0, 1) := by decide +kernel
theorem ni_dL_isSound_224 : decode cL_isSound 224 = .ok (.istore 9, 2) := by decide +kernel
theorem ni_dL_isSound_226 : decode cL_isSound 226 = .ok (.iload 9, 2) := by decide +kernel
theorem ni_dL_isSound_228 : decode cL_isSound 228 = .ok (.iconst 4, 1) := by decide +kernel
theorem ni_dL_isSound_229 : decode cL_isSound 229 = .ok (.if_icmp .ge 39, 3) := by decide +kernel
theorem ni_dL_isSound_232 : decode cL_isSound 232 = .ok (.iload 8, 2) := by decide +kernel
theorem ni_dL_isSound_234 : decode cL_isSound 234 = .ok (.aload_n 0, 1) := by decide +kernel
theorem ni_dL_isSound_235 : decode cL_isSound 235 = .ok (.iload 5, 2) := by decide +kernel
theorem ni_dL_isSound_237 : decode cL_isSound 237 = .ok (.iload 7, 2) := by decide +kernel
theorem ni_dL_isSound_239 : decode cL_isSound 239 = .ok (.iload 9, 2) := by decide +kernel
theorem ni_dL_isSound_241 : decode cL_isSound 241 = .ok (.invokevirtual 72, 3) := by decide +kernel
theorem ni_dL_isSound_244 : decode cL_isSound 244 = .ok (.iadd, 1) := by decide +kernel
theorem ni_dL_isSound_245 : decode cL_isSound 245 = .ok (.istore 8, 2) := by decide +kernel
theorem ni_dL_isSound_247 : decode cL_isSound 247 = .ok (.aload_n 0, 1) := by decide +kernel
theorem ni_dL_isSound_248 : decode cL_isSound 248 = .ok (.iload 5, 2) := by decide +kernel
theorem ni_dL_isSound_250 : decode cL_isSound 250 = .ok (.iload 7, 2) := by decide +kernel
theorem ni_dL_isSound_252 : decode cL_isSound 252 = .ok (.iload 9, 2) := by decide +kernel
theorem ni_dL_isSound_254 : decode cL_isSound 254 = .ok (.invokevirtual 76, 3) := by decide +kernel
theorem ni_dL_isSound_257 : decode cL_isSound 257 = .ok (.ifCond .ge 5, 3) := by decide +kernel
theorem ni_dL_isSound_260 : decode cL_isSound 260 = .ok (.iconst 0, 1) := by decide +kernel
theorem ni_dL_isSound_261 : decode cL_isSound 261 = .ok (.ireturn, 1) := by decide +kernel
theorem ni_dL_isSound_262 : decode cL_isSound 262 = .ok (.iinc 9 1, 3) := by decide +kernel
theorem ni_dL_isSound_265 : decode cL_isSound 265 = .ok (.goto (-39), 3) := by decide +kernel
theorem ni_dL_isSound_268 : decode cL_isSound 268 = .ok (.iload 4, 2) := by decide +kernel
theorem ni_dL_isSound_270 : decode cL_isSound 270 = .ok (.iload 8, 2) := by decide +kernel
theorem ni_dL_isSound_272 : decode cL_isSound 272 = .ok (.aload_n 0, 1) := by decide +kernel
theorem ni_dL_isSound_273 : decode cL_isSound 273 = .ok (.iload 5, 2) := by decide +kernel
theorem ni_dL_isSound_275 : decode cL_isSound 275 = .ok (.iload 7, 2) := by decide +kernel
theorem ni_dL_isSound_277 : decode cL_isSound 277 = .ok (.invokevirtual 79, 3) := by decide +kernel
theorem ni_dL_isSound_280 : decode cL_isSound 280 = .ok (.ifCond .le 7, 3) := by decide +kernel
theorem ni_dL_isSound_283 : decode cL_isSound 283 = .ok (.iconst 1, 1) := by decide +kernel
theorem ni_dL_isSound_284 : decode cL_isSound 284 = .ok (.goto 4, 3) := by decide +kernel
theorem ni_dL_isSound_287 : decode cL_isSound 287 = .ok (.iconst 0, 1) := by decide +kernel
theorem ni_dL_isSound_288 : decode cL_isSound 288 = .ok (.iadd, 1) := by decide +kernel
theorem ni_dL_isSound_289 : decode cL_isSound 289 = .ok (.iadd, 1) := by decide +kernel
theorem ni_dL_isSound_290 : decode cL_isSound 290 = .ok (.istore 4, 2) := by decide +kernel
theorem ni_dL_isSound_292 : decode cL_isSound 292 = .ok (.aload_n 0, 1) := by decide +kernel
theorem ni_dL_isSound_293 : decode cL_isSound 293 = .ok (.iload 5, 2) := by decide +kernel
theorem ni_dL_isSound_295 : decode cL_isSound 295 = .ok (.iload 7, 2) := by decide +kernel
theorem ni_dL_isSound_297 : decode cL_isSound 297 = .ok (.invokevirtual 83, 3) := by decide +kernel
theorem ni_dL_isSound_300 : decode cL_isSound 300 = .ok (.ifCond .ne 7, 3) := by decide +kernel
theorem ni_dL_isSound_303 : decode cL_isSound 303 = .ok (.iconst 1, 1) := by decide +kernel
theorem ni_dL_isSound_304 : decode cL_isSound 304 = .ok (.goto 4, 3) := by decide +kernel
theorem ni_dL_isSound_307 : decode cL_isSound 307 = .ok (.iconst 0, 1) := by decide +kernel
theorem ni_dL_isSound_308 : decode cL_isSound 308 = .ok (.iload 8, 2) := by decide +kernel
theorem ni_dL_isSound_310 : decode cL_isSound 310 = .ok (.ifCond .ne 7, 3) := by decide +kernel
theorem ni_dL_isSound_313 : decode cL_isSound 313 = .ok (.iconst 1, 1) := by decide +kernel
theorem ni_dL_isSound_314 : decode cL_isSound 314 = .ok (.goto 4, 3) := by decide +kernel
theorem ni_dL_isSound_317 : decode cL_isSound 317 = .ok (.iconst 0, 1) := by decide +kernel
theorem ni_dL_isSound_318 : decode cL_isSound 318 = .ok (.if_icmp .ne 37, 3) := by decide +kernel
theorem ni_dL_isSound_321 : decode cL_isSound 321 = .ok (.aload_n 0, 1) := by decide +kernel
theorem ni_dL_isSound_322 : decode cL_isSound 322 = .ok (.iload 5, 2) := by decide +kernel
theorem ni_dL_isSound_324 : decode cL_isSound 324 = .ok (.invokevirtual 86, 3) := by decide +kernel
theorem ni_dL_isSound_327 : decode cL_isSound 327 = .ok (.ifCond .ne 30, 3) := by decide +kernel
theorem ni_dL_isSound_330 : decode cL_isSound 330 = .ok (.iload 8, 2) := by decide +kernel
theorem ni_dL_isSound_332 : decode cL_isSound 332 = .ok (.ifCond .gt 23, 3) := by decide +kernel
theorem ni_dL_isSound_335 : decode cL_isSound 335 = .ok (.aload_n 0, 1) := by decide +kernel
theorem ni_dL_isSound_336 : decode cL_isSound 336 = .ok (.iload 5, 2) := by decide +kernel
theorem ni_dL_isSound_338 : decode cL_isSound 338 = .ok (.iload 7, 2) := by decide +kernel
theorem ni_dL_isSound_340 : decode cL_isSound 340 = .ok (.invokevirtual 79, 3) := by decide +kernel
theorem ni_dL_isSound_343 : decode cL_isSound 343 = .ok (.ifCond .gt 12, 3) := by decide +kernel
theorem ni_dL_isSound_346 : decode cL_isSound 346 = .ok (.aload_n 0, 1) := by decide +kernel
theorem ni_dL_isSound_347 : decode cL_isSound 347 = .ok (.iload 5, 2) := by decide +kernel
theorem ni_dL_isSound_349 : decode cL_isSound 349 = .ok (.invokevirtual 69, 3) := by decide +kernel
theorem ni_dL_isSound_352 : decode cL_isSound 352 = .ok (.ifCond .le 5, 3) := by decide +kernel
theorem ni_dL_isSound_355 : decode cL_isSound 355 = .ok (.iconst 0, 1) := by decide +kernel
theorem ni_dL_isSound_356 : decode cL_isSound 356 = .ok (.ireturn, 1) := by decide +kernel
theorem ni_dL_isSound_357 : decode cL_isSound 357 = .ok (.iinc 6 1, 3) := by decide +kernel
theorem ni_dL_isSound_360 : decode cL_isSound 360 = .ok (.goto (-159), 3) := by decide +kernel
theorem ni_dL_isSound_363 : decode cL_isSound 363 = .ok (.iinc 5 1, 3) := by decide +kernel
theorem ni_dL_isSound_366 : decode cL_isSound 366 = .ok (.goto (-186), 3) := by decide +kernel
theorem ni_dL_isSound_369 : decode cL_isSound 369 = .ok (.iconst 0, 1) := by decide +kernel
theorem ni_dL_isSound_370 : decode cL_isSound 370 = .ok (.istore 5, 2) := by decide +kernel
theorem ni_dL_isSound_372 : decode cL_isSound 372 = .ok (.iload 5, 2) := by decide +kernel
theorem ni_dL_isSound_374 : decode cL_isSound 374 = .ok (.aload_n 0, 1) := by decide +kernel
theorem ni_dL_isSound_375 : decode cL_isSound 375 = .ok (.invokevirtual 66, 3) := by decide +kernel
theorem ni_dL_isSound_378 : decode cL_isSound 378 = .ok (.if_icmp .ge 151, 3) := by decide +kernel
theorem ni_dL_isSound_381 : decode cL_isSound 381 = .ok (.aload_n 0, 1) := by decide +kernel
theorem ni_dL_isSound_382 : decode cL_isSound 382 = .ok (.iload 5, 2) := by decide +kernel
theorem ni_dL_isSound_384 : decode cL_isSound 384 = .ok (.iload 5, 2) := by decide +kernel
theorem ni_dL_isSound_386 : decode cL_isSound 386 = .ok (.invokevirtual 90, 3) := by decide +kernel
theorem ni_dL_isSound_389 : decode cL_isSound 389 = .ok (.ifCond .ne 58, 3) := by decide +kernel
theorem ni_dL_isSound_392 : decode cL_isSound 392 = .ok (.aload_n 0, 1) := by decide +kernel
theorem ni_dL_isSound_393 : decode cL_isSound 393 = .ok (.iload 5, 2) := by decide +kernel
theorem ni_dL_isSound_395 : decode cL_isSound 395 = .ok (.iload 5, 2) := by decide +kernel
theorem ni_dL_isSound_397 : decode cL_isSound 397 = .ok (.invokevirtual 93, 3) := by decide +kernel
theorem ni_dL_isSound_400 : decode cL_isSound 400 = .ok (.ifCond .ne 47, 3) := by decide +kernel
theorem ni_dL_isSound_403 : decode cL_isSound 403 = .ok (.aload_n 0, 1) := by decide +kernel
theorem ni_dL_isSound_404 : decode cL_isSound 404 = .ok (.iload 5, 2) := by decide +kernel
theorem ni_dL_isSound_406 : decode cL_isSound 406 = .ok (.invokevirtual 96, 3) := by decide +kernel
theorem ni_dL_isSound_409 : decode cL_isSound 409 = .ok (.iconst 1, 1) := by decide +kernel
theorem ni_dL_isSound_410 : decode cL_isSound 410 = .ok (.if_icmp .lt 37, 3) := by decide +kernel
theorem ni_dL_isSound_413 : decode cL_isSound 413 = .ok (.aload_n 0, 1) := by decide +kernel
theorem ni_dL_isSound_414 : decode cL_isSound 414 = .ok (.iload 5, 2) := by decide +kernel
theorem ni_dL_isSound_416 : decode cL_isSound 416 = .ok (.invokevirtual 96, 3) := by decide +kernel
theorem ni_dL_isSound_419 : decode cL_isSound 419 = .ok (.iconst 2, 1) := by decide +kernel
theorem ni_dL_isSound_420 : decode cL_isSound 420 = .ok (.aload_n 0, 1) := by decide +kernel
theorem ni_dL_isSound_421 : decode cL_isSound 421 = .ok (.iload 5, 2) := by decide +kernel
theorem ni_dL_isSound_423 : decode cL_isSound 423 = .ok (.invokevirtual 99, 3) := by decide +kernel
theorem ni_dL_isSound_426 : decode cL_isSound 426 = .ok (.imul, 1) := by decide +kernel
theorem ni_dL_isSound_427 : decode cL_isSound 427 = .ok (.iconst 1, 1) := by decide +kernel
theorem ni_dL_isSound_428 : decode cL_isSound 428 = .ok (.iadd, 1) := by decide +kernel
theorem ni_dL_isSound_429 : decode cL_isSound 429 = .ok (.if_icmp .gt 18, 3) := by decide +kernel
theorem ni_dL_isSound_432 : decode cL_isSound 432 = .ok (.aload_n 0, 1) := by decide +kernel
theorem ni_dL_isSound_433 : decode cL_isSound 433 = .ok (.iload 5, 2) := by decide +kernel
theorem ni_dL_isSound_435 : decode cL_isSound 435 = .ok (.invokevirtual 102, 3) := by decide +kernel
theorem ni_dL_isSound_438 : decode cL_isSound 438 = .ok (.aload_n 0, 1) := by decide +kernel
theorem ni_dL_isSound_439 : decode cL_isSound 439 = .ok (.iload 5, 2) := by decide +kernel
theorem ni_dL_isSound_441 : decode cL_isSound 441 = .ok (.invokevirtual 96, 3) := by decide +kernel
theorem ni_dL_isSound_444 : decode cL_isSound 444 = .ok (.if_icmp .le 5, 3) := by decide +kernel
theorem ni_dL_isSound_447 : decode cL_isSound 447 = .ok (.iconst 0, 1) := by decide +kernel
theorem ni_dL_isSound_448 : decode cL_isSound 448 = .ok (.ireturn, 1) := by decide +kernel
theorem ni_dL_isSound_449 : decode cL_isSound 449 = .ok (.iconst 0, 1) := by decide +kernel
theorem ni_dL_isSound_450 : decode cL_isSound 450 = .ok (.istore 6, 2) := by decide +kernel
theorem ni_dL_isSound_452 : decode cL_isSound 452 = .ok (.iload 6, 2) := by decide +kernel
theorem ni_dL_isSound_454 : decode cL_isSound 454 = .ok (.aload_n 0, 1) := by decide +kernel
theorem ni_dL_isSound_455 : decode cL_isSound 455 = .ok (.invokevirtual 66, 3) := by decide +kernel
theorem ni_dL_isSound_458 : decode cL_isSound 458 = .ok (.if_icmp .ge 65, 3) := by decide +kernel
theorem ni_dL_isSound_461 : decode cL_isSound 461 = .ok (.aload_n 0, 1) := by decide +kernel
theorem ni_dL_isSound_462 : decode cL_isSound 462 = .ok (.iload 5, 2) := by decide +kernel
theorem ni_dL_isSound_464 : decode cL_isSound 464 = .ok (.iload 6, 2) := by decide +kernel
theorem ni_dL_isSound_466 : decode cL_isSound 466 = .ok (.invokevirtual 105, 3) := by decide +kernel
theorem ni_dL_isSound_469 : decode cL_isSound 469 = .ok (.aload_n 0, 1) := by decide +kernel
theorem ni_dL_isSound_470 : decode cL_isSound 470 = .ok (.iload 6, 2) := by decide +kernel
theorem ni_dL_isSound_472 : decode cL_isSound 472 = .ok (.iload 6, 2) := by decide +kernel
theorem ni_dL_isSound_474 : decode cL_isSound 474 = .ok (.invokevirtual 105, 3) := by decide +kernel
theorem ni_dL_isSound_477 : decode cL_isSound 477 = .ok (.if_icmp .gt 38, 3) := by decide +kernel
theorem ni_dL_isSound_480 : decode cL_isSound 480 = .ok (.aload_n 0, 1) := by decide +kernel
theorem ni_dL_isSound_481 : decode cL_isSound 481 = .ok (.iload 5, 2) := by decide +kernel
theorem ni_dL_isSound_483 : decode cL_isSound 483 = .ok (.iload 6, 2) := by decide +kernel
theorem ni_dL_isSound_485 : decode cL_isSound 485 = .ok (.invokevirtual 90, 3) := by decide +kernel
theorem ni_dL_isSound_488 : decode cL_isSound 488 = .ok (.ifCond .le 7, 3) := by decide +kernel
theorem ni_dL_isSound_491 : decode cL_isSound 491 = .ok (.iconst 1, 1) := by decide +kernel
theorem ni_dL_isSound_492 : decode cL_isSound 492 = .ok (.goto 4, 3) := by decide +kernel
theorem ni_dL_isSound_495 : decode cL_isSound 495 = .ok (.iconst 0, 1) := by decide +kernel
theorem ni_dL_isSound_496 : decode cL_isSound 496 = .ok (.aload_n 0, 1) := by decide +kernel
theorem ni_dL_isSound_497 : decode cL_isSound 497 = .ok (.iload 5, 2) := by decide +kernel
theorem ni_dL_isSound_499 : decode cL_isSound 499 = .ok (.iload 6, 2) := by decide +kernel
theorem ni_dL_isSound_501 : decode cL_isSound 501 = .ok (.invokevirtual 93, 3) := by decide +kernel
theorem ni_dL_isSound_504 : decode cL_isSound 504 = .ok (.ifCond .le 7, 3) := by decide +kernel
theorem ni_dL_isSound_507 : decode cL_isSound 507 = .ok (.iconst 1, 1) := by decide +kernel
theorem ni_dL_isSound_508 : decode cL_isSound 508 = .ok (.goto 4, 3) := by decide +kernel
theorem ni_dL_isSound_511 : decode cL_isSound 511 = .ok (.iconst 0, 1) := by decide +kernel
theorem ni_dL_isSound_512 : decode cL_isSound 512 = .ok (.if_icmp .eq 5, 3) := by decide +kernel
theorem ni_dL_isSound_515 : decode cL_isSound 515 = .ok (.iconst 0, 1) := by decide +kernel
theorem ni_dL_isSound_516 : decode cL_isSound 516 = .ok (.ireturn, 1) := by decide +kernel
theorem ni_dL_isSound_517 : decode cL_isSound 517 = .ok (.iinc 6 1, 3) := by decide +kernel
theorem ni_dL_isSound_520 : decode cL_isSound 520 = .ok (.goto (-68), 3) := by decide +kernel
theorem ni_dL_isSound_523 : decode cL_isSound 523 = .ok (.iinc 5 1, 3) := by decide +kernel
theorem ni_dL_isSound_526 : decode cL_isSound 526 = .ok (.goto (-154), 3) := by decide +kernel
theorem ni_dL_isSound_529 : decode cL_isSound 529 = .ok (.iload_n 3, 1) := by decide +kernel
theorem ni_dL_isSound_530 : decode cL_isSound 530 = .ok (.iload 4, 2) := by decide +kernel
theorem ni_dL_isSound_532 : decode cL_isSound 532 = .ok (.if_icmp .ne 7, 3) := by decide +kernel
theorem ni_dL_isSound_535 : decode cL_isSound 535 = .ok (.iconst 1, 1) := by decide +kernel
theorem ni_dL_isSound_536 : decode cL_isSound 536 = .ok (.goto 4, 3) := by decide +kernel
theorem ni_dL_isSound_539 : decode cL_isSound 539 = .ok (.iconst 0, 1) := by decide +kernel
theorem ni_dL_isSound_540 : decode cL_isSound 540 = .ok (.ireturn, 1) := by decide +kernel
theorem ni_dJ6_bitCount_0f7a4_0 : decode cJ6_bitCount_0f7a4 0 = .ok (.iload_n 0, 1) := by decide +kernel
theorem ni_dJ6_bitCount_0f7a4_1 : decode cJ6_bitCount_0f7a4 1 = .ok (.iload_n 0, 1) := by decide +kernel
theorem ni_dJ6_bitCount_0f7a4_2 : decode cJ6_bitCount_0f7a4 2 = .ok (.iconst 1, 1) := by decide +kernel
theorem ni_dJ6_bitCount_0f7a4_3 : decode cJ6_bitCount_0f7a4 3 = .ok (.iushr, 1) := by decide +kernel
theorem ni_dJ6_bitCount_0f7a4_4 : decode cJ6_bitCount_0f7a4 4 = .ok (.ldc_w 265, 3) := by decide +kernel
theorem ni_dJ6_bitCount_0f7a4_7 : decode cJ6_bitCount_0f7a4 7 = .ok (.iand, 1) := by decide +kernel
theorem ni_dJ6_bitCount_0f7a4_8 : decode cJ6_bitCount_0f7a4 8 = .ok (.isub, 1) := by decide +kernel
theorem ni_dJ6_bitCount_0f7a4_9 : decode cJ6_bitCount_0f7a4 9 = .ok (.istore_n 0, 1) := by decide +kernel
theorem ni_dJ6_bitCount_0f7a4_10 : decode cJ6_bitCount_0f7a4 10 = .ok (.iload_n 0, 1) := by decide +kernel
theorem ni_dJ6_bitCount_0f7a4_11 : decode cJ6_bitCount_0f7a4 11 = .ok (.ldc_w 266, 3) := by decide +kernel
theorem ni_dJ6_bitCount_0f7a4_14 : decode cJ6_bitCount_0f7a4 14 = .ok (.iand, 1) := by decide +kernel
theorem ni_dJ6_bitCount_0f7a4_15 : decode cJ6_bitCount_0f7a4 15 = .ok (.iload_n 0, 1) := by decide +kernel
theorem ni_dJ6_bitCount_0f7a4_16 : decode cJ6_bitCount_0f7a4 16 = .ok (.iconst 2, 1) := by decide +kernel
theorem ni_dJ6_bitCount_0f7a4_17 : decode cJ6_bitCount_0f7a4 17 = .ok (.iushr, 1) := by decide +kernel
theorem ni_dJ6_bitCount_0f7a4_18 : decode cJ6_bitCount_0f7a4 18 = .ok (.ldc_w 266, 3) := by decide +kernel
theorem ni_dJ6_bitCount_0f7a4_21 : decode cJ6_bitCount_0f7a4 21 = .ok (.iand, 1) := by decide +kernel
theorem ni_dJ6_bitCount_0f7a4_22 : decode cJ6_bitCount_0f7a4 22 = .ok (.iadd, 1) := by decide +kernel
theorem ni_dJ6_bitCount_0f7a4_23 : decode cJ6_bitCount_0f7a4 23 = .ok (.istore_n 0, 1) := by decide +kernel
theorem ni_dJ6_bitCount_0f7a4_24 : decode cJ6_bitCount_0f7a4 24 = .ok (.iload_n 0, 1) := by decide +kernel
theorem ni_dJ6_bitCount_0f7a4_25 : decode cJ6_bitCount_0f7a4 25 = .ok (.iload_n 0, 1) := by decide +kernel
theorem ni_dJ6_bitCount_0f7a4_26 : decode cJ6_bitCount_0f7a4 26 = .ok (.iconst 4, 1) := by decide +kernel
theorem ni_dJ6_bitCount_0f7a4_27 : decode cJ6_bitCount_0f7a4 27 = .ok (.iushr, 1) := by decide +kernel
theorem ni_dJ6_bitCount_0f7a4_28 : decode cJ6_bitCount_0f7a4 28 = .ok (.iadd, 1) := by decide +kernel
theorem ni_dJ6_bitCount_0f7a4_29 : decode cJ6_bitCount_0f7a4 29 = .ok (.ldc_w 267, 3) := by decide +kernel
theorem ni_dJ6_bitCount_0f7a4_32 : decode cJ6_bitCount_0f7a4 32 = .ok (.iand, 1) := by decide +kernel
theorem ni_dJ6_bitCount_0f7a4_33 : decode cJ6_bitCount_0f7a4 33 = .ok (.istore_n 0, 1) := by decide +kernel
theorem ni_dJ6_bitCount_0f7a4_34 : decode cJ6_bitCount_0f7a4 34 = .ok (.iload_n 0, 1) := by decide +kernel
theorem ni_dJ6_bitCount_0f7a4_35 : decode cJ6_bitCount_0f7a4 35 = .ok (.iload_n 0, 1) := by decide +kernel
theorem ni_dJ6_bitCount_0f7a4_36 : decode cJ6_bitCount_0f7a4 36 = .ok (.bipush 8, 2) := by decide +kernel
theorem ni_dJ6_bitCount_0f7a4_38 : decode cJ6_bitCount_0f7a4 38 = .ok (.iushr, 1) := by decide +kernel
theorem ni_dJ6_bitCount_0f7a4_39 : decode cJ6_bitCount_0f7a4 39 = .ok (.iadd, 1) := by decide +kernel
theorem ni_dJ6_bitCount_0f7a4_40 : decode cJ6_bitCount_0f7a4 40 = .ok (.istore_n 0, 1) := by decide +kernel
theorem ni_dJ6_bitCount_0f7a4_41 : decode cJ6_bitCount_0f7a4 41 = .ok (.iload_n 0, 1) := by decide +kernel
theorem ni_dJ6_bitCount_0f7a4_42 : decode cJ6_bitCount_0f7a4 42 = .ok (.iload_n 0, 1) := by decide +kernel
theorem ni_dJ6_bitCount_0f7a4_43 : decode cJ6_bitCount_0f7a4 43 = .ok (.bipush 16, 2) := by decide +kernel
theorem ni_dJ6_bitCount_0f7a4_45 : decode cJ6_bitCount_0f7a4 45 = .ok (.iushr, 1) := by decide +kernel
theorem ni_dJ6_bitCount_0f7a4_46 : decode cJ6_bitCount_0f7a4 46 = .ok (.iadd, 1) := by decide +kernel
theorem ni_dJ6_bitCount_0f7a4_47 : decode cJ6_bitCount_0f7a4 47 = .ok (.istore_n 0, 1) := by decide +kernel
theorem ni_dJ6_bitCount_0f7a4_48 : decode cJ6_bitCount_0f7a4 48 = .ok (.iload_n 0, 1) := by decide +kernel
theorem ni_dJ6_bitCount_0f7a4_49 : decode cJ6_bitCount_0f7a4 49 = .ok (.bipush 63, 2) := by decide +kernel
theorem ni_dJ6_bitCount_0f7a4_51 : decode cJ6_bitCount_0f7a4 51 = .ok (.iand, 1) := by decide +kernel
theorem ni_dJ6_bitCount_0f7a4_52 : decode cJ6_bitCount_0f7a4 52 = .ok (.ireturn, 1) := by decide +kernel
theorem ni_dJ9_floorMod_7cf53_0 : decode cJ9_floorMod_7cf53 0 = .ok (.iload_n 0, 1) := by decide +kernel
theorem ni_dJ9_floorMod_7cf53_1 : decode cJ9_floorMod_7cf53 1 = .ok (.iload_n 1, 1) := by decide +kernel
theorem ni_dJ9_floorMod_7cf53_2 : decode cJ9_floorMod_7cf53 2 = .ok (.irem, 1) := by decide +kernel
theorem ni_dJ9_floorMod_7cf53_3 : decode cJ9_floorMod_7cf53 3 = .ok (.istore_n 2, 1) := by decide +kernel
theorem ni_dJ9_floorMod_7cf53_4 : decode cJ9_floorMod_7cf53 4 = .ok (.iload_n 0, 1) := by decide +kernel
theorem ni_dJ9_floorMod_7cf53_5 : decode cJ9_floorMod_7cf53 5 = .ok (.iload_n 1, 1) := by decide +kernel
theorem ni_dJ9_floorMod_7cf53_6 : decode cJ9_floorMod_7cf53 6 = .ok (.ixor, 1) := by decide +kernel
theorem ni_dJ9_floorMod_7cf53_7 : decode cJ9_floorMod_7cf53 7 = .ok (.ifCond .ge 11, 3) := by decide +kernel
theorem ni_dJ9_floorMod_7cf53_10 : decode cJ9_floorMod_7cf53 10 = .ok (.iload_n 2, 1) := by decide +kernel
theorem ni_dJ9_floorMod_7cf53_11 : decode cJ9_floorMod_7cf53 11 = .ok (.ifCond .eq 7, 3) := by decide +kernel
theorem ni_dJ9_floorMod_7cf53_14 : decode cJ9_floorMod_7cf53 14 = .ok (.iload_n 2, 1) := by decide +kernel
theorem ni_dJ9_floorMod_7cf53_15 : decode cJ9_floorMod_7cf53 15 = .ok (.iload_n 1, 1) := by decide +kernel
theorem ni_dJ9_floorMod_7cf53_16 : decode cJ9_floorMod_7cf53 16 = .ok (.iadd, 1) := by decide +kernel
theorem ni_dJ9_floorMod_7cf53_17 : decode cJ9_floorMod_7cf53 17 = .ok (.ireturn, 1) := by decide +kernel
theorem ni_dJ9_floorMod_7cf53_18 : decode cJ9_floorMod_7cf53 18 = .ok (.iload_n 2, 1) := by decide +kernel
theorem ni_dJ9_floorMod_7cf53_19 : decode cJ9_floorMod_7cf53 19 = .ok (.ireturn, 1) := by decide +kernel
