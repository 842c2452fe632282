theorem dL_cell_0 : decode cL_cell 0 = .ok (.iload_n 1, 1) := by decide +kernel
theorem dL_cell_1 : decode cL_cell 1 = .ok (.aload_n 0, 1) := by decide +kernel
theorem dL_cell_2 : decode cL_cell 2 = .ok (.arraylength, 1) := by decide +kernel
theorem dL_cell_3 : decode cL_cell 3 = .ok (.if_icmp .ge 9, 3) := by decide +kernel
theorem dL_cell_6 : decode cL_cell 6 = .ok (.aload_n 0, 1) := by decide +kernel
theorem dL_cell_7 : decode cL_cell 7 = .ok (.iload_n 1, 1) := by decide +kernel
theorem dL_cell_8 : decode cL_cell 8 = .ok (.iaload, 1) := by decide +kernel
theorem dL_cell_9 : decode cL_cell 9 = .ok (.goto 11, 3) := by decide +kernel
theorem dL_cell_12 : decode cL_cell 12 = .ok (.ldc 7, 2) := by decide +kernel
theorem dL_cell_14 : decode cL_cell 14 = .ok (.iload_n 1, 1) := by decide +kernel
theorem dL_cell_15 : decode cL_cell 15 = .ok (.sipush 1069, 3) := by decide +kernel
theorem dL_cell_18 : decode cL_cell 18 = .ok (.iadd, 1) := by decide +kernel
theorem dL_cell_19 : decode cL_cell 19 = .ok (.imul, 1) := by decide +kernel
theorem dL_cell_20 : decode cL_cell 20 = .ok (.ireturn, 1) := by decide +kernel
theorem dL_up_0 : decode cL_up 0 = .ok (.iload_n 0, 1) := by decide +kernel
theorem dL_up_1 : decode cL_up 1 = .ok (.ldc 8, 2) := by decide +kernel
theorem dL_up_3 : decode cL_up 3 = .ok (.iand, 1) := by decide +kernel
theorem dL_up_4 : decode cL_up 4 = .ok (.iload_n 1, 1) := by decide +kernel
theorem dL_up_5 : decode cL_up 5 = .ok (.irem, 1) := by decide +kernel
theorem dL_up_6 : decode cL_up 6 = .ok (.ireturn, 1) := by decide +kernel
theorem dL_isTurned_0 : decode cL_isTurned 0 = .ok (.aload_n 0, 1) := by decide +kernel
theorem dL_isTurned_1 : decode cL_isTurned 1 = .ok (.iconst 1, 1) := by decide +kernel
theorem dL_isTurned_2 : decode cL_isTurned 2 = .ok (.invokevirtual 9, 3) := by decide +kernel
theorem dL_isTurned_5 : decode cL_isTurned 5 = .ok (.istore_n 3, 1) := by decide +kernel
theorem dL_isTurned_6 : decode cL_isTurned 6 = .ok (.aload_n 0, 1) := by decide +kernel
theorem dL_isTurned_7 : decode cL_isTurned 7 = .ok (.iload_n 2, 1) := by decide +kernel
theorem dL_isTurned_8 : decode cL_isTurned 8 = .ok (.iconst 4, 1) := by decide +kernel
theorem dL_isTurned_9 : decode cL_isTurned 9 = .ok (.invokevirtual 36, 3) := by decide +kernel
theorem dL_isTurned_12 : decode cL_isTurned 12 = .ok (.aload_n 1, 1) := by decide +kernel
theorem dL_isTurned_13 : decode cL_isTurned 13 = .ok (.iconst 2, 1) := by decide +kernel
theorem dL_isTurned_14 : decode cL_isTurned 14 = .ok (.iload_n 2, 1) := by decide +kernel
theorem dL_isTurned_15 : decode cL_isTurned 15 = .ok (.imul, 1) := by decide +kernel
theorem dL_isTurned_16 : decode cL_isTurned 16 = .ok (.iconst 4, 1) := by decide +kernel
theorem dL_isTurned_17 : decode cL_isTurned 17 = .ok (.invokevirtual 36, 3) := by decide +kernel
theorem dL_isTurned_20 : decode cL_isTurned 20 = .ok (.if_icmp .ne 93, 3) := by decide +kernel
theorem dL_isTurned_23 : decode cL_isTurned 23 = .ok (.aload_n 1, 1) := by decide +kernel
theorem dL_isTurned_24 : decode cL_isTurned 24 = .ok (.iconst 2, 1) := by decide +kernel
theorem dL_isTurned_25 : decode cL_isTurned 25 = .ok (.iload_n 2, 1) := by decide +kernel
theorem dL_isTurned_26 : decode cL_isTurned 26 = .ok (.imul, 1) := by decide +kernel
theorem dL_isTurned_27 : decode cL_isTurned 27 = .ok (.iconst 1, 1) := by decide +kernel
theorem dL_isTurned_28 : decode cL_isTurned 28 = .ok (.iadd, 1) := by decide +kernel
theorem dL_isTurned_29 : decode cL_isTurned 29 = .ok (.iconst 4, 1) := by decide +kernel
theorem dL_isTurned_30 : decode cL_isTurned 30 = .ok (.invokevirtual 36, 3) := by decide +kernel
theorem dL_isTurned_33 : decode cL_isTurned 33 = .ok (.iload_n 3, 1) := by decide +kernel
theorem dL_isTurned_34 : decode cL_isTurned 34 = .ok (.aload_n 0, 1) := by decide +kernel
theorem dL_isTurned_35 : decode cL_isTurned 35 = .ok (.iload_n 2, 1) := by decide +kernel
theorem dL_isTurned_36 : decode cL_isTurned 36 = .ok (.iconst 4, 1) := by decide +kernel
theorem dL_isTurned_37 : decode cL_isTurned 37 = .ok (.invokevirtual 36, 3) := by decide +kernel
theorem dL_isTurned_40 : decode cL_isTurned 40 = .ok (.isub, 1) := by decide +kernel
theorem dL_isTurned_41 : decode cL_isTurned 41 = .ok (.if_icmp .ne 72, 3) := by decide +kernel
theorem dL_isTurned_44 : decode cL_isTurned 44 = .ok (.aload_n 1, 1) := by decide +kernel
theorem dL_isTurned_45 : decode cL_isTurned 45 = .ok (.iconst 2, 1) := by decide +kernel
theorem dL_isTurned_46 : decode cL_isTurned 46 = .ok (.iload_n 2, 1) := by decide +kernel
theorem dL_isTurned_47 : decode cL_isTurned 47 = .ok (.imul, 1) := by decide +kernel
theorem dL_isTurned_48 : decode cL_isTurned 48 = .ok (.iconst 1, 1) := by decide +kernel
theorem dL_isTurned_49 : decode cL_isTurned 49 = .ok (.iadd, 1) := by decide +kernel
theorem dL_isTurned_50 : decode cL_isTurned 50 = .ok (.bipush 6, 2) := by decide +kernel
theorem dL_isTurned_52 : decode cL_isTurned 52 = .ok (.invokevirtual 36, 3) := by decide +kernel
theorem dL_isTurned_55 : decode cL_isTurned 55 = .ok (.ldc 63, 2) := by decide +kernel
theorem dL_isTurned_57 : decode cL_isTurned 57 = .ok (.aload_n 1, 1) := by decide +kernel
theorem dL_isTurned_58 : decode cL_isTurned 58 = .ok (.iconst 2, 1) := by decide +kernel
theorem dL_isTurned_59 : decode cL_isTurned 59 = .ok (.iload_n 2, 1) := by decide +kernel
theorem dL_isTurned_60 : decode cL_isTurned 60 = .ok (.imul, 1) := by decide +kernel
theorem dL_isTurned_61 : decode cL_isTurned 61 = .ok (.bipush 6, 2) := by decide +kernel
theorem dL_isTurned_63 : decode cL_isTurned 63 = .ok (.invokevirtual 36, 3) := by decide +kernel
theorem dL_isTurned_66 : decode cL_isTurned 66 = .ok (.isub, 1) := by decide +kernel
theorem dL_isTurned_67 : decode cL_isTurned 67 = .ok (.if_icmp .ne 46, 3) := by decide +kernel
theorem dL_isTurned_70 : decode cL_isTurned 70 = .ok (.aload_n 0, 1) := by decide +kernel
theorem dL_isTurned_71 : decode cL_isTurned 71 = .ok (.iload_n 2, 1) := by decide +kernel
theorem dL_isTurned_72 : decode cL_isTurned 72 = .ok (.invokevirtual 64, 3) := by decide +kernel
theorem dL_isTurned_75 : decode cL_isTurned 75 = .ok (.aload_n 1, 1) := by decide +kernel
theorem dL_isTurned_76 : decode cL_isTurned 76 = .ok (.iconst 2, 1) := by decide +kernel
theorem dL_isTurned_77 : decode cL_isTurned 77 = .ok (.iload_n 2, 1) := by decide +kernel
theorem dL_isTurned_78 : decode cL_isTurned 78 = .ok (.imul, 1) := by decide +kernel
theorem dL_isTurned_79 : decode cL_isTurned 79 = .ok (.iconst 1, 1) := by decide +kernel
theorem dL_isTurned_80 : decode cL_isTurned 80 = .ok (.iadd, 1) := by decide +kernel
theorem dL_isTurned_81 : decode cL_isTurned 81 = .ok (.invokevirtual 64, 3) := by decide +kernel
theorem dL_isTurned_84 : decode cL_isTurned 84 = .ok (.if_icmp .ne 29, 3) := by decide +kernel
theorem dL_isTurned_87 : decode cL_isTurned 87 = .ok (.aload_n 0, 1) := by decide +kernel
theorem dL_isTurned_88 : decode cL_isTurned 88 = .ok (.iload_n 2, 1) := by decide +kernel
theorem dL_isTurned_89 : decode cL_isTurned 89 = .ok (.iload_n 2, 1) := by decide +kernel
theorem dL_isTurned_90 : decode cL_isTurned 90 = .ok (.invokevirtual 67, 3) := by decide +kernel
theorem dL_isTurned_93 : decode cL_isTurned 93 = .ok (.aload_n 1, 1) := by decide +kernel
theorem dL_isTurned_94 : decode cL_isTurned 94 = .ok (.iconst 2, 1) := by decide +kernel
theorem dL_isTurned_95 : decode cL_isTurned 95 = .ok (.iload_n 2, 1) := by decide +kernel
theorem dL_isTurned_96 : decode cL_isTurned 96 = .ok (.imul, 1) := by decide +kernel
theorem dL_isTurned_97 : decode cL_isTurned 97 = .ok (.iconst 2, 1) := by decide +kernel
theorem dL_isTurned_98 : decode cL_isTurned 98 = .ok (.iload_n 2, 1) := by decide +kernel
theorem dL_isTurned_99 : decode cL_isTurned 99 = .ok (.imul, 1) := by decide +kernel
theorem dL_isTurned_100 : decode cL_isTurned 100 = .ok (.iconst 1, 1) := by decide +kernel
theorem dL_isTurned_101 : decode cL_isTurned 101 = .ok (.iadd, 1) := by decide +kernel
theorem dL_isTurned_102 : decode cL_isTurned 102 = .ok (.invokevirtual 67, 3) := by decide +kernel
theorem dL_isTurned_105 : decode cL_isTurned 105 = .ok (.ineg, 1) := by decide +kernel
theorem dL_isTurned_106 : decode cL_isTurned 106 = .ok (.if_icmp .ne 7, 3) := by decide +kernel
theorem dL_isTurned_109 : decode cL_isTurned 109 = .ok (.iconst 1, 1) := by decide +kernel
theorem dL_isTurned_110 : decode cL_isTurned 110 = .ok (.goto 4, 3) := by decide +kernel
theorem dL_isTurned_113 : decode cL_isTurned 113 = .ok (.iconst 0, 1) := by decide +kernel
theorem dL_isTurned_114 : decode cL_isTurned 114 = .ok (.istore 4, 2) := by decide +kernel
theorem dL_isTurned_116 : decode cL_isTurned 116 = .ok (.iconst 0, 1) := by decide +kernel
theorem dL_isTurned_117 : decode cL_isTurned 117 = .ok (.istore 5, 2) := by decide +kernel
theorem dL_isTurned_119 : decode cL_isTurned 119 = .ok (.iload 5, 2) := by decide +kernel
theorem dL_isTurned_121 : decode cL_isTurned 121 = .ok (.bipush 40, 2) := by decide +kernel
theorem dL_isTurned_123 : decode cL_isTurned 123 = .ok (.if_icmp .ge 63, 3) := by decide +kernel
theorem dL_isTurned_126 : decode cL_isTurned 126 = .ok (.iload 4, 2) := by decide +kernel
theorem dL_isTurned_128 : decode cL_isTurned 128 = .ok (.ifCond .eq 49, 3) := by decide +kernel
theorem dL_isTurned_131 : decode cL_isTurned 131 = .ok (.aload_n 0, 1) := by decide +kernel
theorem dL_isTurned_132 : decode cL_isTurned 132 = .ok (.iload_n 2, 1) := by decide +kernel
theorem dL_isTurned_133 : decode cL_isTurned 133 = .ok (.iload 5, 2) := by decide +kernel
theorem dL_isTurned_135 : decode cL_isTurned 135 = .ok (.invokevirtual 39, 3) := by decide +kernel
theorem dL_isTurned_138 : decode cL_isTurned 138 = .ok (.aload_n 1, 1) := by decide +kernel
theorem dL_isTurned_139 : decode cL_isTurned 139 = .ok (.iconst 2, 1) := by decide +kernel
theorem dL_isTurned_140 : decode cL_isTurned 140 = .ok (.iload_n 2, 1) := by decide +kernel
theorem dL_isTurned_141 : decode cL_isTurned 141 = .ok (.imul, 1) := by decide +kernel
theorem dL_isTurned_142 : decode cL_isTurned 142 = .ok (.iload 5, 2) := by decide +kernel
theorem dL_isTurned_144 : decode cL_isTurned 144 = .ok (.invokevirtual 39, 3) := by decide +kernel
theorem dL_isTurned_147 : decode cL_isTurned 147 = .ok (.if_icmp .ne 30, 3) := by decide +kernel
theorem dL_isTurned_150 : decode cL_isTurned 150 = .ok (.aload_n 0, 1) := by decide +kernel
theorem dL_isTurned_151 : decode cL_isTurned 151 = .ok (.iload_n 2, 1) := by decide +kernel
theorem dL_isTurned_152 : decode cL_isTurned 152 = .ok (.iload 5, 2) := by decide +kernel
theorem dL_isTurned_154 : decode cL_isTurned 154 = .ok (.invokevirtual 39, 3) := by decide +kernel
theorem dL_isTurned_157 : decode cL_isTurned 157 = .ok (.aload_n 1, 1) := by decide +kernel
theorem dL_isTurned_158 : decode cL_isTurned 158 = .ok (.iconst 2, 1) := by decide +kernel
theorem dL_isTurned_159 : decode cL_isTurned 159 = .ok (.iload_n 2, 1) := by decide +kernel
theorem dL_isTurned_160 : decode cL_isTurned 160 = .ok (.imul, 1) := by decide +kernel
theorem dL_isTurned_161 : decode cL_isTurned 161 = .ok (.iconst 1, 1) := by decide +kernel
theorem dL_isTurned_162 : decode cL_isTurned 162 = .ok (.iadd, 1) := by decide +kernel
theorem dL_isTurned_163 : decode cL_isTurned 163 = .ok (.iload 5, 2) := by decide +kernel
theorem dL_isTurned_165 : decode cL_isTurned 165 = .ok (.invokevirtual 39, 3) := by decide +kernel
theorem dL_isTurned_168 : decode cL_isTurned 168 = .ok (.iadd, 1) := by decide +kernel
theorem dL_isTurned_169 : decode cL_isTurned 169 = .ok (.iconst 1, 1) := by decide +kernel
theorem dL_isTurned_170 : decode cL_isTurned 170 = .ok (.if_icmp .ne 7, 3) := by decide +kernel
theorem dL_isTurned_173 : decode cL_isTurned 173 = .ok (.iconst 1, 1) := by decide +kernel
theorem dL_isTurned_174 : decode cL_isTurned 174 = .ok (.goto 4, 3) := by decide +kernel
theorem dL_isTurned_177 : decode cL_isTurned 177 = .ok (.iconst 0, 1) := by decide +kernel
theorem dL_isTurned_178 : decode cL_isTurned 178 = .ok (.istore 4, 2) := by decide +kernel
theorem dL_isTurned_180 : decode cL_isTurned 180 = .ok (.iinc 5 1, 3) := by decide +kernel
theorem dL_isTurned_183 : decode cL_isTurned 183 = .ok (.goto (-64), 3) := by decide +kernel
theorem dL_isTurned_186 : decode cL_isTurned 186 = .ok (.iload 4, 2) := by decide +kernel
theorem dL_isTurned_188 : decode cL_isTurned 188 = .ok (.ireturn, 1) := by decide +kernel
theorem dL_isLine_0 : decode cL_isLine 0 = .ok (.aload_n 0, 1) := by decide +kernel
theorem dL_isLine_1 : decode cL_isLine 1 = .ok (.iconst 1, 1) := by decide +kernel
theorem dL_isLine_2 : decode cL_isLine 2 = .ok (.invokevirtual 9, 3) := by decide +kernel
theorem dL_isLine_5 : decode cL_isLine 5 = .ok (.istore 4, 2) := by decide +kernel
theorem dL_isLine_7 : decode cL_isLine 7 = .ok (.aload_n 0, 1) := by decide +kernel
theorem dL_isLine_8 : decode cL_isLine 8 = .ok (.iload_n 1, 1) := by decide +kernel
theorem dL_isLine_9 : decode cL_isLine 9 = .ok (.iconst 0, 1) := by decide +kernel
theorem dL_isLine_10 : decode cL_isLine 10 = .ok (.invokevirtual 36, 3) := by decide +kernel
theorem dL_isLine_13 : decode cL_isLine 13 = .ok (.istore 5, 2) := by decide +kernel
theorem dL_isLine_15 : decode cL_isLine 15 = .ok (.aload_n 0, 1) := by decide +kernel
theorem dL_isLine_16 : decode cL_isLine 16 = .ok (.iload_n 1, 1) := by decide +kernel
theorem dL_isLine_17 : decode cL_isLine 17 = .ok (.iconst 1, 1) := by decide +kernel
theorem dL_isLine_18 : decode cL_isLine 18 = .ok (.invokevirtual 36, 3) := by decide +kernel
theorem dL_isLine_21 : decode cL_isLine 21 = .ok (.istore 6, 2) := by decide +kernel
theorem dL_isLine_23 : decode cL_isLine 23 = .ok (.aload_n 0, 1) := by decide +kernel
theorem dL_isLine_24 : decode cL_isLine 24 = .ok (.iload_n 1, 1) := by decide +kernel
theorem dL_isLine_25 : decode cL_isLine 25 = .ok (.iconst 2, 1) := by decide +kernel
theorem dL_isLine_26 : decode cL_isLine 26 = .ok (.invokevirtual 36, 3) := by decide +kernel
theorem dL_isLine_29 : decode cL_isLine 29 = .ok (.istore 7, 2) := by decide +kernel
theorem dL_isLine_31 : decode cL_isLine 31 = .ok (.aload_n 0, 1) := by decide +kernel
theorem dL_isLine_32 : decode cL_isLine 32 = .ok (.iload_n 1, 1) := by decide +kernel
theorem dL_isLine_33 : decode cL_isLine 33 = .ok (.iconst 3, 1) := by decide +kernel
theorem dL_isLine_34 : decode cL_isLine 34 = .ok (.invokevirtual 36, 3) := by decide +kernel
theorem dL_isLine_37 : decode cL_isLine 37 = .ok (.istore 8, 2) := by decide +kernel
theorem dL_isLine_39 : decode cL_isLine 39 = .ok (.aload_n 0, 1) := by decide +kernel
theorem dL_isLine_40 : decode cL_isLine 40 = .ok (.iload_n 1, 1) := by decide +kernel
theorem dL_isLine_41 : decode cL_isLine 41 = .ok (.iconst 4, 1) := by decide +kernel
theorem dL_isLine_42 : decode cL_isLine 42 = .ok (.invokevirtual 36, 3) := by decide +kernel
theorem dL_isLine_45 : decode cL_isLine 45 = .ok (.istore 9, 2) := by decide +kernel
theorem dL_isLine_47 : decode cL_isLine 47 = .ok (.aload_n 0, 1) := by decide +kernel
theorem dL_isLine_48 : decode cL_isLine 48 = .ok (.iload_n 1, 1) := by decide +kernel
theorem dL_isLine_49 : decode cL_isLine 49 = .ok (.iconst 5, 1) := by decide +kernel
theorem dL_isLine_50 : decode cL_isLine 50 = .ok (.invokevirtual 36, 3) := by decide +kernel
theorem dL_isLine_53 : decode cL_isLine 53 = .ok (.istore 10, 2) := by decide +kernel
theorem dL_isLine_55 : decode cL_isLine 55 = .ok (.aload_n 0, 1) := by decide +kernel
theorem dL_isLine_56 : decode cL_isLine 56 = .ok (.iload_n 1, 1) := by decide +kernel
theorem dL_isLine_57 : decode cL_isLine 57 = .ok (.bipush 6, 2) := by decide +kernel
theorem dL_isLine_59 : decode cL_isLine 59 = .ok (.invokevirtual 36, 3) := by decide +kernel
theorem dL_isLine_62 : decode cL_isLine 62 = .ok (.istore 11, 2) := by decide +kernel
theorem dL_isLine_64 : decode cL_isLine 64 = .ok (.iload 9, 2) := by decide +kernel
theorem dL_isLine_66 : decode cL_isLine 66 = .ok (.ifCond .lt 159, 3) := by decide +kernel
theorem dL_isLine_69 : decode cL_isLine 69 = .ok (.iload 9, 2) := by decide +kernel
theorem dL_isLine_71 : decode cL_isLine 71 = .ok (.iload 4, 2) := by decide +kernel
theorem dL_isLine_73 : decode cL_isLine 73 = .ok (.if_icmp .gt 152, 3) := by decide +kernel
theorem dL_isLine_76 : decode cL_isLine 76 = .ok (.iload 10, 2) := by decide +kernel
theorem dL_isLine_78 : decode cL_isLine 78 = .ok (.iload 9, 2) := by decide +kernel
theorem dL_isLine_80 : decode cL_isLine 80 = .ok (.i2l, 1) := by decide +kernel
theorem dL_isLine_81 : decode cL_isLine 81 = .ok (.ldc2_w 70, 3) := by decide +kernel
theorem dL_isLine_84 : decode cL_isLine 84 = .ok (.lmul, 1) := by decide +kernel
theorem dL_isLine_85 : decode cL_isLine 85 = .ok (.iload 4, 2) := by decide +kernel
theorem dL_isLine_87 : decode cL_isLine 87 = .ok (.i2l, 1) := by decide +kernel
theorem dL_isLine_88 : decode cL_isLine 88 = .ok (.ldiv, 1) := by decide +kernel
theorem dL_isLine_89 : decode cL_isLine 89 = .ok (.l2i, 1) := by decide +kernel
theorem dL_isLine_90 : decode cL_isLine 90 = .ok (.if_icmp .ne 135, 3) := by decide +kernel
theorem dL_isLine_93 : decode cL_isLine 93 = .ok (.iload 11, 2) := by decide +kernel
theorem dL_isLine_95 : decode cL_isLine 95 = .ok (.ifCond .lt 130, 3) := by decide +kernel
theorem dL_isLine_98 : decode cL_isLine 98 = .ok (.iload 11, 2) := by decide +kernel
theorem dL_isLine_100 : decode cL_isLine 100 = .ok (.ldc 63, 2) := by decide +kernel
theorem dL_isLine_102 : decode cL_isLine 102 = .ok (.if_icmp .gt 123, 3) := by decide +kernel
theorem dL_isLine_105 : decode cL_isLine 105 = .ok (.aload_n 0, 1) := by decide +kernel
theorem dL_isLine_106 : decode cL_isLine 106 = .ok (.iload_n 1, 1) := by decide +kernel
theorem dL_isLine_107 : decode cL_isLine 107 = .ok (.bipush 7, 2) := by decide +kernel
theorem dL_isLine_109 : decode cL_isLine 109 = .ok (.invokevirtual 36, 3) := by decide +kernel
theorem dL_isLine_112 : decode cL_isLine 112 = .ok (.iload 10, 2) := by decide +kernel
theorem dL_isLine_114 : decode cL_isLine 114 = .ok (.iload 11, 2) := by decide +kernel
theorem dL_isLine_116 : decode cL_isLine 116 = .ok (.if_icmp .le 11, 3) := by decide +kernel
theorem dL_isLine_119 : decode cL_isLine 119 = .ok (.iload 10, 2) := by decide +kernel
theorem dL_isLine_121 : decode cL_isLine 121 = .ok (.iload 11, 2) := by decide +kernel
theorem dL_isLine_123 : decode cL_isLine 123 = .ok (.isub, 1) := by decide +kernel
theorem dL_isLine_124 : decode cL_isLine 124 = .ok (.goto 8, 3) := by decide +kernel
theorem dL_isLine_127 : decode cL_isLine 127 = .ok (.iload 11, 2) := by decide +kernel
theorem dL_isLine_129 : decode cL_isLine 129 = .ok (.iload 10, 2) := by decide +kernel
theorem dL_isLine_131 : decode cL_isLine 131 = .ok (.isub, 1) := by decide +kernel
theorem dL_isLine_132 : decode cL_isLine 132 = .ok (.if_icmp .ne 93, 3) := by decide +kernel
theorem dL_isLine_135 : decode cL_isLine 135 = .ok (.aload_n 0, 1) := by decide +kernel
theorem dL_isLine_136 : decode cL_isLine 136 = .ok (.iload_n 1, 1) := by decide +kernel
theorem dL_isLine_137 : decode cL_isLine 137 = .ok (.iload 4, 2) := by decide +kernel
theorem dL_isLine_139 : decode cL_isLine 139 = .ok (.invokevirtual 72, 3) := by decide +kernel
theorem dL_isLine_142 : decode cL_isLine 142 = .ok (.aload_n 0, 1) := by decide +kernel
theorem dL_isLine_143 : decode cL_isLine 143 = .ok (.iload_n 1, 1) := by decide +kernel
theorem dL_isLine_144 : decode cL_isLine 144 = .ok (.bipush 7, 2) := by decide +kernel
theorem dL_isLine_146 : decode cL_isLine 146 = .ok (.invokevirtual 36, 3) := by decide +kernel
theorem dL_isLine_149 : decode cL_isLine 149 = .ok (.if_icmp .ne 76, 3) := by decide +kernel
theorem dL_isLine_152 : decode cL_isLine 152 = .ok (.aload_n 0, 1) := by decide +kernel
theorem dL_isLine_153 : decode cL_isLine 153 = .ok (.iload_n 1, 1) := by decide +kernel
theorem dL_isLine_154 : decode cL_isLine 154 = .ok (.bipush 9, 2) := by decide +kernel
theorem dL_isLine_156 : decode cL_isLine 156 = .ok (.invokevirtual 36, 3) := by decide +kernel
theorem dL_isLine_159 : decode cL_isLine 159 = .ok (.iconst 1, 1) := by decide +kernel
theorem dL_isLine_160 : decode cL_isLine 160 = .ok (.if_icmp .lt 65, 3) := by decide +kernel
theorem dL_isLine_163 : decode cL_isLine 163 = .ok (.aload_n 0, 1) := by decide +kernel
theorem dL_isLine_164 : decode cL_isLine 164 = .ok (.iload_n 1, 1) := by decide +kernel
theorem dL_isLine_165 : decode cL_isLine 165 = .ok (.bipush 9, 2) := by decide +kernel
theorem dL_isLine_167 : decode cL_isLine 167 = .ok (.invokevirtual 36, 3) := by decide +kernel
theorem dL_isLine_170 : decode cL_isLine 170 = .ok (.aload_n 0, 1) := by decide +kernel
theorem dL_isLine_171 : decode cL_isLine 171 = .ok (.iconst 2, 1) := by decide +kernel
theorem dL_isLine_172 : decode cL_isLine 172 = .ok (.invokevirtual 9, 3) := by decide +kernel
theorem dL_isLine_175 : decode cL_isLine 175 = .ok (.if_icmp .gt 50, 3) := by decide +kernel
theorem dL_isLine_178 : decode cL_isLine 178 = .ok (.aload_n 0, 1) := by decide +kernel
theorem dL_isLine_179 : decode cL_isLine 179 = .ok (.iload_n 1, 1) := by decide +kernel
theorem dL_isLine_180 : decode cL_isLine 180 = .ok (.bipush 8, 2) := by decide +kernel
theorem dL_isLine_182 : decode cL_isLine 182 = .ok (.invokevirtual 36, 3) := by decide +kernel
theorem dL_isLine_185 : decode cL_isLine 185 = .ok (.ifCond .ne 7, 3) := by decide +kernel
theorem dL_isLine_188 : decode cL_isLine 188 = .ok (.iconst 1, 1) := by decide +kernel
theorem dL_isLine_189 : decode cL_isLine 189 = .ok (.goto 4, 3) := by decide +kernel
theorem dL_isLine_192 : decode cL_isLine 192 = .ok (.iconst 0, 1) := by decide +kernel
theorem dL_isLine_193 : decode cL_isLine 193 = .ok (.iload 5, 2) := by decide +kernel
theorem dL_isLine_195 : decode cL_isLine 195 = .ok (.ifCond .ne 7, 3) := by decide +kernel
theorem dL_isLine_198 : decode cL_isLine 198 = .ok (.iconst 1, 1) := by decide +kernel
theorem dL_isLine_199 : decode cL_isLine 199 = .ok (.goto 4, 3) := by decide +kernel
theorem dL_isLine_202 : decode cL_isLine 202 = .ok (.iconst 0, 1) := by decide +kernel
theorem dL_isLine_203 : decode cL_isLine 203 = .ok (.if_icmp .ne 22, 3) := by decide +kernel
theorem dL_isLine_206 : decode cL_isLine 206 = .ok (.aload_n 0, 1) := by decide +kernel
theorem dL_isLine_207 : decode cL_isLine 207 = .ok (.iload_n 1, 1) := by decide +kernel
theorem dL_isLine_208 : decode cL_isLine 208 = .ok (.bipush 8, 2) := by decide +kernel
theorem dL_isLine_210 : decode cL_isLine 210 = .ok (.invokevirtual 36, 3) := by decide +kernel
theorem dL_isLine_213 : decode cL_isLine 213 = .ok (.aload_n 0, 1) := by decide +kernel
theorem dL_isLine_214 : decode cL_isLine 214 = .ok (.iconst 5, 1) := by decide +kernel
theorem dL_isLine_215 : decode cL_isLine 215 = .ok (.invokevirtual 9, 3) := by decide +kernel
theorem dL_isLine_218 : decode cL_isLine 218 = .ok (.if_icmp .gt 7, 3) := by decide +kernel
theorem dL_isLine_221 : decode cL_isLine 221 = .ok (.iconst 1, 1) := by decide +kernel
theorem dL_isLine_222 : decode cL_isLine 222 = .ok (.goto 4, 3) := by decide +kernel
theorem dL_isLine_225 : decode cL_isLine 225 = .ok (.iconst 0, 1) := by decide +kernel
theorem dL_isLine_226 : decode cL_isLine 226 = .ok (.istore 12, 2) := by decide +kernel
theorem dL_isLine_228 : decode cL_isLine 228 = .ok (.iload_n 3, 1) := by decide +kernel
theorem dL_isLine_229 : decode cL_isLine 229 = .ok (.bipush 60, 2) := by decide +kernel
theorem dL_isLine_231 : decode cL_isLine 231 = .ok (.invokestatic 15, 3) := by decide +kernel
theorem dL_isLine_234 : decode cL_isLine 234 = .ok (.istore 13, 2) := by decide +kernel
theorem dL_isLine_236 : decode cL_isLine 236 = .ok (.iload 13, 2) := by decide +kernel
theorem dL_isLine_238 : decode cL_isLine 238 = .ok (.sipush 1000, 3) := by decide +kernel
theorem dL_isLine_241 : decode cL_isLine 241 = .ok (.if_icmp .ge 288, 3) := by decide +kernel
theorem dL_isLine_244 : decode cL_isLine 244 = .ok (.iload 12, 2) := by decide +kernel
theorem dL_isLine_246 : decode cL_isLine 246 = .ok (.ifCond .eq 283, 3) := by decide +kernel
theorem dL_isLine_249 : decode cL_isLine 249 = .ok (.aload_n 0, 1) := by decide +kernel
theorem dL_isLine_250 : decode cL_isLine 250 = .ok (.iload_n 1, 1) := by decide +kernel
theorem dL_isLine_251 : decode cL_isLine 251 = .ok (.iload 13, 2) := by decide +kernel
theorem dL_isLine_253 : decode cL_isLine 253 = .ok (.invokevirtual 39, 3) := by decide +kernel
theorem dL_isLine_256 : decode cL_isLine 256 = .ok (.istore 14, 2) := by decide +kernel
theorem dL_isLine_258 : decode cL_isLine 258 = .ok (.iload 14, 2) := by decide +kernel
theorem dL_isLine_260 : decode cL_isLine 260 = .ok (.ifCond .eq 9, 3) := by decide +kernel
theorem dL_isLine_263 : decode cL_isLine 263 = .ok (.iload 14, 2) := by decide +kernel
theorem dL_isLine_265 : decode cL_isLine 265 = .ok (.iconst 1, 1) := by decide +kernel
theorem dL_isLine_266 : decode cL_isLine 266 = .ok (.if_icmp .ne 7, 3) := by decide +kernel
theorem dL_isLine_269 : decode cL_isLine 269 = .ok (.iconst 1, 1) := by decide +kernel
theorem dL_isLine_270 : decode cL_isLine 270 = .ok (.goto 4, 3) := by decide +kernel
theorem dL_isLine_273 : decode cL_isLine 273 = .ok (.iconst 0, 1) := by decide +kernel
theorem dL_isLine_274 : decode cL_isLine 274 = .ok (.istore 12, 2) := by decide +kernel
theorem dL_isLine_276 : decode cL_isLine 276 = .ok (.iload 5, 2) := by decide +kernel
theorem dL_isLine_278 : decode cL_isLine 278 = .ok (.iconst 1, 1) := by decide +kernel
theorem dL_isLine_279 : decode cL_isLine 279 = .ok (.if_icmp .eq 15, 3) := by decide +kernel
theorem dL_isLine_282 : decode cL_isLine 282 = .ok (.iload 5, 2) := by decide +kernel
theorem dL_isLine_284 : decode cL_isLine 284 = .ok (.iconst 2, 1) := by decide +kernel
theorem dL_isLine_285 : decode cL_isLine 285 = .ok (.if_icmp .eq 9, 3) := by decide +kernel
theorem dL_isLine_288 : decode cL_isLine 288 = .ok (.iload 5, 2) := by decide +kernel
theorem dL_isLine_290 : decode cL_isLine 290 = .ok (.iconst 3, 1) := by decide +kernel
theorem dL_isLine_291 : decode cL_isLine 291 = .ok (.if_icmp .ne 74, 3) := by decide +kernel
theorem dL_isLine_294 : decode cL_isLine 294 = .ok (.aload_n 0, 1) := by decide +kernel
theorem dL_isLine_295 : decode cL_isLine 295 = .ok (.iload 6, 2) := by decide +kernel
theorem dL_isLine_297 : decode cL_isLine 297 = .ok (.iload 13, 2) := by decide +kernel
theorem dL_isLine_299 : decode cL_isLine 299 = .ok (.invokevirtual 39, 3) := by decide +kernel
theorem dL_isLine_302 : decode cL_isLine 302 = .ok (.aload_n 0, 1) := by decide +kernel
theorem dL_isLine_303 : decode cL_isLine 303 = .ok (.iload 7, 2) := by decide +kernel
theorem dL_isLine_305 : decode cL_isLine 305 = .ok (.iload 13, 2) := by decide +kernel
theorem dL_isLine_307 : decode cL_isLine 307 = .ok (.invokevirtual 39, 3) := by decide +kernel
theorem dL_isLine_310 : decode cL_isLine 310 = .ok (.iadd, 1) := by decide +kernel
theorem dL_isLine_311 : decode cL_isLine 311 = .ok (.istore 15, 2) := by decide +kernel
theorem dL_isLine_313 : decode cL_isLine 313 = .ok (.iload 12, 2) := by decide +kernel
theorem dL_isLine_315 : decode cL_isLine 315 = .ok (.ifCond .eq 44, 3) := by decide +kernel
theorem dL_isLine_318 : decode cL_isLine 318 = .ok (.iload 14, 2) := by decide +kernel
theorem dL_isLine_320 : decode cL_isLine 320 = .ok (.iload 5, 2) := by decide +kernel
theorem dL_isLine_322 : decode cL_isLine 322 = .ok (.iconst 1, 1) := by decide +kernel
theorem dL_isLine_323 : decode cL_isLine 323 = .ok (.if_icmp .ne 10, 3) := by decide +kernel
theorem dL_isLine_326 : decode cL_isLine 326 = .ok (.iload 15, 2) := by decide +kernel
theorem dL_isLine_328 : decode cL_isLine 328 = .ok (.iconst 2, 1) := by decide +kernel
theorem dL_isLine_329 : decode cL_isLine 329 = .ok (.idiv, 1) := by decide +kernel
theorem dL_isLine_330 : decode cL_isLine 330 = .ok (.goto 22, 3) := by decide +kernel
theorem dL_isLine_333 : decode cL_isLine 333 = .ok (.iload 5, 2) := by decide +kernel
theorem dL_isLine_335 : decode cL_isLine 335 = .ok (.iconst 2, 1) := by decide +kernel
theorem dL_isLine_336 : decode cL_isLine 336 = .ok (.if_icmp .ne 12, 3) := by decide +kernel
theorem dL_isLine_339 : decode cL_isLine 339 = .ok (.iload 15, 2) := by decide +kernel
theorem dL_isLine_341 : decode cL_isLine 341 = .ok (.iconst 1, 1) := by decide +kernel
theorem dL_isLine_342 : decode cL_isLine 342 = .ok (.iadd, 1) := by decide +kernel
theorem dL_isLine_343 : decode cL_isLine 343 = .ok (.iconst 2, 1) := by decide +kernel
theorem dL_isLine_344 : decode cL_isLine 344 = .ok (.idiv, 1) := by decide +kernel
theorem dL_isLine_345 : decode cL_isLine 345 = .ok (.goto 7, 3) := by decide +kernel
theorem dL_isLine_348 : decode cL_isLine 348 = .ok (.iload 15, 2) := by decide +kernel
theorem dL_isLine_350 : decode cL_isLine 350 = .ok (.iconst 2, 1) := by decide +kernel
theorem dL_isLine_351 : decode cL_isLine 351 = .ok (.irem, 1) := by decide +kernel
theorem dL_isLine_352 : decode cL_isLine 352 = .ok (.if_icmp .ne 7, 3) := by decide +kernel
theorem dL_isLine_355 : decode cL_isLine 355 = .ok (.iconst 1, 1) := by decide +kernel
theorem dL_isLine_356 : decode cL_isLine 356 = .ok (.goto 4, 3) := by decide +kernel
theorem dL_isLine_359 : decode cL_isLine 359 = .ok (.iconst 0, 1) := by decide +kernel
theorem dL_isLine_360 : decode cL_isLine 360 = .ok (.istore 12, 2) := by decide +kernel
theorem dL_isLine_362 : decode cL_isLine 362 = .ok (.goto 161, 3) := by decide +kernel
theorem dL_isLine_365 : decode cL_isLine 365 = .ok (.iload 5, 2) := by decide +kernel
theorem dL_isLine_367 : decode cL_isLine 367 = .ok (.iconst 4, 1) := by decide +kernel
theorem dL_isLine_368 : decode cL_isLine 368 = .ok (.if_icmp .ne 48, 3) := by decide +kernel
theorem dL_isLine_371 : decode cL_isLine 371 = .ok (.iload 12, 2) := by decide +kernel
theorem dL_isLine_373 : decode cL_isLine 373 = .ok (.ifCond .eq 37, 3) := by decide +kernel
theorem dL_isLine_376 : decode cL_isLine 376 = .ok (.iload 14, 2) := by decide +kernel
theorem dL_isLine_378 : decode cL_isLine 378 = .ok (.aload_n 0, 1) := by decide +kernel
theorem dL_isLine_379 : decode cL_isLine 379 = .ok (.aload_n 0, 1) := by decide +kernel
theorem dL_isLine_380 : decode cL_isLine 380 = .ok (.iload 8, 2) := by decide +kernel
theorem dL_isLine_382 : decode cL_isLine 382 = .ok (.iload 13, 2) := by decide +kernel
theorem dL_isLine_384 : decode cL_isLine 384 = .ok (.invokevirtual 39, 3) := by decide +kernel
theorem dL_isLine_387 : decode cL_isLine 387 = .ok (.iconst 1, 1) := by decide +kernel
theorem dL_isLine_388 : decode cL_isLine 388 = .ok (.if_icmp .ne 8, 3) := by decide +kernel
theorem dL_isLine_391 : decode cL_isLine 391 = .ok (.iload 6, 2) := by decide +kernel
theorem dL_isLine_393 : decode cL_isLine 393 = .ok (.goto 5, 3) := by decide +kernel
theorem dL_isLine_396 : decode cL_isLine 396 = .ok (.iload 7, 2) := by decide +kernel
theorem dL_isLine_398 : decode cL_isLine 398 = .ok (.iload 13, 2) := by decide +kernel
theorem dL_isLine_400 : decode cL_isLine 400 = .ok (.invokevirtual 39, 3) := by decide +kernel
theorem dL_isLine_403 : decode cL_isLine 403 = .ok (.if_icmp .ne 7, 3) := by decide +kernel
theorem dL_isLine_406 : decode cL_isLine 406 = .ok (.iconst 1, 1) := by decide +kernel
theorem dL_isLine_407 : decode cL_isLine 407 = .ok (.goto 4, 3) := by decide +kernel
theorem dL_isLine_410 : decode cL_isLine 410 = .ok (.iconst 0, 1) := by decide +kernel
theorem dL_isLine_411 : decode cL_isLine 411 = .ok (.istore 12, 2) := by decide +kernel
theorem dL_isLine_413 : decode cL_isLine 413 = .ok (.goto 110, 3) := by decide +kernel
theorem dL_isLine_416 : decode cL_isLine 416 = .ok (.iload 5, 2) := by decide +kernel
theorem dL_isLine_418 : decode cL_isLine 418 = .ok (.iconst 4, 1) := by decide +kernel
theorem dL_isLine_419 : decode cL_isLine 419 = .ok (.if_icmp .le 64, 3) := by decide +kernel
theorem dL_isLine_422 : decode cL_isLine 422 = .ok (.iload 12, 2) := by decide +kernel
theorem dL_isLine_424 : decode cL_isLine 424 = .ok (.ifCond .eq 53, 3) := by decide +kernel
theorem dL_isLine_427 : decode cL_isLine 427 = .ok (.iload 14, 2) := by decide +kernel
theorem dL_isLine_429 : decode cL_isLine 429 = .ok (.iload 5, 2) := by decide +kernel
theorem dL_isLine_431 : decode cL_isLine 431 = .ok (.iconst 5, 1) := by decide +kernel
theorem dL_isLine_432 : decode cL_isLine 432 = .ok (.if_icmp .ne 16, 3) := by decide +kernel
theorem dL_isLine_435 : decode cL_isLine 435 = .ok (.iconst 1, 1) := by decide +kernel
theorem dL_isLine_436 : decode cL_isLine 436 = .ok (.aload_n 0, 1) := by decide +kernel
theorem dL_isLine_437 : decode cL_isLine 437 = .ok (.iload 6, 2) := by decide +kernel
theorem dL_isLine_439 : decode cL_isLine 439 = .ok (.iload 13, 2) := by decide +kernel
theorem dL_isLine_441 : decode cL_isLine 441 = .ok (.invokevirtual 39, 3) := by decide +kernel
theorem dL_isLine_444 : decode cL_isLine 444 = .ok (.isub, 1) := by decide +kernel
theorem dL_isLine_445 : decode cL_isLine 445 = .ok (.goto 25, 3) := by decide +kernel
theorem dL_isLine_448 : decode cL_isLine 448 = .ok (.iload 13, 2) := by decide +kernel
theorem dL_isLine_450 : decode cL_isLine 450 = .ok (.iload 7, 2) := by decide +kernel
theorem dL_isLine_452 : decode cL_isLine 452 = .ok (.if_icmp .ge 7, 3) := by decide +kernel
theorem dL_isLine_455 : decode cL_isLine 455 = .ok (.iconst 0, 1) := by decide +kernel
theorem dL_isLine_456 : decode cL_isLine 456 = .ok (.goto 14, 3) := by decide +kernel
theorem dL_isLine_459 : decode cL_isLine 459 = .ok (.aload_n 0, 1) := by decide +kernel
theorem dL_isLine_460 : decode cL_isLine 460 = .ok (.iload 6, 2) := by decide +kernel
theorem dL_isLine_462 : decode cL_isLine 462 = .ok (.iload 13, 2) := by decide +kernel
theorem dL_isLine_464 : decode cL_isLine 464 = .ok (.iload 7, 2) := by decide +kernel
theorem dL_isLine_466 : decode cL_isLine 466 = .ok (.isub, 1) := by decide +kernel
theorem dL_isLine_467 : decode cL_isLine 467 = .ok (.invokevirtual 39, 3) := by decide +kernel
theorem dL_isLine_470 : decode cL_isLine 470 = .ok (.if_icmp .ne 7, 3) := by decide +kernel
theorem dL_isLine_473 : decode cL_isLine 473 = .ok (.iconst 1, 1) := by decide +kernel
theorem dL_isLine_474 : decode cL_isLine 474 = .ok (.goto 4, 3) := by decide +kernel
theorem dL_isLine_477 : decode cL_isLine 477 = .ok (.iconst 0, 1) := by decide +kernel
theorem dL_isLine_478 : decode cL_isLine 478 = .ok (.istore 12, 2) := by decide +kernel
theorem dL_isLine_480 : decode cL_isLine 480 = .ok (.goto 43, 3) := by decide +kernel
theorem dL_isLine_483 : decode cL_isLine 483 = .ok (.iload 12, 2) := by decide +kernel
theorem dL_isLine_485 : decode cL_isLine 485 = .ok (.ifCond .eq 35, 3) := by decide +kernel
theorem dL_isLine_488 : decode cL_isLine 488 = .ok (.iload 13, 2) := by decide +kernel
theorem dL_isLine_490 : decode cL_isLine 490 = .ok (.sipush 255, 3) := by decide +kernel
theorem dL_isLine_493 : decode cL_isLine 493 = .ok (.iadd, 1) := by decide +kernel
theorem dL_isLine_494 : decode cL_isLine 494 = .ok (.sipush 999, 3) := by decide +kernel
theorem dL_isLine_497 : decode cL_isLine 497 = .ok (.if_icmp .gt 19, 3) := by decide +kernel
theorem dL_isLine_500 : decode cL_isLine 500 = .ok (.iload 14, 2) := by decide +kernel
theorem dL_isLine_502 : decode cL_isLine 502 = .ok (.aload_n 0, 1) := by decide +kernel
theorem dL_isLine_503 : decode cL_isLine 503 = .ok (.iload_n 1, 1) := by decide +kernel
theorem dL_isLine_504 : decode cL_isLine 504 = .ok (.iload 13, 2) := by decide +kernel
theorem dL_isLine_506 : decode cL_isLine 506 = .ok (.sipush 255, 3) := by decide +kernel
theorem dL_isLine_509 : decode cL_isLine 509 = .ok (.iadd, 1) := by decide +kernel
theorem dL_isLine_510 : decode cL_isLine 510 = .ok (.invokevirtual 39, 3) := by decide +kernel
theorem dL_isLine_513 : decode cL_isLine 513 = .ok (.if_icmp .ne 7, 3) := by decide +kernel
theorem dL_isLine_516 : decode cL_isLine 516 = .ok (.iconst 1, 1) := by decide +kernel
theorem dL_isLine_517 : decode cL_isLine 517 = .ok (.goto 4, 3) := by decide +kernel
theorem dL_isLine_520 : decode cL_isLine 520 = .ok (.iconst 0, 1) := by decide +kernel
theorem dL_isLine_521 : decode cL_isLine 521 = .ok (.istore 12, 2) := by decide +kernel
theorem dL_isLine_523 : decode cL_isLine 523 = .ok (.iinc 13 97, 3) := by decide +kernel
theorem dL_isLine_526 : decode cL_isLine 526 = .ok (.goto (-290), 3) := by decide +kernel
theorem dL_isLine_529 : decode cL_isLine 529 = .ok (.aload_n 0, 1) := by decide +kernel
theorem dL_isLine_530 : decode cL_isLine 530 = .ok (.iload_n 1, 1) := by decide +kernel
theorem dL_isLine_531 : decode cL_isLine 531 = .ok (.aload_n 0, 1) := by decide +kernel
theorem dL_isLine_532 : decode cL_isLine 532 = .ok (.iload_n 1, 1) := by decide +kernel
theorem dL_isLine_533 : decode cL_isLine 533 = .ok (.sipush 1000, 3) := by decide +kernel
theorem dL_isLine_536 : decode cL_isLine 536 = .ok (.invokevirtual 72, 3) := by decide +kernel
theorem dL_isLine_539 : decode cL_isLine 539 = .ok (.invokevirtual 75, 3) := by decide +kernel
theorem dL_isLine_542 : decode cL_isLine 542 = .ok (.istore 13, 2) := by decide +kernel
theorem dL_isLine_544 : decode cL_isLine 544 = .ok (.aload_n 0, 1) := by decide +kernel
theorem dL_isLine_545 : decode cL_isLine 545 = .ok (.iload_n 1, 1) := by decide +kernel
theorem dL_isLine_546 : decode cL_isLine 546 = .ok (.iload_n 2, 1) := by decide +kernel
theorem dL_isLine_547 : decode cL_isLine 547 = .ok (.invokevirtual 67, 3) := by decide +kernel
theorem dL_isLine_550 : decode cL_isLine 550 = .ok (.istore 14, 2) := by decide +kernel
theorem dL_isLine_552 : decode cL_isLine 552 = .ok (.iload 12, 2) := by decide +kernel
theorem dL_isLine_554 : decode cL_isLine 554 = .ok (.ifCond .eq 61, 3) := by decide +kernel
theorem dL_isLine_557 : decode cL_isLine 557 = .ok (.iload 13, 2) := by decide +kernel
theorem dL_isLine_559 : decode cL_isLine 559 = .ok (.iconst 1, 1) := by decide +kernel
theorem dL_isLine_560 : decode cL_isLine 560 = .ok (.if_icmp .lt 55, 3) := by decide +kernel
theorem dL_isLine_563 : decode cL_isLine 563 = .ok (.iload 13, 2) := by decide +kernel
theorem dL_isLine_565 : decode cL_isLine 565 = .ok (.sipush 1000, 3) := by decide +kernel
theorem dL_isLine_568 : decode cL_isLine 568 = .ok (.if_icmp .gt 47, 3) := by decide +kernel
theorem dL_isLine_571 : decode cL_isLine 571 = .ok (.iload 14, 2) := by decide +kernel
theorem dL_isLine_573 : decode cL_isLine 573 = .ok (.aload_n 0, 1) := by decide +kernel
theorem dL_isLine_574 : decode cL_isLine 574 = .ok (.iload_n 2, 1) := by decide +kernel
theorem dL_isLine_575 : decode cL_isLine 575 = .ok (.iload_n 1, 1) := by decide +kernel
theorem dL_isLine_576 : decode cL_isLine 576 = .ok (.invokevirtual 67, 3) := by decide +kernel
theorem dL_isLine_579 : decode cL_isLine 579 = .ok (.if_icmp .ne 36, 3) := by decide +kernel
theorem dL_isLine_582 : decode cL_isLine 582 = .ok (.iload 14, 2) := by decide +kernel
theorem dL_isLine_584 : decode cL_isLine 584 = .ok (.sipush 16384, 3) := by decide +kernel
theorem dL_isLine_587 : decode cL_isLine 587 = .ok (.if_icmp .gt 28, 3) := by decide +kernel
theorem dL_isLine_590 : decode cL_isLine 590 = .ok (.iload 14, 2) := by decide +kernel
theorem dL_isLine_592 : decode cL_isLine 592 = .ok (.sipush (-16384), 3) := by decide +kernel
theorem dL_isLine_595 : decode cL_isLine 595 = .ok (.if_icmp .lt 20, 3) := by decide +kernel
theorem dL_isLine_598 : decode cL_isLine 598 = .ok (.iload 5, 2) := by decide +kernel
theorem dL_isLine_600 : decode cL_isLine 600 = .ok (.ifCond .gt 11, 3) := by decide +kernel
theorem dL_isLine_603 : decode cL_isLine 603 = .ok (.aload_n 0, 1) := by decide +kernel
theorem dL_isLine_604 : decode cL_isLine 604 = .ok (.iload_n 1, 1) := by decide +kernel
theorem dL_isLine_605 : decode cL_isLine 605 = .ok (.invokevirtual 64, 3) := by decide +kernel
theorem dL_isLine_608 : decode cL_isLine 608 = .ok (.ifCond .ne 7, 3) := by decide +kernel
theorem dL_isLine_611 : decode cL_isLine 611 = .ok (.iconst 1, 1) := by decide +kernel
theorem dL_isLine_612 : decode cL_isLine 612 = .ok (.goto 4, 3) := by decide +kernel
theorem dL_isLine_615 : decode cL_isLine 615 = .ok (.iconst 0, 1) := by decide +kernel
theorem dL_isLine_616 : decode cL_isLine 616 = .ok (.ireturn, 1) := by decide +kernel
theorem dL_isWell_0 : decode cL_isWell 0 = .ok (.aload_n 0, 1) := by decide +kernel
theorem dL_isWell_1 : decode cL_isWell 1 = .ok (.iconst 0, 1) := by decide +kernel
theorem dL_isWell_2 : decode cL_isWell 2 = .ok (.invokevirtual 9, 3) := by decide +kernel
theorem dL_isWell_5 : decode cL_isWell 5 = .ok (.istore_n 1, 1) := by decide +kernel
theorem dL_isWell_6 : decode cL_isWell 6 = .ok (.iconst 0, 1) := by decide +kernel
theorem dL_isWell_7 : decode cL_isWell 7 = .ok (.istore_n 2, 1) := by decide +kernel
theorem dL_isWell_8 : decode cL_isWell 8 = .ok (.iconst 0, 1) := by decide +kernel
theorem dL_isWell_9 : decode cL_isWell 9 = .ok (.istore_n 3, 1) := by decide +kernel
theorem dL_isWell_10 : decode cL_isWell 10 = .ok (.iconst 0, 1) := by decide +kernel
theorem dL_isWell_11 : decode cL_isWell 11 = .ok (.istore 4, 2) := by decide +kernel
theorem dL_isWell_13 : decode cL_isWell 13 = .ok (.aload_n 0, 1) := by decide +kernel
theorem dL_isWell_14 : decode cL_isWell 14 = .ok (.iconst 4, 1) := by decide +kernel
theorem dL_isWell_15 : decode cL_isWell 15 = .ok (.invokevirtual 9, 3) := by decide +kernel
theorem dL_isWell_18 : decode cL_isWell 18 = .ok (.istore 5, 2) := by decide +kernel
theorem dL_isWell_20 : decode cL_isWell 20 = .ok (.iload 5, 2) := by decide +kernel
theorem dL_isWell_22 : decode cL_isWell 22 = .ok (.ldc 78, 2) := by decide +kernel
theorem dL_isWell_24 : decode cL_isWell 24 = .ok (.if_icmp .ne 7, 3) := by decide +kernel
theorem dL_isWell_27 : decode cL_isWell 27 = .ok (.iconst 1, 1) := by decide +kernel
theorem dL_isWell_28 : decode cL_isWell 28 = .ok (.goto 4, 3) := by decide +kernel
theorem dL_isWell_31 : decode cL_isWell 31 = .ok (.iconst 0, 1) := by decide +kernel
theorem dL_isWell_32 : decode cL_isWell 32 = .ok (.iload_n 1, 1) := by decide +kernel
theorem dL_isWell_33 : decode cL_isWell 33 = .ok (.ifCond .ne 7, 3) := by decide +kernel
theorem dL_isWell_36 : decode cL_isWell 36 = .ok (.iconst 1, 1) := by decide +kernel
theorem dL_isWell_37 : decode cL_isWell 37 = .ok (.goto 4, 3) := by decide +kernel
theorem dL_isWell_40 : decode cL_isWell 40 = .ok (.iconst 0, 1) := by decide +kernel
theorem dL_isWell_41 : decode cL_isWell 41 = .ok (.if_icmp .ne 7, 3) := by decide +kernel
theorem dL_isWell_44 : decode cL_isWell 44 = .ok (.iconst 1, 1) := by decide +kernel
theorem dL_isWell_45 : decode cL_isWell 45 = .ok (.goto 4, 3) := by decide +kernel
theorem dL_isWell_48 : decode cL_isWell 48 = .ok (.iconst 0, 1) := by decide +kernel
theorem dL_isWell_49 : decode cL_isWell 49 = .ok (.istore 6, 2) := by decide +kernel
theorem dL_isWell_51 : decode cL_isWell 51 = .ok (.iconst 0, 1) := by decide +kernel
theorem dL_isWell_52 : decode cL_isWell 52 = .ok (.istore 7, 2) := by decide +kernel
theorem dL_isWell_54 : decode cL_isWell 54 = .ok (.iload 7, 2) := by decide +kernel
theorem dL_isWell_56 : decode cL_isWell 56 = .ok (.iload_n 1, 1) := by decide +kernel
theorem dL_isWell_57 : decode cL_isWell 57 = .ok (.if_icmp .ge 123, 3) := by decide +kernel
theorem dL_isWell_60 : decode cL_isWell 60 = .ok (.iload 6, 2) := by decide +kernel
theorem dL_isWell_62 : decode cL_isWell 62 = .ok (.ifCond .eq 118, 3) := by decide +kernel
theorem dL_isWell_65 : decode cL_isWell 65 = .ok (.iload_n 2, 1) := by decide +kernel
theorem dL_isWell_66 : decode cL_isWell 66 = .ok (.aload_n 0, 1) := by decide +kernel
theorem dL_isWell_67 : decode cL_isWell 67 = .ok (.iload 7, 2) := by decide +kernel
theorem dL_isWell_69 : decode cL_isWell 69 = .ok (.bipush 7, 2) := by decide +kernel
theorem dL_isWell_71 : decode cL_isWell 71 = .ok (.invokevirtual 36, 3) := by decide +kernel
theorem dL_isWell_74 : decode cL_isWell 74 = .ok (.iadd, 1) := by decide +kernel
theorem dL_isWell_75 : decode cL_isWell 75 = .ok (.istore_n 2, 1) := by decide +kernel
theorem dL_isWell_76 : decode cL_isWell 76 = .ok (.iload_n 3, 1) := by decide +kernel
theorem dL_isWell_77 : decode cL_isWell 77 = .ok (.aload_n 0, 1) := by decide +kernel
theorem dL_isWell_78 : decode cL_isWell 78 = .ok (.iload 7, 2) := by decide +kernel
theorem dL_isWell_80 : decode cL_isWell 80 = .ok (.iconst 0, 1) := by decide +kernel
theorem dL_isWell_81 : decode cL_isWell 81 = .ok (.invokevirtual 36, 3) := by decide +kernel
theorem dL_isWell_84 : decode cL_isWell 84 = .ok (.ifCond .ne 7, 3) := by decide +kernel
theorem dL_isWell_87 : decode cL_isWell 87 = .ok (.iconst 1, 1) := by decide +kernel
theorem dL_isWell_88 : decode cL_isWell 88 = .ok (.goto 4, 3) := by decide +kernel
theorem dL_isWell_91 : decode cL_isWell 91 = .ok (.iconst 0, 1) := by decide +kernel
theorem dL_isWell_92 : decode cL_isWell 92 = .ok (.iadd, 1) := by decide +kernel
theorem dL_isWell_93 : decode cL_isWell 93 = .ok (.istore_n 3, 1) := by decide +kernel
theorem dL_isWell_94 : decode cL_isWell 94 = .ok (.aload_n 0, 1) := by decide +kernel
theorem dL_isWell_95 : decode cL_isWell 95 = .ok (.iload 7, 2) := by decide +kernel
theorem dL_isWell_97 : decode cL_isWell 97 = .ok (.bipush 8, 2) := by decide +kernel
theorem dL_isWell_99 : decode cL_isWell 99 = .ok (.invokevirtual 36, 3) := by decide +kernel
theorem dL_isWell_102 : decode cL_isWell 102 = .ok (.iload 4, 2) := by decide +kernel
theorem dL_isWell_104 : decode cL_isWell 104 = .ok (.if_icmp .le 14, 3) := by decide +kernel
theorem dL_isWell_107 : decode cL_isWell 107 = .ok (.aload_n 0, 1) := by decide +kernel
theorem dL_isWell_108 : decode cL_isWell 108 = .ok (.iload 7, 2) := by decide +kernel
theorem dL_isWell_110 : decode cL_isWell 110 = .ok (.bipush 8, 2) := by decide +kernel
theorem dL_isWell_112 : decode cL_isWell 112 = .ok (.invokevirtual 36, 3) := by decide +kernel
theorem dL_isWell_115 : decode cL_isWell 115 = .ok (.goto 5, 3) := by decide +kernel
theorem dL_isWell_118 : decode cL_isWell 118 = .ok (.iload 4, 2) := by decide +kernel
theorem dL_isWell_120 : decode cL_isWell 120 = .ok (.istore 4, 2) := by decide +kernel
theorem dL_isWell_122 : decode cL_isWell 122 = .ok (.aload_n 0, 1) := by decide +kernel
theorem dL_isWell_123 : decode cL_isWell 123 = .ok (.iload 7, 2) := by decide +kernel
theorem dL_isWell_125 : decode cL_isWell 125 = .ok (.bipush 7, 2) := by decide +kernel
theorem dL_isWell_127 : decode cL_isWell 127 = .ok (.invokevirtual 36, 3) := by decide +kernel
theorem dL_isWell_130 : decode cL_isWell 130 = .ok (.aload_n 0, 1) := by decide +kernel
theorem dL_isWell_131 : decode cL_isWell 131 = .ok (.iload 5, 2) := by decide +kernel
theorem dL_isWell_133 : decode cL_isWell 133 = .ok (.bipush 7, 2) := by decide +kernel
theorem dL_isWell_135 : decode cL_isWell 135 = .ok (.invokevirtual 36, 3) := by decide +kernel
theorem dL_isWell_138 : decode cL_isWell 138 = .ok (.if_icmp .lt 29, 3) := by decide +kernel
theorem dL_isWell_141 : decode cL_isWell 141 = .ok (.aload_n 0, 1) := by decide +kernel
theorem dL_isWell_142 : decode cL_isWell 142 = .ok (.iload 7, 2) := by decide +kernel
theorem dL_isWell_144 : decode cL_isWell 144 = .ok (.bipush 7, 2) := by decide +kernel
theorem dL_isWell_146 : decode cL_isWell 146 = .ok (.invokevirtual 36, 3) := by decide +kernel
theorem dL_isWell_149 : decode cL_isWell 149 = .ok (.aload_n 0, 1) := by decide +kernel
theorem dL_isWell_150 : decode cL_isWell 150 = .ok (.iload 5, 2) := by decide +kernel
theorem dL_isWell_152 : decode cL_isWell 152 = .ok (.bipush 7, 2) := by decide +kernel
theorem dL_isWell_154 : decode cL_isWell 154 = .ok (.invokevirtual 36, 3) := by decide +kernel
theorem dL_isWell_157 : decode cL_isWell 157 = .ok (.if_icmp .ne 14, 3) := by decide +kernel
theorem dL_isWell_160 : decode cL_isWell 160 = .ok (.iload 7, 2) := by decide +kernel
theorem dL_isWell_162 : decode cL_isWell 162 = .ok (.iload 5, 2) := by decide +kernel
theorem dL_isWell_164 : decode cL_isWell 164 = .ok (.if_icmp .lt 7, 3) := by decide +kernel
theorem dL_isWell_167 : decode cL_isWell 167 = .ok (.iconst 1, 1) := by decide +kernel
theorem dL_isWell_168 : decode cL_isWell 168 = .ok (.goto 4, 3) := by decide +kernel
theorem dL_isWell_171 : decode cL_isWell 171 = .ok (.iconst 0, 1) := by decide +kernel
theorem dL_isWell_172 : decode cL_isWell 172 = .ok (.istore 6, 2) := by decide +kernel
theorem dL_isWell_174 : decode cL_isWell 174 = .ok (.iinc 7 1, 3) := by decide +kernel
theorem dL_isWell_177 : decode cL_isWell 177 = .ok (.goto (-123), 3) := by decide +kernel
theorem dL_isWell_180 : decode cL_isWell 180 = .ok (.iload 6, 2) := by decide +kernel
theorem dL_isWell_182 : decode cL_isWell 182 = .ok (.ifCond .eq 46, 3) := by decide +kernel
theorem dL_isWell_185 : decode cL_isWell 185 = .ok (.iload_n 2, 1) := by decide +kernel
theorem dL_isWell_186 : decode cL_isWell 186 = .ok (.aload_n 0, 1) := by decide +kernel
theorem dL_isWell_187 : decode cL_isWell 187 = .ok (.iconst 3, 1) := by decide +kernel
theorem dL_isWell_188 : decode cL_isWell 188 = .ok (.invokevirtual 9, 3) := by decide +kernel
theorem dL_isWell_191 : decode cL_isWell 191 = .ok (.if_icmp .ne 37, 3) := by decide +kernel
theorem dL_isWell_194 : decode cL_isWell 194 = .ok (.iload_n 3, 1) := by decide +kernel
theorem dL_isWell_195 : decode cL_isWell 195 = .ok (.aload_n 0, 1) := by decide +kernel
theorem dL_isWell_196 : decode cL_isWell 196 = .ok (.iconst 2, 1) := by decide +kernel
theorem dL_isWell_197 : decode cL_isWell 197 = .ok (.invokevirtual 9, 3) := by decide +kernel
theorem dL_isWell_200 : decode cL_isWell 200 = .ok (.if_icmp .ne 28, 3) := by decide +kernel
theorem dL_isWell_203 : decode cL_isWell 203 = .ok (.iload 4, 2) := by decide +kernel
theorem dL_isWell_205 : decode cL_isWell 205 = .ok (.aload_n 0, 1) := by decide +kernel
theorem dL_isWell_206 : decode cL_isWell 206 = .ok (.iconst 5, 1) := by decide +kernel
theorem dL_isWell_207 : decode cL_isWell 207 = .ok (.invokevirtual 9, 3) := by decide +kernel
theorem dL_isWell_210 : decode cL_isWell 210 = .ok (.if_icmp .ne 18, 3) := by decide +kernel
theorem dL_isWell_213 : decode cL_isWell 213 = .ok (.aload_n 0, 1) := by decide +kernel
theorem dL_isWell_214 : decode cL_isWell 214 = .ok (.iload_n 1, 1) := by decide +kernel
theorem dL_isWell_215 : decode cL_isWell 215 = .ok (.iconst 0, 1) := by decide +kernel
theorem dL_isWell_216 : decode cL_isWell 216 = .ok (.invokevirtual 36, 3) := by decide +kernel
theorem dL_isWell_219 : decode cL_isWell 219 = .ok (.ldc 35, 2) := by decide +kernel
theorem dL_isWell_221 : decode cL_isWell 221 = .ok (.if_icmp .ne 7, 3) := by decide +kernel
theorem dL_isWell_224 : decode cL_isWell 224 = .ok (.iconst 1, 1) := by decide +kernel
theorem dL_isWell_225 : decode cL_isWell 225 = .ok (.goto 4, 3) := by decide +kernel
theorem dL_isWell_228 : decode cL_isWell 228 = .ok (.iconst 0, 1) := by decide +kernel
theorem dL_isWell_229 : decode cL_isWell 229 = .ok (.ireturn, 1) := by decide +kernel
theorem dL_law_0 : decode cL_law 0 = .ok (.new 10, 3) := by decide +kernel
theorem dL_law_3 : decode cL_law 3 = .ok (.dup, 1) := by decide +kernel
theorem dL_law_4 : decode cL_law 4 = .ok (.invokespecial 79, 3) := by decide +kernel
theorem dL_law_7 : decode cL_law 7 = .ok (.astore_n 1, 1) := by decide +kernel
theorem dL_law_8 : decode cL_law 8 = .ok (.new 10, 3) := by decide +kernel
theorem dL_law_11 : decode cL_law 11 = .ok (.dup, 1) := by decide +kernel
theorem dL_law_12 : decode cL_law 12 = .ok (.invokespecial 79, 3) := by decide +kernel
theorem dL_law_15 : decode cL_law 15 = .ok (.astore_n 2, 1) := by decide +kernel
theorem dL_law_16 : decode cL_law 16 = .ok (.iconst 1, 1) := by decide +kernel
theorem dL_law_17 : decode cL_law 17 = .ok (.istore_n 3, 1) := by decide +kernel
theorem dL_law_18 : decode cL_law 18 = .ok (.iconst 0, 1) := by decide +kernel
theorem dL_law_19 : decode cL_law 19 = .ok (.istore 4, 2) := by decide +kernel
theorem dL_law_21 : decode cL_law 21 = .ok (.iload 4, 2) := by decide +kernel
theorem dL_law_23 : decode cL_law 23 = .ok (.bipush 40, 2) := by decide +kernel
theorem dL_law_25 : decode cL_law 25 = .ok (.if_icmp .ge 58, 3) := by decide +kernel
theorem dL_law_28 : decode cL_law 28 = .ok (.iload_n 3, 1) := by decide +kernel
theorem dL_law_29 : decode cL_law 29 = .ok (.ifCond .eq 54, 3) := by decide +kernel
theorem dL_law_32 : decode cL_law 32 = .ok (.aload_n 1, 1) := by decide +kernel
theorem dL_law_33 : decode cL_law 33 = .ok (.aload_n 2, 1) := by decide +kernel
theorem dL_law_34 : decode cL_law 34 = .ok (.aload_n 0, 1) := by decide +kernel
theorem dL_law_35 : decode cL_law 35 = .ok (.iload 4, 2) := by decide +kernel
theorem dL_law_37 : decode cL_law 37 = .ok (.invokestatic 80, 3) := by decide +kernel
theorem dL_law_40 : decode cL_law 40 = .ok (.aload_n 0, 1) := by decide +kernel
theorem dL_law_41 : decode cL_law 41 = .ok (.iload 4, 2) := by decide +kernel
theorem dL_law_43 : decode cL_law 43 = .ok (.iconst 1, 1) := by decide +kernel
theorem dL_law_44 : decode cL_law 44 = .ok (.iadd, 1) := by decide +kernel
theorem dL_law_45 : decode cL_law 45 = .ok (.invokestatic 80, 3) := by decide +kernel
theorem dL_law_48 : decode cL_law 48 = .ok (.iconst 2, 1) := by decide +kernel
theorem dL_law_49 : decode cL_law 49 = .ok (.ishr, 1) := by decide +kernel
theorem dL_law_50 : decode cL_law 50 = .ok (.invokestatic 84, 3) := by decide +kernel
theorem dL_law_53 : decode cL_law 53 = .ok (.ifCond .eq 22, 3) := by decide +kernel
theorem dL_law_56 : decode cL_law 56 = .ok (.iload 4, 2) := by decide +kernel
theorem dL_law_58 : decode cL_law 58 = .ok (.bipush 8, 2) := by decide +kernel
theorem dL_law_60 : decode cL_law 60 = .ok (.irem, 1) := by decide +kernel
theorem dL_law_61 : decode cL_law 61 = .ok (.ifCond .gt 10, 3) := by decide +kernel
theorem dL_law_64 : decode cL_law 64 = .ok (.aload_n 1, 1) := by decide +kernel
theorem dL_law_65 : decode cL_law 65 = .ok (.invokestatic 88, 3) := by decide +kernel
theorem dL_law_68 : decode cL_law 68 = .ok (.ifCond .eq 7, 3) := by decide +kernel
theorem dL_law_71 : decode cL_law 71 = .ok (.iconst 1, 1) := by decide +kernel
theorem dL_law_72 : decode cL_law 72 = .ok (.goto 4, 3) := by decide +kernel
theorem dL_law_75 : decode cL_law 75 = .ok (.iconst 0, 1) := by decide +kernel
theorem dL_law_76 : decode cL_law 76 = .ok (.istore_n 3, 1) := by decide +kernel
theorem dL_law_77 : decode cL_law 77 = .ok (.iinc 4 1, 3) := by decide +kernel
theorem dL_law_80 : decode cL_law 80 = .ok (.goto (-59), 3) := by decide +kernel
theorem dL_law_83 : decode cL_law 83 = .ok (.iload_n 3, 1) := by decide +kernel
theorem dL_law_84 : decode cL_law 84 = .ok (.ifCond .eq 29, 3) := by decide +kernel
theorem dL_law_87 : decode cL_law 87 = .ok (.aload_n 1, 1) := by decide +kernel
theorem dL_law_88 : decode cL_law 88 = .ok (.invokestatic 88, 3) := by decide +kernel
theorem dL_law_91 : decode cL_law 91 = .ok (.ifCond .eq 22, 3) := by decide +kernel
theorem dL_law_94 : decode cL_law 94 = .ok (.aload_n 2, 1) := by decide +kernel
theorem dL_law_95 : decode cL_law 95 = .ok (.iconst 0, 1) := by decide +kernel
theorem dL_law_96 : decode cL_law 96 = .ok (.invokevirtual 9, 3) := by decide +kernel
theorem dL_law_99 : decode cL_law 99 = .ok (.iconst 2, 1) := by decide +kernel
theorem dL_law_100 : decode cL_law 100 = .ok (.aload_n 1, 1) := by decide +kernel
theorem dL_law_101 : decode cL_law 101 = .ok (.iconst 0, 1) := by decide +kernel
theorem dL_law_102 : decode cL_law 102 = .ok (.invokevirtual 9, 3) := by decide +kernel
theorem dL_law_105 : decode cL_law 105 = .ok (.imul, 1) := by decide +kernel
theorem dL_law_106 : decode cL_law 106 = .ok (.if_icmp .ne 7, 3) := by decide +kernel
theorem dL_law_109 : decode cL_law 109 = .ok (.iconst 1, 1) := by decide +kernel
theorem dL_law_110 : decode cL_law 110 = .ok (.goto 4, 3) := by decide +kernel
theorem dL_law_113 : decode cL_law 113 = .ok (.iconst 0, 1) := by decide +kernel
theorem dL_law_114 : decode cL_law 114 = .ok (.istore_n 3, 1) := by decide +kernel
theorem dL_law_115 : decode cL_law 115 = .ok (.iconst 0, 1) := by decide +kernel
theorem dL_law_116 : decode cL_law 116 = .ok (.istore 4, 2) := by decide +kernel
theorem dL_law_118 : decode cL_law 118 = .ok (.iload 4, 2) := by decide +kernel
theorem dL_law_120 : decode cL_law 120 = .ok (.aload_n 1, 1) := by decide +kernel
theorem dL_law_121 : decode cL_law 121 = .ok (.iconst 0, 1) := by decide +kernel
theorem dL_law_122 : decode cL_law 122 = .ok (.invokevirtual 9, 3) := by decide +kernel
theorem dL_law_125 : decode cL_law 125 = .ok (.if_icmp .ge 21, 3) := by decide +kernel
theorem dL_law_128 : decode cL_law 128 = .ok (.iload_n 3, 1) := by decide +kernel
theorem dL_law_129 : decode cL_law 129 = .ok (.ifCond .eq 17, 3) := by decide +kernel
theorem dL_law_132 : decode cL_law 132 = .ok (.aload_n 1, 1) := by decide +kernel
theorem dL_law_133 : decode cL_law 133 = .ok (.aload_n 2, 1) := by decide +kernel
theorem dL_law_134 : decode cL_law 134 = .ok (.iload 4, 2) := by decide +kernel
theorem dL_law_136 : decode cL_law 136 = .ok (.invokestatic 59, 3) := by decide +kernel
theorem dL_law_139 : decode cL_law 139 = .ok (.istore_n 3, 1) := by decide +kernel
theorem dL_law_140 : decode cL_law 140 = .ok (.iinc 4 1, 3) := by decide +kernel
theorem dL_law_143 : decode cL_law 143 = .ok (.goto (-25), 3) := by decide +kernel
theorem dL_law_146 : decode cL_law 146 = .ok (.iload_n 3, 1) := by decide +kernel
theorem dL_law_147 : decode cL_law 147 = .ok (.ireturn, 1) := by decide +kernel
