theorem dX6_init_0 : decode cX6_init 0 = .ok (.aload_n 0, 1) := by decide +kernel
theorem dX6_init_1 : decode cX6_init 1 = .ok (.invokespecial 1, 3) := by decide +kernel
theorem dX6_init_4 : decode cX6_init 4 = .ok (.aload_n 0, 1) := by decide +kernel
theorem dX6_init_5 : decode cX6_init 5 = .ok (.bipush 66, 2) := by decide +kernel
theorem dX6_init_7 : decode cX6_init 7 = .ok (.newarray .int, 2) := by decide +kernel
theorem dX6_init_9 : decode cX6_init 9 = .ok (.putfield 7, 3) := by decide +kernel
theorem dX6_init_12 : decode cX6_init 12 = .ok (.aload_n 0, 1) := by decide +kernel
theorem dX6_init_13 : decode cX6_init 13 = .ok (.bipush 66, 2) := by decide +kernel
theorem dX6_init_15 : decode cX6_init 15 = .ok (.newarray .int, 2) := by decide +kernel
theorem dX6_init_17 : decode cX6_init 17 = .ok (.putfield 13, 3) := by decide +kernel
theorem dX6_init_20 : decode cX6_init 20 = .ok (.aload_n 0, 1) := by decide +kernel
theorem dX6_init_21 : decode cX6_init 21 = .ok (.sipush 264, 3) := by decide +kernel
theorem dX6_init_24 : decode cX6_init 24 = .ok (.newarray .int, 2) := by decide +kernel
theorem dX6_init_26 : decode cX6_init 26 = .ok (.putfield 16, 3) := by decide +kernel
theorem dX6_init_29 : decode cX6_init 29 = .ok (.aload_n 0, 1) := by decide +kernel
theorem dX6_init_30 : decode cX6_init 30 = .ok (.bipush 66, 2) := by decide +kernel
theorem dX6_init_32 : decode cX6_init 32 = .ok (.newarray .int, 2) := by decide +kernel
theorem dX6_init_34 : decode cX6_init 34 = .ok (.putfield 19, 3) := by decide +kernel
theorem dX6_init_37 : decode cX6_init 37 = .ok (.aload_n 0, 1) := by decide +kernel
theorem dX6_init_38 : decode cX6_init 38 = .ok (.bipush 7, 2) := by decide +kernel
theorem dX6_init_40 : decode cX6_init 40 = .ok (.newarray .long, 2) := by decide +kernel
theorem dX6_init_42 : decode cX6_init 42 = .ok (.putfield 22, 3) := by decide +kernel
theorem dX6_init_45 : decode cX6_init 45 = .ok (.aload_n 0, 1) := by decide +kernel
theorem dX6_init_46 : decode cX6_init 46 = .ok (.sipush 16000, 3) := by decide +kernel
theorem dX6_init_49 : decode cX6_init 49 = .ok (.newarray .int, 2) := by decide +kernel
theorem dX6_init_51 : decode cX6_init 51 = .ok (.putfield 26, 3) := by decide +kernel
theorem dX6_init_54 : decode cX6_init 54 = .ok (.aload_n 0, 1) := by decide +kernel
theorem dX6_init_55 : decode cX6_init 55 = .ok (.bipush 16, 2) := by decide +kernel
theorem dX6_init_57 : decode cX6_init 57 = .ok (.newarray .int, 2) := by decide +kernel
theorem dX6_init_59 : decode cX6_init 59 = .ok (.putfield 29, 3) := by decide +kernel
theorem dX6_init_62 : decode cX6_init 62 = .ok (.aload_n 0, 1) := by decide +kernel
theorem dX6_init_63 : decode cX6_init 63 = .ok (.bipush 16, 2) := by decide +kernel
theorem dX6_init_65 : decode cX6_init 65 = .ok (.newarray .int, 2) := by decide +kernel
theorem dX6_init_67 : decode cX6_init 67 = .ok (.putfield 32, 3) := by decide +kernel
theorem dX6_init_70 : decode cX6_init 70 = .ok (.aload_n 0, 1) := by decide +kernel
theorem dX6_init_71 : decode cX6_init 71 = .ok (.bipush 80, 2) := by decide +kernel
theorem dX6_init_73 : decode cX6_init 73 = .ok (.newarray .int, 2) := by decide +kernel
theorem dX6_init_75 : decode cX6_init 75 = .ok (.putfield 35, 3) := by decide +kernel
theorem dX6_init_78 : decode cX6_init 78 = .ok (.aload_n 0, 1) := by decide +kernel
theorem dX6_init_79 : decode cX6_init 79 = .ok (.bipush 80, 2) := by decide +kernel
theorem dX6_init_81 : decode cX6_init 81 = .ok (.newarray .int, 2) := by decide +kernel
theorem dX6_init_83 : decode cX6_init 83 = .ok (.putfield 38, 3) := by decide +kernel
theorem dX6_init_86 : decode cX6_init 86 = .ok (.aload_n 0, 1) := by decide +kernel
theorem dX6_init_87 : decode cX6_init 87 = .ok (.bipush 16, 2) := by decide +kernel
theorem dX6_init_89 : decode cX6_init 89 = .ok (.newarray .int, 2) := by decide +kernel
theorem dX6_init_91 : decode cX6_init 91 = .ok (.putfield 41, 3) := by decide +kernel
theorem dX6_init_94 : decode cX6_init 94 = .ok (.aload_n 0, 1) := by decide +kernel
theorem dX6_init_95 : decode cX6_init 95 = .ok (.bipush 16, 2) := by decide +kernel
theorem dX6_init_97 : decode cX6_init 97 = .ok (.newarray .int, 2) := by decide +kernel
theorem dX6_init_99 : decode cX6_init 99 = .ok (.putfield 44, 3) := by decide +kernel
theorem dX6_init_102 : decode cX6_init 102 = .ok (.aload_n 0, 1) := by decide +kernel
theorem dX6_init_103 : decode cX6_init 103 = .ok (.getfield 7, 3) := by decide +kernel
theorem dX6_init_106 : decode cX6_init 106 = .ok (.iconst 1, 1) := by decide +kernel
theorem dX6_init_107 : decode cX6_init 107 = .ok (.sipush 256, 3) := by decide +kernel
theorem dX6_init_110 : decode cX6_init 110 = .ok (.iastore, 1) := by decide +kernel
theorem dX6_init_111 : decode cX6_init 111 = .ok (.aload_n 0, 1) := by decide +kernel
theorem dX6_init_112 : decode cX6_init 112 = .ok (.getfield 22, 3) := by decide +kernel
theorem dX6_init_115 : decode cX6_init 115 = .ok (.iconst 0, 1) := by decide +kernel
theorem dX6_init_116 : decode cX6_init 116 = .ok (.ldc2_w 47, 3) := by decide +kernel
theorem dX6_init_119 : decode cX6_init 119 = .ok (.lastore, 1) := by decide +kernel
theorem dX6_init_120 : decode cX6_init 120 = .ok (.aload_n 0, 1) := by decide +kernel
theorem dX6_init_121 : decode cX6_init 121 = .ok (.getfield 22, 3) := by decide +kernel
theorem dX6_init_124 : decode cX6_init 124 = .ok (.iconst 1, 1) := by decide +kernel
theorem dX6_init_125 : decode cX6_init 125 = .ok (.ldc2_w 49, 3) := by decide +kernel
theorem dX6_init_128 : decode cX6_init 128 = .ok (.lastore, 1) := by decide +kernel
theorem dX6_init_129 : decode cX6_init 129 = .ok (.aload_n 0, 1) := by decide +kernel
theorem dX6_init_130 : decode cX6_init 130 = .ok (.getfield 22, 3) := by decide +kernel
theorem dX6_init_133 : decode cX6_init 133 = .ok (.iconst 2, 1) := by decide +kernel
theorem dX6_init_134 : decode cX6_init 134 = .ok (.ldc2_w 51, 3) := by decide +kernel
theorem dX6_init_137 : decode cX6_init 137 = .ok (.lastore, 1) := by decide +kernel
theorem dX6_init_138 : decode cX6_init 138 = .ok (.aload_n 0, 1) := by decide +kernel
theorem dX6_init_139 : decode cX6_init 139 = .ok (.getfield 22, 3) := by decide +kernel
theorem dX6_init_142 : decode cX6_init 142 = .ok (.iconst 3, 1) := by decide +kernel
theorem dX6_init_143 : decode cX6_init 143 = .ok (.ldc2_w 53, 3) := by decide +kernel
theorem dX6_init_146 : decode cX6_init 146 = .ok (.lastore, 1) := by decide +kernel
theorem dX6_init_147 : decode cX6_init 147 = .ok (.aload_n 0, 1) := by decide +kernel
theorem dX6_init_148 : decode cX6_init 148 = .ok (.getfield 22, 3) := by decide +kernel
theorem dX6_init_151 : decode cX6_init 151 = .ok (.iconst 4, 1) := by decide +kernel
theorem dX6_init_152 : decode cX6_init 152 = .ok (.ldc2_w 55, 3) := by decide +kernel
theorem dX6_init_155 : decode cX6_init 155 = .ok (.lastore, 1) := by decide +kernel
theorem dX6_init_156 : decode cX6_init 156 = .ok (.aload_n 0, 1) := by decide +kernel
theorem dX6_init_157 : decode cX6_init 157 = .ok (.getfield 22, 3) := by decide +kernel
theorem dX6_init_160 : decode cX6_init 160 = .ok (.iconst 5, 1) := by decide +kernel
theorem dX6_init_161 : decode cX6_init 161 = .ok (.ldc2_w 57, 3) := by decide +kernel
theorem dX6_init_164 : decode cX6_init 164 = .ok (.lastore, 1) := by decide +kernel
theorem dX6_init_165 : decode cX6_init 165 = .ok (.aload_n 0, 1) := by decide +kernel
theorem dX6_init_166 : decode cX6_init 166 = .ok (.getfield 22, 3) := by decide +kernel
theorem dX6_init_169 : decode cX6_init 169 = .ok (.bipush 6, 2) := by decide +kernel
theorem dX6_init_171 : decode cX6_init 171 = .ok (.ldc2_w 59, 3) := by decide +kernel
theorem dX6_init_174 : decode cX6_init 174 = .ok (.lastore, 1) := by decide +kernel
theorem dX6_init_175 : decode cX6_init 175 = .ok (.return_, 1) := by decide +kernel
theorem dX6_in_0 : decode cX6_in 0 = .ok (.lload_n 0, 1) := by decide +kernel
theorem dX6_in_1 : decode cX6_in 1 = .ok (.lload_n 2, 1) := by decide +kernel
theorem dX6_in_2 : decode cX6_in 2 = .ok (.lcmp, 1) := by decide +kernel
theorem dX6_in_3 : decode cX6_in 3 = .ok (.ifCond .lt 14, 3) := by decide +kernel
theorem dX6_in_6 : decode cX6_in 6 = .ok (.lload_n 0, 1) := by decide +kernel
theorem dX6_in_7 : decode cX6_in 7 = .ok (.lload 4, 2) := by decide +kernel
theorem dX6_in_9 : decode cX6_in 9 = .ok (.lcmp, 1) := by decide +kernel
theorem dX6_in_10 : decode cX6_in 10 = .ok (.ifCond .gt 7, 3) := by decide +kernel
theorem dX6_in_13 : decode cX6_in 13 = .ok (.iconst 1, 1) := by decide +kernel
theorem dX6_in_14 : decode cX6_in 14 = .ok (.goto 4, 3) := by decide +kernel
theorem dX6_in_17 : decode cX6_in 17 = .ok (.iconst 0, 1) := by decide +kernel
theorem dX6_in_18 : decode cX6_in 18 = .ok (.ireturn, 1) := by decide +kernel
theorem dX6_remember_0 : decode cX6_remember 0 = .ok (.iconst 0, 1) := by decide +kernel
theorem dX6_remember_1 : decode cX6_remember 1 = .ok (.istore_n 1, 1) := by decide +kernel
theorem dX6_remember_2 : decode cX6_remember 2 = .ok (.iload_n 1, 1) := by decide +kernel
theorem dX6_remember_3 : decode cX6_remember 3 = .ok (.bipush 66, 2) := by decide +kernel
theorem dX6_remember_5 : decode cX6_remember 5 = .ok (.if_icmp .ge 21, 3) := by decide +kernel
theorem dX6_remember_8 : decode cX6_remember 8 = .ok (.aload_n 0, 1) := by decide +kernel
theorem dX6_remember_9 : decode cX6_remember 9 = .ok (.getfield 13, 3) := by decide +kernel
theorem dX6_remember_12 : decode cX6_remember 12 = .ok (.iload_n 1, 1) := by decide +kernel
theorem dX6_remember_13 : decode cX6_remember 13 = .ok (.aload_n 0, 1) := by decide +kernel
theorem dX6_remember_14 : decode cX6_remember 14 = .ok (.getfield 7, 3) := by decide +kernel
theorem dX6_remember_17 : decode cX6_remember 17 = .ok (.iload_n 1, 1) := by decide +kernel
theorem dX6_remember_18 : decode cX6_remember 18 = .ok (.iaload, 1) := by decide +kernel
theorem dX6_remember_19 : decode cX6_remember 19 = .ok (.iastore, 1) := by decide +kernel
theorem dX6_remember_20 : decode cX6_remember 20 = .ok (.iinc 1 1, 3) := by decide +kernel
theorem dX6_remember_23 : decode cX6_remember 23 = .ok (.goto (-21), 3) := by decide +kernel
theorem dX6_remember_26 : decode cX6_remember 26 = .ok (.return_, 1) := by decide +kernel
theorem dX6_acted_0 : decode cX6_acted 0 = .ok (.aload_n 0, 1) := by decide +kernel
theorem dX6_acted_1 : decode cX6_acted 1 = .ok (.getfield 61, 3) := by decide +kernel
theorem dX6_acted_4 : decode cX6_acted 4 = .ok (.iconst 4, 1) := by decide +kernel
theorem dX6_acted_5 : decode cX6_acted 5 = .ok (.if_icmp .ne 43, 3) := by decide +kernel
theorem dX6_acted_8 : decode cX6_acted 8 = .ok (.iconst 0, 1) := by decide +kernel
theorem dX6_acted_9 : decode cX6_acted 9 = .ok (.istore_n 2, 1) := by decide +kernel
theorem dX6_acted_10 : decode cX6_acted 10 = .ok (.iload_n 2, 1) := by decide +kernel
theorem dX6_acted_11 : decode cX6_acted 11 = .ok (.sipush 198, 3) := by decide +kernel
theorem dX6_acted_14 : decode cX6_acted 14 = .ok (.if_icmp .ge 24, 3) := by decide +kernel
theorem dX6_acted_17 : decode cX6_acted 17 = .ok (.aload_n 0, 1) := by decide +kernel
theorem dX6_acted_18 : decode cX6_acted 18 = .ok (.getfield 16, 3) := by decide +kernel
theorem dX6_acted_21 : decode cX6_acted 21 = .ok (.iload_n 2, 1) := by decide +kernel
theorem dX6_acted_22 : decode cX6_acted 22 = .ok (.aload_n 0, 1) := by decide +kernel
theorem dX6_acted_23 : decode cX6_acted 23 = .ok (.getfield 16, 3) := by decide +kernel
theorem dX6_acted_26 : decode cX6_acted 26 = .ok (.iload_n 2, 1) := by decide +kernel
theorem dX6_acted_27 : decode cX6_acted 27 = .ok (.bipush 66, 2) := by decide +kernel
theorem dX6_acted_29 : decode cX6_acted 29 = .ok (.iadd, 1) := by decide +kernel
theorem dX6_acted_30 : decode cX6_acted 30 = .ok (.iaload, 1) := by decide +kernel
theorem dX6_acted_31 : decode cX6_acted 31 = .ok (.iastore, 1) := by decide +kernel
theorem dX6_acted_32 : decode cX6_acted 32 = .ok (.iinc 2 1, 3) := by decide +kernel
theorem dX6_acted_35 : decode cX6_acted 35 = .ok (.goto (-25), 3) := by decide +kernel
theorem dX6_acted_38 : decode cX6_acted 38 = .ok (.aload_n 0, 1) := by decide +kernel
theorem dX6_acted_39 : decode cX6_acted 39 = .ok (.dup, 1) := by decide +kernel
theorem dX6_acted_40 : decode cX6_acted 40 = .ok (.getfield 61, 3) := by decide +kernel
theorem dX6_acted_43 : decode cX6_acted 43 = .ok (.iconst 1, 1) := by decide +kernel
theorem dX6_acted_44 : decode cX6_acted 44 = .ok (.isub, 1) := by decide +kernel
theorem dX6_acted_45 : decode cX6_acted 45 = .ok (.putfield 61, 3) := by decide +kernel
theorem dX6_acted_48 : decode cX6_acted 48 = .ok (.iconst 0, 1) := by decide +kernel
theorem dX6_acted_49 : decode cX6_acted 49 = .ok (.istore_n 2, 1) := by decide +kernel
theorem dX6_acted_50 : decode cX6_acted 50 = .ok (.iload_n 2, 1) := by decide +kernel
theorem dX6_acted_51 : decode cX6_acted 51 = .ok (.bipush 66, 2) := by decide +kernel
theorem dX6_acted_53 : decode cX6_acted 53 = .ok (.if_icmp .ge 29, 3) := by decide +kernel
theorem dX6_acted_56 : decode cX6_acted 56 = .ok (.aload_n 0, 1) := by decide +kernel
theorem dX6_acted_57 : decode cX6_acted 57 = .ok (.getfield 16, 3) := by decide +kernel
theorem dX6_acted_60 : decode cX6_acted 60 = .ok (.bipush 66, 2) := by decide +kernel
theorem dX6_acted_62 : decode cX6_acted 62 = .ok (.aload_n 0, 1) := by decide +kernel
theorem dX6_acted_63 : decode cX6_acted 63 = .ok (.getfield 61, 3) := by decide +kernel
theorem dX6_acted_66 : decode cX6_acted 66 = .ok (.imul, 1) := by decide +kernel
theorem dX6_acted_67 : decode cX6_acted 67 = .ok (.iload_n 2, 1) := by decide +kernel
theorem dX6_acted_68 : decode cX6_acted 68 = .ok (.iadd, 1) := by decide +kernel
theorem dX6_acted_69 : decode cX6_acted 69 = .ok (.aload_n 0, 1) := by decide +kernel
theorem dX6_acted_70 : decode cX6_acted 70 = .ok (.getfield 13, 3) := by decide +kernel
theorem dX6_acted_73 : decode cX6_acted 73 = .ok (.iload_n 2, 1) := by decide +kernel
theorem dX6_acted_74 : decode cX6_acted 74 = .ok (.iaload, 1) := by decide +kernel
theorem dX6_acted_75 : decode cX6_acted 75 = .ok (.iastore, 1) := by decide +kernel
theorem dX6_acted_76 : decode cX6_acted 76 = .ok (.iinc 2 1, 3) := by decide +kernel
theorem dX6_acted_79 : decode cX6_acted 79 = .ok (.goto (-29), 3) := by decide +kernel
theorem dX6_acted_82 : decode cX6_acted 82 = .ok (.aload_n 0, 1) := by decide +kernel
theorem dX6_acted_83 : decode cX6_acted 83 = .ok (.dup, 1) := by decide +kernel
theorem dX6_acted_84 : decode cX6_acted 84 = .ok (.getfield 61, 3) := by decide +kernel
theorem dX6_acted_87 : decode cX6_acted 87 = .ok (.iconst 1, 1) := by decide +kernel
theorem dX6_acted_88 : decode cX6_acted 88 = .ok (.iadd, 1) := by decide +kernel
theorem dX6_acted_89 : decode cX6_acted 89 = .ok (.putfield 61, 3) := by decide +kernel
theorem dX6_acted_92 : decode cX6_acted 92 = .ok (.iload_n 1, 1) := by decide +kernel
theorem dX6_acted_93 : decode cX6_acted 93 = .ok (.ireturn, 1) := by decide +kernel
theorem dX6_isLine_0 : decode cX6_isLine 0 = .ok (.iload_n 1, 1) := by decide +kernel
theorem dX6_isLine_1 : decode cX6_isLine 1 = .ok (.i2l, 1) := by decide +kernel
theorem dX6_isLine_2 : decode cX6_isLine 2 = .ok (.lconst 0, 1) := by decide +kernel
theorem dX6_isLine_3 : decode cX6_isLine 3 = .ok (.aload_n 0, 1) := by decide +kernel
theorem dX6_isLine_4 : decode cX6_isLine 4 = .ok (.getfield 7, 3) := by decide +kernel
theorem dX6_isLine_7 : decode cX6_isLine 7 = .ok (.iconst 0, 1) := by decide +kernel
theorem dX6_isLine_8 : decode cX6_isLine 8 = .ok (.iaload, 1) := by decide +kernel
theorem dX6_isLine_9 : decode cX6_isLine 9 = .ok (.i2l, 1) := by decide +kernel
theorem dX6_isLine_10 : decode cX6_isLine 10 = .ok (.lconst 1, 1) := by decide +kernel
theorem dX6_isLine_11 : decode cX6_isLine 11 = .ok (.lsub, 1) := by decide +kernel
theorem dX6_isLine_12 : decode cX6_isLine 12 = .ok (.invokestatic 65, 3) := by decide +kernel
theorem dX6_isLine_15 : decode cX6_isLine 15 = .ok (.ireturn, 1) := by decide +kernel
theorem dX6_of_0 : decode cX6_of 0 = .ok (.aload_n 0, 1) := by decide +kernel
theorem dX6_of_1 : decode cX6_of 1 = .ok (.getfield 7, 3) := by decide +kernel
theorem dX6_of_4 : decode cX6_of 4 = .ok (.iconst 2, 1) := by decide +kernel
theorem dX6_of_5 : decode cX6_of 5 = .ok (.iconst 4, 1) := by decide +kernel
theorem dX6_of_6 : decode cX6_of 6 = .ok (.iload_n 1, 1) := by decide +kernel
theorem dX6_of_7 : decode cX6_of 7 = .ok (.imul, 1) := by decide +kernel
theorem dX6_of_8 : decode cX6_of 8 = .ok (.iadd, 1) := by decide +kernel
theorem dX6_of_9 : decode cX6_of 9 = .ok (.iload_n 2, 1) := by decide +kernel
theorem dX6_of_10 : decode cX6_of 10 = .ok (.iadd, 1) := by decide +kernel
theorem dX6_of_11 : decode cX6_of 11 = .ok (.iaload, 1) := by decide +kernel
theorem dX6_of_12 : decode cX6_of 12 = .ok (.ireturn, 1) := by decide +kernel
theorem dX6_linesBy_0 : decode cX6_linesBy 0 = .ok (.iload_n 0, 1) := by decide +kernel
theorem dX6_linesBy_1 : decode cX6_linesBy 1 = .ok (.ifCond .ne 7, 3) := by decide +kernel
theorem dX6_linesBy_4 : decode cX6_linesBy 4 = .ok (.iconst 0, 1) := by decide +kernel
theorem dX6_linesBy_5 : decode cX6_linesBy 5 = .ok (.goto 22, 3) := by decide +kernel
theorem dX6_linesBy_8 : decode cX6_linesBy 8 = .ok (.iload_n 0, 1) := by decide +kernel
theorem dX6_linesBy_9 : decode cX6_linesBy 9 = .ok (.iconst 4, 1) := by decide +kernel
theorem dX6_linesBy_10 : decode cX6_linesBy 10 = .ok (.if_icmp .ne 7, 3) := by decide +kernel
theorem dX6_linesBy_13 : decode cX6_linesBy 13 = .ok (.iconst 3, 1) := by decide +kernel
theorem dX6_linesBy_14 : decode cX6_linesBy 14 = .ok (.goto 13, 3) := by decide +kernel
theorem dX6_linesBy_17 : decode cX6_linesBy 17 = .ok (.iload_n 0, 1) := by decide +kernel
theorem dX6_linesBy_18 : decode cX6_linesBy 18 = .ok (.iconst 4, 1) := by decide +kernel
theorem dX6_linesBy_19 : decode cX6_linesBy 19 = .ok (.if_icmp .ge 7, 3) := by decide +kernel
theorem dX6_linesBy_22 : decode cX6_linesBy 22 = .ok (.iconst 2, 1) := by decide +kernel
theorem dX6_linesBy_23 : decode cX6_linesBy 23 = .ok (.goto 4, 3) := by decide +kernel
theorem dX6_linesBy_26 : decode cX6_linesBy 26 = .ok (.iconst 1, 1) := by decide +kernel
theorem dX6_linesBy_27 : decode cX6_linesBy 27 = .ok (.ireturn, 1) := by decide +kernel
theorem dX6_puts_0 : decode cX6_puts 0 = .ok (.iconst 2, 1) := by decide +kernel
theorem dX6_puts_1 : decode cX6_puts 1 = .ok (.iconst 4, 1) := by decide +kernel
theorem dX6_puts_2 : decode cX6_puts 2 = .ok (.aload_n 0, 1) := by decide +kernel
theorem dX6_puts_3 : decode cX6_puts 3 = .ok (.getfield 7, 3) := by decide +kernel
theorem dX6_puts_6 : decode cX6_puts 6 = .ok (.iconst 0, 1) := by decide +kernel
theorem dX6_puts_7 : decode cX6_puts 7 = .ok (.iaload, 1) := by decide +kernel
theorem dX6_puts_8 : decode cX6_puts 8 = .ok (.imul, 1) := by decide +kernel
theorem dX6_puts_9 : decode cX6_puts 9 = .ok (.iadd, 1) := by decide +kernel
theorem dX6_puts_10 : decode cX6_puts 10 = .ok (.istore 5, 2) := by decide +kernel
theorem dX6_puts_12 : decode cX6_puts 12 = .ok (.aload_n 0, 1) := by decide +kernel
theorem dX6_puts_13 : decode cX6_puts 13 = .ok (.getfield 7, 3) := by decide +kernel
theorem dX6_puts_16 : decode cX6_puts 16 = .ok (.iload 5, 2) := by decide +kernel
theorem dX6_puts_18 : decode cX6_puts 18 = .ok (.iload_n 1, 1) := by decide +kernel
theorem dX6_puts_19 : decode cX6_puts 19 = .ok (.iastore, 1) := by decide +kernel
theorem dX6_puts_20 : decode cX6_puts 20 = .ok (.aload_n 0, 1) := by decide +kernel
theorem dX6_puts_21 : decode cX6_puts 21 = .ok (.getfield 7, 3) := by decide +kernel
theorem dX6_puts_24 : decode cX6_puts 24 = .ok (.iload 5, 2) := by decide +kernel
theorem dX6_puts_26 : decode cX6_puts 26 = .ok (.iconst 1, 1) := by decide +kernel
theorem dX6_puts_27 : decode cX6_puts 27 = .ok (.iadd, 1) := by decide +kernel
theorem dX6_puts_28 : decode cX6_puts 28 = .ok (.iload_n 2, 1) := by decide +kernel
theorem dX6_puts_29 : decode cX6_puts 29 = .ok (.iastore, 1) := by decide +kernel
theorem dX6_puts_30 : decode cX6_puts 30 = .ok (.aload_n 0, 1) := by decide +kernel
theorem dX6_puts_31 : decode cX6_puts 31 = .ok (.getfield 7, 3) := by decide +kernel
theorem dX6_puts_34 : decode cX6_puts 34 = .ok (.iload 5, 2) := by decide +kernel
theorem dX6_puts_36 : decode cX6_puts 36 = .ok (.iconst 2, 1) := by decide +kernel
theorem dX6_puts_37 : decode cX6_puts 37 = .ok (.iadd, 1) := by decide +kernel
theorem dX6_puts_38 : decode cX6_puts 38 = .ok (.iload_n 3, 1) := by decide +kernel
theorem dX6_puts_39 : decode cX6_puts 39 = .ok (.iastore, 1) := by decide +kernel
theorem dX6_puts_40 : decode cX6_puts 40 = .ok (.aload_n 0, 1) := by decide +kernel
theorem dX6_puts_41 : decode cX6_puts 41 = .ok (.getfield 7, 3) := by decide +kernel
theorem dX6_puts_44 : decode cX6_puts 44 = .ok (.iload 5, 2) := by decide +kernel
theorem dX6_puts_46 : decode cX6_puts 46 = .ok (.iconst 3, 1) := by decide +kernel
theorem dX6_puts_47 : decode cX6_puts 47 = .ok (.iadd, 1) := by decide +kernel
theorem dX6_puts_48 : decode cX6_puts 48 = .ok (.iload 4, 2) := by decide +kernel
theorem dX6_puts_50 : decode cX6_puts 50 = .ok (.iastore, 1) := by decide +kernel
theorem dX6_puts_51 : decode cX6_puts 51 = .ok (.aload_n 0, 1) := by decide +kernel
theorem dX6_puts_52 : decode cX6_puts 52 = .ok (.getfield 7, 3) := by decide +kernel
theorem dX6_puts_55 : decode cX6_puts 55 = .ok (.iconst 0, 1) := by decide +kernel
theorem dX6_puts_56 : decode cX6_puts 56 = .ok (.dup2, 1) := by decide +kernel
theorem dX6_puts_57 : decode cX6_puts 57 = .ok (.iaload, 1) := by decide +kernel
theorem dX6_puts_58 : decode cX6_puts 58 = .ok (.iconst 1, 1) := by decide +kernel
theorem dX6_puts_59 : decode cX6_puts 59 = .ok (.iadd, 1) := by decide +kernel
theorem dX6_puts_60 : decode cX6_puts 60 = .ok (.iastore, 1) := by decide +kernel
theorem dX6_puts_61 : decode cX6_puts 61 = .ok (.return_, 1) := by decide +kernel
theorem dX6_adds_0 : decode cX6_adds 0 = .ok (.aload_n 0, 1) := by decide +kernel
theorem dX6_adds_1 : decode cX6_adds 1 = .ok (.getfield 7, 3) := by decide +kernel
theorem dX6_adds_4 : decode cX6_adds 4 = .ok (.iconst 0, 1) := by decide +kernel
theorem dX6_adds_5 : decode cX6_adds 5 = .ok (.iaload, 1) := by decide +kernel
theorem dX6_adds_6 : decode cX6_adds 6 = .ok (.bipush 16, 2) := by decide +kernel
theorem dX6_adds_8 : decode cX6_adds 8 = .ok (.if_icmp .ne 6, 3) := by decide +kernel
theorem dX6_adds_11 : decode cX6_adds 11 = .ok (.ldc 69, 2) := by decide +kernel
theorem dX6_adds_13 : decode cX6_adds 13 = .ok (.ireturn, 1) := by decide +kernel
theorem dX6_adds_14 : decode cX6_adds 14 = .ok (.aload_n 0, 1) := by decide +kernel
theorem dX6_adds_15 : decode cX6_adds 15 = .ok (.invokevirtual 70, 3) := by decide +kernel
theorem dX6_adds_18 : decode cX6_adds 18 = .ok (.aload_n 0, 1) := by decide +kernel
theorem dX6_adds_19 : decode cX6_adds 19 = .ok (.iload_n 1, 1) := by decide +kernel
theorem dX6_adds_20 : decode cX6_adds 20 = .ok (.iload_n 2, 1) := by decide +kernel
theorem dX6_adds_21 : decode cX6_adds 21 = .ok (.iload_n 3, 1) := by decide +kernel
theorem dX6_adds_22 : decode cX6_adds 22 = .ok (.iload 4, 2) := by decide +kernel
theorem dX6_adds_24 : decode cX6_adds 24 = .ok (.invokevirtual 73, 3) := by decide +kernel
theorem dX6_adds_27 : decode cX6_adds 27 = .ok (.aload_n 0, 1) := by decide +kernel
theorem dX6_adds_28 : decode cX6_adds 28 = .ok (.aload_n 0, 1) := by decide +kernel
theorem dX6_adds_29 : decode cX6_adds 29 = .ok (.getfield 7, 3) := by decide +kernel
theorem dX6_adds_32 : decode cX6_adds 32 = .ok (.iconst 0, 1) := by decide +kernel
theorem dX6_adds_33 : decode cX6_adds 33 = .ok (.iaload, 1) := by decide +kernel
theorem dX6_adds_34 : decode cX6_adds 34 = .ok (.iconst 1, 1) := by decide +kernel
theorem dX6_adds_35 : decode cX6_adds 35 = .ok (.isub, 1) := by decide +kernel
theorem dX6_adds_36 : decode cX6_adds 36 = .ok (.invokevirtual 77, 3) := by decide +kernel
theorem dX6_adds_39 : decode cX6_adds 39 = .ok (.ireturn, 1) := by decide +kernel
theorem dX6_source_0 : decode cX6_source 0 = .ok (.iload_n 1, 1) := by decide +kernel
theorem dX6_source_1 : decode cX6_source 1 = .ok (.i2l, 1) := by decide +kernel
theorem dX6_source_2 : decode cX6_source 2 = .ok (.lconst 0, 1) := by decide +kernel
theorem dX6_source_3 : decode cX6_source 3 = .ok (.ldc2_w 81, 3) := by decide +kernel
theorem dX6_source_6 : decode cX6_source 6 = .ok (.invokestatic 65, 3) := by decide +kernel
theorem dX6_source_9 : decode cX6_source 9 = .ok (.ifCond .eq 27, 3) := by decide +kernel
theorem dX6_source_12 : decode cX6_source 12 = .ok (.iload_n 2, 1) := by decide +kernel
theorem dX6_source_13 : decode cX6_source 13 = .ok (.i2l, 1) := by decide +kernel
theorem dX6_source_14 : decode cX6_source 14 = .ok (.lconst 1, 1) := by decide +kernel
theorem dX6_source_15 : decode cX6_source 15 = .ok (.ldc2_w 83, 3) := by decide +kernel
theorem dX6_source_18 : decode cX6_source 18 = .ok (.invokestatic 65, 3) := by decide +kernel
theorem dX6_source_21 : decode cX6_source 21 = .ok (.ifCond .eq 15, 3) := by decide +kernel
theorem dX6_source_24 : decode cX6_source 24 = .ok (.aload_n 0, 1) := by decide +kernel
theorem dX6_source_25 : decode cX6_source 25 = .ok (.iconst 0, 1) := by decide +kernel
theorem dX6_source_26 : decode cX6_source 26 = .ok (.iload_n 1, 1) := by decide +kernel
theorem dX6_source_27 : decode cX6_source 27 = .ok (.iload_n 2, 1) := by decide +kernel
theorem dX6_source_28 : decode cX6_source 28 = .ok (.ldc 85, 2) := by decide +kernel
theorem dX6_source_30 : decode cX6_source 30 = .ok (.invokevirtual 86, 3) := by decide +kernel
theorem dX6_source_33 : decode cX6_source 33 = .ok (.goto 5, 3) := by decide +kernel
theorem dX6_source_36 : decode cX6_source 36 = .ok (.ldc 90, 2) := by decide +kernel
theorem dX6_source_38 : decode cX6_source 38 = .ok (.ireturn, 1) := by decide +kernel
theorem dX6_gate_0 : decode cX6_gate 0 = .ok (.aload_n 0, 1) := by decide +kernel
theorem dX6_gate_1 : decode cX6_gate 1 = .ok (.iload_n 2, 1) := by decide +kernel
theorem dX6_gate_2 : decode cX6_gate 2 = .ok (.invokevirtual 91, 3) := by decide +kernel
theorem dX6_gate_5 : decode cX6_gate 5 = .ok (.ifCond .eq 11, 3) := by decide +kernel
theorem dX6_gate_8 : decode cX6_gate 8 = .ok (.aload_n 0, 1) := by decide +kernel
theorem dX6_gate_9 : decode cX6_gate 9 = .ok (.iload_n 3, 1) := by decide +kernel
theorem dX6_gate_10 : decode cX6_gate 10 = .ok (.invokevirtual 91, 3) := by decide +kernel
theorem dX6_gate_13 : decode cX6_gate 13 = .ok (.ifCond .ne 6, 3) := by decide +kernel
theorem dX6_gate_16 : decode cX6_gate 16 = .ok (.ldc 95, 2) := by decide +kernel
theorem dX6_gate_18 : decode cX6_gate 18 = .ok (.ireturn, 1) := by decide +kernel
theorem dX6_gate_19 : decode cX6_gate 19 = .ok (.iload_n 1, 1) := by decide +kernel
theorem dX6_gate_20 : decode cX6_gate 20 = .ok (.i2l, 1) := by decide +kernel
theorem dX6_gate_21 : decode cX6_gate 21 = .ok (.lconst 1, 1) := by decide +kernel
theorem dX6_gate_22 : decode cX6_gate 22 = .ok (.ldc2_w 96, 3) := by decide +kernel
theorem dX6_gate_25 : decode cX6_gate 25 = .ok (.invokestatic 65, 3) := by decide +kernel
theorem dX6_gate_28 : decode cX6_gate 28 = .ok (.ifCond .eq 15, 3) := by decide +kernel
theorem dX6_gate_31 : decode cX6_gate 31 = .ok (.aload_n 0, 1) := by decide +kernel
theorem dX6_gate_32 : decode cX6_gate 32 = .ok (.iload_n 1, 1) := by decide +kernel
theorem dX6_gate_33 : decode cX6_gate 33 = .ok (.iload_n 2, 1) := by decide +kernel
theorem dX6_gate_34 : decode cX6_gate 34 = .ok (.iload_n 3, 1) := by decide +kernel
theorem dX6_gate_35 : decode cX6_gate 35 = .ok (.ldc 85, 2) := by decide +kernel
theorem dX6_gate_37 : decode cX6_gate 37 = .ok (.invokevirtual 86, 3) := by decide +kernel
theorem dX6_gate_40 : decode cX6_gate 40 = .ok (.goto 5, 3) := by decide +kernel
theorem dX6_gate_43 : decode cX6_gate 43 = .ok (.ldc 90, 2) := by decide +kernel
theorem dX6_gate_45 : decode cX6_gate 45 = .ok (.ireturn, 1) := by decide +kernel
theorem dX6_choose_0 : decode cX6_choose 0 = .ok (.aload_n 0, 1) := by decide +kernel
theorem dX6_choose_1 : decode cX6_choose 1 = .ok (.iload_n 1, 1) := by decide +kernel
theorem dX6_choose_2 : decode cX6_choose 2 = .ok (.invokevirtual 91, 3) := by decide +kernel
theorem dX6_choose_5 : decode cX6_choose 5 = .ok (.ifCond .eq 30, 3) := by decide +kernel
theorem dX6_choose_8 : decode cX6_choose 8 = .ok (.aload_n 0, 1) := by decide +kernel
theorem dX6_choose_9 : decode cX6_choose 9 = .ok (.iload_n 2, 1) := by decide +kernel
theorem dX6_choose_10 : decode cX6_choose 10 = .ok (.invokevirtual 91, 3) := by decide +kernel
theorem dX6_choose_13 : decode cX6_choose 13 = .ok (.ifCond .eq 22, 3) := by decide +kernel
theorem dX6_choose_16 : decode cX6_choose 16 = .ok (.aload_n 0, 1) := by decide +kernel
theorem dX6_choose_17 : decode cX6_choose 17 = .ok (.iload_n 3, 1) := by decide +kernel
theorem dX6_choose_18 : decode cX6_choose 18 = .ok (.invokevirtual 91, 3) := by decide +kernel
theorem dX6_choose_21 : decode cX6_choose 21 = .ok (.ifCond .eq 14, 3) := by decide +kernel
theorem dX6_choose_24 : decode cX6_choose 24 = .ok (.aload_n 0, 1) := by decide +kernel
theorem dX6_choose_25 : decode cX6_choose 25 = .ok (.iconst 4, 1) := by decide +kernel
theorem dX6_choose_26 : decode cX6_choose 26 = .ok (.iload_n 1, 1) := by decide +kernel
theorem dX6_choose_27 : decode cX6_choose 27 = .ok (.iload_n 2, 1) := by decide +kernel
theorem dX6_choose_28 : decode cX6_choose 28 = .ok (.iload_n 3, 1) := by decide +kernel
theorem dX6_choose_29 : decode cX6_choose 29 = .ok (.invokevirtual 86, 3) := by decide +kernel
theorem dX6_choose_32 : decode cX6_choose 32 = .ok (.goto 5, 3) := by decide +kernel
theorem dX6_choose_35 : decode cX6_choose 35 = .ok (.ldc 95, 2) := by decide +kernel
theorem dX6_choose_37 : decode cX6_choose 37 = .ok (.ireturn, 1) := by decide +kernel
theorem dX6_turn_0 : decode cX6_turn 0 = .ok (.aload_n 0, 1) := by decide +kernel
theorem dX6_turn_1 : decode cX6_turn 1 = .ok (.iload_n 1, 1) := by decide +kernel
theorem dX6_turn_2 : decode cX6_turn 2 = .ok (.invokevirtual 91, 3) := by decide +kernel
theorem dX6_turn_5 : decode cX6_turn 5 = .ok (.ifCond .eq 16, 3) := by decide +kernel
theorem dX6_turn_8 : decode cX6_turn 8 = .ok (.aload_n 0, 1) := by decide +kernel
theorem dX6_turn_9 : decode cX6_turn 9 = .ok (.iconst 5, 1) := by decide +kernel
theorem dX6_turn_10 : decode cX6_turn 10 = .ok (.iload_n 1, 1) := by decide +kernel
theorem dX6_turn_11 : decode cX6_turn 11 = .ok (.ldc 85, 2) := by decide +kernel
theorem dX6_turn_13 : decode cX6_turn 13 = .ok (.ldc 85, 2) := by decide +kernel
theorem dX6_turn_15 : decode cX6_turn 15 = .ok (.invokevirtual 86, 3) := by decide +kernel
theorem dX6_turn_18 : decode cX6_turn 18 = .ok (.goto 5, 3) := by decide +kernel
theorem dX6_turn_21 : decode cX6_turn 21 = .ok (.ldc 95, 2) := by decide +kernel
theorem dX6_turn_23 : decode cX6_turn 23 = .ok (.ireturn, 1) := by decide +kernel
theorem dX6_delay_0 : decode cX6_delay 0 = .ok (.aload_n 0, 1) := by decide +kernel
theorem dX6_delay_1 : decode cX6_delay 1 = .ok (.iload_n 1, 1) := by decide +kernel
theorem dX6_delay_2 : decode cX6_delay 2 = .ok (.invokevirtual 91, 3) := by decide +kernel
theorem dX6_delay_5 : decode cX6_delay 5 = .ok (.ifCond .ne 6, 3) := by decide +kernel
theorem dX6_delay_8 : decode cX6_delay 8 = .ok (.ldc 95, 2) := by decide +kernel
theorem dX6_delay_10 : decode cX6_delay 10 = .ok (.ireturn, 1) := by decide +kernel
theorem dX6_delay_11 : decode cX6_delay 11 = .ok (.iload_n 2, 1) := by decide +kernel
theorem dX6_delay_12 : decode cX6_delay 12 = .ok (.i2l, 1) := by decide +kernel
theorem dX6_delay_13 : decode cX6_delay 13 = .ok (.lconst 1, 1) := by decide +kernel
theorem dX6_delay_14 : decode cX6_delay 14 = .ok (.ldc2_w 98, 3) := by decide +kernel
theorem dX6_delay_17 : decode cX6_delay 17 = .ok (.invokestatic 65, 3) := by decide +kernel
theorem dX6_delay_20 : decode cX6_delay 20 = .ok (.ifCond .eq 16, 3) := by decide +kernel
theorem dX6_delay_23 : decode cX6_delay 23 = .ok (.aload_n 0, 1) := by decide +kernel
theorem dX6_delay_24 : decode cX6_delay 24 = .ok (.bipush 6, 2) := by decide +kernel
theorem dX6_delay_26 : decode cX6_delay 26 = .ok (.iload_n 1, 1) := by decide +kernel
theorem dX6_delay_27 : decode cX6_delay 27 = .ok (.iload_n 2, 1) := by decide +kernel
theorem dX6_delay_28 : decode cX6_delay 28 = .ok (.ldc 85, 2) := by decide +kernel
theorem dX6_delay_30 : decode cX6_delay 30 = .ok (.invokevirtual 86, 3) := by decide +kernel
theorem dX6_delay_33 : decode cX6_delay 33 = .ok (.goto 5, 3) := by decide +kernel
theorem dX6_delay_36 : decode cX6_delay 36 = .ok (.ldc 90, 2) := by decide +kernel
theorem dX6_delay_38 : decode cX6_delay 38 = .ok (.ireturn, 1) := by decide +kernel
theorem dX6_reseed_0 : decode cX6_reseed 0 = .ok (.aload_n 0, 1) := by decide +kernel
theorem dX6_reseed_1 : decode cX6_reseed 1 = .ok (.iload_n 1, 1) := by decide +kernel
theorem dX6_reseed_2 : decode cX6_reseed 2 = .ok (.invokevirtual 91, 3) := by decide +kernel
theorem dX6_reseed_5 : decode cX6_reseed 5 = .ok (.ifCond .ne 6, 3) := by decide +kernel
theorem dX6_reseed_8 : decode cX6_reseed 8 = .ok (.ldc 95, 2) := by decide +kernel
theorem dX6_reseed_10 : decode cX6_reseed 10 = .ok (.ireturn, 1) := by decide +kernel
theorem dX6_reseed_11 : decode cX6_reseed 11 = .ok (.iload_n 2, 1) := by decide +kernel
theorem dX6_reseed_12 : decode cX6_reseed 12 = .ok (.i2l, 1) := by decide +kernel
theorem dX6_reseed_13 : decode cX6_reseed 13 = .ok (.lconst 0, 1) := by decide +kernel
theorem dX6_reseed_14 : decode cX6_reseed 14 = .ok (.ldc2_w 81, 3) := by decide +kernel
theorem dX6_reseed_17 : decode cX6_reseed 17 = .ok (.invokestatic 65, 3) := by decide +kernel
theorem dX6_reseed_20 : decode cX6_reseed 20 = .ok (.ifCond .eq 15, 3) := by decide +kernel
theorem dX6_reseed_23 : decode cX6_reseed 23 = .ok (.iload_n 3, 1) := by decide +kernel
theorem dX6_reseed_24 : decode cX6_reseed 24 = .ok (.i2l, 1) := by decide +kernel
theorem dX6_reseed_25 : decode cX6_reseed 25 = .ok (.lconst 1, 1) := by decide +kernel
theorem dX6_reseed_26 : decode cX6_reseed 26 = .ok (.ldc2_w 83, 3) := by decide +kernel
theorem dX6_reseed_29 : decode cX6_reseed 29 = .ok (.invokestatic 65, 3) := by decide +kernel
theorem dX6_reseed_32 : decode cX6_reseed 32 = .ok (.ifCond .ne 6, 3) := by decide +kernel
theorem dX6_reseed_35 : decode cX6_reseed 35 = .ok (.ldc 90, 2) := by decide +kernel
theorem dX6_reseed_37 : decode cX6_reseed 37 = .ok (.ireturn, 1) := by decide +kernel
theorem dX6_reseed_38 : decode cX6_reseed 38 = .ok (.aload_n 0, 1) := by decide +kernel
theorem dX6_reseed_39 : decode cX6_reseed 39 = .ok (.iload_n 1, 1) := by decide +kernel
theorem dX6_reseed_40 : decode cX6_reseed 40 = .ok (.iconst 0, 1) := by decide +kernel
theorem dX6_reseed_41 : decode cX6_reseed 41 = .ok (.invokevirtual 100, 3) := by decide +kernel
theorem dX6_reseed_44 : decode cX6_reseed 44 = .ok (.ifCond .eq 6, 3) := by decide +kernel
theorem dX6_reseed_47 : decode cX6_reseed 47 = .ok (.ldc 104, 2) := by decide +kernel
theorem dX6_reseed_49 : decode cX6_reseed 49 = .ok (.ireturn, 1) := by decide +kernel
theorem dX6_reseed_50 : decode cX6_reseed 50 = .ok (.aload_n 0, 1) := by decide +kernel
theorem dX6_reseed_51 : decode cX6_reseed 51 = .ok (.iload_n 1, 1) := by decide +kernel
theorem dX6_reseed_52 : decode cX6_reseed 52 = .ok (.iconst 1, 1) := by decide +kernel
theorem dX6_reseed_53 : decode cX6_reseed 53 = .ok (.invokevirtual 100, 3) := by decide +kernel
theorem dX6_reseed_56 : decode cX6_reseed 56 = .ok (.istore 4, 2) := by decide +kernel
theorem dX6_reseed_58 : decode cX6_reseed 58 = .ok (.iload 4, 2) := by decide +kernel
theorem dX6_reseed_60 : decode cX6_reseed 60 = .ok (.iload_n 2, 1) := by decide +kernel
theorem dX6_reseed_61 : decode cX6_reseed 61 = .ok (.if_icmp .ne 16, 3) := by decide +kernel
theorem dX6_reseed_64 : decode cX6_reseed 64 = .ok (.aload_n 0, 1) := by decide +kernel
theorem dX6_reseed_65 : decode cX6_reseed 65 = .ok (.iload_n 1, 1) := by decide +kernel
theorem dX6_reseed_66 : decode cX6_reseed 66 = .ok (.iconst 2, 1) := by decide +kernel
theorem dX6_reseed_67 : decode cX6_reseed 67 = .ok (.invokevirtual 100, 3) := by decide +kernel
theorem dX6_reseed_70 : decode cX6_reseed 70 = .ok (.iload_n 3, 1) := by decide +kernel
theorem dX6_reseed_71 : decode cX6_reseed 71 = .ok (.if_icmp .ne 6, 3) := by decide +kernel
theorem dX6_reseed_74 : decode cX6_reseed 74 = .ok (.ldc 85, 2) := by decide +kernel
theorem dX6_reseed_76 : decode cX6_reseed 76 = .ok (.ireturn, 1) := by decide +kernel
theorem dX6_reseed_77 : decode cX6_reseed 77 = .ok (.aload_n 0, 1) := by decide +kernel
theorem dX6_reseed_78 : decode cX6_reseed 78 = .ok (.invokevirtual 70, 3) := by decide +kernel
theorem dX6_reseed_81 : decode cX6_reseed 81 = .ok (.aload_n 0, 1) := by decide +kernel
theorem dX6_reseed_82 : decode cX6_reseed 82 = .ok (.getfield 7, 3) := by decide +kernel
theorem dX6_reseed_85 : decode cX6_reseed 85 = .ok (.iconst 2, 1) := by decide +kernel
theorem dX6_reseed_86 : decode cX6_reseed 86 = .ok (.iconst 4, 1) := by decide +kernel
theorem dX6_reseed_87 : decode cX6_reseed 87 = .ok (.iload_n 1, 1) := by decide +kernel
theorem dX6_reseed_88 : decode cX6_reseed 88 = .ok (.imul, 1) := by decide +kernel
theorem dX6_reseed_89 : decode cX6_reseed 89 = .ok (.iadd, 1) := by decide +kernel
theorem dX6_reseed_90 : decode cX6_reseed 90 = .ok (.iconst 1, 1) := by decide +kernel
theorem dX6_reseed_91 : decode cX6_reseed 91 = .ok (.iadd, 1) := by decide +kernel
theorem dX6_reseed_92 : decode cX6_reseed 92 = .ok (.iload_n 2, 1) := by decide +kernel
theorem dX6_reseed_93 : decode cX6_reseed 93 = .ok (.iastore, 1) := by decide +kernel
theorem dX6_reseed_94 : decode cX6_reseed 94 = .ok (.aload_n 0, 1) := by decide +kernel
theorem dX6_reseed_95 : decode cX6_reseed 95 = .ok (.getfield 7, 3) := by decide +kernel
theorem dX6_reseed_98 : decode cX6_reseed 98 = .ok (.iconst 2, 1) := by decide +kernel
theorem dX6_reseed_99 : decode cX6_reseed 99 = .ok (.iconst 4, 1) := by decide +kernel
theorem dX6_reseed_100 : decode cX6_reseed 100 = .ok (.iload_n 1, 1) := by decide +kernel
theorem dX6_reseed_101 : decode cX6_reseed 101 = .ok (.imul, 1) := by decide +kernel
theorem dX6_reseed_102 : decode cX6_reseed 102 = .ok (.iadd, 1) := by decide +kernel
theorem dX6_reseed_103 : decode cX6_reseed 103 = .ok (.iconst 2, 1) := by decide +kernel
theorem dX6_reseed_104 : decode cX6_reseed 104 = .ok (.iadd, 1) := by decide +kernel
theorem dX6_reseed_105 : decode cX6_reseed 105 = .ok (.iload_n 3, 1) := by decide +kernel
theorem dX6_reseed_106 : decode cX6_reseed 106 = .ok (.iastore, 1) := by decide +kernel
theorem dX6_reseed_107 : decode cX6_reseed 107 = .ok (.aload_n 0, 1) := by decide +kernel
theorem dX6_reseed_108 : decode cX6_reseed 108 = .ok (.iload 4, 2) := by decide +kernel
theorem dX6_reseed_110 : decode cX6_reseed 110 = .ok (.invokevirtual 77, 3) := by decide +kernel
theorem dX6_reseed_113 : decode cX6_reseed 113 = .ok (.ireturn, 1) := by decide +kernel
theorem dX6_removeLast_0 : decode cX6_removeLast 0 = .ok (.aload_n 0, 1) := by decide +kernel
theorem dX6_removeLast_1 : decode cX6_removeLast 1 = .ok (.getfield 7, 3) := by decide +kernel
theorem dX6_removeLast_4 : decode cX6_removeLast 4 = .ok (.iconst 0, 1) := by decide +kernel
theorem dX6_removeLast_5 : decode cX6_removeLast 5 = .ok (.iaload, 1) := by decide +kernel
theorem dX6_removeLast_6 : decode cX6_removeLast 6 = .ok (.ifCond .ne 6, 3) := by decide +kernel
theorem dX6_removeLast_9 : decode cX6_removeLast 9 = .ok (.ldc 85, 2) := by decide +kernel
theorem dX6_removeLast_11 : decode cX6_removeLast 11 = .ok (.ireturn, 1) := by decide +kernel
theorem dX6_removeLast_12 : decode cX6_removeLast 12 = .ok (.aload_n 0, 1) := by decide +kernel
theorem dX6_removeLast_13 : decode cX6_removeLast 13 = .ok (.invokevirtual 70, 3) := by decide +kernel
theorem dX6_removeLast_16 : decode cX6_removeLast 16 = .ok (.aload_n 0, 1) := by decide +kernel
theorem dX6_removeLast_17 : decode cX6_removeLast 17 = .ok (.getfield 7, 3) := by decide +kernel
theorem dX6_removeLast_20 : decode cX6_removeLast 20 = .ok (.iconst 0, 1) := by decide +kernel
theorem dX6_removeLast_21 : decode cX6_removeLast 21 = .ok (.dup2, 1) := by decide +kernel
theorem dX6_removeLast_22 : decode cX6_removeLast 22 = .ok (.iaload, 1) := by decide +kernel
theorem dX6_removeLast_23 : decode cX6_removeLast 23 = .ok (.iconst 1, 1) := by decide +kernel
theorem dX6_removeLast_24 : decode cX6_removeLast 24 = .ok (.isub, 1) := by decide +kernel
theorem dX6_removeLast_25 : decode cX6_removeLast 25 = .ok (.iastore, 1) := by decide +kernel
theorem dX6_removeLast_26 : decode cX6_removeLast 26 = .ok (.aload_n 0, 1) := by decide +kernel
theorem dX6_removeLast_27 : decode cX6_removeLast 27 = .ok (.aload_n 0, 1) := by decide +kernel
theorem dX6_removeLast_28 : decode cX6_removeLast 28 = .ok (.getfield 7, 3) := by decide +kernel
theorem dX6_removeLast_31 : decode cX6_removeLast 31 = .ok (.iconst 0, 1) := by decide +kernel
theorem dX6_removeLast_32 : decode cX6_removeLast 32 = .ok (.iaload, 1) := by decide +kernel
theorem dX6_removeLast_33 : decode cX6_removeLast 33 = .ok (.invokevirtual 77, 3) := by decide +kernel
theorem dX6_removeLast_36 : decode cX6_removeLast 36 = .ok (.ireturn, 1) := by decide +kernel
theorem dX6_setLength_0 : decode cX6_setLength 0 = .ok (.iload_n 1, 1) := by decide +kernel
theorem dX6_setLength_1 : decode cX6_setLength 1 = .ok (.i2l, 1) := by decide +kernel
theorem dX6_setLength_2 : decode cX6_setLength 2 = .ok (.lconst 1, 1) := by decide +kernel
theorem dX6_setLength_3 : decode cX6_setLength 3 = .ok (.ldc2_w 105, 3) := by decide +kernel
theorem dX6_setLength_6 : decode cX6_setLength 6 = .ok (.invokestatic 65, 3) := by decide +kernel
theorem dX6_setLength_9 : decode cX6_setLength 9 = .ok (.ifCond .ne 6, 3) := by decide +kernel
theorem dX6_setLength_12 : decode cX6_setLength 12 = .ok (.ldc 90, 2) := by decide +kernel
theorem dX6_setLength_14 : decode cX6_setLength 14 = .ok (.ireturn, 1) := by decide +kernel
theorem dX6_setLength_15 : decode cX6_setLength 15 = .ok (.aload_n 0, 1) := by decide +kernel
theorem dX6_setLength_16 : decode cX6_setLength 16 = .ok (.getfield 7, 3) := by decide +kernel
theorem dX6_setLength_19 : decode cX6_setLength 19 = .ok (.iconst 1, 1) := by decide +kernel
theorem dX6_setLength_20 : decode cX6_setLength 20 = .ok (.iaload, 1) := by decide +kernel
theorem dX6_setLength_21 : decode cX6_setLength 21 = .ok (.istore_n 2, 1) := by decide +kernel
theorem dX6_setLength_22 : decode cX6_setLength 22 = .ok (.iload_n 2, 1) := by decide +kernel
theorem dX6_setLength_23 : decode cX6_setLength 23 = .ok (.iload_n 1, 1) := by decide +kernel
theorem dX6_setLength_24 : decode cX6_setLength 24 = .ok (.if_icmp .ne 6, 3) := by decide +kernel
theorem dX6_setLength_27 : decode cX6_setLength 27 = .ok (.ldc 85, 2) := by decide +kernel
theorem dX6_setLength_29 : decode cX6_setLength 29 = .ok (.ireturn, 1) := by decide +kernel
theorem dX6_setLength_30 : decode cX6_setLength 30 = .ok (.aload_n 0, 1) := by decide +kernel
theorem dX6_setLength_31 : decode cX6_setLength 31 = .ok (.invokevirtual 70, 3) := by decide +kernel
theorem dX6_setLength_34 : decode cX6_setLength 34 = .ok (.aload_n 0, 1) := by decide +kernel
theorem dX6_setLength_35 : decode cX6_setLength 35 = .ok (.getfield 7, 3) := by decide +kernel
theorem dX6_setLength_38 : decode cX6_setLength 38 = .ok (.iconst 1, 1) := by decide +kernel
theorem dX6_setLength_39 : decode cX6_setLength 39 = .ok (.iload_n 1, 1) := by decide +kernel
theorem dX6_setLength_40 : decode cX6_setLength 40 = .ok (.iastore, 1) := by decide +kernel
theorem dX6_setLength_41 : decode cX6_setLength 41 = .ok (.aload_n 0, 1) := by decide +kernel
theorem dX6_setLength_42 : decode cX6_setLength 42 = .ok (.iload_n 2, 1) := by decide +kernel
theorem dX6_setLength_43 : decode cX6_setLength 43 = .ok (.invokevirtual 77, 3) := by decide +kernel
theorem dX6_setLength_46 : decode cX6_setLength 46 = .ok (.ireturn, 1) := by decide +kernel
theorem dX6_bitAt_0 : decode cX6_bitAt 0 = .ok (.aload_n 0, 1) := by decide +kernel
theorem dX6_bitAt_1 : decode cX6_bitAt 1 = .ok (.getfield 26, 3) := by decide +kernel
theorem dX6_bitAt_4 : decode cX6_bitAt 4 = .ok (.sipush 1000, 3) := by decide +kernel
theorem dX6_bitAt_7 : decode cX6_bitAt 7 = .ok (.iload_n 1, 1) := by decide +kernel
theorem dX6_bitAt_8 : decode cX6_bitAt 8 = .ok (.imul, 1) := by decide +kernel
theorem dX6_bitAt_9 : decode cX6_bitAt 9 = .ok (.iload_n 2, 1) := by decide +kernel
theorem dX6_bitAt_10 : decode cX6_bitAt 10 = .ok (.iadd, 1) := by decide +kernel
theorem dX6_bitAt_11 : decode cX6_bitAt 11 = .ok (.iaload, 1) := by decide +kernel
theorem dX6_bitAt_12 : decode cX6_bitAt 12 = .ok (.ireturn, 1) := by decide +kernel
theorem dX6_goesOn_0 : decode cX6_goesOn 0 = .ok (.iconst 2, 1) := by decide +kernel
theorem dX6_goesOn_1 : decode cX6_goesOn 1 = .ok (.iload_n 0, 1) := by decide +kernel
theorem dX6_goesOn_2 : decode cX6_goesOn 2 = .ok (.imul, 1) := by decide +kernel
theorem dX6_goesOn_3 : decode cX6_goesOn 3 = .ok (.istore_n 1, 1) := by decide +kernel
theorem dX6_goesOn_4 : decode cX6_goesOn 4 = .ok (.iload_n 1, 1) := by decide +kernel
theorem dX6_goesOn_5 : decode cX6_goesOn 5 = .ok (.sipush 255, 3) := by decide +kernel
theorem dX6_goesOn_8 : decode cX6_goesOn 8 = .ok (.if_icmp .le 14, 3) := by decide +kernel
theorem dX6_goesOn_11 : decode cX6_goesOn 11 = .ok (.iload_n 1, 1) := by decide +kernel
theorem dX6_goesOn_12 : decode cX6_goesOn 12 = .ok (.sipush 256, 3) := by decide +kernel
theorem dX6_goesOn_15 : decode cX6_goesOn 15 = .ok (.isub, 1) := by decide +kernel
theorem dX6_goesOn_16 : decode cX6_goesOn 16 = .ok (.bipush 29, 2) := by decide +kernel
theorem dX6_goesOn_18 : decode cX6_goesOn 18 = .ok (.ixor, 1) := by decide +kernel
theorem dX6_goesOn_19 : decode cX6_goesOn 19 = .ok (.goto 4, 3) := by decide +kernel
theorem dX6_goesOn_22 : decode cX6_goesOn 22 = .ok (.iload_n 1, 1) := by decide +kernel
theorem dX6_goesOn_23 : decode cX6_goesOn 23 = .ok (.ireturn, 1) := by decide +kernel
theorem dX6_bitOf_0 : decode cX6_bitOf 0 = .ok (.aload_n 0, 1) := by decide +kernel
theorem dX6_bitOf_1 : decode cX6_bitOf 1 = .ok (.iload_n 1, 1) := by decide +kernel
theorem dX6_bitOf_2 : decode cX6_bitOf 2 = .ok (.iconst 1, 1) := by decide +kernel
theorem dX6_bitOf_3 : decode cX6_bitOf 3 = .ok (.invokevirtual 100, 3) := by decide +kernel
theorem dX6_bitOf_6 : decode cX6_bitOf 6 = .ok (.istore_n 3, 1) := by decide +kernel
theorem dX6_bitOf_7 : decode cX6_bitOf 7 = .ok (.aload_n 0, 1) := by decide +kernel
theorem dX6_bitOf_8 : decode cX6_bitOf 8 = .ok (.iload_n 1, 1) := by decide +kernel
theorem dX6_bitOf_9 : decode cX6_bitOf 9 = .ok (.iconst 2, 1) := by decide +kernel
theorem dX6_bitOf_10 : decode cX6_bitOf 10 = .ok (.invokevirtual 100, 3) := by decide +kernel
theorem dX6_bitOf_13 : decode cX6_bitOf 13 = .ok (.istore 4, 2) := by decide +kernel
theorem dX6_bitOf_15 : decode cX6_bitOf 15 = .ok (.aload_n 0, 1) := by decide +kernel
theorem dX6_bitOf_16 : decode cX6_bitOf 16 = .ok (.iload_n 1, 1) := by decide +kernel
theorem dX6_bitOf_17 : decode cX6_bitOf 17 = .ok (.iconst 0, 1) := by decide +kernel
theorem dX6_bitOf_18 : decode cX6_bitOf 18 = .ok (.invokevirtual 100, 3) := by decide +kernel
theorem dX6_bitOf_21 : decode cX6_bitOf 21 = .ok (.tableswitch 136 0 5 #[39, 55, 70, 85, 100, 127], 39) := by decide +kernel
theorem dX6_bitOf_60 : decode cX6_bitOf 60 = .ok (.aload_n 0, 1) := by decide +kernel
theorem dX6_bitOf_61 : decode cX6_bitOf 61 = .ok (.getfield 29, 3) := by decide +kernel
theorem dX6_bitOf_64 : decode cX6_bitOf 64 = .ok (.iload_n 1, 1) := by decide +kernel
theorem dX6_bitOf_65 : decode cX6_bitOf 65 = .ok (.iaload, 1) := by decide +kernel
theorem dX6_bitOf_66 : decode cX6_bitOf 66 = .ok (.iload_n 3, 1) := by decide +kernel
theorem dX6_bitOf_67 : decode cX6_bitOf 67 = .ok (.if_icmp .gt 7, 3) := by decide +kernel
theorem dX6_bitOf_70 : decode cX6_bitOf 70 = .ok (.iconst 1, 1) := by decide +kernel
theorem dX6_bitOf_71 : decode cX6_bitOf 71 = .ok (.goto 4, 3) := by decide +kernel
theorem dX6_bitOf_74 : decode cX6_bitOf 74 = .ok (.iconst 0, 1) := by decide +kernel
theorem dX6_bitOf_75 : decode cX6_bitOf 75 = .ok (.ireturn, 1) := by decide +kernel
theorem dX6_bitOf_76 : decode cX6_bitOf 76 = .ok (.aload_n 0, 1) := by decide +kernel
theorem dX6_bitOf_77 : decode cX6_bitOf 77 = .ok (.iload_n 3, 1) := by decide +kernel
theorem dX6_bitOf_78 : decode cX6_bitOf 78 = .ok (.iload_n 2, 1) := by decide +kernel
theorem dX6_bitOf_79 : decode cX6_bitOf 79 = .ok (.invokevirtual 107, 3) := by decide +kernel
theorem dX6_bitOf_82 : decode cX6_bitOf 82 = .ok (.aload_n 0, 1) := by decide +kernel
theorem dX6_bitOf_83 : decode cX6_bitOf 83 = .ok (.iload 4, 2) := by decide +kernel
theorem dX6_bitOf_85 : decode cX6_bitOf 85 = .ok (.iload_n 2, 1) := by decide +kernel
theorem dX6_bitOf_86 : decode cX6_bitOf 86 = .ok (.invokevirtual 107, 3) := by decide +kernel
theorem dX6_bitOf_89 : decode cX6_bitOf 89 = .ok (.iand, 1) := by decide +kernel
theorem dX6_bitOf_90 : decode cX6_bitOf 90 = .ok (.ireturn, 1) := by decide +kernel
theorem dX6_bitOf_91 : decode cX6_bitOf 91 = .ok (.aload_n 0, 1) := by decide +kernel
theorem dX6_bitOf_92 : decode cX6_bitOf 92 = .ok (.iload_n 3, 1) := by decide +kernel
theorem dX6_bitOf_93 : decode cX6_bitOf 93 = .ok (.iload_n 2, 1) := by decide +kernel
theorem dX6_bitOf_94 : decode cX6_bitOf 94 = .ok (.invokevirtual 107, 3) := by decide +kernel
theorem dX6_bitOf_97 : decode cX6_bitOf 97 = .ok (.aload_n 0, 1) := by decide +kernel
theorem dX6_bitOf_98 : decode cX6_bitOf 98 = .ok (.iload 4, 2) := by decide +kernel
theorem dX6_bitOf_100 : decode cX6_bitOf 100 = .ok (.iload_n 2, 1) := by decide +kernel
theorem dX6_bitOf_101 : decode cX6_bitOf 101 = .ok (.invokevirtual 107, 3) := by decide +kernel
theorem dX6_bitOf_104 : decode cX6_bitOf 104 = .ok (.ior, 1) := by decide +kernel
theorem dX6_bitOf_105 : decode cX6_bitOf 105 = .ok (.ireturn, 1) := by decide +kernel
theorem dX6_bitOf_106 : decode cX6_bitOf 106 = .ok (.aload_n 0, 1) := by decide +kernel
theorem dX6_bitOf_107 : decode cX6_bitOf 107 = .ok (.iload_n 3, 1) := by decide +kernel
theorem dX6_bitOf_108 : decode cX6_bitOf 108 = .ok (.iload_n 2, 1) := by decide +kernel
theorem dX6_bitOf_109 : decode cX6_bitOf 109 = .ok (.invokevirtual 107, 3) := by decide +kernel
theorem dX6_bitOf_112 : decode cX6_bitOf 112 = .ok (.aload_n 0, 1) := by decide +kernel
theorem dX6_bitOf_113 : decode cX6_bitOf 113 = .ok (.iload 4, 2) := by decide +kernel
theorem dX6_bitOf_115 : decode cX6_bitOf 115 = .ok (.iload_n 2, 1) := by decide +kernel
theorem dX6_bitOf_116 : decode cX6_bitOf 116 = .ok (.invokevirtual 107, 3) := by decide +kernel
theorem dX6_bitOf_119 : decode cX6_bitOf 119 = .ok (.ixor, 1) := by decide +kernel
theorem dX6_bitOf_120 : decode cX6_bitOf 120 = .ok (.ireturn, 1) := by decide +kernel
theorem dX6_bitOf_121 : decode cX6_bitOf 121 = .ok (.aload_n 0, 1) := by decide +kernel
theorem dX6_bitOf_122 : decode cX6_bitOf 122 = .ok (.aload_n 0, 1) := by decide +kernel
theorem dX6_bitOf_123 : decode cX6_bitOf 123 = .ok (.aload_n 0, 1) := by decide +kernel
theorem dX6_bitOf_124 : decode cX6_bitOf 124 = .ok (.iload_n 1, 1) := by decide +kernel
theorem dX6_bitOf_125 : decode cX6_bitOf 125 = .ok (.iconst 3, 1) := by decide +kernel
theorem dX6_bitOf_126 : decode cX6_bitOf 126 = .ok (.invokevirtual 100, 3) := by decide +kernel
theorem dX6_bitOf_129 : decode cX6_bitOf 129 = .ok (.iload_n 2, 1) := by decide +kernel
theorem dX6_bitOf_130 : decode cX6_bitOf 130 = .ok (.invokevirtual 107, 3) := by decide +kernel
theorem dX6_bitOf_133 : decode cX6_bitOf 133 = .ok (.iconst 1, 1) := by decide +kernel
theorem dX6_bitOf_134 : decode cX6_bitOf 134 = .ok (.if_icmp .ne 7, 3) := by decide +kernel
theorem dX6_bitOf_137 : decode cX6_bitOf 137 = .ok (.iload_n 3, 1) := by decide +kernel
theorem dX6_bitOf_138 : decode cX6_bitOf 138 = .ok (.goto 5, 3) := by decide +kernel
theorem dX6_bitOf_141 : decode cX6_bitOf 141 = .ok (.iload 4, 2) := by decide +kernel
theorem dX6_bitOf_143 : decode cX6_bitOf 143 = .ok (.iload_n 2, 1) := by decide +kernel
theorem dX6_bitOf_144 : decode cX6_bitOf 144 = .ok (.invokevirtual 107, 3) := by decide +kernel
theorem dX6_bitOf_147 : decode cX6_bitOf 147 = .ok (.ireturn, 1) := by decide +kernel
theorem dX6_bitOf_148 : decode cX6_bitOf 148 = .ok (.iconst 1, 1) := by decide +kernel
theorem dX6_bitOf_149 : decode cX6_bitOf 149 = .ok (.aload_n 0, 1) := by decide +kernel
theorem dX6_bitOf_150 : decode cX6_bitOf 150 = .ok (.iload_n 3, 1) := by decide +kernel
theorem dX6_bitOf_151 : decode cX6_bitOf 151 = .ok (.iload_n 2, 1) := by decide +kernel
theorem dX6_bitOf_152 : decode cX6_bitOf 152 = .ok (.invokevirtual 107, 3) := by decide +kernel
theorem dX6_bitOf_155 : decode cX6_bitOf 155 = .ok (.isub, 1) := by decide +kernel
theorem dX6_bitOf_156 : decode cX6_bitOf 156 = .ok (.ireturn, 1) := by decide +kernel
theorem dX6_bitOf_157 : decode cX6_bitOf 157 = .ok (.iload_n 2, 1) := by decide +kernel
theorem dX6_bitOf_158 : decode cX6_bitOf 158 = .ok (.iload 4, 2) := by decide +kernel
theorem dX6_bitOf_160 : decode cX6_bitOf 160 = .ok (.if_icmp .ge 7, 3) := by decide +kernel
theorem dX6_bitOf_163 : decode cX6_bitOf 163 = .ok (.iconst 0, 1) := by decide +kernel
theorem dX6_bitOf_164 : decode cX6_bitOf 164 = .ok (.goto 12, 3) := by decide +kernel
theorem dX6_bitOf_167 : decode cX6_bitOf 167 = .ok (.aload_n 0, 1) := by decide +kernel
theorem dX6_bitOf_168 : decode cX6_bitOf 168 = .ok (.iload_n 3, 1) := by decide +kernel
theorem dX6_bitOf_169 : decode cX6_bitOf 169 = .ok (.iload_n 2, 1) := by decide +kernel
theorem dX6_bitOf_170 : decode cX6_bitOf 170 = .ok (.iload 4, 2) := by decide +kernel
theorem dX6_bitOf_172 : decode cX6_bitOf 172 = .ok (.isub, 1) := by decide +kernel
theorem dX6_bitOf_173 : decode cX6_bitOf 173 = .ok (.invokevirtual 107, 3) := by decide +kernel
theorem dX6_bitOf_176 : decode cX6_bitOf 176 = .ok (.ireturn, 1) := by decide +kernel
theorem dX6_lays_0 : decode cX6_lays 0 = .ok (.iconst 0, 1) := by decide +kernel
theorem dX6_lays_1 : decode cX6_lays 1 = .ok (.istore_n 3, 1) := by decide +kernel
theorem dX6_lays_2 : decode cX6_lays 2 = .ok (.iload_n 3, 1) := by decide +kernel
theorem dX6_lays_3 : decode cX6_lays 3 = .ok (.iload_n 1, 1) := by decide +kernel
theorem dX6_lays_4 : decode cX6_lays 4 = .ok (.if_icmp .gt 84, 3) := by decide +kernel
theorem dX6_lays_7 : decode cX6_lays 7 = .ok (.aload_n 0, 1) := by decide +kernel
theorem dX6_lays_8 : decode cX6_lays 8 = .ok (.getfield 29, 3) := by decide +kernel
theorem dX6_lays_11 : decode cX6_lays 11 = .ok (.iload_n 3, 1) := by decide +kernel
theorem dX6_lays_12 : decode cX6_lays 12 = .ok (.aload_n 0, 1) := by decide +kernel
theorem dX6_lays_13 : decode cX6_lays 13 = .ok (.iload_n 3, 1) := by decide +kernel
theorem dX6_lays_14 : decode cX6_lays 14 = .ok (.iconst 2, 1) := by decide +kernel
theorem dX6_lays_15 : decode cX6_lays 15 = .ok (.invokevirtual 100, 3) := by decide +kernel
theorem dX6_lays_18 : decode cX6_lays 18 = .ok (.iastore, 1) := by decide +kernel
theorem dX6_lays_19 : decode cX6_lays 19 = .ok (.iconst 0, 1) := by decide +kernel
theorem dX6_lays_20 : decode cX6_lays 20 = .ok (.istore 4, 2) := by decide +kernel
theorem dX6_lays_22 : decode cX6_lays 22 = .ok (.iload 4, 2) := by decide +kernel
theorem dX6_lays_24 : decode cX6_lays 24 = .ok (.iload_n 2, 1) := by decide +kernel
theorem dX6_lays_25 : decode cX6_lays 25 = .ok (.if_icmp .ge 57, 3) := by decide +kernel
theorem dX6_lays_28 : decode cX6_lays 28 = .ok (.aload_n 0, 1) := by decide +kernel
theorem dX6_lays_29 : decode cX6_lays 29 = .ok (.getfield 26, 3) := by decide +kernel
theorem dX6_lays_32 : decode cX6_lays 32 = .ok (.sipush 1000, 3) := by decide +kernel
theorem dX6_lays_35 : decode cX6_lays 35 = .ok (.iload_n 3, 1) := by decide +kernel
theorem dX6_lays_36 : decode cX6_lays 36 = .ok (.imul, 1) := by decide +kernel
theorem dX6_lays_37 : decode cX6_lays 37 = .ok (.iload 4, 2) := by decide +kernel
theorem dX6_lays_39 : decode cX6_lays 39 = .ok (.iadd, 1) := by decide +kernel
theorem dX6_lays_40 : decode cX6_lays 40 = .ok (.aload_n 0, 1) := by decide +kernel
theorem dX6_lays_41 : decode cX6_lays 41 = .ok (.iload_n 3, 1) := by decide +kernel
theorem dX6_lays_42 : decode cX6_lays 42 = .ok (.iload 4, 2) := by decide +kernel
theorem dX6_lays_44 : decode cX6_lays 44 = .ok (.invokevirtual 110, 3) := by decide +kernel
theorem dX6_lays_47 : decode cX6_lays 47 = .ok (.iastore, 1) := by decide +kernel
theorem dX6_lays_48 : decode cX6_lays 48 = .ok (.aload_n 0, 1) := by decide +kernel
theorem dX6_lays_49 : decode cX6_lays 49 = .ok (.getfield 29, 3) := by decide +kernel
theorem dX6_lays_52 : decode cX6_lays 52 = .ok (.iload_n 3, 1) := by decide +kernel
theorem dX6_lays_53 : decode cX6_lays 53 = .ok (.aload_n 0, 1) := by decide +kernel
theorem dX6_lays_54 : decode cX6_lays 54 = .ok (.iload_n 3, 1) := by decide +kernel
theorem dX6_lays_55 : decode cX6_lays 55 = .ok (.iconst 0, 1) := by decide +kernel
theorem dX6_lays_56 : decode cX6_lays 56 = .ok (.invokevirtual 100, 3) := by decide +kernel
theorem dX6_lays_59 : decode cX6_lays 59 = .ok (.ifCond .ne 15, 3) := by decide +kernel
theorem dX6_lays_62 : decode cX6_lays 62 = .ok (.aload_n 0, 1) := by decide +kernel
theorem dX6_lays_63 : decode cX6_lays 63 = .ok (.getfield 29, 3) := by decide +kernel
theorem dX6_lays_66 : decode cX6_lays 66 = .ok (.iload_n 3, 1) := by decide +kernel
theorem dX6_lays_67 : decode cX6_lays 67 = .ok (.iaload, 1) := by decide +kernel
theorem dX6_lays_68 : decode cX6_lays 68 = .ok (.invokestatic 113, 3) := by decide +kernel
theorem dX6_lays_71 : decode cX6_lays 71 = .ok (.goto 4, 3) := by decide +kernel
theorem dX6_lays_74 : decode cX6_lays 74 = .ok (.iconst 0, 1) := by decide +kernel
theorem dX6_lays_75 : decode cX6_lays 75 = .ok (.iastore, 1) := by decide +kernel
theorem dX6_lays_76 : decode cX6_lays 76 = .ok (.iinc 4 1, 3) := by decide +kernel
theorem dX6_lays_79 : decode cX6_lays 79 = .ok (.goto (-57), 3) := by decide +kernel
theorem dX6_lays_82 : decode cX6_lays 82 = .ok (.iinc 3 1, 3) := by decide +kernel
theorem dX6_lays_85 : decode cX6_lays 85 = .ok (.goto (-83), 3) := by decide +kernel
theorem dX6_lays_88 : decode cX6_lays 88 = .ok (.return_, 1) := by decide +kernel
theorem dX6_countOf_0 : decode cX6_countOf 0 = .ok (.iconst 0, 1) := by decide +kernel
theorem dX6_countOf_1 : decode cX6_countOf 1 = .ok (.istore_n 3, 1) := by decide +kernel
theorem dX6_countOf_2 : decode cX6_countOf 2 = .ok (.iconst 0, 1) := by decide +kernel
theorem dX6_countOf_3 : decode cX6_countOf 3 = .ok (.istore 4, 2) := by decide +kernel
theorem dX6_countOf_5 : decode cX6_countOf 5 = .ok (.iload 4, 2) := by decide +kernel
theorem dX6_countOf_7 : decode cX6_countOf 7 = .ok (.iload_n 2, 1) := by decide +kernel
theorem dX6_countOf_8 : decode cX6_countOf 8 = .ok (.if_icmp .ge 19, 3) := by decide +kernel
theorem dX6_countOf_11 : decode cX6_countOf 11 = .ok (.iload_n 3, 1) := by decide +kernel
theorem dX6_countOf_12 : decode cX6_countOf 12 = .ok (.aload_n 0, 1) := by decide +kernel
theorem dX6_countOf_13 : decode cX6_countOf 13 = .ok (.iload_n 1, 1) := by decide +kernel
theorem dX6_countOf_14 : decode cX6_countOf 14 = .ok (.iload 4, 2) := by decide +kernel
theorem dX6_countOf_16 : decode cX6_countOf 16 = .ok (.invokevirtual 107, 3) := by decide +kernel
theorem dX6_countOf_19 : decode cX6_countOf 19 = .ok (.iadd, 1) := by decide +kernel
theorem dX6_countOf_20 : decode cX6_countOf 20 = .ok (.istore_n 3, 1) := by decide +kernel
theorem dX6_countOf_21 : decode cX6_countOf 21 = .ok (.iinc 4 1, 3) := by decide +kernel
theorem dX6_countOf_24 : decode cX6_countOf 24 = .ok (.goto (-19), 3) := by decide +kernel
theorem dX6_countOf_27 : decode cX6_countOf 27 = .ok (.iload_n 3, 1) := by decide +kernel
theorem dX6_countOf_28 : decode cX6_countOf 28 = .ok (.ireturn, 1) := by decide +kernel
theorem dX6_findsExact_0 : decode cX6_findsExact 0 = .ok (.iconst 0, 1) := by decide +kernel
theorem dX6_findsExact_1 : decode cX6_findsExact 1 = .ok (.istore_n 2, 1) := by decide +kernel
theorem dX6_findsExact_2 : decode cX6_findsExact 2 = .ok (.iload_n 2, 1) := by decide +kernel
theorem dX6_findsExact_3 : decode cX6_findsExact 3 = .ok (.iload_n 1, 1) := by decide +kernel
theorem dX6_findsExact_4 : decode cX6_findsExact 4 = .ok (.if_icmp .gt 224, 3) := by decide +kernel
theorem dX6_findsExact_7 : decode cX6_findsExact 7 = .ok (.aload_n 0, 1) := by decide +kernel
theorem dX6_findsExact_8 : decode cX6_findsExact 8 = .ok (.iload_n 2, 1) := by decide +kernel
theorem dX6_findsExact_9 : decode cX6_findsExact 9 = .ok (.iconst 0, 1) := by decide +kernel
theorem dX6_findsExact_10 : decode cX6_findsExact 10 = .ok (.invokevirtual 100, 3) := by decide +kernel
theorem dX6_findsExact_13 : decode cX6_findsExact 13 = .ok (.istore_n 3, 1) := by decide +kernel
theorem dX6_findsExact_14 : decode cX6_findsExact 14 = .ok (.iload_n 3, 1) := by decide +kernel
theorem dX6_findsExact_15 : decode cX6_findsExact 15 = .ok (.ifCond .ne 7, 3) := by decide +kernel
theorem dX6_findsExact_18 : decode cX6_findsExact 18 = .ok (.lconst 0, 1) := by decide +kernel
theorem dX6_findsExact_19 : decode cX6_findsExact 19 = .ok (.goto 15, 3) := by decide +kernel
theorem dX6_findsExact_22 : decode cX6_findsExact 22 = .ok (.aload_n 0, 1) := by decide +kernel
theorem dX6_findsExact_23 : decode cX6_findsExact 23 = .ok (.getfield 32, 3) := by decide +kernel
theorem dX6_findsExact_26 : decode cX6_findsExact 26 = .ok (.aload_n 0, 1) := by decide +kernel
theorem dX6_findsExact_27 : decode cX6_findsExact 27 = .ok (.iload_n 2, 1) := by decide +kernel
theorem dX6_findsExact_28 : decode cX6_findsExact 28 = .ok (.iconst 1, 1) := by decide +kernel
theorem dX6_findsExact_29 : decode cX6_findsExact 29 = .ok (.invokevirtual 100, 3) := by decide +kernel
theorem dX6_findsExact_32 : decode cX6_findsExact 32 = .ok (.iaload, 1) := by decide +kernel
theorem dX6_findsExact_33 : decode cX6_findsExact 33 = .ok (.i2l, 1) := by decide +kernel
theorem dX6_findsExact_34 : decode cX6_findsExact 34 = .ok (.lstore 4, 2) := by decide +kernel
theorem dX6_findsExact_36 : decode cX6_findsExact 36 = .ok (.iload_n 3, 1) := by decide +kernel
theorem dX6_findsExact_37 : decode cX6_findsExact 37 = .ok (.i2l, 1) := by decide +kernel
theorem dX6_findsExact_38 : decode cX6_findsExact 38 = .ok (.lconst 1, 1) := by decide +kernel
theorem dX6_findsExact_39 : decode cX6_findsExact 39 = .ok (.ldc2_w 116, 3) := by decide +kernel
theorem dX6_findsExact_42 : decode cX6_findsExact 42 = .ok (.invokestatic 65, 3) := by decide +kernel
theorem dX6_findsExact_45 : decode cX6_findsExact 45 = .ok (.ifCond .eq 18, 3) := by decide +kernel
theorem dX6_findsExact_48 : decode cX6_findsExact 48 = .ok (.aload_n 0, 1) := by decide +kernel
theorem dX6_findsExact_49 : decode cX6_findsExact 49 = .ok (.getfield 32, 3) := by decide +kernel
theorem dX6_findsExact_52 : decode cX6_findsExact 52 = .ok (.aload_n 0, 1) := by decide +kernel
theorem dX6_findsExact_53 : decode cX6_findsExact 53 = .ok (.iload_n 2, 1) := by decide +kernel
theorem dX6_findsExact_54 : decode cX6_findsExact 54 = .ok (.iconst 2, 1) := by decide +kernel
theorem dX6_findsExact_55 : decode cX6_findsExact 55 = .ok (.invokevirtual 100, 3) := by decide +kernel
theorem dX6_findsExact_58 : decode cX6_findsExact 58 = .ok (.iaload, 1) := by decide +kernel
theorem dX6_findsExact_59 : decode cX6_findsExact 59 = .ok (.i2l, 1) := by decide +kernel
theorem dX6_findsExact_60 : decode cX6_findsExact 60 = .ok (.goto 4, 3) := by decide +kernel
theorem dX6_findsExact_63 : decode cX6_findsExact 63 = .ok (.lconst 0, 1) := by decide +kernel
theorem dX6_findsExact_64 : decode cX6_findsExact 64 = .ok (.lstore 6, 2) := by decide +kernel
theorem dX6_findsExact_66 : decode cX6_findsExact 66 = .ok (.lload 4, 2) := by decide +kernel
theorem dX6_findsExact_68 : decode cX6_findsExact 68 = .ok (.lload 6, 2) := by decide +kernel
theorem dX6_findsExact_70 : decode cX6_findsExact 70 = .ok (.lmul, 1) := by decide +kernel
theorem dX6_findsExact_71 : decode cX6_findsExact 71 = .ok (.ldc2_w 118, 3) := by decide +kernel
theorem dX6_findsExact_74 : decode cX6_findsExact 74 = .ok (.ldiv, 1) := by decide +kernel
theorem dX6_findsExact_75 : decode cX6_findsExact 75 = .ok (.lstore 8, 2) := by decide +kernel
theorem dX6_findsExact_77 : decode cX6_findsExact 77 = .ok (.iload_n 3, 1) := by decide +kernel
theorem dX6_findsExact_78 : decode cX6_findsExact 78 = .ok (.iconst 4, 1) := by decide +kernel
theorem dX6_findsExact_79 : decode cX6_findsExact 79 = .ok (.if_icmp .ne 18, 3) := by decide +kernel
theorem dX6_findsExact_82 : decode cX6_findsExact 82 = .ok (.aload_n 0, 1) := by decide +kernel
theorem dX6_findsExact_83 : decode cX6_findsExact 83 = .ok (.getfield 32, 3) := by decide +kernel
theorem dX6_findsExact_86 : decode cX6_findsExact 86 = .ok (.aload_n 0, 1) := by decide +kernel
theorem dX6_findsExact_87 : decode cX6_findsExact 87 = .ok (.iload_n 2, 1) := by decide +kernel
theorem dX6_findsExact_88 : decode cX6_findsExact 88 = .ok (.iconst 3, 1) := by decide +kernel
theorem dX6_findsExact_89 : decode cX6_findsExact 89 = .ok (.invokevirtual 100, 3) := by decide +kernel
theorem dX6_findsExact_92 : decode cX6_findsExact 92 = .ok (.iaload, 1) := by decide +kernel
theorem dX6_findsExact_93 : decode cX6_findsExact 93 = .ok (.i2l, 1) := by decide +kernel
theorem dX6_findsExact_94 : decode cX6_findsExact 94 = .ok (.goto 4, 3) := by decide +kernel
theorem dX6_findsExact_97 : decode cX6_findsExact 97 = .ok (.lconst 0, 1) := by decide +kernel
theorem dX6_findsExact_98 : decode cX6_findsExact 98 = .ok (.lstore 10, 2) := by decide +kernel
theorem dX6_findsExact_100 : decode cX6_findsExact 100 = .ok (.iload_n 3, 1) := by decide +kernel
theorem dX6_findsExact_101 : decode cX6_findsExact 101 = .ok (.iconst 1, 1) := by decide +kernel
theorem dX6_findsExact_102 : decode cX6_findsExact 102 = .ok (.if_icmp .ne 8, 3) := by decide +kernel
theorem dX6_findsExact_105 : decode cX6_findsExact 105 = .ok (.lload 8, 2) := by decide +kernel
theorem dX6_findsExact_107 : decode cX6_findsExact 107 = .ok (.goto 55, 3) := by decide +kernel
theorem dX6_findsExact_110 : decode cX6_findsExact 110 = .ok (.iload_n 3, 1) := by decide +kernel
theorem dX6_findsExact_111 : decode cX6_findsExact 111 = .ok (.iconst 2, 1) := by decide +kernel
theorem dX6_findsExact_112 : decode cX6_findsExact 112 = .ok (.if_icmp .ne 14, 3) := by decide +kernel
theorem dX6_findsExact_115 : decode cX6_findsExact 115 = .ok (.lload 4, 2) := by decide +kernel
theorem dX6_findsExact_117 : decode cX6_findsExact 117 = .ok (.lload 6, 2) := by decide +kernel
theorem dX6_findsExact_119 : decode cX6_findsExact 119 = .ok (.ladd, 1) := by decide +kernel
theorem dX6_findsExact_120 : decode cX6_findsExact 120 = .ok (.lload 8, 2) := by decide +kernel
theorem dX6_findsExact_122 : decode cX6_findsExact 122 = .ok (.lsub, 1) := by decide +kernel
theorem dX6_findsExact_123 : decode cX6_findsExact 123 = .ok (.goto 39, 3) := by decide +kernel
theorem dX6_findsExact_126 : decode cX6_findsExact 126 = .ok (.iload_n 3, 1) := by decide +kernel
theorem dX6_findsExact_127 : decode cX6_findsExact 127 = .ok (.iconst 3, 1) := by decide +kernel
theorem dX6_findsExact_128 : decode cX6_findsExact 128 = .ok (.if_icmp .ne 18, 3) := by decide +kernel
theorem dX6_findsExact_131 : decode cX6_findsExact 131 = .ok (.lload 4, 2) := by decide +kernel
theorem dX6_findsExact_133 : decode cX6_findsExact 133 = .ok (.lload 6, 2) := by decide +kernel
theorem dX6_findsExact_135 : decode cX6_findsExact 135 = .ok (.ladd, 1) := by decide +kernel
theorem dX6_findsExact_136 : decode cX6_findsExact 136 = .ok (.ldc2_w 120, 3) := by decide +kernel
theorem dX6_findsExact_139 : decode cX6_findsExact 139 = .ok (.lload 8, 2) := by decide +kernel
theorem dX6_findsExact_141 : decode cX6_findsExact 141 = .ok (.lmul, 1) := by decide +kernel
theorem dX6_findsExact_142 : decode cX6_findsExact 142 = .ok (.lsub, 1) := by decide +kernel
theorem dX6_findsExact_143 : decode cX6_findsExact 143 = .ok (.goto 19, 3) := by decide +kernel
theorem dX6_findsExact_146 : decode cX6_findsExact 146 = .ok (.iload_n 3, 1) := by decide +kernel
theorem dX6_findsExact_147 : decode cX6_findsExact 147 = .ok (.iconst 5, 1) := by decide +kernel
theorem dX6_findsExact_148 : decode cX6_findsExact 148 = .ok (.if_icmp .ne 12, 3) := by decide +kernel
theorem dX6_findsExact_151 : decode cX6_findsExact 151 = .ok (.ldc2_w 118, 3) := by decide +kernel
theorem dX6_findsExact_154 : decode cX6_findsExact 154 = .ok (.lload 4, 2) := by decide +kernel
theorem dX6_findsExact_156 : decode cX6_findsExact 156 = .ok (.lsub, 1) := by decide +kernel
theorem dX6_findsExact_157 : decode cX6_findsExact 157 = .ok (.goto 5, 3) := by decide +kernel
theorem dX6_findsExact_160 : decode cX6_findsExact 160 = .ok (.lload 4, 2) := by decide +kernel
theorem dX6_findsExact_162 : decode cX6_findsExact 162 = .ok (.lstore 12, 2) := by decide +kernel
theorem dX6_findsExact_164 : decode cX6_findsExact 164 = .ok (.iload_n 3, 1) := by decide +kernel
theorem dX6_findsExact_165 : decode cX6_findsExact 165 = .ok (.ifCond .ne 17, 3) := by decide +kernel
theorem dX6_findsExact_168 : decode cX6_findsExact 168 = .ok (.aload_n 0, 1) := by decide +kernel
theorem dX6_findsExact_169 : decode cX6_findsExact 169 = .ok (.iload_n 2, 1) := by decide +kernel
theorem dX6_findsExact_170 : decode cX6_findsExact 170 = .ok (.iconst 1, 1) := by decide +kernel
theorem dX6_findsExact_171 : decode cX6_findsExact 171 = .ok (.invokevirtual 100, 3) := by decide +kernel
theorem dX6_findsExact_174 : decode cX6_findsExact 174 = .ok (.i2l, 1) := by decide +kernel
theorem dX6_findsExact_175 : decode cX6_findsExact 175 = .ok (.ldc2_w 81, 3) := by decide +kernel
theorem dX6_findsExact_178 : decode cX6_findsExact 178 = .ok (.lmul, 1) := by decide +kernel
theorem dX6_findsExact_179 : decode cX6_findsExact 179 = .ok (.goto 32, 3) := by decide +kernel
theorem dX6_findsExact_182 : decode cX6_findsExact 182 = .ok (.iload_n 3, 1) := by decide +kernel
theorem dX6_findsExact_183 : decode cX6_findsExact 183 = .ok (.iconst 4, 1) := by decide +kernel
theorem dX6_findsExact_184 : decode cX6_findsExact 184 = .ok (.if_icmp .ne 25, 3) := by decide +kernel
theorem dX6_findsExact_187 : decode cX6_findsExact 187 = .ok (.lload 4, 2) := by decide +kernel
theorem dX6_findsExact_189 : decode cX6_findsExact 189 = .ok (.lload 10, 2) := by decide +kernel
theorem dX6_findsExact_191 : decode cX6_findsExact 191 = .ok (.lmul, 1) := by decide +kernel
theorem dX6_findsExact_192 : decode cX6_findsExact 192 = .ok (.lload 6, 2) := by decide +kernel
theorem dX6_findsExact_194 : decode cX6_findsExact 194 = .ok (.ldc2_w 118, 3) := by decide +kernel
theorem dX6_findsExact_197 : decode cX6_findsExact 197 = .ok (.lload 10, 2) := by decide +kernel
theorem dX6_findsExact_199 : decode cX6_findsExact 199 = .ok (.lsub, 1) := by decide +kernel
theorem dX6_findsExact_200 : decode cX6_findsExact 200 = .ok (.lmul, 1) := by decide +kernel
theorem dX6_findsExact_201 : decode cX6_findsExact 201 = .ok (.ladd, 1) := by decide +kernel
theorem dX6_findsExact_202 : decode cX6_findsExact 202 = .ok (.ldc2_w 118, 3) := by decide +kernel
theorem dX6_findsExact_205 : decode cX6_findsExact 205 = .ok (.ldiv, 1) := by decide +kernel
theorem dX6_findsExact_206 : decode cX6_findsExact 206 = .ok (.goto 5, 3) := by decide +kernel
theorem dX6_findsExact_209 : decode cX6_findsExact 209 = .ok (.lload 12, 2) := by decide +kernel
theorem dX6_findsExact_211 : decode cX6_findsExact 211 = .ok (.lstore 12, 2) := by decide +kernel
theorem dX6_findsExact_213 : decode cX6_findsExact 213 = .ok (.aload_n 0, 1) := by decide +kernel
theorem dX6_findsExact_214 : decode cX6_findsExact 214 = .ok (.getfield 32, 3) := by decide +kernel
theorem dX6_findsExact_217 : decode cX6_findsExact 217 = .ok (.iload_n 2, 1) := by decide +kernel
theorem dX6_findsExact_218 : decode cX6_findsExact 218 = .ok (.lload 12, 2) := by decide +kernel
theorem dX6_findsExact_220 : decode cX6_findsExact 220 = .ok (.l2i, 1) := by decide +kernel
theorem dX6_findsExact_221 : decode cX6_findsExact 221 = .ok (.iastore, 1) := by decide +kernel
theorem dX6_findsExact_222 : decode cX6_findsExact 222 = .ok (.iinc 2 1, 3) := by decide +kernel
theorem dX6_findsExact_225 : decode cX6_findsExact 225 = .ok (.goto (-223), 3) := by decide +kernel
theorem dX6_findsExact_228 : decode cX6_findsExact 228 = .ok (.return_, 1) := by decide +kernel
theorem dX6_apart_0 : decode cX6_apart 0 = .ok (.iload_n 0, 1) := by decide +kernel
theorem dX6_apart_1 : decode cX6_apart 1 = .ok (.iload_n 1, 1) := by decide +kernel
theorem dX6_apart_2 : decode cX6_apart 2 = .ok (.if_icmp .ge 9, 3) := by decide +kernel
theorem dX6_apart_5 : decode cX6_apart 5 = .ok (.iload_n 1, 1) := by decide +kernel
theorem dX6_apart_6 : decode cX6_apart 6 = .ok (.iload_n 0, 1) := by decide +kernel
theorem dX6_apart_7 : decode cX6_apart 7 = .ok (.isub, 1) := by decide +kernel
theorem dX6_apart_8 : decode cX6_apart 8 = .ok (.goto 6, 3) := by decide +kernel
theorem dX6_apart_11 : decode cX6_apart 11 = .ok (.iload_n 0, 1) := by decide +kernel
theorem dX6_apart_12 : decode cX6_apart 12 = .ok (.iload_n 1, 1) := by decide +kernel
theorem dX6_apart_13 : decode cX6_apart 13 = .ok (.isub, 1) := by decide +kernel
theorem dX6_apart_14 : decode cX6_apart 14 = .ok (.ireturn, 1) := by decide +kernel
theorem dX6_errorBy_0 : decode cX6_errorBy 0 = .ok (.iload_n 2, 1) := by decide +kernel
theorem dX6_errorBy_1 : decode cX6_errorBy 1 = .ok (.i2l, 1) := by decide +kernel
theorem dX6_errorBy_2 : decode cX6_errorBy 2 = .ok (.ldc2_w 118, 3) := by decide +kernel
theorem dX6_errorBy_5 : decode cX6_errorBy 5 = .ok (.lmul, 1) := by decide +kernel
theorem dX6_errorBy_6 : decode cX6_errorBy 6 = .ok (.iload_n 3, 1) := by decide +kernel
theorem dX6_errorBy_7 : decode cX6_errorBy 7 = .ok (.i2l, 1) := by decide +kernel
theorem dX6_errorBy_8 : decode cX6_errorBy 8 = .ok (.ldiv, 1) := by decide +kernel
theorem dX6_errorBy_9 : decode cX6_errorBy 9 = .ok (.l2i, 1) := by decide +kernel
theorem dX6_errorBy_10 : decode cX6_errorBy 10 = .ok (.aload_n 0, 1) := by decide +kernel
theorem dX6_errorBy_11 : decode cX6_errorBy 11 = .ok (.getfield 32, 3) := by decide +kernel
theorem dX6_errorBy_14 : decode cX6_errorBy 14 = .ok (.iload_n 1, 1) := by decide +kernel
theorem dX6_errorBy_15 : decode cX6_errorBy 15 = .ok (.iaload, 1) := by decide +kernel
theorem dX6_errorBy_16 : decode cX6_errorBy 16 = .ok (.invokestatic 122, 3) := by decide +kernel
theorem dX6_errorBy_19 : decode cX6_errorBy 19 = .ok (.ireturn, 1) := by decide +kernel
theorem dX6_errorOf_0 : decode cX6_errorOf 0 = .ok (.aload_n 0, 1) := by decide +kernel
theorem dX6_errorOf_1 : decode cX6_errorOf 1 = .ok (.iload_n 1, 1) := by decide +kernel
theorem dX6_errorOf_2 : decode cX6_errorOf 2 = .ok (.iload_n 2, 1) := by decide +kernel
theorem dX6_errorOf_3 : decode cX6_errorOf 3 = .ok (.invokevirtual 125, 3) := by decide +kernel
theorem dX6_errorOf_6 : decode cX6_errorOf 6 = .ok (.aload_n 0, 1) := by decide +kernel
theorem dX6_errorOf_7 : decode cX6_errorOf 7 = .ok (.iload_n 1, 1) := by decide +kernel
theorem dX6_errorOf_8 : decode cX6_errorOf 8 = .ok (.invokevirtual 129, 3) := by decide +kernel
theorem dX6_errorOf_11 : decode cX6_errorOf 11 = .ok (.aload_n 0, 1) := by decide +kernel
theorem dX6_errorOf_12 : decode cX6_errorOf 12 = .ok (.iload_n 1, 1) := by decide +kernel
theorem dX6_errorOf_13 : decode cX6_errorOf 13 = .ok (.aload_n 0, 1) := by decide +kernel
theorem dX6_errorOf_14 : decode cX6_errorOf 14 = .ok (.iload_n 1, 1) := by decide +kernel
theorem dX6_errorOf_15 : decode cX6_errorOf 15 = .ok (.iload_n 2, 1) := by decide +kernel
theorem dX6_errorOf_16 : decode cX6_errorOf 16 = .ok (.invokevirtual 133, 3) := by decide +kernel
theorem dX6_errorOf_19 : decode cX6_errorOf 19 = .ok (.iload_n 2, 1) := by decide +kernel
theorem dX6_errorOf_20 : decode cX6_errorOf 20 = .ok (.invokevirtual 136, 3) := by decide +kernel
theorem dX6_errorOf_23 : decode cX6_errorOf 23 = .ok (.ireturn, 1) := by decide +kernel
theorem dX6_type_0 : decode cX6_type 0 = .ok (.aload_n 0, 1) := by decide +kernel
theorem dX6_type_1 : decode cX6_type 1 = .ok (.getfield 140, 3) := by decide +kernel
theorem dX6_type_4 : decode cX6_type 4 = .ok (.bipush 80, 2) := by decide +kernel
theorem dX6_type_6 : decode cX6_type 6 = .ok (.if_icmp .ne 6, 3) := by decide +kernel
theorem dX6_type_9 : decode cX6_type 9 = .ok (.ldc 69, 2) := by decide +kernel
theorem dX6_type_11 : decode cX6_type 11 = .ok (.ireturn, 1) := by decide +kernel
theorem dX6_type_12 : decode cX6_type 12 = .ok (.aload_n 0, 1) := by decide +kernel
theorem dX6_type_13 : decode cX6_type 13 = .ok (.getfield 35, 3) := by decide +kernel
theorem dX6_type_16 : decode cX6_type 16 = .ok (.aload_n 0, 1) := by decide +kernel
theorem dX6_type_17 : decode cX6_type 17 = .ok (.getfield 140, 3) := by decide +kernel
theorem dX6_type_20 : decode cX6_type 20 = .ok (.iload_n 1, 1) := by decide +kernel
theorem dX6_type_21 : decode cX6_type 21 = .ok (.iastore, 1) := by decide +kernel
theorem dX6_type_22 : decode cX6_type 22 = .ok (.aload_n 0, 1) := by decide +kernel
theorem dX6_type_23 : decode cX6_type 23 = .ok (.dup, 1) := by decide +kernel
theorem dX6_type_24 : decode cX6_type 24 = .ok (.getfield 140, 3) := by decide +kernel
theorem dX6_type_27 : decode cX6_type 27 = .ok (.iconst 1, 1) := by decide +kernel
theorem dX6_type_28 : decode cX6_type 28 = .ok (.iadd, 1) := by decide +kernel
theorem dX6_type_29 : decode cX6_type 29 = .ok (.putfield 140, 3) := by decide +kernel
theorem dX6_type_32 : decode cX6_type 32 = .ok (.aload_n 0, 1) := by decide +kernel
theorem dX6_type_33 : decode cX6_type 33 = .ok (.getfield 140, 3) := by decide +kernel
theorem dX6_type_36 : decode cX6_type 36 = .ok (.ireturn, 1) := by decide +kernel
theorem dX6_clearText_0 : decode cX6_clearText 0 = .ok (.aload_n 0, 1) := by decide +kernel
theorem dX6_clearText_1 : decode cX6_clearText 1 = .ok (.getfield 140, 3) := by decide +kernel
theorem dX6_clearText_4 : decode cX6_clearText 4 = .ok (.istore_n 1, 1) := by decide +kernel
theorem dX6_clearText_5 : decode cX6_clearText 5 = .ok (.aload_n 0, 1) := by decide +kernel
theorem dX6_clearText_6 : decode cX6_clearText 6 = .ok (.iconst 0, 1) := by decide +kernel
theorem dX6_clearText_7 : decode cX6_clearText 7 = .ok (.putfield 140, 3) := by decide +kernel
theorem dX6_clearText_10 : decode cX6_clearText 10 = .ok (.iload_n 1, 1) := by decide +kernel
theorem dX6_clearText_11 : decode cX6_clearText 11 = .ok (.ireturn, 1) := by decide +kernel
theorem dX6_sizeOf_0 : decode cX6_sizeOf 0 = .ok (.iconst 0, 1) := by decide +kernel
theorem dX6_sizeOf_1 : decode cX6_sizeOf 1 = .ok (.istore_n 2, 1) := by decide +kernel
theorem dX6_sizeOf_2 : decode cX6_sizeOf 2 = .ok (.lload_n 0, 1) := by decide +kernel
theorem dX6_sizeOf_3 : decode cX6_sizeOf 3 = .ok (.lstore_n 3, 1) := by decide +kernel
theorem dX6_sizeOf_4 : decode cX6_sizeOf 4 = .ok (.lload_n 3, 1) := by decide +kernel
theorem dX6_sizeOf_5 : decode cX6_sizeOf 5 = .ok (.lconst 0, 1) := by decide +kernel
theorem dX6_sizeOf_6 : decode cX6_sizeOf 6 = .ok (.lcmp, 1) := by decide +kernel
theorem dX6_sizeOf_7 : decode cX6_sizeOf 7 = .ok (.ifCond .le 14, 3) := by decide +kernel
theorem dX6_sizeOf_10 : decode cX6_sizeOf 10 = .ok (.iinc 2 1, 3) := by decide +kernel
theorem dX6_sizeOf_13 : decode cX6_sizeOf 13 = .ok (.lload_n 3, 1) := by decide +kernel
theorem dX6_sizeOf_14 : decode cX6_sizeOf 14 = .ok (.bipush 8, 2) := by decide +kernel
theorem dX6_sizeOf_16 : decode cX6_sizeOf 16 = .ok (.lshr, 1) := by decide +kernel
theorem dX6_sizeOf_17 : decode cX6_sizeOf 17 = .ok (.lstore_n 3, 1) := by decide +kernel
theorem dX6_sizeOf_18 : decode cX6_sizeOf 18 = .ok (.goto (-14), 3) := by decide +kernel
theorem dX6_sizeOf_21 : decode cX6_sizeOf 21 = .ok (.iload_n 2, 1) := by decide +kernel
theorem dX6_sizeOf_22 : decode cX6_sizeOf 22 = .ok (.ireturn, 1) := by decide +kernel
theorem dX6_likeness_0 : decode cX6_likeness 0 = .ok (.lload_n 1, 1) := by decide +kernel
theorem dX6_likeness_1 : decode cX6_likeness 1 = .ok (.invokestatic 143, 3) := by decide +kernel
theorem dX6_likeness_4 : decode cX6_likeness 4 = .ok (.istore_n 3, 1) := by decide +kernel
theorem dX6_likeness_5 : decode cX6_likeness 5 = .ok (.iconst 0, 1) := by decide +kernel
theorem dX6_likeness_6 : decode cX6_likeness 6 = .ok (.istore 4, 2) := by decide +kernel
theorem dX6_likeness_8 : decode cX6_likeness 8 = .ok (.iload 4, 2) := by decide +kernel
theorem dX6_likeness_10 : decode cX6_likeness 10 = .ok (.iload_n 3, 1) := by decide +kernel
theorem dX6_likeness_11 : decode cX6_likeness 11 = .ok (.if_icmp .ge 55, 3) := by decide +kernel
theorem dX6_likeness_14 : decode cX6_likeness 14 = .ok (.aload_n 0, 1) := by decide +kernel
theorem dX6_likeness_15 : decode cX6_likeness 15 = .ok (.getfield 147, 3) := by decide +kernel
theorem dX6_likeness_18 : decode cX6_likeness 18 = .ok (.iload 4, 2) := by decide +kernel
theorem dX6_likeness_20 : decode cX6_likeness 20 = .ok (.iadd, 1) := by decide +kernel
theorem dX6_likeness_21 : decode cX6_likeness 21 = .ok (.aload_n 0, 1) := by decide +kernel
theorem dX6_likeness_22 : decode cX6_likeness 22 = .ok (.getfield 140, 3) := by decide +kernel
theorem dX6_likeness_25 : decode cX6_likeness 25 = .ok (.if_icmp .ge 41, 3) := by decide +kernel
theorem dX6_likeness_28 : decode cX6_likeness 28 = .ok (.aload_n 0, 1) := by decide +kernel
theorem dX6_likeness_29 : decode cX6_likeness 29 = .ok (.getfield 35, 3) := by decide +kernel
theorem dX6_likeness_32 : decode cX6_likeness 32 = .ok (.aload_n 0, 1) := by decide +kernel
theorem dX6_likeness_33 : decode cX6_likeness 33 = .ok (.getfield 147, 3) := by decide +kernel
theorem dX6_likeness_36 : decode cX6_likeness 36 = .ok (.iload 4, 2) := by decide +kernel
theorem dX6_likeness_38 : decode cX6_likeness 38 = .ok (.iadd, 1) := by decide +kernel
theorem dX6_likeness_39 : decode cX6_likeness 39 = .ok (.iaload, 1) := by decide +kernel
theorem dX6_likeness_40 : decode cX6_likeness 40 = .ok (.i2l, 1) := by decide +kernel
theorem dX6_likeness_41 : decode cX6_likeness 41 = .ok (.lload_n 1, 1) := by decide +kernel
theorem dX6_likeness_42 : decode cX6_likeness 42 = .ok (.bipush 8, 2) := by decide +kernel
theorem dX6_likeness_44 : decode cX6_likeness 44 = .ok (.iload_n 3, 1) := by decide +kernel
theorem dX6_likeness_45 : decode cX6_likeness 45 = .ok (.iconst 1, 1) := by decide +kernel
theorem dX6_likeness_46 : decode cX6_likeness 46 = .ok (.isub, 1) := by decide +kernel
theorem dX6_likeness_47 : decode cX6_likeness 47 = .ok (.iload 4, 2) := by decide +kernel
theorem dX6_likeness_49 : decode cX6_likeness 49 = .ok (.isub, 1) := by decide +kernel
theorem dX6_likeness_50 : decode cX6_likeness 50 = .ok (.imul, 1) := by decide +kernel
theorem dX6_likeness_51 : decode cX6_likeness 51 = .ok (.lshr, 1) := by decide +kernel
theorem dX6_likeness_52 : decode cX6_likeness 52 = .ok (.ldc2_w 83, 3) := by decide +kernel
theorem dX6_likeness_55 : decode cX6_likeness 55 = .ok (.land, 1) := by decide +kernel
theorem dX6_likeness_56 : decode cX6_likeness 56 = .ok (.lcmp, 1) := by decide +kernel
theorem dX6_likeness_57 : decode cX6_likeness 57 = .ok (.ifCond .ne 9, 3) := by decide +kernel
theorem dX6_likeness_60 : decode cX6_likeness 60 = .ok (.iinc 4 1, 3) := by decide +kernel
theorem dX6_likeness_63 : decode cX6_likeness 63 = .ok (.goto (-55), 3) := by decide +kernel
theorem dX6_likeness_66 : decode cX6_likeness 66 = .ok (.iload 4, 2) := by decide +kernel
theorem dX6_likeness_68 : decode cX6_likeness 68 = .ok (.ireturn, 1) := by decide +kernel
theorem dX6_readsWord_0 : decode cX6_readsWord 0 = .ok (.iconst 0, 1) := by decide +kernel
theorem dX6_readsWord_1 : decode cX6_readsWord 1 = .ok (.istore_n 1, 1) := by decide +kernel
theorem dX6_readsWord_2 : decode cX6_readsWord 2 = .ok (.ldc 85, 2) := by decide +kernel
theorem dX6_readsWord_4 : decode cX6_readsWord 4 = .ok (.istore_n 2, 1) := by decide +kernel
theorem dX6_readsWord_5 : decode cX6_readsWord 5 = .ok (.iconst 0, 1) := by decide +kernel
theorem dX6_readsWord_6 : decode cX6_readsWord 6 = .ok (.istore_n 3, 1) := by decide +kernel
theorem dX6_readsWord_7 : decode cX6_readsWord 7 = .ok (.iload_n 3, 1) := by decide +kernel
theorem dX6_readsWord_8 : decode cX6_readsWord 8 = .ok (.bipush 7, 2) := by decide +kernel
theorem dX6_readsWord_10 : decode cX6_readsWord 10 = .ok (.if_icmp .ge 54, 3) := by decide +kernel
theorem dX6_readsWord_13 : decode cX6_readsWord 13 = .ok (.aload_n 0, 1) := by decide +kernel
theorem dX6_readsWord_14 : decode cX6_readsWord 14 = .ok (.aload_n 0, 1) := by decide +kernel
theorem dX6_readsWord_15 : decode cX6_readsWord 15 = .ok (.getfield 22, 3) := by decide +kernel
theorem dX6_readsWord_18 : decode cX6_readsWord 18 = .ok (.iload_n 3, 1) := by decide +kernel
theorem dX6_readsWord_19 : decode cX6_readsWord 19 = .ok (.laload, 1) := by decide +kernel
theorem dX6_readsWord_20 : decode cX6_readsWord 20 = .ok (.invokevirtual 150, 3) := by decide +kernel
theorem dX6_readsWord_23 : decode cX6_readsWord 23 = .ok (.istore 4, 2) := by decide +kernel
theorem dX6_readsWord_25 : decode cX6_readsWord 25 = .ok (.iload 4, 2) := by decide +kernel
theorem dX6_readsWord_27 : decode cX6_readsWord 27 = .ok (.iload_n 1, 1) := by decide +kernel
theorem dX6_readsWord_28 : decode cX6_readsWord 28 = .ok (.if_icmp .le 8, 3) := by decide +kernel
theorem dX6_readsWord_31 : decode cX6_readsWord 31 = .ok (.iload 4, 2) := by decide +kernel
theorem dX6_readsWord_33 : decode cX6_readsWord 33 = .ok (.goto 4, 3) := by decide +kernel
theorem dX6_readsWord_36 : decode cX6_readsWord 36 = .ok (.iload_n 1, 1) := by decide +kernel
theorem dX6_readsWord_37 : decode cX6_readsWord 37 = .ok (.istore_n 1, 1) := by decide +kernel
theorem dX6_readsWord_38 : decode cX6_readsWord 38 = .ok (.iload 4, 2) := by decide +kernel
theorem dX6_readsWord_40 : decode cX6_readsWord 40 = .ok (.aload_n 0, 1) := by decide +kernel
theorem dX6_readsWord_41 : decode cX6_readsWord 41 = .ok (.getfield 22, 3) := by decide +kernel
theorem dX6_readsWord_44 : decode cX6_readsWord 44 = .ok (.iload_n 3, 1) := by decide +kernel
theorem dX6_readsWord_45 : decode cX6_readsWord 45 = .ok (.laload, 1) := by decide +kernel
theorem dX6_readsWord_46 : decode cX6_readsWord 46 = .ok (.invokestatic 143, 3) := by decide +kernel
theorem dX6_readsWord_49 : decode cX6_readsWord 49 = .ok (.if_icmp .ne 7, 3) := by decide +kernel
theorem dX6_readsWord_52 : decode cX6_readsWord 52 = .ok (.iload_n 3, 1) := by decide +kernel
theorem dX6_readsWord_53 : decode cX6_readsWord 53 = .ok (.goto 4, 3) := by decide +kernel
theorem dX6_readsWord_56 : decode cX6_readsWord 56 = .ok (.iload_n 2, 1) := by decide +kernel
theorem dX6_readsWord_57 : decode cX6_readsWord 57 = .ok (.istore_n 2, 1) := by decide +kernel
theorem dX6_readsWord_58 : decode cX6_readsWord 58 = .ok (.iinc 3 1, 3) := by decide +kernel
theorem dX6_readsWord_61 : decode cX6_readsWord 61 = .ok (.goto (-54), 3) := by decide +kernel
theorem dX6_readsWord_64 : decode cX6_readsWord 64 = .ok (.aload_n 0, 1) := by decide +kernel
theorem dX6_readsWord_65 : decode cX6_readsWord 65 = .ok (.dup, 1) := by decide +kernel
theorem dX6_readsWord_66 : decode cX6_readsWord 66 = .ok (.getfield 147, 3) := by decide +kernel
theorem dX6_readsWord_69 : decode cX6_readsWord 69 = .ok (.iload_n 1, 1) := by decide +kernel
theorem dX6_readsWord_70 : decode cX6_readsWord 70 = .ok (.iadd, 1) := by decide +kernel
theorem dX6_readsWord_71 : decode cX6_readsWord 71 = .ok (.putfield 147, 3) := by decide +kernel
theorem dX6_readsWord_74 : decode cX6_readsWord 74 = .ok (.iload_n 2, 1) := by decide +kernel
theorem dX6_readsWord_75 : decode cX6_readsWord 75 = .ok (.ireturn, 1) := by decide +kernel
theorem dX6_isHere_0 : decode cX6_isHere 0 = .ok (.aload_n 0, 1) := by decide +kernel
theorem dX6_isHere_1 : decode cX6_isHere 1 = .ok (.getfield 147, 3) := by decide +kernel
theorem dX6_isHere_4 : decode cX6_isHere 4 = .ok (.aload_n 0, 1) := by decide +kernel
theorem dX6_isHere_5 : decode cX6_isHere 5 = .ok (.getfield 140, 3) := by decide +kernel
theorem dX6_isHere_8 : decode cX6_isHere 8 = .ok (.if_icmp .ge 27, 3) := by decide +kernel
theorem dX6_isHere_11 : decode cX6_isHere 11 = .ok (.aload_n 0, 1) := by decide +kernel
theorem dX6_isHere_12 : decode cX6_isHere 12 = .ok (.getfield 35, 3) := by decide +kernel
theorem dX6_isHere_15 : decode cX6_isHere 15 = .ok (.aload_n 0, 1) := by decide +kernel
theorem dX6_isHere_16 : decode cX6_isHere 16 = .ok (.getfield 147, 3) := by decide +kernel
theorem dX6_isHere_19 : decode cX6_isHere 19 = .ok (.iaload, 1) := by decide +kernel
theorem dX6_isHere_20 : decode cX6_isHere 20 = .ok (.i2l, 1) := by decide +kernel
theorem dX6_isHere_21 : decode cX6_isHere 21 = .ok (.iload_n 1, 1) := by decide +kernel
theorem dX6_isHere_22 : decode cX6_isHere 22 = .ok (.i2l, 1) := by decide +kernel
theorem dX6_isHere_23 : decode cX6_isHere 23 = .ok (.iload_n 2, 1) := by decide +kernel
theorem dX6_isHere_24 : decode cX6_isHere 24 = .ok (.i2l, 1) := by decide +kernel
theorem dX6_isHere_25 : decode cX6_isHere 25 = .ok (.invokestatic 65, 3) := by decide +kernel
theorem dX6_isHere_28 : decode cX6_isHere 28 = .ok (.ifCond .eq 7, 3) := by decide +kernel
theorem dX6_isHere_31 : decode cX6_isHere 31 = .ok (.iconst 1, 1) := by decide +kernel
theorem dX6_isHere_32 : decode cX6_isHere 32 = .ok (.goto 4, 3) := by decide +kernel
theorem dX6_isHere_35 : decode cX6_isHere 35 = .ok (.iconst 0, 1) := by decide +kernel
theorem dX6_isHere_36 : decode cX6_isHere 36 = .ok (.ireturn, 1) := by decide +kernel
theorem dX6_takes_0 : decode cX6_takes 0 = .ok (.aload_n 0, 1) := by decide +kernel
theorem dX6_takes_1 : decode cX6_takes 1 = .ok (.iload_n 1, 1) := by decide +kernel
theorem dX6_takes_2 : decode cX6_takes 2 = .ok (.iload_n 1, 1) := by decide +kernel
theorem dX6_takes_3 : decode cX6_takes 3 = .ok (.invokevirtual 153, 3) := by decide +kernel
theorem dX6_takes_6 : decode cX6_takes 6 = .ok (.istore_n 2, 1) := by decide +kernel
theorem dX6_takes_7 : decode cX6_takes 7 = .ok (.aload_n 0, 1) := by decide +kernel
theorem dX6_takes_8 : decode cX6_takes 8 = .ok (.dup, 1) := by decide +kernel
theorem dX6_takes_9 : decode cX6_takes 9 = .ok (.getfield 147, 3) := by decide +kernel
theorem dX6_takes_12 : decode cX6_takes 12 = .ok (.iload_n 2, 1) := by decide +kernel
theorem dX6_takes_13 : decode cX6_takes 13 = .ok (.ifCond .eq 7, 3) := by decide +kernel
theorem dX6_takes_16 : decode cX6_takes 16 = .ok (.iconst 1, 1) := by decide +kernel
theorem dX6_takes_17 : decode cX6_takes 17 = .ok (.goto 4, 3) := by decide +kernel
theorem dX6_takes_20 : decode cX6_takes 20 = .ok (.iconst 0, 1) := by decide +kernel
theorem dX6_takes_21 : decode cX6_takes 21 = .ok (.iadd, 1) := by decide +kernel
theorem dX6_takes_22 : decode cX6_takes 22 = .ok (.putfield 147, 3) := by decide +kernel
theorem dX6_takes_25 : decode cX6_takes 25 = .ok (.iload_n 2, 1) := by decide +kernel
theorem dX6_takes_26 : decode cX6_takes 26 = .ok (.ireturn, 1) := by decide +kernel
theorem dX6_readsNumber_0 : decode cX6_readsNumber 0 = .ok (.aload_n 0, 1) := by decide +kernel
theorem dX6_readsNumber_1 : decode cX6_readsNumber 1 = .ok (.bipush 32, 2) := by decide +kernel
theorem dX6_readsNumber_3 : decode cX6_readsNumber 3 = .ok (.invokevirtual 157, 3) := by decide +kernel
theorem dX6_readsNumber_6 : decode cX6_readsNumber 6 = .ok (.ifCond .eq 32, 3) := by decide +kernel
theorem dX6_readsNumber_9 : decode cX6_readsNumber 9 = .ok (.aload_n 0, 1) := by decide +kernel
theorem dX6_readsNumber_10 : decode cX6_readsNumber 10 = .ok (.bipush 48, 2) := by decide +kernel
theorem dX6_readsNumber_12 : decode cX6_readsNumber 12 = .ok (.iload_n 1, 1) := by decide +kernel
theorem dX6_readsNumber_13 : decode cX6_readsNumber 13 = .ok (.iadd, 1) := by decide +kernel
theorem dX6_readsNumber_14 : decode cX6_readsNumber 14 = .ok (.bipush 57, 2) := by decide +kernel
theorem dX6_readsNumber_16 : decode cX6_readsNumber 16 = .ok (.invokevirtual 153, 3) := by decide +kernel
theorem dX6_readsNumber_19 : decode cX6_readsNumber 19 = .ok (.ifCond .eq 19, 3) := by decide +kernel
theorem dX6_readsNumber_22 : decode cX6_readsNumber 22 = .ok (.aload_n 0, 1) := by decide +kernel
theorem dX6_readsNumber_23 : decode cX6_readsNumber 23 = .ok (.getfield 35, 3) := by decide +kernel
theorem dX6_readsNumber_26 : decode cX6_readsNumber 26 = .ok (.aload_n 0, 1) := by decide +kernel
theorem dX6_readsNumber_27 : decode cX6_readsNumber 27 = .ok (.getfield 147, 3) := by decide +kernel
theorem dX6_readsNumber_30 : decode cX6_readsNumber 30 = .ok (.iaload, 1) := by decide +kernel
theorem dX6_readsNumber_31 : decode cX6_readsNumber 31 = .ok (.bipush 48, 2) := by decide +kernel
theorem dX6_readsNumber_33 : decode cX6_readsNumber 33 = .ok (.isub, 1) := by decide +kernel
theorem dX6_readsNumber_34 : decode cX6_readsNumber 34 = .ok (.iload_n 2, 1) := by decide +kernel
theorem dX6_readsNumber_35 : decode cX6_readsNumber 35 = .ok (.if_icmp .le 5, 3) := by decide +kernel
theorem dX6_readsNumber_38 : decode cX6_readsNumber 38 = .ok (.iconst 0, 1) := by decide +kernel
theorem dX6_readsNumber_39 : decode cX6_readsNumber 39 = .ok (.ireturn, 1) := by decide +kernel
theorem dX6_readsNumber_40 : decode cX6_readsNumber 40 = .ok (.aload_n 0, 1) := by decide +kernel
theorem dX6_readsNumber_41 : decode cX6_readsNumber 41 = .ok (.aload_n 0, 1) := by decide +kernel
theorem dX6_readsNumber_42 : decode cX6_readsNumber 42 = .ok (.getfield 35, 3) := by decide +kernel
theorem dX6_readsNumber_45 : decode cX6_readsNumber 45 = .ok (.aload_n 0, 1) := by decide +kernel
theorem dX6_readsNumber_46 : decode cX6_readsNumber 46 = .ok (.getfield 147, 3) := by decide +kernel
theorem dX6_readsNumber_49 : decode cX6_readsNumber 49 = .ok (.iaload, 1) := by decide +kernel
theorem dX6_readsNumber_50 : decode cX6_readsNumber 50 = .ok (.bipush 48, 2) := by decide +kernel
theorem dX6_readsNumber_52 : decode cX6_readsNumber 52 = .ok (.isub, 1) := by decide +kernel
theorem dX6_readsNumber_53 : decode cX6_readsNumber 53 = .ok (.putfield 160, 3) := by decide +kernel
theorem dX6_readsNumber_56 : decode cX6_readsNumber 56 = .ok (.aload_n 0, 1) := by decide +kernel
theorem dX6_readsNumber_57 : decode cX6_readsNumber 57 = .ok (.dup, 1) := by decide +kernel
theorem dX6_readsNumber_58 : decode cX6_readsNumber 58 = .ok (.getfield 147, 3) := by decide +kernel
theorem dX6_readsNumber_61 : decode cX6_readsNumber 61 = .ok (.iconst 1, 1) := by decide +kernel
theorem dX6_readsNumber_62 : decode cX6_readsNumber 62 = .ok (.iadd, 1) := by decide +kernel
theorem dX6_readsNumber_63 : decode cX6_readsNumber 63 = .ok (.putfield 147, 3) := by decide +kernel
theorem dX6_readsNumber_66 : decode cX6_readsNumber 66 = .ok (.aload_n 0, 1) := by decide +kernel
theorem dX6_readsNumber_67 : decode cX6_readsNumber 67 = .ok (.getfield 160, 3) := by decide +kernel
theorem dX6_readsNumber_70 : decode cX6_readsNumber 70 = .ok (.ifCond .le 75, 3) := by decide +kernel
theorem dX6_readsNumber_73 : decode cX6_readsNumber 73 = .ok (.aload_n 0, 1) := by decide +kernel
theorem dX6_readsNumber_74 : decode cX6_readsNumber 74 = .ok (.bipush 48, 2) := by decide +kernel
theorem dX6_readsNumber_76 : decode cX6_readsNumber 76 = .ok (.bipush 57, 2) := by decide +kernel
theorem dX6_readsNumber_78 : decode cX6_readsNumber 78 = .ok (.invokevirtual 153, 3) := by decide +kernel
theorem dX6_readsNumber_81 : decode cX6_readsNumber 81 = .ok (.ifCond .eq 64, 3) := by decide +kernel
theorem dX6_readsNumber_84 : decode cX6_readsNumber 84 = .ok (.bipush 10, 2) := by decide +kernel
theorem dX6_readsNumber_86 : decode cX6_readsNumber 86 = .ok (.aload_n 0, 1) := by decide +kernel
theorem dX6_readsNumber_87 : decode cX6_readsNumber 87 = .ok (.getfield 160, 3) := by decide +kernel
theorem dX6_readsNumber_90 : decode cX6_readsNumber 90 = .ok (.imul, 1) := by decide +kernel
theorem dX6_readsNumber_91 : decode cX6_readsNumber 91 = .ok (.aload_n 0, 1) := by decide +kernel
theorem dX6_readsNumber_92 : decode cX6_readsNumber 92 = .ok (.getfield 35, 3) := by decide +kernel
theorem dX6_readsNumber_95 : decode cX6_readsNumber 95 = .ok (.aload_n 0, 1) := by decide +kernel
theorem dX6_readsNumber_96 : decode cX6_readsNumber 96 = .ok (.getfield 147, 3) := by decide +kernel
theorem dX6_readsNumber_99 : decode cX6_readsNumber 99 = .ok (.iaload, 1) := by decide +kernel
theorem dX6_readsNumber_100 : decode cX6_readsNumber 100 = .ok (.iadd, 1) := by decide +kernel
theorem dX6_readsNumber_101 : decode cX6_readsNumber 101 = .ok (.bipush 48, 2) := by decide +kernel
theorem dX6_readsNumber_103 : decode cX6_readsNumber 103 = .ok (.isub, 1) := by decide +kernel
theorem dX6_readsNumber_104 : decode cX6_readsNumber 104 = .ok (.iload_n 2, 1) := by decide +kernel
theorem dX6_readsNumber_105 : decode cX6_readsNumber 105 = .ok (.if_icmp .gt 40, 3) := by decide +kernel
theorem dX6_readsNumber_108 : decode cX6_readsNumber 108 = .ok (.aload_n 0, 1) := by decide +kernel
theorem dX6_readsNumber_109 : decode cX6_readsNumber 109 = .ok (.bipush 10, 2) := by decide +kernel
theorem dX6_readsNumber_111 : decode cX6_readsNumber 111 = .ok (.aload_n 0, 1) := by decide +kernel
theorem dX6_readsNumber_112 : decode cX6_readsNumber 112 = .ok (.getfield 160, 3) := by decide +kernel
theorem dX6_readsNumber_115 : decode cX6_readsNumber 115 = .ok (.imul, 1) := by decide +kernel
theorem dX6_readsNumber_116 : decode cX6_readsNumber 116 = .ok (.aload_n 0, 1) := by decide +kernel
theorem dX6_readsNumber_117 : decode cX6_readsNumber 117 = .ok (.getfield 35, 3) := by decide +kernel
theorem dX6_readsNumber_120 : decode cX6_readsNumber 120 = .ok (.aload_n 0, 1) := by decide +kernel
theorem dX6_readsNumber_121 : decode cX6_readsNumber 121 = .ok (.getfield 147, 3) := by decide +kernel
theorem dX6_readsNumber_124 : decode cX6_readsNumber 124 = .ok (.iaload, 1) := by decide +kernel
theorem dX6_readsNumber_125 : decode cX6_readsNumber 125 = .ok (.iadd, 1) := by decide +kernel
theorem dX6_readsNumber_126 : decode cX6_readsNumber 126 = .ok (.bipush 48, 2) := by decide +kernel
theorem dX6_readsNumber_128 : decode cX6_readsNumber 128 = .ok (.isub, 1) := by decide +kernel
theorem dX6_readsNumber_129 : decode cX6_readsNumber 129 = .ok (.putfield 160, 3) := by decide +kernel
theorem dX6_readsNumber_132 : decode cX6_readsNumber 132 = .ok (.aload_n 0, 1) := by decide +kernel
theorem dX6_readsNumber_133 : decode cX6_readsNumber 133 = .ok (.dup, 1) := by decide +kernel
theorem dX6_readsNumber_134 : decode cX6_readsNumber 134 = .ok (.getfield 147, 3) := by decide +kernel
theorem dX6_readsNumber_137 : decode cX6_readsNumber 137 = .ok (.iconst 1, 1) := by decide +kernel
theorem dX6_readsNumber_138 : decode cX6_readsNumber 138 = .ok (.iadd, 1) := by decide +kernel
theorem dX6_readsNumber_139 : decode cX6_readsNumber 139 = .ok (.putfield 147, 3) := by decide +kernel
theorem dX6_readsNumber_142 : decode cX6_readsNumber 142 = .ok (.goto (-76), 3) := by decide +kernel
theorem dX6_readsNumber_145 : decode cX6_readsNumber 145 = .ok (.iconst 1, 1) := by decide +kernel
theorem dX6_readsNumber_146 : decode cX6_readsNumber 146 = .ok (.ireturn, 1) := by decide +kernel
theorem dX6_readsPart_0 : decode cX6_readsPart 0 = .ok (.iload_n 1, 1) := by decide +kernel
theorem dX6_readsPart_1 : decode cX6_readsPart 1 = .ok (.bipush 6, 2) := by decide +kernel
theorem dX6_readsPart_3 : decode cX6_readsPart 3 = .ok (.if_icmp .ne 12, 3) := by decide +kernel
theorem dX6_readsPart_6 : decode cX6_readsPart 6 = .ok (.iload_n 2, 1) := by decide +kernel
theorem dX6_readsPart_7 : decode cX6_readsPart 7 = .ok (.iconst 2, 1) := by decide +kernel
theorem dX6_readsPart_8 : decode cX6_readsPart 8 = .ok (.if_icmp .ne 7, 3) := by decide +kernel
theorem dX6_readsPart_11 : decode cX6_readsPart 11 = .ok (.iconst 1, 1) := by decide +kernel
theorem dX6_readsPart_12 : decode cX6_readsPart 12 = .ok (.goto 4, 3) := by decide +kernel
theorem dX6_readsPart_15 : decode cX6_readsPart 15 = .ok (.iconst 0, 1) := by decide +kernel
theorem dX6_readsPart_16 : decode cX6_readsPart 16 = .ok (.istore_n 3, 1) := by decide +kernel
theorem dX6_readsPart_17 : decode cX6_readsPart 17 = .ok (.iload_n 1, 1) := by decide +kernel
theorem dX6_readsPart_18 : decode cX6_readsPart 18 = .ok (.ifCond .ne 12, 3) := by decide +kernel
theorem dX6_readsPart_21 : decode cX6_readsPart 21 = .ok (.iload_n 2, 1) := by decide +kernel
theorem dX6_readsPart_22 : decode cX6_readsPart 22 = .ok (.iconst 2, 1) := by decide +kernel
theorem dX6_readsPart_23 : decode cX6_readsPart 23 = .ok (.if_icmp .ne 7, 3) := by decide +kernel
theorem dX6_readsPart_26 : decode cX6_readsPart 26 = .ok (.iconst 1, 1) := by decide +kernel
theorem dX6_readsPart_27 : decode cX6_readsPart 27 = .ok (.goto 4, 3) := by decide +kernel
theorem dX6_readsPart_30 : decode cX6_readsPart 30 = .ok (.iconst 0, 1) := by decide +kernel
theorem dX6_readsPart_31 : decode cX6_readsPart 31 = .ok (.istore 4, 2) := by decide +kernel
theorem dX6_readsPart_33 : decode cX6_readsPart 33 = .ok (.aload_n 0, 1) := by decide +kernel
theorem dX6_readsPart_34 : decode cX6_readsPart 34 = .ok (.iload_n 3, 1) := by decide +kernel
theorem dX6_readsPart_35 : decode cX6_readsPart 35 = .ok (.ifCond .ne 8, 3) := by decide +kernel
theorem dX6_readsPart_38 : decode cX6_readsPart 38 = .ok (.iload 4, 2) := by decide +kernel
theorem dX6_readsPart_40 : decode cX6_readsPart 40 = .ok (.ifCond .eq 7, 3) := by decide +kernel
theorem dX6_readsPart_43 : decode cX6_readsPart 43 = .ok (.iconst 1, 1) := by decide +kernel
theorem dX6_readsPart_44 : decode cX6_readsPart 44 = .ok (.goto 4, 3) := by decide +kernel
theorem dX6_readsPart_47 : decode cX6_readsPart 47 = .ok (.iconst 0, 1) := by decide +kernel
theorem dX6_readsPart_48 : decode cX6_readsPart 48 = .ok (.iload_n 3, 1) := by decide +kernel
theorem dX6_readsPart_49 : decode cX6_readsPart 49 = .ok (.ifCond .eq 8, 3) := by decide +kernel
theorem dX6_readsPart_52 : decode cX6_readsPart 52 = .ok (.bipush 60, 2) := by decide +kernel
theorem dX6_readsPart_54 : decode cX6_readsPart 54 = .ok (.goto 26, 3) := by decide +kernel
theorem dX6_readsPart_57 : decode cX6_readsPart 57 = .ok (.iload 4, 2) := by decide +kernel
theorem dX6_readsPart_59 : decode cX6_readsPart 59 = .ok (.ifCond .eq 9, 3) := by decide +kernel
theorem dX6_readsPart_62 : decode cX6_readsPart 62 = .ok (.sipush 255, 3) := by decide +kernel
theorem dX6_readsPart_65 : decode cX6_readsPart 65 = .ok (.goto 15, 3) := by decide +kernel
theorem dX6_readsPart_68 : decode cX6_readsPart 68 = .ok (.iload_n 1, 1) := by decide +kernel
theorem dX6_readsPart_69 : decode cX6_readsPart 69 = .ok (.ifCond .ne 9, 3) := by decide +kernel
theorem dX6_readsPart_72 : decode cX6_readsPart 72 = .ok (.sipush 256, 3) := by decide +kernel
theorem dX6_readsPart_75 : decode cX6_readsPart 75 = .ok (.goto 5, 3) := by decide +kernel
theorem dX6_readsPart_78 : decode cX6_readsPart 78 = .ok (.bipush 15, 2) := by decide +kernel
theorem dX6_readsPart_80 : decode cX6_readsPart 80 = .ok (.invokevirtual 163, 3) := by decide +kernel
theorem dX6_readsPart_83 : decode cX6_readsPart 83 = .ok (.istore 5, 2) := by decide +kernel
theorem dX6_readsPart_85 : decode cX6_readsPart 85 = .ok (.aload_n 0, 1) := by decide +kernel
theorem dX6_readsPart_86 : decode cX6_readsPart 86 = .ok (.getfield 38, 3) := by decide +kernel
theorem dX6_readsPart_89 : decode cX6_readsPart 89 = .ok (.iconst 4, 1) := by decide +kernel
theorem dX6_readsPart_90 : decode cX6_readsPart 90 = .ok (.aload_n 0, 1) := by decide +kernel
theorem dX6_readsPart_91 : decode cX6_readsPart 91 = .ok (.getfield 166, 3) := by decide +kernel
theorem dX6_readsPart_94 : decode cX6_readsPart 94 = .ok (.imul, 1) := by decide +kernel
theorem dX6_readsPart_95 : decode cX6_readsPart 95 = .ok (.iload_n 2, 1) := by decide +kernel
theorem dX6_readsPart_96 : decode cX6_readsPart 96 = .ok (.iadd, 1) := by decide +kernel
theorem dX6_readsPart_97 : decode cX6_readsPart 97 = .ok (.aload_n 0, 1) := by decide +kernel
theorem dX6_readsPart_98 : decode cX6_readsPart 98 = .ok (.getfield 160, 3) := by decide +kernel
theorem dX6_readsPart_101 : decode cX6_readsPart 101 = .ok (.iastore, 1) := by decide +kernel
theorem dX6_readsPart_102 : decode cX6_readsPart 102 = .ok (.iload 5, 2) := by decide +kernel
theorem dX6_readsPart_104 : decode cX6_readsPart 104 = .ok (.ireturn, 1) := by decide +kernel
theorem dX6_readsLine_0 : decode cX6_readsLine 0 = .ok (.aload_n 0, 1) := by decide +kernel
theorem dX6_readsLine_1 : decode cX6_readsLine 1 = .ok (.invokevirtual 169, 3) := by decide +kernel
theorem dX6_readsLine_4 : decode cX6_readsLine 4 = .ok (.istore_n 1, 1) := by decide +kernel
theorem dX6_readsLine_5 : decode cX6_readsLine 5 = .ok (.iload_n 1, 1) := by decide +kernel
theorem dX6_readsLine_6 : decode cX6_readsLine 6 = .ok (.ldc 85, 2) := by decide +kernel
theorem dX6_readsLine_8 : decode cX6_readsLine 8 = .ok (.if_icmp .ne 5, 3) := by decide +kernel
theorem dX6_readsLine_11 : decode cX6_readsLine 11 = .ok (.iconst 0, 1) := by decide +kernel
theorem dX6_readsLine_12 : decode cX6_readsLine 12 = .ok (.ireturn, 1) := by decide +kernel
theorem dX6_readsLine_13 : decode cX6_readsLine 13 = .ok (.iload_n 1, 1) := by decide +kernel
theorem dX6_readsLine_14 : decode cX6_readsLine 14 = .ok (.iconst 4, 1) := by decide +kernel
theorem dX6_readsLine_15 : decode cX6_readsLine 15 = .ok (.if_icmp .ne 7, 3) := by decide +kernel
theorem dX6_readsLine_18 : decode cX6_readsLine 18 = .ok (.iconst 3, 1) := by decide +kernel
theorem dX6_readsLine_19 : decode cX6_readsLine 19 = .ok (.goto 13, 3) := by decide +kernel
theorem dX6_readsLine_22 : decode cX6_readsLine 22 = .ok (.iload_n 1, 1) := by decide +kernel
theorem dX6_readsLine_23 : decode cX6_readsLine 23 = .ok (.iconst 5, 1) := by decide +kernel
theorem dX6_readsLine_24 : decode cX6_readsLine 24 = .ok (.if_icmp .ne 7, 3) := by decide +kernel
theorem dX6_readsLine_27 : decode cX6_readsLine 27 = .ok (.iconst 1, 1) := by decide +kernel
theorem dX6_readsLine_28 : decode cX6_readsLine 28 = .ok (.goto 4, 3) := by decide +kernel
theorem dX6_readsLine_31 : decode cX6_readsLine 31 = .ok (.iconst 2, 1) := by decide +kernel
theorem dX6_readsLine_32 : decode cX6_readsLine 32 = .ok (.istore_n 2, 1) := by decide +kernel
theorem dX6_readsLine_33 : decode cX6_readsLine 33 = .ok (.aload_n 0, 1) := by decide +kernel
theorem dX6_readsLine_34 : decode cX6_readsLine 34 = .ok (.getfield 38, 3) := by decide +kernel
theorem dX6_readsLine_37 : decode cX6_readsLine 37 = .ok (.iconst 4, 1) := by decide +kernel
theorem dX6_readsLine_38 : decode cX6_readsLine 38 = .ok (.aload_n 0, 1) := by decide +kernel
theorem dX6_readsLine_39 : decode cX6_readsLine 39 = .ok (.getfield 166, 3) := by decide +kernel
theorem dX6_readsLine_42 : decode cX6_readsLine 42 = .ok (.imul, 1) := by decide +kernel
theorem dX6_readsLine_43 : decode cX6_readsLine 43 = .ok (.iload_n 1, 1) := by decide +kernel
theorem dX6_readsLine_44 : decode cX6_readsLine 44 = .ok (.iastore, 1) := by decide +kernel
theorem dX6_readsLine_45 : decode cX6_readsLine 45 = .ok (.iconst 1, 1) := by decide +kernel
theorem dX6_readsLine_46 : decode cX6_readsLine 46 = .ok (.istore_n 3, 1) := by decide +kernel
theorem dX6_readsLine_47 : decode cX6_readsLine 47 = .ok (.iload_n 3, 1) := by decide +kernel
theorem dX6_readsLine_48 : decode cX6_readsLine 48 = .ok (.iconst 4, 1) := by decide +kernel
theorem dX6_readsLine_49 : decode cX6_readsLine 49 = .ok (.if_icmp .ge 24, 3) := by decide +kernel
theorem dX6_readsLine_52 : decode cX6_readsLine 52 = .ok (.aload_n 0, 1) := by decide +kernel
theorem dX6_readsLine_53 : decode cX6_readsLine 53 = .ok (.getfield 38, 3) := by decide +kernel
theorem dX6_readsLine_56 : decode cX6_readsLine 56 = .ok (.iconst 4, 1) := by decide +kernel
theorem dX6_readsLine_57 : decode cX6_readsLine 57 = .ok (.aload_n 0, 1) := by decide +kernel
theorem dX6_readsLine_58 : decode cX6_readsLine 58 = .ok (.getfield 166, 3) := by decide +kernel
theorem dX6_readsLine_61 : decode cX6_readsLine 61 = .ok (.imul, 1) := by decide +kernel
theorem dX6_readsLine_62 : decode cX6_readsLine 62 = .ok (.iload_n 3, 1) := by decide +kernel
theorem dX6_readsLine_63 : decode cX6_readsLine 63 = .ok (.iadd, 1) := by decide +kernel
theorem dX6_readsLine_64 : decode cX6_readsLine 64 = .ok (.ldc 85, 2) := by decide +kernel
theorem dX6_readsLine_66 : decode cX6_readsLine 66 = .ok (.iastore, 1) := by decide +kernel
theorem dX6_readsLine_67 : decode cX6_readsLine 67 = .ok (.iinc 3 1, 3) := by decide +kernel
theorem dX6_readsLine_70 : decode cX6_readsLine 70 = .ok (.goto (-23), 3) := by decide +kernel
theorem dX6_readsLine_73 : decode cX6_readsLine 73 = .ok (.iconst 1, 1) := by decide +kernel
theorem dX6_readsLine_74 : decode cX6_readsLine 74 = .ok (.istore_n 3, 1) := by decide +kernel
theorem dX6_readsLine_75 : decode cX6_readsLine 75 = .ok (.iload_n 3, 1) := by decide +kernel
theorem dX6_readsLine_76 : decode cX6_readsLine 76 = .ok (.iload_n 2, 1) := by decide +kernel
theorem dX6_readsLine_77 : decode cX6_readsLine 77 = .ok (.if_icmp .gt 20, 3) := by decide +kernel
theorem dX6_readsLine_80 : decode cX6_readsLine 80 = .ok (.aload_n 0, 1) := by decide +kernel
theorem dX6_readsLine_81 : decode cX6_readsLine 81 = .ok (.iload_n 1, 1) := by decide +kernel
theorem dX6_readsLine_82 : decode cX6_readsLine 82 = .ok (.iload_n 3, 1) := by decide +kernel
theorem dX6_readsLine_83 : decode cX6_readsLine 83 = .ok (.invokevirtual 173, 3) := by decide +kernel
theorem dX6_readsLine_86 : decode cX6_readsLine 86 = .ok (.ifCond .ne 5, 3) := by decide +kernel
theorem dX6_readsLine_89 : decode cX6_readsLine 89 = .ok (.iconst 0, 1) := by decide +kernel
theorem dX6_readsLine_90 : decode cX6_readsLine 90 = .ok (.ireturn, 1) := by decide +kernel
theorem dX6_readsLine_91 : decode cX6_readsLine 91 = .ok (.iinc 3 1, 3) := by decide +kernel
theorem dX6_readsLine_94 : decode cX6_readsLine 94 = .ok (.goto (-19), 3) := by decide +kernel
theorem dX6_readsLine_97 : decode cX6_readsLine 97 = .ok (.aload_n 0, 1) := by decide +kernel
theorem dX6_readsLine_98 : decode cX6_readsLine 98 = .ok (.dup, 1) := by decide +kernel
theorem dX6_readsLine_99 : decode cX6_readsLine 99 = .ok (.getfield 166, 3) := by decide +kernel
theorem dX6_readsLine_102 : decode cX6_readsLine 102 = .ok (.iconst 1, 1) := by decide +kernel
theorem dX6_readsLine_103 : decode cX6_readsLine 103 = .ok (.iadd, 1) := by decide +kernel
theorem dX6_readsLine_104 : decode cX6_readsLine 104 = .ok (.putfield 166, 3) := by decide +kernel
theorem dX6_readsLine_107 : decode cX6_readsLine 107 = .ok (.iconst 1, 1) := by decide +kernel
theorem dX6_readsLine_108 : decode cX6_readsLine 108 = .ok (.ireturn, 1) := by decide +kernel
theorem dX6_fault_0 : decode cX6_fault 0 = .ok (.aload_n 0, 1) := by decide +kernel
theorem dX6_fault_1 : decode cX6_fault 1 = .ok (.iconst 0, 1) := by decide +kernel
theorem dX6_fault_2 : decode cX6_fault 2 = .ok (.putfield 147, 3) := by decide +kernel
theorem dX6_fault_5 : decode cX6_fault 5 = .ok (.aload_n 0, 1) := by decide +kernel
theorem dX6_fault_6 : decode cX6_fault 6 = .ok (.iconst 0, 1) := by decide +kernel
theorem dX6_fault_7 : decode cX6_fault 7 = .ok (.putfield 166, 3) := by decide +kernel
theorem dX6_fault_10 : decode cX6_fault 10 = .ok (.iconst 1, 1) := by decide +kernel
theorem dX6_fault_11 : decode cX6_fault 11 = .ok (.istore_n 1, 1) := by decide +kernel
theorem dX6_fault_12 : decode cX6_fault 12 = .ok (.iload_n 1, 1) := by decide +kernel
theorem dX6_fault_13 : decode cX6_fault 13 = .ok (.ifCond .eq 25, 3) := by decide +kernel
theorem dX6_fault_16 : decode cX6_fault 16 = .ok (.aload_n 0, 1) := by decide +kernel
theorem dX6_fault_17 : decode cX6_fault 17 = .ok (.invokevirtual 176, 3) := by decide +kernel
theorem dX6_fault_20 : decode cX6_fault 20 = .ok (.ifCond .ne 8, 3) := by decide +kernel
theorem dX6_fault_23 : decode cX6_fault 23 = .ok (.aload_n 0, 1) := by decide +kernel
theorem dX6_fault_24 : decode cX6_fault 24 = .ok (.getfield 147, 3) := by decide +kernel
theorem dX6_fault_27 : decode cX6_fault 27 = .ok (.ireturn, 1) := by decide +kernel
theorem dX6_fault_28 : decode cX6_fault 28 = .ok (.aload_n 0, 1) := by decide +kernel
theorem dX6_fault_29 : decode cX6_fault 29 = .ok (.bipush 59, 2) := by decide +kernel
theorem dX6_fault_31 : decode cX6_fault 31 = .ok (.invokevirtual 157, 3) := by decide +kernel
theorem dX6_fault_34 : decode cX6_fault 34 = .ok (.istore_n 1, 1) := by decide +kernel
theorem dX6_fault_35 : decode cX6_fault 35 = .ok (.goto (-23), 3) := by decide +kernel
theorem dX6_fault_38 : decode cX6_fault 38 = .ok (.aload_n 0, 1) := by decide +kernel
theorem dX6_fault_39 : decode cX6_fault 39 = .ok (.getfield 147, 3) := by decide +kernel
theorem dX6_fault_42 : decode cX6_fault 42 = .ok (.aload_n 0, 1) := by decide +kernel
theorem dX6_fault_43 : decode cX6_fault 43 = .ok (.getfield 140, 3) := by decide +kernel
theorem dX6_fault_46 : decode cX6_fault 46 = .ok (.if_icmp .ne 8, 3) := by decide +kernel
theorem dX6_fault_49 : decode cX6_fault 49 = .ok (.ldc 85, 2) := by decide +kernel
theorem dX6_fault_51 : decode cX6_fault 51 = .ok (.goto 7, 3) := by decide +kernel
theorem dX6_fault_54 : decode cX6_fault 54 = .ok (.aload_n 0, 1) := by decide +kernel
theorem dX6_fault_55 : decode cX6_fault 55 = .ok (.getfield 147, 3) := by decide +kernel
theorem dX6_fault_58 : decode cX6_fault 58 = .ok (.ireturn, 1) := by decide +kernel
theorem dX6_isAhead_0 : decode cX6_isAhead 0 = .ok (.iconst 1, 1) := by decide +kernel
theorem dX6_isAhead_1 : decode cX6_isAhead 1 = .ok (.istore_n 2, 1) := by decide +kernel
theorem dX6_isAhead_2 : decode cX6_isAhead 2 = .ok (.iconst 1, 1) := by decide +kernel
theorem dX6_isAhead_3 : decode cX6_isAhead 3 = .ok (.istore_n 3, 1) := by decide +kernel
theorem dX6_isAhead_4 : decode cX6_isAhead 4 = .ok (.iload_n 3, 1) := by decide +kernel
theorem dX6_isAhead_5 : decode cX6_isAhead 5 = .ok (.aload_n 0, 1) := by decide +kernel
theorem dX6_isAhead_6 : decode cX6_isAhead 6 = .ok (.getfield 38, 3) := by decide +kernel
theorem dX6_isAhead_9 : decode cX6_isAhead 9 = .ok (.iconst 4, 1) := by decide +kernel
theorem dX6_isAhead_10 : decode cX6_isAhead 10 = .ok (.iload_n 1, 1) := by decide +kernel
theorem dX6_isAhead_11 : decode cX6_isAhead 11 = .ok (.imul, 1) := by decide +kernel
theorem dX6_isAhead_12 : decode cX6_isAhead 12 = .ok (.iaload, 1) := by decide +kernel
theorem dX6_isAhead_13 : decode cX6_isAhead 13 = .ok (.invokestatic 180, 3) := by decide +kernel
theorem dX6_isAhead_16 : decode cX6_isAhead 16 = .ok (.if_icmp .gt 40, 3) := by decide +kernel
theorem dX6_isAhead_19 : decode cX6_isAhead 19 = .ok (.iload_n 2, 1) := by decide +kernel
theorem dX6_isAhead_20 : decode cX6_isAhead 20 = .ok (.ifCond .eq 28, 3) := by decide +kernel
theorem dX6_isAhead_23 : decode cX6_isAhead 23 = .ok (.aload_n 0, 1) := by decide +kernel
theorem dX6_isAhead_24 : decode cX6_isAhead 24 = .ok (.getfield 38, 3) := by decide +kernel
theorem dX6_isAhead_27 : decode cX6_isAhead 27 = .ok (.iconst 4, 1) := by decide +kernel
theorem dX6_isAhead_28 : decode cX6_isAhead 28 = .ok (.iload_n 1, 1) := by decide +kernel
theorem dX6_isAhead_29 : decode cX6_isAhead 29 = .ok (.imul, 1) := by decide +kernel
theorem dX6_isAhead_30 : decode cX6_isAhead 30 = .ok (.iload_n 3, 1) := by decide +kernel
theorem dX6_isAhead_31 : decode cX6_isAhead 31 = .ok (.iadd, 1) := by decide +kernel
theorem dX6_isAhead_32 : decode cX6_isAhead 32 = .ok (.iaload, 1) := by decide +kernel
theorem dX6_isAhead_33 : decode cX6_isAhead 33 = .ok (.aload_n 0, 1) := by decide +kernel
theorem dX6_isAhead_34 : decode cX6_isAhead 34 = .ok (.getfield 7, 3) := by decide +kernel
theorem dX6_isAhead_37 : decode cX6_isAhead 37 = .ok (.iconst 0, 1) := by decide +kernel
theorem dX6_isAhead_38 : decode cX6_isAhead 38 = .ok (.iaload, 1) := by decide +kernel
theorem dX6_isAhead_39 : decode cX6_isAhead 39 = .ok (.iload_n 1, 1) := by decide +kernel
theorem dX6_isAhead_40 : decode cX6_isAhead 40 = .ok (.iadd, 1) := by decide +kernel
theorem dX6_isAhead_41 : decode cX6_isAhead 41 = .ok (.if_icmp .ge 7, 3) := by decide +kernel
theorem dX6_isAhead_44 : decode cX6_isAhead 44 = .ok (.iconst 1, 1) := by decide +kernel
theorem dX6_isAhead_45 : decode cX6_isAhead 45 = .ok (.goto 4, 3) := by decide +kernel
theorem dX6_isAhead_48 : decode cX6_isAhead 48 = .ok (.iconst 0, 1) := by decide +kernel
theorem dX6_isAhead_49 : decode cX6_isAhead 49 = .ok (.istore_n 2, 1) := by decide +kernel
theorem dX6_isAhead_50 : decode cX6_isAhead 50 = .ok (.iinc 3 1, 3) := by decide +kernel
theorem dX6_isAhead_53 : decode cX6_isAhead 53 = .ok (.goto (-49), 3) := by decide +kernel
theorem dX6_isAhead_56 : decode cX6_isAhead 56 = .ok (.iload_n 2, 1) := by decide +kernel
theorem dX6_isAhead_57 : decode cX6_isAhead 57 = .ok (.ireturn, 1) := by decide +kernel
theorem dX6_readCircuit_0 : decode cX6_readCircuit 0 = .ok (.aload_n 0, 1) := by decide +kernel
theorem dX6_readCircuit_1 : decode cX6_readCircuit 1 = .ok (.invokevirtual 183, 3) := by decide +kernel
theorem dX6_readCircuit_4 : decode cX6_readCircuit 4 = .ok (.istore_n 1, 1) := by decide +kernel
theorem dX6_readCircuit_5 : decode cX6_readCircuit 5 = .ok (.iload_n 1, 1) := by decide +kernel
theorem dX6_readCircuit_6 : decode cX6_readCircuit 6 = .ok (.ldc 85, 2) := by decide +kernel
theorem dX6_readCircuit_8 : decode cX6_readCircuit 8 = .ok (.if_icmp .eq 8, 3) := by decide +kernel
theorem dX6_readCircuit_11 : decode cX6_readCircuit 11 = .ok (.ldc 186, 2) := by decide +kernel
theorem dX6_readCircuit_13 : decode cX6_readCircuit 13 = .ok (.iload_n 1, 1) := by decide +kernel
theorem dX6_readCircuit_14 : decode cX6_readCircuit 14 = .ok (.isub, 1) := by decide +kernel
theorem dX6_readCircuit_15 : decode cX6_readCircuit 15 = .ok (.ireturn, 1) := by decide +kernel
theorem dX6_readCircuit_16 : decode cX6_readCircuit 16 = .ok (.iconst 0, 1) := by decide +kernel
theorem dX6_readCircuit_17 : decode cX6_readCircuit 17 = .ok (.istore_n 2, 1) := by decide +kernel
theorem dX6_readCircuit_18 : decode cX6_readCircuit 18 = .ok (.iload_n 2, 1) := by decide +kernel
theorem dX6_readCircuit_19 : decode cX6_readCircuit 19 = .ok (.aload_n 0, 1) := by decide +kernel
theorem dX6_readCircuit_20 : decode cX6_readCircuit 20 = .ok (.getfield 166, 3) := by decide +kernel
theorem dX6_readCircuit_23 : decode cX6_readCircuit 23 = .ok (.if_icmp .ge 20, 3) := by decide +kernel
theorem dX6_readCircuit_26 : decode cX6_readCircuit 26 = .ok (.aload_n 0, 1) := by decide +kernel
theorem dX6_readCircuit_27 : decode cX6_readCircuit 27 = .ok (.iload_n 2, 1) := by decide +kernel
theorem dX6_readCircuit_28 : decode cX6_readCircuit 28 = .ok (.invokevirtual 187, 3) := by decide +kernel
theorem dX6_readCircuit_31 : decode cX6_readCircuit 31 = .ok (.ifCond .ne 6, 3) := by decide +kernel
theorem dX6_readCircuit_34 : decode cX6_readCircuit 34 = .ok (.ldc 95, 2) := by decide +kernel
theorem dX6_readCircuit_36 : decode cX6_readCircuit 36 = .ok (.ireturn, 1) := by decide +kernel
theorem dX6_readCircuit_37 : decode cX6_readCircuit 37 = .ok (.iinc 2 1, 3) := by decide +kernel
theorem dX6_readCircuit_40 : decode cX6_readCircuit 40 = .ok (.goto (-22), 3) := by decide +kernel
theorem dX6_readCircuit_43 : decode cX6_readCircuit 43 = .ok (.aload_n 0, 1) := by decide +kernel
theorem dX6_readCircuit_44 : decode cX6_readCircuit 44 = .ok (.getfield 7, 3) := by decide +kernel
theorem dX6_readCircuit_47 : decode cX6_readCircuit 47 = .ok (.iconst 0, 1) := by decide +kernel
theorem dX6_readCircuit_48 : decode cX6_readCircuit 48 = .ok (.iaload, 1) := by decide +kernel
theorem dX6_readCircuit_49 : decode cX6_readCircuit 49 = .ok (.aload_n 0, 1) := by decide +kernel
theorem dX6_readCircuit_50 : decode cX6_readCircuit 50 = .ok (.getfield 166, 3) := by decide +kernel
theorem dX6_readCircuit_53 : decode cX6_readCircuit 53 = .ok (.iadd, 1) := by decide +kernel
theorem dX6_readCircuit_54 : decode cX6_readCircuit 54 = .ok (.bipush 16, 2) := by decide +kernel
theorem dX6_readCircuit_56 : decode cX6_readCircuit 56 = .ok (.if_icmp .le 6, 3) := by decide +kernel
theorem dX6_readCircuit_59 : decode cX6_readCircuit 59 = .ok (.ldc 69, 2) := by decide +kernel
theorem dX6_readCircuit_61 : decode cX6_readCircuit 61 = .ok (.ireturn, 1) := by decide +kernel
theorem dX6_readCircuit_62 : decode cX6_readCircuit 62 = .ok (.aload_n 0, 1) := by decide +kernel
theorem dX6_readCircuit_63 : decode cX6_readCircuit 63 = .ok (.invokevirtual 70, 3) := by decide +kernel
theorem dX6_readCircuit_66 : decode cX6_readCircuit 66 = .ok (.iconst 0, 1) := by decide +kernel
theorem dX6_readCircuit_67 : decode cX6_readCircuit 67 = .ok (.istore_n 2, 1) := by decide +kernel
theorem dX6_readCircuit_68 : decode cX6_readCircuit 68 = .ok (.iload_n 2, 1) := by decide +kernel
theorem dX6_readCircuit_69 : decode cX6_readCircuit 69 = .ok (.iconst 4, 1) := by decide +kernel
theorem dX6_readCircuit_70 : decode cX6_readCircuit 70 = .ok (.aload_n 0, 1) := by decide +kernel
theorem dX6_readCircuit_71 : decode cX6_readCircuit 71 = .ok (.getfield 166, 3) := by decide +kernel
theorem dX6_readCircuit_74 : decode cX6_readCircuit 74 = .ok (.imul, 1) := by decide +kernel
theorem dX6_readCircuit_75 : decode cX6_readCircuit 75 = .ok (.if_icmp .ge 43, 3) := by decide +kernel
theorem dX6_readCircuit_78 : decode cX6_readCircuit 78 = .ok (.aload_n 0, 1) := by decide +kernel
theorem dX6_readCircuit_79 : decode cX6_readCircuit 79 = .ok (.aload_n 0, 1) := by decide +kernel
theorem dX6_readCircuit_80 : decode cX6_readCircuit 80 = .ok (.getfield 38, 3) := by decide +kernel
theorem dX6_readCircuit_83 : decode cX6_readCircuit 83 = .ok (.iload_n 2, 1) := by decide +kernel
theorem dX6_readCircuit_84 : decode cX6_readCircuit 84 = .ok (.iaload, 1) := by decide +kernel
theorem dX6_readCircuit_85 : decode cX6_readCircuit 85 = .ok (.aload_n 0, 1) := by decide +kernel
theorem dX6_readCircuit_86 : decode cX6_readCircuit 86 = .ok (.getfield 38, 3) := by decide +kernel
theorem dX6_readCircuit_89 : decode cX6_readCircuit 89 = .ok (.iload_n 2, 1) := by decide +kernel
theorem dX6_readCircuit_90 : decode cX6_readCircuit 90 = .ok (.iconst 1, 1) := by decide +kernel
theorem dX6_readCircuit_91 : decode cX6_readCircuit 91 = .ok (.iadd, 1) := by decide +kernel
theorem dX6_readCircuit_92 : decode cX6_readCircuit 92 = .ok (.iaload, 1) := by decide +kernel
theorem dX6_readCircuit_93 : decode cX6_readCircuit 93 = .ok (.aload_n 0, 1) := by decide +kernel
theorem dX6_readCircuit_94 : decode cX6_readCircuit 94 = .ok (.getfield 38, 3) := by decide +kernel
theorem dX6_readCircuit_97 : decode cX6_readCircuit 97 = .ok (.iload_n 2, 1) := by decide +kernel
theorem dX6_readCircuit_98 : decode cX6_readCircuit 98 = .ok (.iconst 2, 1) := by decide +kernel
theorem dX6_readCircuit_99 : decode cX6_readCircuit 99 = .ok (.iadd, 1) := by decide +kernel
theorem dX6_readCircuit_100 : decode cX6_readCircuit 100 = .ok (.iaload, 1) := by decide +kernel
theorem dX6_readCircuit_101 : decode cX6_readCircuit 101 = .ok (.aload_n 0, 1) := by decide +kernel
theorem dX6_readCircuit_102 : decode cX6_readCircuit 102 = .ok (.getfield 38, 3) := by decide +kernel
theorem dX6_readCircuit_105 : decode cX6_readCircuit 105 = .ok (.iload_n 2, 1) := by decide +kernel
theorem dX6_readCircuit_106 : decode cX6_readCircuit 106 = .ok (.iconst 3, 1) := by decide +kernel
theorem dX6_readCircuit_107 : decode cX6_readCircuit 107 = .ok (.iadd, 1) := by decide +kernel
theorem dX6_readCircuit_108 : decode cX6_readCircuit 108 = .ok (.iaload, 1) := by decide +kernel
theorem dX6_readCircuit_109 : decode cX6_readCircuit 109 = .ok (.invokevirtual 73, 3) := by decide +kernel
theorem dX6_readCircuit_112 : decode cX6_readCircuit 112 = .ok (.iinc 2 4, 3) := by decide +kernel
theorem dX6_readCircuit_115 : decode cX6_readCircuit 115 = .ok (.goto (-47), 3) := by decide +kernel
theorem dX6_readCircuit_118 : decode cX6_readCircuit 118 = .ok (.aload_n 0, 1) := by decide +kernel
theorem dX6_readCircuit_119 : decode cX6_readCircuit 119 = .ok (.aload_n 0, 1) := by decide +kernel
theorem dX6_readCircuit_120 : decode cX6_readCircuit 120 = .ok (.getfield 7, 3) := by decide +kernel
theorem dX6_readCircuit_123 : decode cX6_readCircuit 123 = .ok (.iconst 0, 1) := by decide +kernel
theorem dX6_readCircuit_124 : decode cX6_readCircuit 124 = .ok (.iaload, 1) := by decide +kernel
theorem dX6_readCircuit_125 : decode cX6_readCircuit 125 = .ok (.invokevirtual 77, 3) := by decide +kernel
theorem dX6_readCircuit_128 : decode cX6_readCircuit 128 = .ok (.ireturn, 1) := by decide +kernel
theorem dX6_undo_0 : decode cX6_undo 0 = .ok (.aload_n 0, 1) := by decide +kernel
theorem dX6_undo_1 : decode cX6_undo 1 = .ok (.getfield 61, 3) := by decide +kernel
theorem dX6_undo_4 : decode cX6_undo 4 = .ok (.ifCond .ne 6, 3) := by decide +kernel
theorem dX6_undo_7 : decode cX6_undo 7 = .ok (.ldc 85, 2) := by decide +kernel
theorem dX6_undo_9 : decode cX6_undo 9 = .ok (.ireturn, 1) := by decide +kernel
theorem dX6_undo_10 : decode cX6_undo 10 = .ok (.aload_n 0, 1) := by decide +kernel
theorem dX6_undo_11 : decode cX6_undo 11 = .ok (.dup, 1) := by decide +kernel
theorem dX6_undo_12 : decode cX6_undo 12 = .ok (.getfield 61, 3) := by decide +kernel
theorem dX6_undo_15 : decode cX6_undo 15 = .ok (.iconst 1, 1) := by decide +kernel
theorem dX6_undo_16 : decode cX6_undo 16 = .ok (.isub, 1) := by decide +kernel
theorem dX6_undo_17 : decode cX6_undo 17 = .ok (.putfield 61, 3) := by decide +kernel
theorem dX6_undo_20 : decode cX6_undo 20 = .ok (.iconst 0, 1) := by decide +kernel
theorem dX6_undo_21 : decode cX6_undo 21 = .ok (.istore_n 1, 1) := by decide +kernel
theorem dX6_undo_22 : decode cX6_undo 22 = .ok (.iload_n 1, 1) := by decide +kernel
theorem dX6_undo_23 : decode cX6_undo 23 = .ok (.bipush 66, 2) := by decide +kernel
theorem dX6_undo_25 : decode cX6_undo 25 = .ok (.if_icmp .ge 29, 3) := by decide +kernel
theorem dX6_undo_28 : decode cX6_undo 28 = .ok (.aload_n 0, 1) := by decide +kernel
theorem dX6_undo_29 : decode cX6_undo 29 = .ok (.getfield 7, 3) := by decide +kernel
theorem dX6_undo_32 : decode cX6_undo 32 = .ok (.iload_n 1, 1) := by decide +kernel
theorem dX6_undo_33 : decode cX6_undo 33 = .ok (.aload_n 0, 1) := by decide +kernel
theorem dX6_undo_34 : decode cX6_undo 34 = .ok (.getfield 16, 3) := by decide +kernel
theorem dX6_undo_37 : decode cX6_undo 37 = .ok (.bipush 66, 2) := by decide +kernel
theorem dX6_undo_39 : decode cX6_undo 39 = .ok (.aload_n 0, 1) := by decide +kernel
theorem dX6_undo_40 : decode cX6_undo 40 = .ok (.getfield 61, 3) := by decide +kernel
theorem dX6_undo_43 : decode cX6_undo 43 = .ok (.imul, 1) := by decide +kernel
theorem dX6_undo_44 : decode cX6_undo 44 = .ok (.iload_n 1, 1) := by decide +kernel
theorem dX6_undo_45 : decode cX6_undo 45 = .ok (.iadd, 1) := by decide +kernel
theorem dX6_undo_46 : decode cX6_undo 46 = .ok (.iaload, 1) := by decide +kernel
theorem dX6_undo_47 : decode cX6_undo 47 = .ok (.iastore, 1) := by decide +kernel
theorem dX6_undo_48 : decode cX6_undo 48 = .ok (.iinc 1 1, 3) := by decide +kernel
theorem dX6_undo_51 : decode cX6_undo 51 = .ok (.goto (-29), 3) := by decide +kernel
theorem dX6_undo_54 : decode cX6_undo 54 = .ok (.aload_n 0, 1) := by decide +kernel
theorem dX6_undo_55 : decode cX6_undo 55 = .ok (.getfield 61, 3) := by decide +kernel
theorem dX6_undo_58 : decode cX6_undo 58 = .ok (.ireturn, 1) := by decide +kernel
theorem dX6_keep_0 : decode cX6_keep 0 = .ok (.iconst 0, 1) := by decide +kernel
theorem dX6_keep_1 : decode cX6_keep 1 = .ok (.istore_n 1, 1) := by decide +kernel
theorem dX6_keep_2 : decode cX6_keep 2 = .ok (.iload_n 1, 1) := by decide +kernel
theorem dX6_keep_3 : decode cX6_keep 3 = .ok (.bipush 66, 2) := by decide +kernel
theorem dX6_keep_5 : decode cX6_keep 5 = .ok (.if_icmp .ge 21, 3) := by decide +kernel
theorem dX6_keep_8 : decode cX6_keep 8 = .ok (.aload_n 0, 1) := by decide +kernel
theorem dX6_keep_9 : decode cX6_keep 9 = .ok (.getfield 19, 3) := by decide +kernel
theorem dX6_keep_12 : decode cX6_keep 12 = .ok (.iload_n 1, 1) := by decide +kernel
theorem dX6_keep_13 : decode cX6_keep 13 = .ok (.aload_n 0, 1) := by decide +kernel
theorem dX6_keep_14 : decode cX6_keep 14 = .ok (.getfield 7, 3) := by decide +kernel
theorem dX6_keep_17 : decode cX6_keep 17 = .ok (.iload_n 1, 1) := by decide +kernel
theorem dX6_keep_18 : decode cX6_keep 18 = .ok (.iaload, 1) := by decide +kernel
theorem dX6_keep_19 : decode cX6_keep 19 = .ok (.iastore, 1) := by decide +kernel
theorem dX6_keep_20 : decode cX6_keep 20 = .ok (.iinc 1 1, 3) := by decide +kernel
theorem dX6_keep_23 : decode cX6_keep 23 = .ok (.goto (-21), 3) := by decide +kernel
theorem dX6_keep_26 : decode cX6_keep 26 = .ok (.aload_n 0, 1) := by decide +kernel
theorem dX6_keep_27 : decode cX6_keep 27 = .ok (.iconst 1, 1) := by decide +kernel
theorem dX6_keep_28 : decode cX6_keep 28 = .ok (.putfield 190, 3) := by decide +kernel
theorem dX6_keep_31 : decode cX6_keep 31 = .ok (.aload_n 0, 1) := by decide +kernel
theorem dX6_keep_32 : decode cX6_keep 32 = .ok (.getfield 7, 3) := by decide +kernel
theorem dX6_keep_35 : decode cX6_keep 35 = .ok (.iconst 0, 1) := by decide +kernel
theorem dX6_keep_36 : decode cX6_keep 36 = .ok (.iaload, 1) := by decide +kernel
theorem dX6_keep_37 : decode cX6_keep 37 = .ok (.ireturn, 1) := by decide +kernel
theorem dX6_restore_0 : decode cX6_restore 0 = .ok (.aload_n 0, 1) := by decide +kernel
theorem dX6_restore_1 : decode cX6_restore 1 = .ok (.getfield 190, 3) := by decide +kernel
theorem dX6_restore_4 : decode cX6_restore 4 = .ok (.ifCond .ne 6, 3) := by decide +kernel
theorem dX6_restore_7 : decode cX6_restore 7 = .ok (.ldc 85, 2) := by decide +kernel
theorem dX6_restore_9 : decode cX6_restore 9 = .ok (.ireturn, 1) := by decide +kernel
theorem dX6_restore_10 : decode cX6_restore 10 = .ok (.aload_n 0, 1) := by decide +kernel
theorem dX6_restore_11 : decode cX6_restore 11 = .ok (.invokevirtual 70, 3) := by decide +kernel
theorem dX6_restore_14 : decode cX6_restore 14 = .ok (.iconst 0, 1) := by decide +kernel
theorem dX6_restore_15 : decode cX6_restore 15 = .ok (.istore_n 1, 1) := by decide +kernel
theorem dX6_restore_16 : decode cX6_restore 16 = .ok (.iload_n 1, 1) := by decide +kernel
theorem dX6_restore_17 : decode cX6_restore 17 = .ok (.bipush 66, 2) := by decide +kernel
theorem dX6_restore_19 : decode cX6_restore 19 = .ok (.if_icmp .ge 21, 3) := by decide +kernel
theorem dX6_restore_22 : decode cX6_restore 22 = .ok (.aload_n 0, 1) := by decide +kernel
theorem dX6_restore_23 : decode cX6_restore 23 = .ok (.getfield 7, 3) := by decide +kernel
theorem dX6_restore_26 : decode cX6_restore 26 = .ok (.iload_n 1, 1) := by decide +kernel
theorem dX6_restore_27 : decode cX6_restore 27 = .ok (.aload_n 0, 1) := by decide +kernel
theorem dX6_restore_28 : decode cX6_restore 28 = .ok (.getfield 19, 3) := by decide +kernel
theorem dX6_restore_31 : decode cX6_restore 31 = .ok (.iload_n 1, 1) := by decide +kernel
theorem dX6_restore_32 : decode cX6_restore 32 = .ok (.iaload, 1) := by decide +kernel
theorem dX6_restore_33 : decode cX6_restore 33 = .ok (.iastore, 1) := by decide +kernel
theorem dX6_restore_34 : decode cX6_restore 34 = .ok (.iinc 1 1, 3) := by decide +kernel
theorem dX6_restore_37 : decode cX6_restore 37 = .ok (.goto (-21), 3) := by decide +kernel
theorem dX6_restore_40 : decode cX6_restore 40 = .ok (.aload_n 0, 1) := by decide +kernel
theorem dX6_restore_41 : decode cX6_restore 41 = .ok (.aload_n 0, 1) := by decide +kernel
theorem dX6_restore_42 : decode cX6_restore 42 = .ok (.getfield 7, 3) := by decide +kernel
theorem dX6_restore_45 : decode cX6_restore 45 = .ok (.iconst 0, 1) := by decide +kernel
theorem dX6_restore_46 : decode cX6_restore 46 = .ok (.iaload, 1) := by decide +kernel
theorem dX6_restore_47 : decode cX6_restore 47 = .ok (.invokevirtual 77, 3) := by decide +kernel
theorem dX6_restore_50 : decode cX6_restore 50 = .ok (.ireturn, 1) := by decide +kernel
theorem dX6_findsDepths_0 : decode cX6_findsDepths 0 = .ok (.iconst 0, 1) := by decide +kernel
theorem dX6_findsDepths_1 : decode cX6_findsDepths 1 = .ok (.istore_n 1, 1) := by decide +kernel
theorem dX6_findsDepths_2 : decode cX6_findsDepths 2 = .ok (.iload_n 1, 1) := by decide +kernel
theorem dX6_findsDepths_3 : decode cX6_findsDepths 3 = .ok (.aload_n 0, 1) := by decide +kernel
theorem dX6_findsDepths_4 : decode cX6_findsDepths 4 = .ok (.getfield 7, 3) := by decide +kernel
theorem dX6_findsDepths_7 : decode cX6_findsDepths 7 = .ok (.iconst 0, 1) := by decide +kernel
theorem dX6_findsDepths_8 : decode cX6_findsDepths 8 = .ok (.iaload, 1) := by decide +kernel
theorem dX6_findsDepths_9 : decode cX6_findsDepths 9 = .ok (.if_icmp .ge 130, 3) := by decide +kernel
theorem dX6_findsDepths_12 : decode cX6_findsDepths 12 = .ok (.aload_n 0, 1) := by decide +kernel
theorem dX6_findsDepths_13 : decode cX6_findsDepths 13 = .ok (.iload_n 1, 1) := by decide +kernel
theorem dX6_findsDepths_14 : decode cX6_findsDepths 14 = .ok (.iconst 0, 1) := by decide +kernel
theorem dX6_findsDepths_15 : decode cX6_findsDepths 15 = .ok (.invokevirtual 100, 3) := by decide +kernel
theorem dX6_findsDepths_18 : decode cX6_findsDepths 18 = .ok (.invokestatic 180, 3) := by decide +kernel
theorem dX6_findsDepths_21 : decode cX6_findsDepths 21 = .ok (.istore_n 2, 1) := by decide +kernel
theorem dX6_findsDepths_22 : decode cX6_findsDepths 22 = .ok (.aload_n 0, 1) := by decide +kernel
theorem dX6_findsDepths_23 : decode cX6_findsDepths 23 = .ok (.getfield 41, 3) := by decide +kernel
theorem dX6_findsDepths_26 : decode cX6_findsDepths 26 = .ok (.iload_n 1, 1) := by decide +kernel
theorem dX6_findsDepths_27 : decode cX6_findsDepths 27 = .ok (.iload_n 2, 1) := by decide +kernel
theorem dX6_findsDepths_28 : decode cX6_findsDepths 28 = .ok (.ifCond .ne 7, 3) := by decide +kernel
theorem dX6_findsDepths_31 : decode cX6_findsDepths 31 = .ok (.iconst 0, 1) := by decide +kernel
theorem dX6_findsDepths_32 : decode cX6_findsDepths 32 = .ok (.goto 4, 3) := by decide +kernel
theorem dX6_findsDepths_35 : decode cX6_findsDepths 35 = .ok (.iconst 1, 1) := by decide +kernel
theorem dX6_findsDepths_36 : decode cX6_findsDepths 36 = .ok (.iastore, 1) := by decide +kernel
theorem dX6_findsDepths_37 : decode cX6_findsDepths 37 = .ok (.aload_n 0, 1) := by decide +kernel
theorem dX6_findsDepths_38 : decode cX6_findsDepths 38 = .ok (.getfield 44, 3) := by decide +kernel
theorem dX6_findsDepths_41 : decode cX6_findsDepths 41 = .ok (.iload_n 1, 1) := by decide +kernel
theorem dX6_findsDepths_42 : decode cX6_findsDepths 42 = .ok (.iload_n 2, 1) := by decide +kernel
theorem dX6_findsDepths_43 : decode cX6_findsDepths 43 = .ok (.ifCond .ne 9, 3) := by decide +kernel
theorem dX6_findsDepths_46 : decode cX6_findsDepths 46 = .ok (.iconst 1, 1) := by decide +kernel
theorem dX6_findsDepths_47 : decode cX6_findsDepths 47 = .ok (.iload_n 1, 1) := by decide +kernel
theorem dX6_findsDepths_48 : decode cX6_findsDepths 48 = .ok (.ishl, 1) := by decide +kernel
theorem dX6_findsDepths_49 : decode cX6_findsDepths 49 = .ok (.goto 4, 3) := by decide +kernel
theorem dX6_findsDepths_52 : decode cX6_findsDepths 52 = .ok (.iconst 0, 1) := by decide +kernel
theorem dX6_findsDepths_53 : decode cX6_findsDepths 53 = .ok (.iastore, 1) := by decide +kernel
theorem dX6_findsDepths_54 : decode cX6_findsDepths 54 = .ok (.iconst 1, 1) := by decide +kernel
theorem dX6_findsDepths_55 : decode cX6_findsDepths 55 = .ok (.istore_n 3, 1) := by decide +kernel
theorem dX6_findsDepths_56 : decode cX6_findsDepths 56 = .ok (.iload_n 3, 1) := by decide +kernel
theorem dX6_findsDepths_57 : decode cX6_findsDepths 57 = .ok (.iload_n 2, 1) := by decide +kernel
theorem dX6_findsDepths_58 : decode cX6_findsDepths 58 = .ok (.if_icmp .gt 75, 3) := by decide +kernel
theorem dX6_findsDepths_61 : decode cX6_findsDepths 61 = .ok (.aload_n 0, 1) := by decide +kernel
theorem dX6_findsDepths_62 : decode cX6_findsDepths 62 = .ok (.iload_n 1, 1) := by decide +kernel
theorem dX6_findsDepths_63 : decode cX6_findsDepths 63 = .ok (.iload_n 3, 1) := by decide +kernel
theorem dX6_findsDepths_64 : decode cX6_findsDepths 64 = .ok (.invokevirtual 100, 3) := by decide +kernel
theorem dX6_findsDepths_67 : decode cX6_findsDepths 67 = .ok (.istore 4, 2) := by decide +kernel
theorem dX6_findsDepths_69 : decode cX6_findsDepths 69 = .ok (.aload_n 0, 1) := by decide +kernel
theorem dX6_findsDepths_70 : decode cX6_findsDepths 70 = .ok (.getfield 41, 3) := by decide +kernel
theorem dX6_findsDepths_73 : decode cX6_findsDepths 73 = .ok (.iload_n 1, 1) := by decide +kernel
theorem dX6_findsDepths_74 : decode cX6_findsDepths 74 = .ok (.aload_n 0, 1) := by decide +kernel
theorem dX6_findsDepths_75 : decode cX6_findsDepths 75 = .ok (.getfield 41, 3) := by decide +kernel
theorem dX6_findsDepths_78 : decode cX6_findsDepths 78 = .ok (.iload 4, 2) := by decide +kernel
theorem dX6_findsDepths_80 : decode cX6_findsDepths 80 = .ok (.iaload, 1) := by decide +kernel
theorem dX6_findsDepths_81 : decode cX6_findsDepths 81 = .ok (.iconst 1, 1) := by decide +kernel
theorem dX6_findsDepths_82 : decode cX6_findsDepths 82 = .ok (.iadd, 1) := by decide +kernel
theorem dX6_findsDepths_83 : decode cX6_findsDepths 83 = .ok (.aload_n 0, 1) := by decide +kernel
theorem dX6_findsDepths_84 : decode cX6_findsDepths 84 = .ok (.getfield 41, 3) := by decide +kernel
theorem dX6_findsDepths_87 : decode cX6_findsDepths 87 = .ok (.iload_n 1, 1) := by decide +kernel
theorem dX6_findsDepths_88 : decode cX6_findsDepths 88 = .ok (.iaload, 1) := by decide +kernel
theorem dX6_findsDepths_89 : decode cX6_findsDepths 89 = .ok (.if_icmp .le 15, 3) := by decide +kernel
theorem dX6_findsDepths_92 : decode cX6_findsDepths 92 = .ok (.aload_n 0, 1) := by decide +kernel
theorem dX6_findsDepths_93 : decode cX6_findsDepths 93 = .ok (.getfield 41, 3) := by decide +kernel
theorem dX6_findsDepths_96 : decode cX6_findsDepths 96 = .ok (.iload 4, 2) := by decide +kernel
theorem dX6_findsDepths_98 : decode cX6_findsDepths 98 = .ok (.iaload, 1) := by decide +kernel
theorem dX6_findsDepths_99 : decode cX6_findsDepths 99 = .ok (.iconst 1, 1) := by decide +kernel
theorem dX6_findsDepths_100 : decode cX6_findsDepths 100 = .ok (.iadd, 1) := by decide +kernel
theorem dX6_findsDepths_101 : decode cX6_findsDepths 101 = .ok (.goto 9, 3) := by decide +kernel
theorem dX6_findsDepths_104 : decode cX6_findsDepths 104 = .ok (.aload_n 0, 1) := by decide +kernel
theorem dX6_findsDepths_105 : decode cX6_findsDepths 105 = .ok (.getfield 41, 3) := by decide +kernel
theorem dX6_findsDepths_108 : decode cX6_findsDepths 108 = .ok (.iload_n 1, 1) := by decide +kernel
theorem dX6_findsDepths_109 : decode cX6_findsDepths 109 = .ok (.iaload, 1) := by decide +kernel
theorem dX6_findsDepths_110 : decode cX6_findsDepths 110 = .ok (.iastore, 1) := by decide +kernel
theorem dX6_findsDepths_111 : decode cX6_findsDepths 111 = .ok (.aload_n 0, 1) := by decide +kernel
theorem dX6_findsDepths_112 : decode cX6_findsDepths 112 = .ok (.getfield 44, 3) := by decide +kernel
theorem dX6_findsDepths_115 : decode cX6_findsDepths 115 = .ok (.iload_n 1, 1) := by decide +kernel
theorem dX6_findsDepths_116 : decode cX6_findsDepths 116 = .ok (.dup2, 1) := by decide +kernel
theorem dX6_findsDepths_117 : decode cX6_findsDepths 117 = .ok (.iaload, 1) := by decide +kernel
theorem dX6_findsDepths_118 : decode cX6_findsDepths 118 = .ok (.aload_n 0, 1) := by decide +kernel
theorem dX6_findsDepths_119 : decode cX6_findsDepths 119 = .ok (.getfield 44, 3) := by decide +kernel
theorem dX6_findsDepths_122 : decode cX6_findsDepths 122 = .ok (.iload 4, 2) := by decide +kernel
theorem dX6_findsDepths_124 : decode cX6_findsDepths 124 = .ok (.iaload, 1) := by decide +kernel
theorem dX6_findsDepths_125 : decode cX6_findsDepths 125 = .ok (.ior, 1) := by decide +kernel
theorem dX6_findsDepths_126 : decode cX6_findsDepths 126 = .ok (.iastore, 1) := by decide +kernel
theorem dX6_findsDepths_127 : decode cX6_findsDepths 127 = .ok (.iinc 3 1, 3) := by decide +kernel
theorem dX6_findsDepths_130 : decode cX6_findsDepths 130 = .ok (.goto (-74), 3) := by decide +kernel
theorem dX6_findsDepths_133 : decode cX6_findsDepths 133 = .ok (.iinc 1 1, 3) := by decide +kernel
theorem dX6_findsDepths_136 : decode cX6_findsDepths 136 = .ok (.goto (-134), 3) := by decide +kernel
theorem dX6_findsDepths_139 : decode cX6_findsDepths 139 = .ok (.return_, 1) := by decide +kernel
theorem dX6_bitsOf_0 : decode cX6_bitsOf 0 = .ok (.iconst 0, 1) := by decide +kernel
theorem dX6_bitsOf_1 : decode cX6_bitsOf 1 = .ok (.istore_n 1, 1) := by decide +kernel
theorem dX6_bitsOf_2 : decode cX6_bitsOf 2 = .ok (.iload_n 0, 1) := by decide +kernel
theorem dX6_bitsOf_3 : decode cX6_bitsOf 3 = .ok (.istore_n 2, 1) := by decide +kernel
theorem dX6_bitsOf_4 : decode cX6_bitsOf 4 = .ok (.iload_n 2, 1) := by decide +kernel
theorem dX6_bitsOf_5 : decode cX6_bitsOf 5 = .ok (.ifCond .eq 15, 3) := by decide +kernel
theorem dX6_bitsOf_8 : decode cX6_bitsOf 8 = .ok (.iinc 1 1, 3) := by decide +kernel
theorem dX6_bitsOf_11 : decode cX6_bitsOf 11 = .ok (.iload_n 2, 1) := by decide +kernel
theorem dX6_bitsOf_12 : decode cX6_bitsOf 12 = .ok (.iload_n 2, 1) := by decide +kernel
theorem dX6_bitsOf_13 : decode cX6_bitsOf 13 = .ok (.iconst 1, 1) := by decide +kernel
theorem dX6_bitsOf_14 : decode cX6_bitsOf 14 = .ok (.isub, 1) := by decide +kernel
theorem dX6_bitsOf_15 : decode cX6_bitsOf 15 = .ok (.iand, 1) := by decide +kernel
theorem dX6_bitsOf_16 : decode cX6_bitsOf 16 = .ok (.istore_n 2, 1) := by decide +kernel
theorem dX6_bitsOf_17 : decode cX6_bitsOf 17 = .ok (.goto (-13), 3) := by decide +kernel
theorem dX6_bitsOf_20 : decode cX6_bitsOf 20 = .ok (.iload_n 1, 1) := by decide +kernel
theorem dX6_bitsOf_21 : decode cX6_bitsOf 21 = .ok (.ireturn, 1) := by decide +kernel
theorem dX6_line_0 : decode cX6_line 0 = .ok (.aload_n 0, 1) := by decide +kernel
theorem dX6_line_1 : decode cX6_line 1 = .ok (.iload_n 1, 1) := by decide +kernel
theorem dX6_line_2 : decode cX6_line 2 = .ok (.invokevirtual 91, 3) := by decide +kernel
theorem dX6_line_5 : decode cX6_line 5 = .ok (.ifCond .ne 6, 3) := by decide +kernel
theorem dX6_line_8 : decode cX6_line 8 = .ok (.ldc 95, 2) := by decide +kernel
theorem dX6_line_10 : decode cX6_line 10 = .ok (.ireturn, 1) := by decide +kernel
theorem dX6_line_11 : decode cX6_line 11 = .ok (.iload_n 2, 1) := by decide +kernel
theorem dX6_line_12 : decode cX6_line 12 = .ok (.i2l, 1) := by decide +kernel
theorem dX6_line_13 : decode cX6_line 13 = .ok (.lconst 0, 1) := by decide +kernel
theorem dX6_line_14 : decode cX6_line 14 = .ok (.ldc2_w 193, 3) := by decide +kernel
theorem dX6_line_17 : decode cX6_line 17 = .ok (.invokestatic 65, 3) := by decide +kernel
theorem dX6_line_20 : decode cX6_line 20 = .ok (.ifCond .ne 6, 3) := by decide +kernel
theorem dX6_line_23 : decode cX6_line 23 = .ok (.ldc 90, 2) := by decide +kernel
theorem dX6_line_25 : decode cX6_line 25 = .ok (.ireturn, 1) := by decide +kernel
theorem dX6_line_26 : decode cX6_line 26 = .ok (.iload_n 2, 1) := by decide +kernel
theorem dX6_line_27 : decode cX6_line 27 = .ok (.iconst 4, 1) := by decide +kernel
theorem dX6_line_28 : decode cX6_line 28 = .ok (.if_icmp .ge 10, 3) := by decide +kernel
theorem dX6_line_31 : decode cX6_line 31 = .ok (.aload_n 0, 1) := by decide +kernel
theorem dX6_line_32 : decode cX6_line 32 = .ok (.iload_n 1, 1) := by decide +kernel
theorem dX6_line_33 : decode cX6_line 33 = .ok (.iload_n 2, 1) := by decide +kernel
theorem dX6_line_34 : decode cX6_line 34 = .ok (.invokevirtual 100, 3) := by decide +kernel
theorem dX6_line_37 : decode cX6_line 37 = .ok (.ireturn, 1) := by decide +kernel
theorem dX6_line_38 : decode cX6_line 38 = .ok (.aload_n 0, 1) := by decide +kernel
theorem dX6_line_39 : decode cX6_line 39 = .ok (.getfield 7, 3) := by decide +kernel
theorem dX6_line_42 : decode cX6_line 42 = .ok (.iconst 1, 1) := by decide +kernel
theorem dX6_line_43 : decode cX6_line 43 = .ok (.iaload, 1) := by decide +kernel
theorem dX6_line_44 : decode cX6_line 44 = .ok (.istore_n 3, 1) := by decide +kernel
theorem dX6_line_45 : decode cX6_line 45 = .ok (.aload_n 0, 1) := by decide +kernel
theorem dX6_line_46 : decode cX6_line 46 = .ok (.iload_n 1, 1) := by decide +kernel
theorem dX6_line_47 : decode cX6_line 47 = .ok (.iload_n 3, 1) := by decide +kernel
theorem dX6_line_48 : decode cX6_line 48 = .ok (.invokevirtual 125, 3) := by decide +kernel
theorem dX6_line_51 : decode cX6_line 51 = .ok (.aload_n 0, 1) := by decide +kernel
theorem dX6_line_52 : decode cX6_line 52 = .ok (.iload_n 1, 1) := by decide +kernel
theorem dX6_line_53 : decode cX6_line 53 = .ok (.invokevirtual 129, 3) := by decide +kernel
theorem dX6_line_56 : decode cX6_line 56 = .ok (.aload_n 0, 1) := by decide +kernel
theorem dX6_line_57 : decode cX6_line 57 = .ok (.invokevirtual 195, 3) := by decide +kernel
theorem dX6_line_60 : decode cX6_line 60 = .ok (.aload_n 0, 1) := by decide +kernel
theorem dX6_line_61 : decode cX6_line 61 = .ok (.iload_n 1, 1) := by decide +kernel
theorem dX6_line_62 : decode cX6_line 62 = .ok (.iload_n 3, 1) := by decide +kernel
theorem dX6_line_63 : decode cX6_line 63 = .ok (.invokevirtual 133, 3) := by decide +kernel
theorem dX6_line_66 : decode cX6_line 66 = .ok (.istore 4, 2) := by decide +kernel
theorem dX6_line_68 : decode cX6_line 68 = .ok (.iload_n 2, 1) := by decide +kernel
theorem dX6_line_69 : decode cX6_line 69 = .ok (.tableswitch 73 4 8 #[35, 38, 50, 57, 66], 35) := by decide +kernel
theorem dX6_line_104 : decode cX6_line 104 = .ok (.iload 4, 2) := by decide +kernel
theorem dX6_line_106 : decode cX6_line 106 = .ok (.ireturn, 1) := by decide +kernel
theorem dX6_line_107 : decode cX6_line 107 = .ok (.iload 4, 2) := by decide +kernel
theorem dX6_line_109 : decode cX6_line 109 = .ok (.i2l, 1) := by decide +kernel
theorem dX6_line_110 : decode cX6_line 110 = .ok (.ldc2_w 118, 3) := by decide +kernel
theorem dX6_line_113 : decode cX6_line 113 = .ok (.lmul, 1) := by decide +kernel
theorem dX6_line_114 : decode cX6_line 114 = .ok (.iload_n 3, 1) := by decide +kernel
theorem dX6_line_115 : decode cX6_line 115 = .ok (.i2l, 1) := by decide +kernel
theorem dX6_line_116 : decode cX6_line 116 = .ok (.ldiv, 1) := by decide +kernel
theorem dX6_line_117 : decode cX6_line 117 = .ok (.l2i, 1) := by decide +kernel
theorem dX6_line_118 : decode cX6_line 118 = .ok (.ireturn, 1) := by decide +kernel
theorem dX6_line_119 : decode cX6_line 119 = .ok (.aload_n 0, 1) := by decide +kernel
theorem dX6_line_120 : decode cX6_line 120 = .ok (.getfield 32, 3) := by decide +kernel
theorem dX6_line_123 : decode cX6_line 123 = .ok (.iload_n 1, 1) := by decide +kernel
theorem dX6_line_124 : decode cX6_line 124 = .ok (.iaload, 1) := by decide +kernel
theorem dX6_line_125 : decode cX6_line 125 = .ok (.ireturn, 1) := by decide +kernel
theorem dX6_line_126 : decode cX6_line 126 = .ok (.aload_n 0, 1) := by decide +kernel
theorem dX6_line_127 : decode cX6_line 127 = .ok (.iload_n 1, 1) := by decide +kernel
theorem dX6_line_128 : decode cX6_line 128 = .ok (.iload 4, 2) := by decide +kernel
theorem dX6_line_130 : decode cX6_line 130 = .ok (.iload_n 3, 1) := by decide +kernel
theorem dX6_line_131 : decode cX6_line 131 = .ok (.invokevirtual 136, 3) := by decide +kernel
theorem dX6_line_134 : decode cX6_line 134 = .ok (.ireturn, 1) := by decide +kernel
theorem dX6_line_135 : decode cX6_line 135 = .ok (.aload_n 0, 1) := by decide +kernel
theorem dX6_line_136 : decode cX6_line 136 = .ok (.getfield 41, 3) := by decide +kernel
theorem dX6_line_139 : decode cX6_line 139 = .ok (.iload_n 1, 1) := by decide +kernel
theorem dX6_line_140 : decode cX6_line 140 = .ok (.iaload, 1) := by decide +kernel
theorem dX6_line_141 : decode cX6_line 141 = .ok (.ireturn, 1) := by decide +kernel
theorem dX6_line_142 : decode cX6_line 142 = .ok (.aload_n 0, 1) := by decide +kernel
theorem dX6_line_143 : decode cX6_line 143 = .ok (.getfield 44, 3) := by decide +kernel
theorem dX6_line_146 : decode cX6_line 146 = .ok (.iload_n 1, 1) := by decide +kernel
theorem dX6_line_147 : decode cX6_line 147 = .ok (.iaload, 1) := by decide +kernel
theorem dX6_line_148 : decode cX6_line 148 = .ok (.invokestatic 198, 3) := by decide +kernel
theorem dX6_line_151 : decode cX6_line 151 = .ok (.ireturn, 1) := by decide +kernel
theorem dX6_bit_0 : decode cX6_bit 0 = .ok (.aload_n 0, 1) := by decide +kernel
theorem dX6_bit_1 : decode cX6_bit 1 = .ok (.iload_n 1, 1) := by decide +kernel
theorem dX6_bit_2 : decode cX6_bit 2 = .ok (.invokevirtual 91, 3) := by decide +kernel
theorem dX6_bit_5 : decode cX6_bit 5 = .ok (.ifCond .ne 6, 3) := by decide +kernel
theorem dX6_bit_8 : decode cX6_bit 8 = .ok (.ldc 95, 2) := by decide +kernel
theorem dX6_bit_10 : decode cX6_bit 10 = .ok (.ireturn, 1) := by decide +kernel
theorem dX6_bit_11 : decode cX6_bit 11 = .ok (.iload_n 2, 1) := by decide +kernel
theorem dX6_bit_12 : decode cX6_bit 12 = .ok (.i2l, 1) := by decide +kernel
theorem dX6_bit_13 : decode cX6_bit 13 = .ok (.lconst 0, 1) := by decide +kernel
theorem dX6_bit_14 : decode cX6_bit 14 = .ok (.ldc2_w 201, 3) := by decide +kernel
theorem dX6_bit_17 : decode cX6_bit 17 = .ok (.invokestatic 65, 3) := by decide +kernel
theorem dX6_bit_20 : decode cX6_bit 20 = .ok (.ifCond .ne 6, 3) := by decide +kernel
theorem dX6_bit_23 : decode cX6_bit 23 = .ok (.ldc 90, 2) := by decide +kernel
theorem dX6_bit_25 : decode cX6_bit 25 = .ok (.ireturn, 1) := by decide +kernel
theorem dX6_bit_26 : decode cX6_bit 26 = .ok (.aload_n 0, 1) := by decide +kernel
theorem dX6_bit_27 : decode cX6_bit 27 = .ok (.iload_n 1, 1) := by decide +kernel
theorem dX6_bit_28 : decode cX6_bit 28 = .ok (.iload_n 2, 1) := by decide +kernel
theorem dX6_bit_29 : decode cX6_bit 29 = .ok (.iconst 1, 1) := by decide +kernel
theorem dX6_bit_30 : decode cX6_bit 30 = .ok (.iadd, 1) := by decide +kernel
theorem dX6_bit_31 : decode cX6_bit 31 = .ok (.invokevirtual 125, 3) := by decide +kernel
theorem dX6_bit_34 : decode cX6_bit 34 = .ok (.aload_n 0, 1) := by decide +kernel
theorem dX6_bit_35 : decode cX6_bit 35 = .ok (.iload_n 1, 1) := by decide +kernel
theorem dX6_bit_36 : decode cX6_bit 36 = .ok (.iload_n 2, 1) := by decide +kernel
theorem dX6_bit_37 : decode cX6_bit 37 = .ok (.invokevirtual 107, 3) := by decide +kernel
theorem dX6_bit_40 : decode cX6_bit 40 = .ok (.ireturn, 1) := by decide +kernel
theorem dX6_overlap_0 : decode cX6_overlap 0 = .ok (.aload_n 0, 1) := by decide +kernel
theorem dX6_overlap_1 : decode cX6_overlap 1 = .ok (.iload_n 1, 1) := by decide +kernel
theorem dX6_overlap_2 : decode cX6_overlap 2 = .ok (.invokevirtual 91, 3) := by decide +kernel
theorem dX6_overlap_5 : decode cX6_overlap 5 = .ok (.ifCond .eq 11, 3) := by decide +kernel
theorem dX6_overlap_8 : decode cX6_overlap 8 = .ok (.aload_n 0, 1) := by decide +kernel
theorem dX6_overlap_9 : decode cX6_overlap 9 = .ok (.iload_n 2, 1) := by decide +kernel
theorem dX6_overlap_10 : decode cX6_overlap 10 = .ok (.invokevirtual 91, 3) := by decide +kernel
theorem dX6_overlap_13 : decode cX6_overlap 13 = .ok (.ifCond .ne 6, 3) := by decide +kernel
theorem dX6_overlap_16 : decode cX6_overlap 16 = .ok (.ldc 95, 2) := by decide +kernel
theorem dX6_overlap_18 : decode cX6_overlap 18 = .ok (.ireturn, 1) := by decide +kernel
theorem dX6_overlap_19 : decode cX6_overlap 19 = .ok (.aload_n 0, 1) := by decide +kernel
theorem dX6_overlap_20 : decode cX6_overlap 20 = .ok (.getfield 7, 3) := by decide +kernel
theorem dX6_overlap_23 : decode cX6_overlap 23 = .ok (.iconst 1, 1) := by decide +kernel
theorem dX6_overlap_24 : decode cX6_overlap 24 = .ok (.iaload, 1) := by decide +kernel
theorem dX6_overlap_25 : decode cX6_overlap 25 = .ok (.istore_n 3, 1) := by decide +kernel
theorem dX6_overlap_26 : decode cX6_overlap 26 = .ok (.aload_n 0, 1) := by decide +kernel
theorem dX6_overlap_27 : decode cX6_overlap 27 = .ok (.iload_n 1, 1) := by decide +kernel
theorem dX6_overlap_28 : decode cX6_overlap 28 = .ok (.iload_n 2, 1) := by decide +kernel
theorem dX6_overlap_29 : decode cX6_overlap 29 = .ok (.if_icmp .le 7, 3) := by decide +kernel
theorem dX6_overlap_32 : decode cX6_overlap 32 = .ok (.iload_n 1, 1) := by decide +kernel
theorem dX6_overlap_33 : decode cX6_overlap 33 = .ok (.goto 4, 3) := by decide +kernel
theorem dX6_overlap_36 : decode cX6_overlap 36 = .ok (.iload_n 2, 1) := by decide +kernel
theorem dX6_overlap_37 : decode cX6_overlap 37 = .ok (.iload_n 3, 1) := by decide +kernel
theorem dX6_overlap_38 : decode cX6_overlap 38 = .ok (.invokevirtual 125, 3) := by decide +kernel
theorem dX6_overlap_41 : decode cX6_overlap 41 = .ok (.lconst 0, 1) := by decide +kernel
theorem dX6_overlap_42 : decode cX6_overlap 42 = .ok (.lstore 4, 2) := by decide +kernel
theorem dX6_overlap_44 : decode cX6_overlap 44 = .ok (.iconst 0, 1) := by decide +kernel
theorem dX6_overlap_45 : decode cX6_overlap 45 = .ok (.istore 6, 2) := by decide +kernel
theorem dX6_overlap_47 : decode cX6_overlap 47 = .ok (.iload 6, 2) := by decide +kernel
theorem dX6_overlap_49 : decode cX6_overlap 49 = .ok (.iload_n 3, 1) := by decide +kernel
theorem dX6_overlap_50 : decode cX6_overlap 50 = .ok (.if_icmp .ge 30, 3) := by decide +kernel
theorem dX6_overlap_53 : decode cX6_overlap 53 = .ok (.lload 4, 2) := by decide +kernel
theorem dX6_overlap_55 : decode cX6_overlap 55 = .ok (.aload_n 0, 1) := by decide +kernel
theorem dX6_overlap_56 : decode cX6_overlap 56 = .ok (.iload_n 1, 1) := by decide +kernel
theorem dX6_overlap_57 : decode cX6_overlap 57 = .ok (.iload 6, 2) := by decide +kernel
theorem dX6_overlap_59 : decode cX6_overlap 59 = .ok (.invokevirtual 107, 3) := by decide +kernel
theorem dX6_overlap_62 : decode cX6_overlap 62 = .ok (.aload_n 0, 1) := by decide +kernel
theorem dX6_overlap_63 : decode cX6_overlap 63 = .ok (.iload_n 2, 1) := by decide +kernel
theorem dX6_overlap_64 : decode cX6_overlap 64 = .ok (.iload 6, 2) := by decide +kernel
theorem dX6_overlap_66 : decode cX6_overlap 66 = .ok (.invokevirtual 107, 3) := by decide +kernel
theorem dX6_overlap_69 : decode cX6_overlap 69 = .ok (.iand, 1) := by decide +kernel
theorem dX6_overlap_70 : decode cX6_overlap 70 = .ok (.i2l, 1) := by decide +kernel
theorem dX6_overlap_71 : decode cX6_overlap 71 = .ok (.ladd, 1) := by decide +kernel
theorem dX6_overlap_72 : decode cX6_overlap 72 = .ok (.lstore 4, 2) := by decide +kernel
theorem dX6_overlap_74 : decode cX6_overlap 74 = .ok (.iinc 6 1, 3) := by decide +kernel
theorem dX6_overlap_77 : decode cX6_overlap 77 = .ok (.goto (-30), 3) := by decide +kernel
theorem dX6_overlap_80 : decode cX6_overlap 80 = .ok (.lload 4, 2) := by decide +kernel
theorem dX6_overlap_82 : decode cX6_overlap 82 = .ok (.iload_n 3, 1) := by decide +kernel
theorem dX6_overlap_83 : decode cX6_overlap 83 = .ok (.i2l, 1) := by decide +kernel
theorem dX6_overlap_84 : decode cX6_overlap 84 = .ok (.lmul, 1) := by decide +kernel
theorem dX6_overlap_85 : decode cX6_overlap 85 = .ok (.aload_n 0, 1) := by decide +kernel
theorem dX6_overlap_86 : decode cX6_overlap 86 = .ok (.iload_n 1, 1) := by decide +kernel
theorem dX6_overlap_87 : decode cX6_overlap 87 = .ok (.iload_n 3, 1) := by decide +kernel
theorem dX6_overlap_88 : decode cX6_overlap 88 = .ok (.invokevirtual 133, 3) := by decide +kernel
theorem dX6_overlap_91 : decode cX6_overlap 91 = .ok (.i2l, 1) := by decide +kernel
theorem dX6_overlap_92 : decode cX6_overlap 92 = .ok (.aload_n 0, 1) := by decide +kernel
theorem dX6_overlap_93 : decode cX6_overlap 93 = .ok (.iload_n 2, 1) := by decide +kernel
theorem dX6_overlap_94 : decode cX6_overlap 94 = .ok (.iload_n 3, 1) := by decide +kernel
theorem dX6_overlap_95 : decode cX6_overlap 95 = .ok (.invokevirtual 133, 3) := by decide +kernel
theorem dX6_overlap_98 : decode cX6_overlap 98 = .ok (.i2l, 1) := by decide +kernel
theorem dX6_overlap_99 : decode cX6_overlap 99 = .ok (.lmul, 1) := by decide +kernel
theorem dX6_overlap_100 : decode cX6_overlap 100 = .ok (.lsub, 1) := by decide +kernel
theorem dX6_overlap_101 : decode cX6_overlap 101 = .ok (.lstore 6, 2) := by decide +kernel
theorem dX6_overlap_103 : decode cX6_overlap 103 = .ok (.lload 6, 2) := by decide +kernel
theorem dX6_overlap_105 : decode cX6_overlap 105 = .ok (.ldc2_w 118, 3) := by decide +kernel
theorem dX6_overlap_108 : decode cX6_overlap 108 = .ok (.lmul, 1) := by decide +kernel
theorem dX6_overlap_109 : decode cX6_overlap 109 = .ok (.iload_n 3, 1) := by decide +kernel
theorem dX6_overlap_110 : decode cX6_overlap 110 = .ok (.i2l, 1) := by decide +kernel
theorem dX6_overlap_111 : decode cX6_overlap 111 = .ok (.iload_n 3, 1) := by decide +kernel
theorem dX6_overlap_112 : decode cX6_overlap 112 = .ok (.i2l, 1) := by decide +kernel
theorem dX6_overlap_113 : decode cX6_overlap 113 = .ok (.lmul, 1) := by decide +kernel
theorem dX6_overlap_114 : decode cX6_overlap 114 = .ok (.ldiv, 1) := by decide +kernel
theorem dX6_overlap_115 : decode cX6_overlap 115 = .ok (.l2i, 1) := by decide +kernel
theorem dX6_overlap_116 : decode cX6_overlap 116 = .ok (.ireturn, 1) := by decide +kernel
theorem dX6_errorAt_0 : decode cX6_errorAt 0 = .ok (.aload_n 0, 1) := by decide +kernel
theorem dX6_errorAt_1 : decode cX6_errorAt 1 = .ok (.iload_n 1, 1) := by decide +kernel
theorem dX6_errorAt_2 : decode cX6_errorAt 2 = .ok (.invokevirtual 91, 3) := by decide +kernel
theorem dX6_errorAt_5 : decode cX6_errorAt 5 = .ok (.ifCond .ne 6, 3) := by decide +kernel
theorem dX6_errorAt_8 : decode cX6_errorAt 8 = .ok (.ldc 95, 2) := by decide +kernel
theorem dX6_errorAt_10 : decode cX6_errorAt 10 = .ok (.ireturn, 1) := by decide +kernel
theorem dX6_errorAt_11 : decode cX6_errorAt 11 = .ok (.iload_n 2, 1) := by decide +kernel
theorem dX6_errorAt_12 : decode cX6_errorAt 12 = .ok (.i2l, 1) := by decide +kernel
theorem dX6_errorAt_13 : decode cX6_errorAt 13 = .ok (.lconst 1, 1) := by decide +kernel
theorem dX6_errorAt_14 : decode cX6_errorAt 14 = .ok (.ldc2_w 105, 3) := by decide +kernel
theorem dX6_errorAt_17 : decode cX6_errorAt 17 = .ok (.invokestatic 65, 3) := by decide +kernel
theorem dX6_errorAt_20 : decode cX6_errorAt 20 = .ok (.ifCond .eq 12, 3) := by decide +kernel
theorem dX6_errorAt_23 : decode cX6_errorAt 23 = .ok (.aload_n 0, 1) := by decide +kernel
theorem dX6_errorAt_24 : decode cX6_errorAt 24 = .ok (.iload_n 1, 1) := by decide +kernel
theorem dX6_errorAt_25 : decode cX6_errorAt 25 = .ok (.iload_n 2, 1) := by decide +kernel
theorem dX6_errorAt_26 : decode cX6_errorAt 26 = .ok (.invokevirtual 203, 3) := by decide +kernel
theorem dX6_errorAt_29 : decode cX6_errorAt 29 = .ok (.goto 5, 3) := by decide +kernel
theorem dX6_errorAt_32 : decode cX6_errorAt 32 = .ok (.ldc 90, 2) := by decide +kernel
theorem dX6_errorAt_34 : decode cX6_errorAt 34 = .ok (.ireturn, 1) := by decide +kernel
theorem dX6_settles_0 : decode cX6_settles 0 = .ok (.aload_n 0, 1) := by decide +kernel
theorem dX6_settles_1 : decode cX6_settles 1 = .ok (.iload_n 1, 1) := by decide +kernel
theorem dX6_settles_2 : decode cX6_settles 2 = .ok (.invokevirtual 91, 3) := by decide +kernel
theorem dX6_settles_5 : decode cX6_settles 5 = .ok (.ifCond .ne 6, 3) := by decide +kernel
theorem dX6_settles_8 : decode cX6_settles 8 = .ok (.ldc 95, 2) := by decide +kernel
theorem dX6_settles_10 : decode cX6_settles 10 = .ok (.ireturn, 1) := by decide +kernel
theorem dX6_settles_11 : decode cX6_settles 11 = .ok (.iload_n 2, 1) := by decide +kernel
theorem dX6_settles_12 : decode cX6_settles 12 = .ok (.i2l, 1) := by decide +kernel
theorem dX6_settles_13 : decode cX6_settles 13 = .ok (.lconst 0, 1) := by decide +kernel
theorem dX6_settles_14 : decode cX6_settles 14 = .ok (.ldc2_w 118, 3) := by decide +kernel
theorem dX6_settles_17 : decode cX6_settles 17 = .ok (.invokestatic 65, 3) := by decide +kernel
theorem dX6_settles_20 : decode cX6_settles 20 = .ok (.ifCond .ne 6, 3) := by decide +kernel
theorem dX6_settles_23 : decode cX6_settles 23 = .ok (.ldc 90, 2) := by decide +kernel
theorem dX6_settles_25 : decode cX6_settles 25 = .ok (.ireturn, 1) := by decide +kernel
theorem dX6_settles_26 : decode cX6_settles 26 = .ok (.aload_n 0, 1) := by decide +kernel
theorem dX6_settles_27 : decode cX6_settles 27 = .ok (.iload_n 1, 1) := by decide +kernel
theorem dX6_settles_28 : decode cX6_settles 28 = .ok (.sipush 1000, 3) := by decide +kernel
theorem dX6_settles_31 : decode cX6_settles 31 = .ok (.invokevirtual 125, 3) := by decide +kernel
theorem dX6_settles_34 : decode cX6_settles 34 = .ok (.aload_n 0, 1) := by decide +kernel
theorem dX6_settles_35 : decode cX6_settles 35 = .ok (.iload_n 1, 1) := by decide +kernel
theorem dX6_settles_36 : decode cX6_settles 36 = .ok (.invokevirtual 129, 3) := by decide +kernel
theorem dX6_settles_39 : decode cX6_settles 39 = .ok (.aload_n 0, 1) := by decide +kernel
theorem dX6_settles_40 : decode cX6_settles 40 = .ok (.iload_n 1, 1) := by decide +kernel
theorem dX6_settles_41 : decode cX6_settles 41 = .ok (.sipush 1000, 3) := by decide +kernel
theorem dX6_settles_44 : decode cX6_settles 44 = .ok (.invokevirtual 133, 3) := by decide +kernel
theorem dX6_settles_47 : decode cX6_settles 47 = .ok (.istore_n 3, 1) := by decide +kernel
theorem dX6_settles_48 : decode cX6_settles 48 = .ok (.ldc 85, 2) := by decide +kernel
theorem dX6_settles_50 : decode cX6_settles 50 = .ok (.istore 4, 2) := by decide +kernel
theorem dX6_settles_52 : decode cX6_settles 52 = .ok (.sipush 1000, 3) := by decide +kernel
theorem dX6_settles_55 : decode cX6_settles 55 = .ok (.istore 5, 2) := by decide +kernel
theorem dX6_settles_57 : decode cX6_settles 57 = .ok (.iload 5, 2) := by decide +kernel
theorem dX6_settles_59 : decode cX6_settles 59 = .ok (.ifCond .le 37, 3) := by decide +kernel
theorem dX6_settles_62 : decode cX6_settles 62 = .ok (.aload_n 0, 1) := by decide +kernel
theorem dX6_settles_63 : decode cX6_settles 63 = .ok (.iload_n 1, 1) := by decide +kernel
theorem dX6_settles_64 : decode cX6_settles 64 = .ok (.iload_n 3, 1) := by decide +kernel
theorem dX6_settles_65 : decode cX6_settles 65 = .ok (.iload 5, 2) := by decide +kernel
theorem dX6_settles_67 : decode cX6_settles 67 = .ok (.invokevirtual 136, 3) := by decide +kernel
theorem dX6_settles_70 : decode cX6_settles 70 = .ok (.iload_n 2, 1) := by decide +kernel
theorem dX6_settles_71 : decode cX6_settles 71 = .ok (.if_icmp .gt 25, 3) := by decide +kernel
theorem dX6_settles_74 : decode cX6_settles 74 = .ok (.iload 5, 2) := by decide +kernel
theorem dX6_settles_76 : decode cX6_settles 76 = .ok (.istore 4, 2) := by decide +kernel
theorem dX6_settles_78 : decode cX6_settles 78 = .ok (.iload_n 3, 1) := by decide +kernel
theorem dX6_settles_79 : decode cX6_settles 79 = .ok (.aload_n 0, 1) := by decide +kernel
theorem dX6_settles_80 : decode cX6_settles 80 = .ok (.iload_n 1, 1) := by decide +kernel
theorem dX6_settles_81 : decode cX6_settles 81 = .ok (.iload 5, 2) := by decide +kernel
theorem dX6_settles_83 : decode cX6_settles 83 = .ok (.iconst 1, 1) := by decide +kernel
theorem dX6_settles_84 : decode cX6_settles 84 = .ok (.isub, 1) := by decide +kernel
theorem dX6_settles_85 : decode cX6_settles 85 = .ok (.invokevirtual 107, 3) := by decide +kernel
theorem dX6_settles_88 : decode cX6_settles 88 = .ok (.isub, 1) := by decide +kernel
theorem dX6_settles_89 : decode cX6_settles 89 = .ok (.istore_n 3, 1) := by decide +kernel
theorem dX6_settles_90 : decode cX6_settles 90 = .ok (.iinc 5 (-1), 3) := by decide +kernel
theorem dX6_settles_93 : decode cX6_settles 93 = .ok (.goto (-36), 3) := by decide +kernel
theorem dX6_settles_96 : decode cX6_settles 96 = .ok (.iload 4, 2) := by decide +kernel
theorem dX6_settles_98 : decode cX6_settles 98 = .ok (.ireturn, 1) := by decide +kernel
theorem dX6_bestSeed_0 : decode cX6_bestSeed 0 = .ok (.aload_n 0, 1) := by decide +kernel
theorem dX6_bestSeed_1 : decode cX6_bestSeed 1 = .ok (.iload_n 1, 1) := by decide +kernel
theorem dX6_bestSeed_2 : decode cX6_bestSeed 2 = .ok (.invokevirtual 91, 3) := by decide +kernel
theorem dX6_bestSeed_5 : decode cX6_bestSeed 5 = .ok (.ifCond .eq 11, 3) := by decide +kernel
theorem dX6_bestSeed_8 : decode cX6_bestSeed 8 = .ok (.aload_n 0, 1) := by decide +kernel
theorem dX6_bestSeed_9 : decode cX6_bestSeed 9 = .ok (.iload_n 2, 1) := by decide +kernel
theorem dX6_bestSeed_10 : decode cX6_bestSeed 10 = .ok (.invokevirtual 91, 3) := by decide +kernel
theorem dX6_bestSeed_13 : decode cX6_bestSeed 13 = .ok (.ifCond .ne 6, 3) := by decide +kernel
theorem dX6_bestSeed_16 : decode cX6_bestSeed 16 = .ok (.ldc 95, 2) := by decide +kernel
theorem dX6_bestSeed_18 : decode cX6_bestSeed 18 = .ok (.ireturn, 1) := by decide +kernel
theorem dX6_bestSeed_19 : decode cX6_bestSeed 19 = .ok (.iload_n 3, 1) := by decide +kernel
theorem dX6_bestSeed_20 : decode cX6_bestSeed 20 = .ok (.i2l, 1) := by decide +kernel
theorem dX6_bestSeed_21 : decode cX6_bestSeed 21 = .ok (.lconst 0, 1) := by decide +kernel
theorem dX6_bestSeed_22 : decode cX6_bestSeed 22 = .ok (.lconst 1, 1) := by decide +kernel
theorem dX6_bestSeed_23 : decode cX6_bestSeed 23 = .ok (.invokestatic 65, 3) := by decide +kernel
theorem dX6_bestSeed_26 : decode cX6_bestSeed 26 = .ok (.ifCond .ne 6, 3) := by decide +kernel
theorem dX6_bestSeed_29 : decode cX6_bestSeed 29 = .ok (.ldc 90, 2) := by decide +kernel
theorem dX6_bestSeed_31 : decode cX6_bestSeed 31 = .ok (.ireturn, 1) := by decide +kernel
theorem dX6_bestSeed_32 : decode cX6_bestSeed 32 = .ok (.aload_n 0, 1) := by decide +kernel
theorem dX6_bestSeed_33 : decode cX6_bestSeed 33 = .ok (.iload_n 1, 1) := by decide +kernel
theorem dX6_bestSeed_34 : decode cX6_bestSeed 34 = .ok (.iconst 0, 1) := by decide +kernel
theorem dX6_bestSeed_35 : decode cX6_bestSeed 35 = .ok (.invokevirtual 100, 3) := by decide +kernel
theorem dX6_bestSeed_38 : decode cX6_bestSeed 38 = .ok (.ifCond .eq 6, 3) := by decide +kernel
theorem dX6_bestSeed_41 : decode cX6_bestSeed 41 = .ok (.ldc 104, 2) := by decide +kernel
theorem dX6_bestSeed_43 : decode cX6_bestSeed 43 = .ok (.ireturn, 1) := by decide +kernel
theorem dX6_bestSeed_44 : decode cX6_bestSeed 44 = .ok (.iconst 2, 1) := by decide +kernel
theorem dX6_bestSeed_45 : decode cX6_bestSeed 45 = .ok (.iconst 4, 1) := by decide +kernel
theorem dX6_bestSeed_46 : decode cX6_bestSeed 46 = .ok (.iload_n 1, 1) := by decide +kernel
theorem dX6_bestSeed_47 : decode cX6_bestSeed 47 = .ok (.imul, 1) := by decide +kernel
theorem dX6_bestSeed_48 : decode cX6_bestSeed 48 = .ok (.iadd, 1) := by decide +kernel
theorem dX6_bestSeed_49 : decode cX6_bestSeed 49 = .ok (.iconst 2, 1) := by decide +kernel
theorem dX6_bestSeed_50 : decode cX6_bestSeed 50 = .ok (.iadd, 1) := by decide +kernel
theorem dX6_bestSeed_51 : decode cX6_bestSeed 51 = .ok (.istore 4, 2) := by decide +kernel
theorem dX6_bestSeed_53 : decode cX6_bestSeed 53 = .ok (.aload_n 0, 1) := by decide +kernel
theorem dX6_bestSeed_54 : decode cX6_bestSeed 54 = .ok (.getfield 7, 3) := by decide +kernel
theorem dX6_bestSeed_57 : decode cX6_bestSeed 57 = .ok (.iload 4, 2) := by decide +kernel
theorem dX6_bestSeed_59 : decode cX6_bestSeed 59 = .ok (.iaload, 1) := by decide +kernel
theorem dX6_bestSeed_60 : decode cX6_bestSeed 60 = .ok (.istore 5, 2) := by decide +kernel
theorem dX6_bestSeed_62 : decode cX6_bestSeed 62 = .ok (.iconst 0, 1) := by decide +kernel
theorem dX6_bestSeed_63 : decode cX6_bestSeed 63 = .ok (.istore 6, 2) := by decide +kernel
theorem dX6_bestSeed_65 : decode cX6_bestSeed 65 = .ok (.iconst 0, 1) := by decide +kernel
theorem dX6_bestSeed_66 : decode cX6_bestSeed 66 = .ok (.istore 7, 2) := by decide +kernel
theorem dX6_bestSeed_68 : decode cX6_bestSeed 68 = .ok (.iconst 1, 1) := by decide +kernel
theorem dX6_bestSeed_69 : decode cX6_bestSeed 69 = .ok (.istore 8, 2) := by decide +kernel
theorem dX6_bestSeed_71 : decode cX6_bestSeed 71 = .ok (.iload 8, 2) := by decide +kernel
theorem dX6_bestSeed_73 : decode cX6_bestSeed 73 = .ok (.sipush 256, 3) := by decide +kernel
theorem dX6_bestSeed_76 : decode cX6_bestSeed 76 = .ok (.if_icmp .ge 69, 3) := by decide +kernel
theorem dX6_bestSeed_79 : decode cX6_bestSeed 79 = .ok (.aload_n 0, 1) := by decide +kernel
theorem dX6_bestSeed_80 : decode cX6_bestSeed 80 = .ok (.getfield 7, 3) := by decide +kernel
theorem dX6_bestSeed_83 : decode cX6_bestSeed 83 = .ok (.iload 4, 2) := by decide +kernel
theorem dX6_bestSeed_85 : decode cX6_bestSeed 85 = .ok (.iload 8, 2) := by decide +kernel
theorem dX6_bestSeed_87 : decode cX6_bestSeed 87 = .ok (.iastore, 1) := by decide +kernel
theorem dX6_bestSeed_88 : decode cX6_bestSeed 88 = .ok (.aload_n 0, 1) := by decide +kernel
theorem dX6_bestSeed_89 : decode cX6_bestSeed 89 = .ok (.iload_n 2, 1) := by decide +kernel
theorem dX6_bestSeed_90 : decode cX6_bestSeed 90 = .ok (.aload_n 0, 1) := by decide +kernel
theorem dX6_bestSeed_91 : decode cX6_bestSeed 91 = .ok (.getfield 7, 3) := by decide +kernel
theorem dX6_bestSeed_94 : decode cX6_bestSeed 94 = .ok (.iconst 1, 1) := by decide +kernel
theorem dX6_bestSeed_95 : decode cX6_bestSeed 95 = .ok (.iaload, 1) := by decide +kernel
theorem dX6_bestSeed_96 : decode cX6_bestSeed 96 = .ok (.invokevirtual 203, 3) := by decide +kernel
theorem dX6_bestSeed_99 : decode cX6_bestSeed 99 = .ok (.istore 9, 2) := by decide +kernel
theorem dX6_bestSeed_101 : decode cX6_bestSeed 101 = .ok (.iload 8, 2) := by decide +kernel
theorem dX6_bestSeed_103 : decode cX6_bestSeed 103 = .ok (.iconst 1, 1) := by decide +kernel
theorem dX6_bestSeed_104 : decode cX6_bestSeed 104 = .ok (.if_icmp .eq 10, 3) := by decide +kernel
theorem dX6_bestSeed_107 : decode cX6_bestSeed 107 = .ok (.iload 9, 2) := by decide +kernel
theorem dX6_bestSeed_109 : decode cX6_bestSeed 109 = .ok (.iload 7, 2) := by decide +kernel
theorem dX6_bestSeed_111 : decode cX6_bestSeed 111 = .ok (.if_icmp .ge 8, 3) := by decide +kernel
theorem dX6_bestSeed_114 : decode cX6_bestSeed 114 = .ok (.iload 8, 2) := by decide +kernel
theorem dX6_bestSeed_116 : decode cX6_bestSeed 116 = .ok (.goto 5, 3) := by decide +kernel
theorem dX6_bestSeed_119 : decode cX6_bestSeed 119 = .ok (.iload 6, 2) := by decide +kernel
theorem dX6_bestSeed_121 : decode cX6_bestSeed 121 = .ok (.istore 6, 2) := by decide +kernel
theorem dX6_bestSeed_123 : decode cX6_bestSeed 123 = .ok (.iload 6, 2) := by decide +kernel
theorem dX6_bestSeed_125 : decode cX6_bestSeed 125 = .ok (.iload 8, 2) := by decide +kernel
theorem dX6_bestSeed_127 : decode cX6_bestSeed 127 = .ok (.if_icmp .ne 8, 3) := by decide +kernel
theorem dX6_bestSeed_130 : decode cX6_bestSeed 130 = .ok (.iload 9, 2) := by decide +kernel
theorem dX6_bestSeed_132 : decode cX6_bestSeed 132 = .ok (.goto 5, 3) := by decide +kernel
theorem dX6_bestSeed_135 : decode cX6_bestSeed 135 = .ok (.iload 7, 2) := by decide +kernel
theorem dX6_bestSeed_137 : decode cX6_bestSeed 137 = .ok (.istore 7, 2) := by decide +kernel
theorem dX6_bestSeed_139 : decode cX6_bestSeed 139 = .ok (.iinc 8 1, 3) := by decide +kernel
theorem dX6_bestSeed_142 : decode cX6_bestSeed 142 = .ok (.goto (-71), 3) := by decide +kernel
theorem dX6_bestSeed_145 : decode cX6_bestSeed 145 = .ok (.aload_n 0, 1) := by decide +kernel
theorem dX6_bestSeed_146 : decode cX6_bestSeed 146 = .ok (.getfield 7, 3) := by decide +kernel
theorem dX6_bestSeed_149 : decode cX6_bestSeed 149 = .ok (.iload 4, 2) := by decide +kernel
theorem dX6_bestSeed_151 : decode cX6_bestSeed 151 = .ok (.iload 5, 2) := by decide +kernel
theorem dX6_bestSeed_153 : decode cX6_bestSeed 153 = .ok (.iastore, 1) := by decide +kernel
theorem dX6_bestSeed_154 : decode cX6_bestSeed 154 = .ok (.iload_n 3, 1) := by decide +kernel
theorem dX6_bestSeed_155 : decode cX6_bestSeed 155 = .ok (.ifCond .ne 8, 3) := by decide +kernel
theorem dX6_bestSeed_158 : decode cX6_bestSeed 158 = .ok (.iload 6, 2) := by decide +kernel
theorem dX6_bestSeed_160 : decode cX6_bestSeed 160 = .ok (.goto 5, 3) := by decide +kernel
theorem dX6_bestSeed_163 : decode cX6_bestSeed 163 = .ok (.iload 7, 2) := by decide +kernel
theorem dX6_bestSeed_165 : decode cX6_bestSeed 165 = .ok (.ireturn, 1) := by decide +kernel
theorem dX6_unlike_0 : decode cX6_unlike 0 = .ok (.aload_n 0, 1) := by decide +kernel
theorem dX6_unlike_1 : decode cX6_unlike 1 = .ok (.iload_n 1, 1) := by decide +kernel
theorem dX6_unlike_2 : decode cX6_unlike 2 = .ok (.invokevirtual 91, 3) := by decide +kernel
theorem dX6_unlike_5 : decode cX6_unlike 5 = .ok (.ifCond .ne 6, 3) := by decide +kernel
theorem dX6_unlike_8 : decode cX6_unlike 8 = .ok (.ldc 95, 2) := by decide +kernel
theorem dX6_unlike_10 : decode cX6_unlike 10 = .ok (.ireturn, 1) := by decide +kernel
theorem dX6_unlike_11 : decode cX6_unlike 11 = .ok (.aload_n 0, 1) := by decide +kernel
theorem dX6_unlike_12 : decode cX6_unlike 12 = .ok (.iload_n 1, 1) := by decide +kernel
theorem dX6_unlike_13 : decode cX6_unlike 13 = .ok (.sipush 510, 3) := by decide +kernel
theorem dX6_unlike_16 : decode cX6_unlike 16 = .ok (.invokevirtual 125, 3) := by decide +kernel
theorem dX6_unlike_19 : decode cX6_unlike 19 = .ok (.iconst 0, 1) := by decide +kernel
theorem dX6_unlike_20 : decode cX6_unlike 20 = .ok (.istore_n 2, 1) := by decide +kernel
theorem dX6_unlike_21 : decode cX6_unlike 21 = .ok (.bipush 60, 2) := by decide +kernel
theorem dX6_unlike_23 : decode cX6_unlike 23 = .ok (.istore_n 3, 1) := by decide +kernel
theorem dX6_unlike_24 : decode cX6_unlike 24 = .ok (.iload_n 3, 1) := by decide +kernel
theorem dX6_unlike_25 : decode cX6_unlike 25 = .ok (.sipush 255, 3) := by decide +kernel
theorem dX6_unlike_28 : decode cX6_unlike 28 = .ok (.if_icmp .ge 36, 3) := by decide +kernel
theorem dX6_unlike_31 : decode cX6_unlike 31 = .ok (.iload_n 2, 1) := by decide +kernel
theorem dX6_unlike_32 : decode cX6_unlike 32 = .ok (.aload_n 0, 1) := by decide +kernel
theorem dX6_unlike_33 : decode cX6_unlike 33 = .ok (.iload_n 1, 1) := by decide +kernel
theorem dX6_unlike_34 : decode cX6_unlike 34 = .ok (.iload_n 3, 1) := by decide +kernel
theorem dX6_unlike_35 : decode cX6_unlike 35 = .ok (.invokevirtual 107, 3) := by decide +kernel
theorem dX6_unlike_38 : decode cX6_unlike 38 = .ok (.aload_n 0, 1) := by decide +kernel
theorem dX6_unlike_39 : decode cX6_unlike 39 = .ok (.iload_n 1, 1) := by decide +kernel
theorem dX6_unlike_40 : decode cX6_unlike 40 = .ok (.iload_n 3, 1) := by decide +kernel
theorem dX6_unlike_41 : decode cX6_unlike 41 = .ok (.sipush 255, 3) := by decide +kernel
theorem dX6_unlike_44 : decode cX6_unlike 44 = .ok (.iadd, 1) := by decide +kernel
theorem dX6_unlike_45 : decode cX6_unlike 45 = .ok (.invokevirtual 107, 3) := by decide +kernel
theorem dX6_unlike_48 : decode cX6_unlike 48 = .ok (.if_icmp .eq 7, 3) := by decide +kernel
theorem dX6_unlike_51 : decode cX6_unlike 51 = .ok (.iconst 1, 1) := by decide +kernel
theorem dX6_unlike_52 : decode cX6_unlike 52 = .ok (.goto 4, 3) := by decide +kernel
theorem dX6_unlike_55 : decode cX6_unlike 55 = .ok (.iconst 0, 1) := by decide +kernel
theorem dX6_unlike_56 : decode cX6_unlike 56 = .ok (.iadd, 1) := by decide +kernel
theorem dX6_unlike_57 : decode cX6_unlike 57 = .ok (.istore_n 2, 1) := by decide +kernel
theorem dX6_unlike_58 : decode cX6_unlike 58 = .ok (.iinc 3 1, 3) := by decide +kernel
theorem dX6_unlike_61 : decode cX6_unlike 61 = .ok (.goto (-37), 3) := by decide +kernel
theorem dX6_unlike_64 : decode cX6_unlike 64 = .ok (.iload_n 2, 1) := by decide +kernel
theorem dX6_unlike_65 : decode cX6_unlike 65 = .ok (.ireturn, 1) := by decide +kernel
theorem dX6_manySources_0 : decode cX6_manySources 0 = .ok (.iconst 0, 1) := by decide +kernel
theorem dX6_manySources_1 : decode cX6_manySources 1 = .ok (.istore_n 1, 1) := by decide +kernel
theorem dX6_manySources_2 : decode cX6_manySources 2 = .ok (.iconst 0, 1) := by decide +kernel
theorem dX6_manySources_3 : decode cX6_manySources 3 = .ok (.istore_n 2, 1) := by decide +kernel
theorem dX6_manySources_4 : decode cX6_manySources 4 = .ok (.iload_n 2, 1) := by decide +kernel
theorem dX6_manySources_5 : decode cX6_manySources 5 = .ok (.aload_n 0, 1) := by decide +kernel
theorem dX6_manySources_6 : decode cX6_manySources 6 = .ok (.getfield 7, 3) := by decide +kernel
theorem dX6_manySources_9 : decode cX6_manySources 9 = .ok (.iconst 0, 1) := by decide +kernel
theorem dX6_manySources_10 : decode cX6_manySources 10 = .ok (.iaload, 1) := by decide +kernel
theorem dX6_manySources_11 : decode cX6_manySources 11 = .ok (.if_icmp .ge 26, 3) := by decide +kernel
theorem dX6_manySources_14 : decode cX6_manySources 14 = .ok (.iload_n 1, 1) := by decide +kernel
theorem dX6_manySources_15 : decode cX6_manySources 15 = .ok (.aload_n 0, 1) := by decide +kernel
theorem dX6_manySources_16 : decode cX6_manySources 16 = .ok (.iload_n 2, 1) := by decide +kernel
theorem dX6_manySources_17 : decode cX6_manySources 17 = .ok (.iconst 0, 1) := by decide +kernel
theorem dX6_manySources_18 : decode cX6_manySources 18 = .ok (.invokevirtual 100, 3) := by decide +kernel
theorem dX6_manySources_21 : decode cX6_manySources 21 = .ok (.ifCond .ne 7, 3) := by decide +kernel
theorem dX6_manySources_24 : decode cX6_manySources 24 = .ok (.iconst 1, 1) := by decide +kernel
theorem dX6_manySources_25 : decode cX6_manySources 25 = .ok (.goto 4, 3) := by decide +kernel
theorem dX6_manySources_28 : decode cX6_manySources 28 = .ok (.iconst 0, 1) := by decide +kernel
theorem dX6_manySources_29 : decode cX6_manySources 29 = .ok (.iadd, 1) := by decide +kernel
theorem dX6_manySources_30 : decode cX6_manySources 30 = .ok (.istore_n 1, 1) := by decide +kernel
theorem dX6_manySources_31 : decode cX6_manySources 31 = .ok (.iinc 2 1, 3) := by decide +kernel
theorem dX6_manySources_34 : decode cX6_manySources 34 = .ok (.goto (-30), 3) := by decide +kernel
theorem dX6_manySources_37 : decode cX6_manySources 37 = .ok (.iload_n 1, 1) := by decide +kernel
theorem dX6_manySources_38 : decode cX6_manySources 38 = .ok (.ireturn, 1) := by decide +kernel
theorem dX6_errors_0 : decode cX6_errors 0 = .ok (.iconst 0, 1) := by decide +kernel
theorem dX6_errors_1 : decode cX6_errors 1 = .ok (.istore_n 1, 1) := by decide +kernel
theorem dX6_errors_2 : decode cX6_errors 2 = .ok (.iconst 0, 1) := by decide +kernel
theorem dX6_errors_3 : decode cX6_errors 3 = .ok (.istore_n 2, 1) := by decide +kernel
theorem dX6_errors_4 : decode cX6_errors 4 = .ok (.iload_n 2, 1) := by decide +kernel
theorem dX6_errors_5 : decode cX6_errors 5 = .ok (.aload_n 0, 1) := by decide +kernel
theorem dX6_errors_6 : decode cX6_errors 6 = .ok (.getfield 7, 3) := by decide +kernel
theorem dX6_errors_9 : decode cX6_errors 9 = .ok (.iconst 0, 1) := by decide +kernel
theorem dX6_errors_10 : decode cX6_errors 10 = .ok (.iaload, 1) := by decide +kernel
theorem dX6_errors_11 : decode cX6_errors 11 = .ok (.if_icmp .ge 23, 3) := by decide +kernel
theorem dX6_errors_14 : decode cX6_errors 14 = .ok (.iload_n 1, 1) := by decide +kernel
theorem dX6_errors_15 : decode cX6_errors 15 = .ok (.aload_n 0, 1) := by decide +kernel
theorem dX6_errors_16 : decode cX6_errors 16 = .ok (.iload_n 2, 1) := by decide +kernel
theorem dX6_errors_17 : decode cX6_errors 17 = .ok (.aload_n 0, 1) := by decide +kernel
theorem dX6_errors_18 : decode cX6_errors 18 = .ok (.getfield 7, 3) := by decide +kernel
theorem dX6_errors_21 : decode cX6_errors 21 = .ok (.iconst 1, 1) := by decide +kernel
theorem dX6_errors_22 : decode cX6_errors 22 = .ok (.iaload, 1) := by decide +kernel
theorem dX6_errors_23 : decode cX6_errors 23 = .ok (.invokevirtual 203, 3) := by decide +kernel
theorem dX6_errors_26 : decode cX6_errors 26 = .ok (.iadd, 1) := by decide +kernel
theorem dX6_errors_27 : decode cX6_errors 27 = .ok (.istore_n 1, 1) := by decide +kernel
theorem dX6_errors_28 : decode cX6_errors 28 = .ok (.iinc 2 1, 3) := by decide +kernel
theorem dX6_errors_31 : decode cX6_errors 31 = .ok (.goto (-27), 3) := by decide +kernel
theorem dX6_errors_34 : decode cX6_errors 34 = .ok (.iload_n 1, 1) := by decide +kernel
theorem dX6_errors_35 : decode cX6_errors 35 = .ok (.ireturn, 1) := by decide +kernel
theorem dX6_worst_0 : decode cX6_worst 0 = .ok (.ldc 85, 2) := by decide +kernel
theorem dX6_worst_2 : decode cX6_worst 2 = .ok (.istore_n 1, 1) := by decide +kernel
theorem dX6_worst_3 : decode cX6_worst 3 = .ok (.iconst (-1), 1) := by decide +kernel
theorem dX6_worst_4 : decode cX6_worst 4 = .ok (.istore_n 2, 1) := by decide +kernel
theorem dX6_worst_5 : decode cX6_worst 5 = .ok (.iconst 0, 1) := by decide +kernel
theorem dX6_worst_6 : decode cX6_worst 6 = .ok (.istore_n 3, 1) := by decide +kernel
theorem dX6_worst_7 : decode cX6_worst 7 = .ok (.iload_n 3, 1) := by decide +kernel
theorem dX6_worst_8 : decode cX6_worst 8 = .ok (.aload_n 0, 1) := by decide +kernel
theorem dX6_worst_9 : decode cX6_worst 9 = .ok (.getfield 7, 3) := by decide +kernel
theorem dX6_worst_12 : decode cX6_worst 12 = .ok (.iconst 0, 1) := by decide +kernel
theorem dX6_worst_13 : decode cX6_worst 13 = .ok (.iaload, 1) := by decide +kernel
theorem dX6_worst_14 : decode cX6_worst 14 = .ok (.if_icmp .ge 47, 3) := by decide +kernel
theorem dX6_worst_17 : decode cX6_worst 17 = .ok (.aload_n 0, 1) := by decide +kernel
theorem dX6_worst_18 : decode cX6_worst 18 = .ok (.iload_n 3, 1) := by decide +kernel
theorem dX6_worst_19 : decode cX6_worst 19 = .ok (.aload_n 0, 1) := by decide +kernel
theorem dX6_worst_20 : decode cX6_worst 20 = .ok (.getfield 7, 3) := by decide +kernel
theorem dX6_worst_23 : decode cX6_worst 23 = .ok (.iconst 1, 1) := by decide +kernel
theorem dX6_worst_24 : decode cX6_worst 24 = .ok (.iaload, 1) := by decide +kernel
theorem dX6_worst_25 : decode cX6_worst 25 = .ok (.invokevirtual 203, 3) := by decide +kernel
theorem dX6_worst_28 : decode cX6_worst 28 = .ok (.istore 4, 2) := by decide +kernel
theorem dX6_worst_30 : decode cX6_worst 30 = .ok (.iload 4, 2) := by decide +kernel
theorem dX6_worst_32 : decode cX6_worst 32 = .ok (.iload_n 2, 1) := by decide +kernel
theorem dX6_worst_33 : decode cX6_worst 33 = .ok (.if_icmp .le 7, 3) := by decide +kernel
theorem dX6_worst_36 : decode cX6_worst 36 = .ok (.iload_n 3, 1) := by decide +kernel
theorem dX6_worst_37 : decode cX6_worst 37 = .ok (.goto 4, 3) := by decide +kernel
theorem dX6_worst_40 : decode cX6_worst 40 = .ok (.iload_n 1, 1) := by decide +kernel
theorem dX6_worst_41 : decode cX6_worst 41 = .ok (.istore_n 1, 1) := by decide +kernel
theorem dX6_worst_42 : decode cX6_worst 42 = .ok (.iload 4, 2) := by decide +kernel
theorem dX6_worst_44 : decode cX6_worst 44 = .ok (.iload_n 2, 1) := by decide +kernel
theorem dX6_worst_45 : decode cX6_worst 45 = .ok (.if_icmp .le 8, 3) := by decide +kernel
theorem dX6_worst_48 : decode cX6_worst 48 = .ok (.iload 4, 2) := by decide +kernel
theorem dX6_worst_50 : decode cX6_worst 50 = .ok (.goto 4, 3) := by decide +kernel
theorem dX6_worst_53 : decode cX6_worst 53 = .ok (.iload_n 2, 1) := by decide +kernel
theorem dX6_worst_54 : decode cX6_worst 54 = .ok (.istore_n 2, 1) := by decide +kernel
theorem dX6_worst_55 : decode cX6_worst 55 = .ok (.iinc 3 1, 3) := by decide +kernel
theorem dX6_worst_58 : decode cX6_worst 58 = .ok (.goto (-51), 3) := by decide +kernel
theorem dX6_worst_61 : decode cX6_worst 61 = .ok (.iload_n 1, 1) := by decide +kernel
theorem dX6_worst_62 : decode cX6_worst 62 = .ok (.ireturn, 1) := by decide +kernel
theorem dX6_deepest_0 : decode cX6_deepest 0 = .ok (.aload_n 0, 1) := by decide +kernel
theorem dX6_deepest_1 : decode cX6_deepest 1 = .ok (.invokevirtual 195, 3) := by decide +kernel
theorem dX6_deepest_4 : decode cX6_deepest 4 = .ok (.iconst 0, 1) := by decide +kernel
theorem dX6_deepest_5 : decode cX6_deepest 5 = .ok (.istore_n 1, 1) := by decide +kernel
theorem dX6_deepest_6 : decode cX6_deepest 6 = .ok (.iconst 0, 1) := by decide +kernel
theorem dX6_deepest_7 : decode cX6_deepest 7 = .ok (.istore_n 2, 1) := by decide +kernel
theorem dX6_deepest_8 : decode cX6_deepest 8 = .ok (.iload_n 2, 1) := by decide +kernel
theorem dX6_deepest_9 : decode cX6_deepest 9 = .ok (.aload_n 0, 1) := by decide +kernel
theorem dX6_deepest_10 : decode cX6_deepest 10 = .ok (.getfield 7, 3) := by decide +kernel
theorem dX6_deepest_13 : decode cX6_deepest 13 = .ok (.iconst 0, 1) := by decide +kernel
theorem dX6_deepest_14 : decode cX6_deepest 14 = .ok (.iaload, 1) := by decide +kernel
theorem dX6_deepest_15 : decode cX6_deepest 15 = .ok (.if_icmp .ge 30, 3) := by decide +kernel
theorem dX6_deepest_18 : decode cX6_deepest 18 = .ok (.aload_n 0, 1) := by decide +kernel
theorem dX6_deepest_19 : decode cX6_deepest 19 = .ok (.getfield 41, 3) := by decide +kernel
theorem dX6_deepest_22 : decode cX6_deepest 22 = .ok (.iload_n 2, 1) := by decide +kernel
theorem dX6_deepest_23 : decode cX6_deepest 23 = .ok (.iaload, 1) := by decide +kernel
theorem dX6_deepest_24 : decode cX6_deepest 24 = .ok (.iload_n 1, 1) := by decide +kernel
theorem dX6_deepest_25 : decode cX6_deepest 25 = .ok (.if_icmp .le 12, 3) := by decide +kernel
theorem dX6_deepest_28 : decode cX6_deepest 28 = .ok (.aload_n 0, 1) := by decide +kernel
theorem dX6_deepest_29 : decode cX6_deepest 29 = .ok (.getfield 41, 3) := by decide +kernel
theorem dX6_deepest_32 : decode cX6_deepest 32 = .ok (.iload_n 2, 1) := by decide +kernel
theorem dX6_deepest_33 : decode cX6_deepest 33 = .ok (.iaload, 1) := by decide +kernel
theorem dX6_deepest_34 : decode cX6_deepest 34 = .ok (.goto 4, 3) := by decide +kernel
theorem dX6_deepest_37 : decode cX6_deepest 37 = .ok (.iload_n 1, 1) := by decide +kernel
theorem dX6_deepest_38 : decode cX6_deepest 38 = .ok (.istore_n 1, 1) := by decide +kernel
theorem dX6_deepest_39 : decode cX6_deepest 39 = .ok (.iinc 2 1, 3) := by decide +kernel
theorem dX6_deepest_42 : decode cX6_deepest 42 = .ok (.goto (-34), 3) := by decide +kernel
theorem dX6_deepest_45 : decode cX6_deepest 45 = .ok (.iload_n 1, 1) := by decide +kernel
theorem dX6_deepest_46 : decode cX6_deepest 46 = .ok (.ireturn, 1) := by decide +kernel
theorem dX6_count_0 : decode cX6_count 0 = .ok (.iload_n 1, 1) := by decide +kernel
theorem dX6_count_1 : decode cX6_count 1 = .ok (.tableswitch 91 0 7 #[47, 54, 61, 66, 71, 76, 81, 86], 47) := by decide +kernel
theorem dX6_count_48 : decode cX6_count 48 = .ok (.aload_n 0, 1) := by decide +kernel
theorem dX6_count_49 : decode cX6_count 49 = .ok (.getfield 7, 3) := by decide +kernel
theorem dX6_count_52 : decode cX6_count 52 = .ok (.iconst 0, 1) := by decide +kernel
theorem dX6_count_53 : decode cX6_count 53 = .ok (.iaload, 1) := by decide +kernel
theorem dX6_count_54 : decode cX6_count 54 = .ok (.ireturn, 1) := by decide +kernel
theorem dX6_count_55 : decode cX6_count 55 = .ok (.aload_n 0, 1) := by decide +kernel
theorem dX6_count_56 : decode cX6_count 56 = .ok (.getfield 7, 3) := by decide +kernel
theorem dX6_count_59 : decode cX6_count 59 = .ok (.iconst 1, 1) := by decide +kernel
theorem dX6_count_60 : decode cX6_count 60 = .ok (.iaload, 1) := by decide +kernel
theorem dX6_count_61 : decode cX6_count 61 = .ok (.ireturn, 1) := by decide +kernel
theorem dX6_count_62 : decode cX6_count 62 = .ok (.aload_n 0, 1) := by decide +kernel
theorem dX6_count_63 : decode cX6_count 63 = .ok (.invokevirtual 206, 3) := by decide +kernel
theorem dX6_count_66 : decode cX6_count 66 = .ok (.ireturn, 1) := by decide +kernel
theorem dX6_count_67 : decode cX6_count 67 = .ok (.aload_n 0, 1) := by decide +kernel
theorem dX6_count_68 : decode cX6_count 68 = .ok (.invokevirtual 209, 3) := by decide +kernel
theorem dX6_count_71 : decode cX6_count 71 = .ok (.ireturn, 1) := by decide +kernel
theorem dX6_count_72 : decode cX6_count 72 = .ok (.aload_n 0, 1) := by decide +kernel
theorem dX6_count_73 : decode cX6_count 73 = .ok (.invokevirtual 212, 3) := by decide +kernel
theorem dX6_count_76 : decode cX6_count 76 = .ok (.ireturn, 1) := by decide +kernel
theorem dX6_count_77 : decode cX6_count 77 = .ok (.aload_n 0, 1) := by decide +kernel
theorem dX6_count_78 : decode cX6_count 78 = .ok (.invokevirtual 215, 3) := by decide +kernel
theorem dX6_count_81 : decode cX6_count 81 = .ok (.ireturn, 1) := by decide +kernel
theorem dX6_count_82 : decode cX6_count 82 = .ok (.aload_n 0, 1) := by decide +kernel
theorem dX6_count_83 : decode cX6_count 83 = .ok (.getfield 61, 3) := by decide +kernel
theorem dX6_count_86 : decode cX6_count 86 = .ok (.ireturn, 1) := by decide +kernel
theorem dX6_count_87 : decode cX6_count 87 = .ok (.aload_n 0, 1) := by decide +kernel
theorem dX6_count_88 : decode cX6_count 88 = .ok (.getfield 140, 3) := by decide +kernel
theorem dX6_count_91 : decode cX6_count 91 = .ok (.ireturn, 1) := by decide +kernel
theorem dX6_count_92 : decode cX6_count 92 = .ok (.ldc 90, 2) := by decide +kernel
theorem dX6_count_94 : decode cX6_count 94 = .ok (.ireturn, 1) := by decide +kernel
