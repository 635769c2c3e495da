theorem dX7_levelHere_84 : decode cX7_levelHere 84 = .ok (.bipush 42, 2) := by decide +kernel
theorem dX7_levelHere_86 : decode cX7_levelHere 86 = .ok (.invokevirtual 57, 3) := by decide +kernel
theorem dX7_levelHere_89 : decode cX7_levelHere 89 = .ok (.ifCond .eq 7, 3) := by decide +kernel
theorem dX7_levelHere_92 : decode cX7_levelHere 92 = .ok (.iconst 3, 1) := by decide +kernel
theorem dX7_levelHere_93 : decode cX7_levelHere 93 = .ok (.goto 4, 3) := by decide +kernel
theorem dX7_levelHere_96 : decode cX7_levelHere 96 = .ok (.iconst (-1), 1) := by decide +kernel
theorem dX7_levelHere_97 : decode cX7_levelHere 97 = .ok (.ireturn, 1) := by decide +kernel
theorem dX7_stepHere_0 : decode cX7_stepHere 0 = .ok (.aload_n 0, 1) := by decide +kernel
theorem dX7_stepHere_1 : decode cX7_stepHere 1 = .ok (.getfield 9, 3) := by decide +kernel
theorem dX7_stepHere_4 : decode cX7_stepHere 4 = .ok (.getfield 25, 3) := by decide +kernel
theorem dX7_stepHere_7 : decode cX7_stepHere 7 = .ok (.iconst 4, 1) := by decide +kernel
theorem dX7_stepHere_8 : decode cX7_stepHere 8 = .ok (.if_icmp .ne 12, 3) := by decide +kernel
theorem dX7_stepHere_11 : decode cX7_stepHere 11 = .ok (.aload_n 0, 1) := by decide +kernel
theorem dX7_stepHere_12 : decode cX7_stepHere 12 = .ok (.getfield 9, 3) := by decide +kernel
theorem dX7_stepHere_15 : decode cX7_stepHere 15 = .ok (.getfield 60, 3) := by decide +kernel
theorem dX7_stepHere_18 : decode cX7_stepHere 18 = .ok (.ineg, 1) := by decide +kernel
theorem dX7_stepHere_19 : decode cX7_stepHere 19 = .ok (.ireturn, 1) := by decide +kernel
theorem dX7_stepHere_20 : decode cX7_stepHere 20 = .ok (.aload_n 0, 1) := by decide +kernel
theorem dX7_stepHere_21 : decode cX7_stepHere 21 = .ok (.getfield 9, 3) := by decide +kernel
theorem dX7_stepHere_24 : decode cX7_stepHere 24 = .ok (.getfield 46, 3) := by decide +kernel
theorem dX7_stepHere_27 : decode cX7_stepHere 27 = .ok (.getstatic 184, 3) := by decide +kernel
theorem dX7_stepHere_30 : decode cX7_stepHere 30 = .ok (.if_acmp .ne 8, 3) := by decide +kernel
theorem dX7_stepHere_33 : decode cX7_stepHere 33 = .ok (.bipush (-6), 2) := by decide +kernel
theorem dX7_stepHere_35 : decode cX7_stepHere 35 = .ok (.goto 5, 3) := by decide +kernel
theorem dX7_stepHere_38 : decode cX7_stepHere 38 = .ok (.bipush (-7), 2) := by decide +kernel
theorem dX7_stepHere_40 : decode cX7_stepHere 40 = .ok (.ireturn, 1) := by decide +kernel
theorem dX7_part_0 : decode cX7_part 0 = .ok (.aload_n 0, 1) := by decide +kernel
theorem dX7_part_1 : decode cX7_part 1 = .ok (.getfield 9, 3) := by decide +kernel
theorem dX7_part_4 : decode cX7_part 4 = .ok (.getfield 46, 3) := by decide +kernel
theorem dX7_part_7 : decode cX7_part 7 = .ok (.getstatic 190, 3) := by decide +kernel
theorem dX7_part_10 : decode cX7_part 10 = .ok (.if_acmp .ne 7, 3) := by decide +kernel
theorem dX7_part_13 : decode cX7_part 13 = .ok (.iconst 1, 1) := by decide +kernel
theorem dX7_part_14 : decode cX7_part 14 = .ok (.goto 4, 3) := by decide +kernel
theorem dX7_part_17 : decode cX7_part 17 = .ok (.iconst 0, 1) := by decide +kernel
theorem dX7_part_18 : decode cX7_part 18 = .ok (.istore_n 3, 1) := by decide +kernel
theorem dX7_part_19 : decode cX7_part 19 = .ok (.aload_n 0, 1) := by decide +kernel
theorem dX7_part_20 : decode cX7_part 20 = .ok (.getfield 9, 3) := by decide +kernel
theorem dX7_part_23 : decode cX7_part 23 = .ok (.bipush 40, 2) := by decide +kernel
theorem dX7_part_25 : decode cX7_part 25 = .ok (.invokevirtual 57, 3) := by decide +kernel
theorem dX7_part_28 : decode cX7_part 28 = .ok (.istore 4, 2) := by decide +kernel
theorem dX7_part_30 : decode cX7_part 30 = .ok (.aload_n 0, 1) := by decide +kernel
theorem dX7_part_31 : decode cX7_part 31 = .ok (.getfield 9, 3) := by decide +kernel
theorem dX7_part_34 : decode cX7_part 34 = .ok (.getfield 25, 3) := by decide +kernel
theorem dX7_part_37 : decode cX7_part 37 = .ok (.iconst 3, 1) := by decide +kernel
theorem dX7_part_38 : decode cX7_part 38 = .ok (.if_icmp .ne 7, 3) := by decide +kernel
theorem dX7_part_41 : decode cX7_part 41 = .ok (.iconst 1, 1) := by decide +kernel
theorem dX7_part_42 : decode cX7_part 42 = .ok (.goto 4, 3) := by decide +kernel
theorem dX7_part_45 : decode cX7_part 45 = .ok (.iconst 0, 1) := by decide +kernel
theorem dX7_part_46 : decode cX7_part 46 = .ok (.istore 5, 2) := by decide +kernel
theorem dX7_part_48 : decode cX7_part 48 = .ok (.aload_n 0, 1) := by decide +kernel
theorem dX7_part_49 : decode cX7_part 49 = .ok (.getfield 9, 3) := by decide +kernel
theorem dX7_part_52 : decode cX7_part 52 = .ok (.getfield 46, 3) := by decide +kernel
theorem dX7_part_55 : decode cX7_part 55 = .ok (.invokestatic 193, 3) := by decide +kernel
theorem dX7_part_58 : decode cX7_part 58 = .ok (.istore 6, 2) := by decide +kernel
theorem dX7_part_60 : decode cX7_part 60 = .ok (.iload_n 3, 1) := by decide +kernel
theorem dX7_part_61 : decode cX7_part 61 = .ok (.ifCond .ne 24, 3) := by decide +kernel
theorem dX7_part_64 : decode cX7_part 64 = .ok (.iload 4, 2) := by decide +kernel
theorem dX7_part_66 : decode cX7_part 66 = .ok (.ifCond .ne 19, 3) := by decide +kernel
theorem dX7_part_69 : decode cX7_part 69 = .ok (.iload 5, 2) := by decide +kernel
theorem dX7_part_71 : decode cX7_part 71 = .ok (.ifCond .ne 14, 3) := by decide +kernel
theorem dX7_part_74 : decode cX7_part 74 = .ok (.iload 6, 2) := by decide +kernel
theorem dX7_part_76 : decode cX7_part 76 = .ok (.ifCond .ne 9, 3) := by decide +kernel
theorem dX7_part_79 : decode cX7_part 79 = .ok (.aload_n 0, 1) := by decide +kernel
theorem dX7_part_80 : decode cX7_part 80 = .ok (.iconst 1, 1) := by decide +kernel
theorem dX7_part_81 : decode cX7_part 81 = .ok (.invokevirtual 50, 3) := by decide +kernel
theorem dX7_part_84 : decode cX7_part 84 = .ok (.ireturn, 1) := by decide +kernel
theorem dX7_part_85 : decode cX7_part 85 = .ok (.iload_n 2, 1) := by decide +kernel
theorem dX7_part_86 : decode cX7_part 86 = .ok (.iconst 5, 1) := by decide +kernel
theorem dX7_part_87 : decode cX7_part 87 = .ok (.if_icmp .lt 9, 3) := by decide +kernel
theorem dX7_part_90 : decode cX7_part 90 = .ok (.aload_n 0, 1) := by decide +kernel
theorem dX7_part_91 : decode cX7_part 91 = .ok (.iconst 5, 1) := by decide +kernel
theorem dX7_part_92 : decode cX7_part 92 = .ok (.invokevirtual 50, 3) := by decide +kernel
theorem dX7_part_95 : decode cX7_part 95 = .ok (.ireturn, 1) := by decide +kernel
theorem dX7_part_96 : decode cX7_part 96 = .ok (.iload 5, 2) := by decide +kernel
theorem dX7_part_98 : decode cX7_part 98 = .ok (.ifCond .eq 13, 3) := by decide +kernel
theorem dX7_part_101 : decode cX7_part 101 = .ok (.aload_n 0, 1) := by decide +kernel
theorem dX7_part_102 : decode cX7_part 102 = .ok (.getfield 9, 3) := by decide +kernel
theorem dX7_part_105 : decode cX7_part 105 = .ok (.getfield 60, 3) := by decide +kernel
theorem dX7_part_108 : decode cX7_part 108 = .ok (.goto 5, 3) := by decide +kernel
theorem dX7_part_111 : decode cX7_part 111 = .ok (.iload 6, 2) := by decide +kernel
theorem dX7_part_113 : decode cX7_part 113 = .ok (.istore 7, 2) := by decide +kernel
theorem dX7_part_115 : decode cX7_part 115 = .ok (.aload_n 0, 1) := by decide +kernel
theorem dX7_part_116 : decode cX7_part 116 = .ok (.getfield 9, 3) := by decide +kernel
theorem dX7_part_119 : decode cX7_part 119 = .ok (.invokevirtual 54, 3) := by decide +kernel
theorem dX7_part_122 : decode cX7_part 122 = .ok (.iload_n 3, 1) := by decide +kernel
theorem dX7_part_123 : decode cX7_part 123 = .ok (.ifCond .eq 24, 3) := by decide +kernel
theorem dX7_part_126 : decode cX7_part 126 = .ok (.aload_n 0, 1) := by decide +kernel
theorem dX7_part_127 : decode cX7_part 127 = .ok (.aload_n 1, 1) := by decide +kernel
theorem dX7_part_128 : decode cX7_part 128 = .ok (.iload_n 2, 1) := by decide +kernel
theorem dX7_part_129 : decode cX7_part 129 = .ok (.iconst 1, 1) := by decide +kernel
theorem dX7_part_130 : decode cX7_part 130 = .ok (.iadd, 1) := by decide +kernel
theorem dX7_part_131 : decode cX7_part 131 = .ok (.invokevirtual 170, 3) := by decide +kernel
theorem dX7_part_134 : decode cX7_part 134 = .ok (.ifCond .ne 5, 3) := by decide +kernel
theorem dX7_part_137 : decode cX7_part 137 = .ok (.iconst 0, 1) := by decide +kernel
theorem dX7_part_138 : decode cX7_part 138 = .ok (.ireturn, 1) := by decide +kernel
theorem dX7_part_139 : decode cX7_part 139 = .ok (.aload_n 1, 1) := by decide +kernel
theorem dX7_part_140 : decode cX7_part 140 = .ok (.bipush (-5), 2) := by decide +kernel
theorem dX7_part_142 : decode cX7_part 142 = .ok (.invokevirtual 181, 3) := by decide +kernel
theorem dX7_part_145 : decode cX7_part 145 = .ok (.iconst 1, 1) := by decide +kernel
theorem dX7_part_146 : decode cX7_part 146 = .ok (.ireturn, 1) := by decide +kernel
theorem dX7_part_147 : decode cX7_part 147 = .ok (.iload 4, 2) := by decide +kernel
theorem dX7_part_149 : decode cX7_part 149 = .ok (.ifCond .eq 30, 3) := by decide +kernel
theorem dX7_part_152 : decode cX7_part 152 = .ok (.aload_n 0, 1) := by decide +kernel
theorem dX7_part_153 : decode cX7_part 153 = .ok (.aload_n 1, 1) := by decide +kernel
theorem dX7_part_154 : decode cX7_part 154 = .ok (.iconst 0, 1) := by decide +kernel
theorem dX7_part_155 : decode cX7_part 155 = .ok (.iload_n 2, 1) := by decide +kernel
theorem dX7_part_156 : decode cX7_part 156 = .ok (.iconst 1, 1) := by decide +kernel
theorem dX7_part_157 : decode cX7_part 157 = .ok (.iadd, 1) := by decide +kernel
theorem dX7_part_158 : decode cX7_part 158 = .ok (.invokevirtual 105, 3) := by decide +kernel
theorem dX7_part_161 : decode cX7_part 161 = .ok (.ifCond .eq 16, 3) := by decide +kernel
theorem dX7_part_164 : decode cX7_part 164 = .ok (.aload_n 0, 1) := by decide +kernel
theorem dX7_part_165 : decode cX7_part 165 = .ok (.bipush 41, 2) := by decide +kernel
theorem dX7_part_167 : decode cX7_part 167 = .ok (.invokevirtual 109, 3) := by decide +kernel
theorem dX7_part_170 : decode cX7_part 170 = .ok (.ifCond .eq 7, 3) := by decide +kernel
theorem dX7_part_173 : decode cX7_part 173 = .ok (.iconst 1, 1) := by decide +kernel
theorem dX7_part_174 : decode cX7_part 174 = .ok (.goto 4, 3) := by decide +kernel
theorem dX7_part_177 : decode cX7_part 177 = .ok (.iconst 0, 1) := by decide +kernel
theorem dX7_part_178 : decode cX7_part 178 = .ok (.ireturn, 1) := by decide +kernel
theorem dX7_part_179 : decode cX7_part 179 = .ok (.aload_n 1, 1) := by decide +kernel
theorem dX7_part_180 : decode cX7_part 180 = .ok (.iload 7, 2) := by decide +kernel
theorem dX7_part_182 : decode cX7_part 182 = .ok (.invokevirtual 181, 3) := by decide +kernel
theorem dX7_part_185 : decode cX7_part 185 = .ok (.iconst 1, 1) := by decide +kernel
theorem dX7_part_186 : decode cX7_part 186 = .ok (.ireturn, 1) := by decide +kernel
theorem dX7_eveningLine_0 : decode cX7_eveningLine 0 = .ok (.aload_n 0, 1) := by decide +kernel
theorem dX7_eveningLine_1 : decode cX7_eveningLine 1 = .ok (.getfield 9, 3) := by decide +kernel
theorem dX7_eveningLine_4 : decode cX7_eveningLine 4 = .ok (.getfield 46, 3) := by decide +kernel
theorem dX7_eveningLine_7 : decode cX7_eveningLine 7 = .ok (.invokestatic 197, 3) := by decide +kernel
theorem dX7_eveningLine_10 : decode cX7_eveningLine 10 = .ok (.istore_n 3, 1) := by decide +kernel
theorem dX7_eveningLine_11 : decode cX7_eveningLine 11 = .ok (.iload_n 3, 1) := by decide +kernel
theorem dX7_eveningLine_12 : decode cX7_eveningLine 12 = .ok (.iconst (-1), 1) := by decide +kernel
theorem dX7_eveningLine_13 : decode cX7_eveningLine 13 = .ok (.if_icmp .ne 9, 3) := by decide +kernel
theorem dX7_eveningLine_16 : decode cX7_eveningLine 16 = .ok (.aload_n 0, 1) := by decide +kernel
theorem dX7_eveningLine_17 : decode cX7_eveningLine 17 = .ok (.iconst 1, 1) := by decide +kernel
theorem dX7_eveningLine_18 : decode cX7_eveningLine 18 = .ok (.invokevirtual 50, 3) := by decide +kernel
theorem dX7_eveningLine_21 : decode cX7_eveningLine 21 = .ok (.ireturn, 1) := by decide +kernel
theorem dX7_eveningLine_22 : decode cX7_eveningLine 22 = .ok (.aload_n 1, 1) := by decide +kernel
theorem dX7_eveningLine_23 : decode cX7_eveningLine 23 = .ok (.getfield 200, 3) := by decide +kernel
theorem dX7_eveningLine_26 : decode cX7_eveningLine 26 = .ok (.bipush 40, 2) := by decide +kernel
theorem dX7_eveningLine_28 : decode cX7_eveningLine 28 = .ok (.if_icmp .lt 9, 3) := by decide +kernel
theorem dX7_eveningLine_31 : decode cX7_eveningLine 31 = .ok (.aload_n 0, 1) := by decide +kernel
theorem dX7_eveningLine_32 : decode cX7_eveningLine 32 = .ok (.iconst 5, 1) := by decide +kernel
theorem dX7_eveningLine_33 : decode cX7_eveningLine 33 = .ok (.invokevirtual 50, 3) := by decide +kernel
theorem dX7_eveningLine_36 : decode cX7_eveningLine 36 = .ok (.ireturn, 1) := by decide +kernel
theorem dX7_eveningLine_37 : decode cX7_eveningLine 37 = .ok (.aload_n 0, 1) := by decide +kernel
theorem dX7_eveningLine_38 : decode cX7_eveningLine 38 = .ok (.getfield 9, 3) := by decide +kernel
theorem dX7_eveningLine_41 : decode cX7_eveningLine 41 = .ok (.invokevirtual 54, 3) := by decide +kernel
theorem dX7_eveningLine_44 : decode cX7_eveningLine 44 = .ok (.iconst (-1), 1) := by decide +kernel
theorem dX7_eveningLine_45 : decode cX7_eveningLine 45 = .ok (.istore 4, 2) := by decide +kernel
theorem dX7_eveningLine_47 : decode cX7_eveningLine 47 = .ok (.iload_n 3, 1) := by decide +kernel
theorem dX7_eveningLine_48 : decode cX7_eveningLine 48 = .ok (.invokestatic 203, 3) := by decide +kernel
theorem dX7_eveningLine_51 : decode cX7_eveningLine 51 = .ok (.ifCond .eq 18, 3) := by decide +kernel
theorem dX7_eveningLine_54 : decode cX7_eveningLine 54 = .ok (.aload_n 0, 1) := by decide +kernel
theorem dX7_eveningLine_55 : decode cX7_eveningLine 55 = .ok (.aload_n 2, 1) := by decide +kernel
theorem dX7_eveningLine_56 : decode cX7_eveningLine 56 = .ok (.invokevirtual 206, 3) := by decide +kernel
theorem dX7_eveningLine_59 : decode cX7_eveningLine 59 = .ok (.istore 4, 2) := by decide +kernel
theorem dX7_eveningLine_61 : decode cX7_eveningLine 61 = .ok (.iload 4, 2) := by decide +kernel
theorem dX7_eveningLine_63 : decode cX7_eveningLine 63 = .ok (.iconst (-1), 1) := by decide +kernel
theorem dX7_eveningLine_64 : decode cX7_eveningLine 64 = .ok (.if_icmp .ne 5, 3) := by decide +kernel
theorem dX7_eveningLine_67 : decode cX7_eveningLine 67 = .ok (.iconst 0, 1) := by decide +kernel
theorem dX7_eveningLine_68 : decode cX7_eveningLine 68 = .ok (.ireturn, 1) := by decide +kernel
theorem dX7_eveningLine_69 : decode cX7_eveningLine 69 = .ok (.iconst 0, 1) := by decide +kernel
theorem dX7_eveningLine_70 : decode cX7_eveningLine 70 = .ok (.istore 5, 2) := by decide +kernel
theorem dX7_eveningLine_72 : decode cX7_eveningLine 72 = .ok (.iload_n 3, 1) := by decide +kernel
theorem dX7_eveningLine_73 : decode cX7_eveningLine 73 = .ok (.iconst 2, 1) := by decide +kernel
theorem dX7_eveningLine_74 : decode cX7_eveningLine 74 = .ok (.if_icmp .ne 15, 3) := by decide +kernel
theorem dX7_eveningLine_77 : decode cX7_eveningLine 77 = .ok (.aload_n 0, 1) := by decide +kernel
theorem dX7_eveningLine_78 : decode cX7_eveningLine 78 = .ok (.iconst 0, 1) := by decide +kernel
theorem dX7_eveningLine_79 : decode cX7_eveningLine 79 = .ok (.bipush 11, 2) := by decide +kernel
theorem dX7_eveningLine_81 : decode cX7_eveningLine 81 = .ok (.invokevirtual 145, 3) := by decide +kernel
theorem dX7_eveningLine_84 : decode cX7_eveningLine 84 = .ok (.istore 5, 2) := by decide +kernel
theorem dX7_eveningLine_86 : decode cX7_eveningLine 86 = .ok (.goto 17, 3) := by decide +kernel
theorem dX7_eveningLine_89 : decode cX7_eveningLine 89 = .ok (.iload_n 3, 1) := by decide +kernel
theorem dX7_eveningLine_90 : decode cX7_eveningLine 90 = .ok (.iconst 3, 1) := by decide +kernel
theorem dX7_eveningLine_91 : decode cX7_eveningLine 91 = .ok (.if_icmp .ne 12, 3) := by decide +kernel
theorem dX7_eveningLine_94 : decode cX7_eveningLine 94 = .ok (.aload_n 0, 1) := by decide +kernel
theorem dX7_eveningLine_95 : decode cX7_eveningLine 95 = .ok (.iconst 1, 1) := by decide +kernel
theorem dX7_eveningLine_96 : decode cX7_eveningLine 96 = .ok (.bipush 9, 2) := by decide +kernel
theorem dX7_eveningLine_98 : decode cX7_eveningLine 98 = .ok (.invokevirtual 145, 3) := by decide +kernel
theorem dX7_eveningLine_101 : decode cX7_eveningLine 101 = .ok (.istore 5, 2) := by decide +kernel
theorem dX7_eveningLine_103 : decode cX7_eveningLine 103 = .ok (.iload 5, 2) := by decide +kernel
theorem dX7_eveningLine_105 : decode cX7_eveningLine 105 = .ok (.iconst (-1), 1) := by decide +kernel
theorem dX7_eveningLine_106 : decode cX7_eveningLine 106 = .ok (.if_icmp .eq 12, 3) := by decide +kernel
theorem dX7_eveningLine_109 : decode cX7_eveningLine 109 = .ok (.aload_n 0, 1) := by decide +kernel
theorem dX7_eveningLine_110 : decode cX7_eveningLine 110 = .ok (.bipush 59, 2) := by decide +kernel
theorem dX7_eveningLine_112 : decode cX7_eveningLine 112 = .ok (.invokevirtual 109, 3) := by decide +kernel
theorem dX7_eveningLine_115 : decode cX7_eveningLine 115 = .ok (.ifCond .ne 5, 3) := by decide +kernel
theorem dX7_eveningLine_118 : decode cX7_eveningLine 118 = .ok (.iconst 0, 1) := by decide +kernel
theorem dX7_eveningLine_119 : decode cX7_eveningLine 119 = .ok (.ireturn, 1) := by decide +kernel
theorem dX7_eveningLine_120 : decode cX7_eveningLine 120 = .ok (.aload_n 1, 1) := by decide +kernel
theorem dX7_eveningLine_121 : decode cX7_eveningLine 121 = .ok (.iload_n 3, 1) := by decide +kernel
theorem dX7_eveningLine_122 : decode cX7_eveningLine 122 = .ok (.iload 4, 2) := by decide +kernel
theorem dX7_eveningLine_124 : decode cX7_eveningLine 124 = .ok (.iload 5, 2) := by decide +kernel
theorem dX7_eveningLine_126 : decode cX7_eveningLine 126 = .ok (.invokevirtual 210, 3) := by decide +kernel
theorem dX7_eveningLine_129 : decode cX7_eveningLine 129 = .ok (.iconst 1, 1) := by decide +kernel
theorem dX7_eveningLine_130 : decode cX7_eveningLine 130 = .ok (.ireturn, 1) := by decide +kernel
theorem dX7_takeEmber_0 : decode cX7_takeEmber 0 = .ok (.aload_n 0, 1) := by decide +kernel
theorem dX7_takeEmber_1 : decode cX7_takeEmber 1 = .ok (.getfield 9, 3) := by decide +kernel
theorem dX7_takeEmber_4 : decode cX7_takeEmber 4 = .ok (.getfield 46, 3) := by decide +kernel
theorem dX7_takeEmber_7 : decode cX7_takeEmber 7 = .ok (.getfield 112, 3) := by decide +kernel
theorem dX7_takeEmber_10 : decode cX7_takeEmber 10 = .ok (.ifCond .ne 11, 3) := by decide +kernel
theorem dX7_takeEmber_13 : decode cX7_takeEmber 13 = .ok (.aload_n 0, 1) := by decide +kernel
theorem dX7_takeEmber_14 : decode cX7_takeEmber 14 = .ok (.iconst 1, 1) := by decide +kernel
theorem dX7_takeEmber_15 : decode cX7_takeEmber 15 = .ok (.invokevirtual 50, 3) := by decide +kernel
theorem dX7_takeEmber_18 : decode cX7_takeEmber 18 = .ok (.pop, 1) := by decide +kernel
theorem dX7_takeEmber_19 : decode cX7_takeEmber 19 = .ok (.iconst (-1), 1) := by decide +kernel
theorem dX7_takeEmber_20 : decode cX7_takeEmber 20 = .ok (.ireturn, 1) := by decide +kernel
theorem dX7_takeEmber_21 : decode cX7_takeEmber 21 = .ok (.aload_n 1, 1) := by decide +kernel
theorem dX7_takeEmber_22 : decode cX7_takeEmber 22 = .ok (.aload_n 0, 1) := by decide +kernel
theorem dX7_takeEmber_23 : decode cX7_takeEmber 23 = .ok (.getfield 9, 3) := by decide +kernel
theorem dX7_takeEmber_26 : decode cX7_takeEmber 26 = .ok (.getfield 115, 3) := by decide +kernel
theorem dX7_takeEmber_29 : decode cX7_takeEmber 29 = .ok (.invokevirtual 119, 3) := by decide +kernel
theorem dX7_takeEmber_32 : decode cX7_takeEmber 32 = .ok (.istore_n 2, 1) := by decide +kernel
theorem dX7_takeEmber_33 : decode cX7_takeEmber 33 = .ok (.iload_n 2, 1) := by decide +kernel
theorem dX7_takeEmber_34 : decode cX7_takeEmber 34 = .ok (.iconst (-1), 1) := by decide +kernel
theorem dX7_takeEmber_35 : decode cX7_takeEmber 35 = .ok (.if_icmp .ne 11, 3) := by decide +kernel
theorem dX7_takeEmber_38 : decode cX7_takeEmber 38 = .ok (.aload_n 0, 1) := by decide +kernel
theorem dX7_takeEmber_39 : decode cX7_takeEmber 39 = .ok (.iconst 2, 1) := by decide +kernel
theorem dX7_takeEmber_40 : decode cX7_takeEmber 40 = .ok (.invokevirtual 50, 3) := by decide +kernel
theorem dX7_takeEmber_43 : decode cX7_takeEmber 43 = .ok (.pop, 1) := by decide +kernel
theorem dX7_takeEmber_44 : decode cX7_takeEmber 44 = .ok (.iconst (-1), 1) := by decide +kernel
theorem dX7_takeEmber_45 : decode cX7_takeEmber 45 = .ok (.ireturn, 1) := by decide +kernel
theorem dX7_takeEmber_46 : decode cX7_takeEmber 46 = .ok (.aload_n 0, 1) := by decide +kernel
theorem dX7_takeEmber_47 : decode cX7_takeEmber 47 = .ok (.getfield 9, 3) := by decide +kernel
theorem dX7_takeEmber_50 : decode cX7_takeEmber 50 = .ok (.invokevirtual 54, 3) := by decide +kernel
theorem dX7_takeEmber_53 : decode cX7_takeEmber 53 = .ok (.iload_n 2, 1) := by decide +kernel
theorem dX7_takeEmber_54 : decode cX7_takeEmber 54 = .ok (.ireturn, 1) := by decide +kernel
theorem dX8_init_0 : decode cX8_init 0 = .ok (.aload_n 0, 1) := by decide +kernel
theorem dX8_init_1 : decode cX8_init 1 = .ok (.invokespecial 3, 3) := by decide +kernel
theorem dX8_init_4 : decode cX8_init 4 = .ok (.aload_n 0, 1) := by decide +kernel
theorem dX8_init_5 : decode cX8_init 5 = .ok (.new 9, 3) := by decide +kernel
theorem dX8_init_8 : decode cX8_init 8 = .ok (.dup, 1) := by decide +kernel
theorem dX8_init_9 : decode cX8_init 9 = .ok (.invokespecial 11, 3) := by decide +kernel
theorem dX8_init_12 : decode cX8_init 12 = .ok (.putfield 12, 3) := by decide +kernel
theorem dX8_init_15 : decode cX8_init 15 = .ok (.aload_n 0, 1) := by decide +kernel
theorem dX8_init_16 : decode cX8_init 16 = .ok (.bipush 7, 2) := by decide +kernel
theorem dX8_init_18 : decode cX8_init 18 = .ok (.newarray .int, 2) := by decide +kernel
theorem dX8_init_20 : decode cX8_init 20 = .ok (.putfield 18, 3) := by decide +kernel
theorem dX8_init_23 : decode cX8_init 23 = .ok (.return_, 1) := by decide +kernel
theorem dX8_fewestLit_0 : decode cX8_fewestLit 0 = .ok (.iconst 0, 1) := by decide +kernel
theorem dX8_fewestLit_1 : decode cX8_fewestLit 1 = .ok (.istore_n 3, 1) := by decide +kernel
theorem dX8_fewestLit_2 : decode cX8_fewestLit 2 = .ok (.iconst 0, 1) := by decide +kernel
theorem dX8_fewestLit_3 : decode cX8_fewestLit 3 = .ok (.istore 4, 2) := by decide +kernel
theorem dX8_fewestLit_5 : decode cX8_fewestLit 5 = .ok (.iload 4, 2) := by decide +kernel
theorem dX8_fewestLit_7 : decode cX8_fewestLit 7 = .ok (.bipush 7, 2) := by decide +kernel
theorem dX8_fewestLit_9 : decode cX8_fewestLit 9 = .ok (.if_icmp .ge 36, 3) := by decide +kernel
theorem dX8_fewestLit_12 : decode cX8_fewestLit 12 = .ok (.aload_n 2, 1) := by decide +kernel
theorem dX8_fewestLit_13 : decode cX8_fewestLit 13 = .ok (.iload 4, 2) := by decide +kernel
theorem dX8_fewestLit_15 : decode cX8_fewestLit 15 = .ok (.invokevirtual 22, 3) := by decide +kernel
theorem dX8_fewestLit_18 : decode cX8_fewestLit 18 = .ok (.ifCond .eq 21, 3) := by decide +kernel
theorem dX8_fewestLit_21 : decode cX8_fewestLit 21 = .ok (.aload_n 1, 1) := by decide +kernel
theorem dX8_fewestLit_22 : decode cX8_fewestLit 22 = .ok (.getfield 26, 3) := by decide +kernel
theorem dX8_fewestLit_25 : decode cX8_fewestLit 25 = .ok (.iload 4, 2) := by decide +kernel
theorem dX8_fewestLit_27 : decode cX8_fewestLit 27 = .ok (.iaload, 1) := by decide +kernel
theorem dX8_fewestLit_28 : decode cX8_fewestLit 28 = .ok (.iconst 3, 1) := by decide +kernel
theorem dX8_fewestLit_29 : decode cX8_fewestLit 29 = .ok (.if_icmp .eq 10, 3) := by decide +kernel
theorem dX8_fewestLit_32 : decode cX8_fewestLit 32 = .ok (.iload_n 3, 1) := by decide +kernel
theorem dX8_fewestLit_33 : decode cX8_fewestLit 33 = .ok (.iconst 1, 1) := by decide +kernel
theorem dX8_fewestLit_34 : decode cX8_fewestLit 34 = .ok (.iload 4, 2) := by decide +kernel
theorem dX8_fewestLit_36 : decode cX8_fewestLit 36 = .ok (.ishl, 1) := by decide +kernel
theorem dX8_fewestLit_37 : decode cX8_fewestLit 37 = .ok (.ior, 1) := by decide +kernel
theorem dX8_fewestLit_38 : decode cX8_fewestLit 38 = .ok (.istore_n 3, 1) := by decide +kernel
theorem dX8_fewestLit_39 : decode cX8_fewestLit 39 = .ok (.iinc 4 1, 3) := by decide +kernel
theorem dX8_fewestLit_42 : decode cX8_fewestLit 42 = .ok (.goto (-37), 3) := by decide +kernel
theorem dX8_fewestLit_45 : decode cX8_fewestLit 45 = .ok (.iconst 0, 1) := by decide +kernel
theorem dX8_fewestLit_46 : decode cX8_fewestLit 46 = .ok (.istore 4, 2) := by decide +kernel
theorem dX8_fewestLit_48 : decode cX8_fewestLit 48 = .ok (.iload 4, 2) := by decide +kernel
theorem dX8_fewestLit_50 : decode cX8_fewestLit 50 = .ok (.bipush 7, 2) := by decide +kernel
theorem dX8_fewestLit_52 : decode cX8_fewestLit 52 = .ok (.if_icmp .gt 74, 3) := by decide +kernel
theorem dX8_fewestLit_55 : decode cX8_fewestLit 55 = .ok (.iconst 0, 1) := by decide +kernel
theorem dX8_fewestLit_56 : decode cX8_fewestLit 56 = .ok (.istore 5, 2) := by decide +kernel
theorem dX8_fewestLit_58 : decode cX8_fewestLit 58 = .ok (.iload 5, 2) := by decide +kernel
theorem dX8_fewestLit_60 : decode cX8_fewestLit 60 = .ok (.sipush 128, 3) := by decide +kernel
theorem dX8_fewestLit_63 : decode cX8_fewestLit 63 = .ok (.if_icmp .ge 57, 3) := by decide +kernel
theorem dX8_fewestLit_66 : decode cX8_fewestLit 66 = .ok (.iload 5, 2) := by decide +kernel
theorem dX8_fewestLit_68 : decode cX8_fewestLit 68 = .ok (.iload_n 3, 1) := by decide +kernel
theorem dX8_fewestLit_69 : decode cX8_fewestLit 69 = .ok (.iconst (-1), 1) := by decide +kernel
theorem dX8_fewestLit_70 : decode cX8_fewestLit 70 = .ok (.ixor, 1) := by decide +kernel
theorem dX8_fewestLit_71 : decode cX8_fewestLit 71 = .ok (.iand, 1) := by decide +kernel
theorem dX8_fewestLit_72 : decode cX8_fewestLit 72 = .ok (.ifCond .ne 42, 3) := by decide +kernel
theorem dX8_fewestLit_75 : decode cX8_fewestLit 75 = .ok (.iload 5, 2) := by decide +kernel
theorem dX8_fewestLit_77 : decode cX8_fewestLit 77 = .ok (.invokestatic 31, 3) := by decide +kernel
theorem dX8_fewestLit_80 : decode cX8_fewestLit 80 = .ok (.iload 4, 2) := by decide +kernel
theorem dX8_fewestLit_82 : decode cX8_fewestLit 82 = .ok (.if_icmp .ne 32, 3) := by decide +kernel
theorem dX8_fewestLit_85 : decode cX8_fewestLit 85 = .ok (.aload_n 0, 1) := by decide +kernel
theorem dX8_fewestLit_86 : decode cX8_fewestLit 86 = .ok (.getfield 12, 3) := by decide +kernel
theorem dX8_fewestLit_89 : decode cX8_fewestLit 89 = .ok (.aload_n 2, 1) := by decide +kernel
theorem dX8_fewestLit_90 : decode cX8_fewestLit 90 = .ok (.invokevirtual 37, 3) := by decide +kernel
theorem dX8_fewestLit_93 : decode cX8_fewestLit 93 = .ok (.aload_n 0, 1) := by decide +kernel
theorem dX8_fewestLit_94 : decode cX8_fewestLit 94 = .ok (.getfield 12, 3) := by decide +kernel
theorem dX8_fewestLit_97 : decode cX8_fewestLit 97 = .ok (.iload 5, 2) := by decide +kernel
theorem dX8_fewestLit_99 : decode cX8_fewestLit 99 = .ok (.invokevirtual 41, 3) := by decide +kernel
theorem dX8_fewestLit_102 : decode cX8_fewestLit 102 = .ok (.aload_n 0, 1) := by decide +kernel
theorem dX8_fewestLit_103 : decode cX8_fewestLit 103 = .ok (.aload_n 1, 1) := by decide +kernel
theorem dX8_fewestLit_104 : decode cX8_fewestLit 104 = .ok (.invokevirtual 45, 3) := by decide +kernel
theorem dX8_fewestLit_107 : decode cX8_fewestLit 107 = .ok (.iload_n 3, 1) := by decide +kernel
theorem dX8_fewestLit_108 : decode cX8_fewestLit 108 = .ok (.if_icmp .ne 6, 3) := by decide +kernel
theorem dX8_fewestLit_111 : decode cX8_fewestLit 111 = .ok (.iload 5, 2) := by decide +kernel
theorem dX8_fewestLit_113 : decode cX8_fewestLit 113 = .ok (.ireturn, 1) := by decide +kernel
theorem dX8_fewestLit_114 : decode cX8_fewestLit 114 = .ok (.iinc 5 1, 3) := by decide +kernel
theorem dX8_fewestLit_117 : decode cX8_fewestLit 117 = .ok (.goto (-59), 3) := by decide +kernel
theorem dX8_fewestLit_120 : decode cX8_fewestLit 120 = .ok (.iinc 4 1, 3) := by decide +kernel
theorem dX8_fewestLit_123 : decode cX8_fewestLit 123 = .ok (.goto (-75), 3) := by decide +kernel
theorem dX8_fewestLit_126 : decode cX8_fewestLit 126 = .ok (.iconst (-1), 1) := by decide +kernel
theorem dX8_fewestLit_127 : decode cX8_fewestLit 127 = .ok (.ireturn, 1) := by decide +kernel
theorem dX8_fewestTaken_0 : decode cX8_fewestTaken 0 = .ok (.aload_n 2, 1) := by decide +kernel
theorem dX8_fewestTaken_1 : decode cX8_fewestTaken 1 = .ok (.invokevirtual 49, 3) := by decide +kernel
theorem dX8_fewestTaken_4 : decode cX8_fewestTaken 4 = .ok (.iconst 1, 1) := by decide +kernel
theorem dX8_fewestTaken_5 : decode cX8_fewestTaken 5 = .ok (.iload_n 3, 1) := by decide +kernel
theorem dX8_fewestTaken_6 : decode cX8_fewestTaken 6 = .ok (.ishl, 1) := by decide +kernel
theorem dX8_fewestTaken_7 : decode cX8_fewestTaken 7 = .ok (.iconst (-1), 1) := by decide +kernel
theorem dX8_fewestTaken_8 : decode cX8_fewestTaken 8 = .ok (.ixor, 1) := by decide +kernel
theorem dX8_fewestTaken_9 : decode cX8_fewestTaken 9 = .ok (.iand, 1) := by decide +kernel
theorem dX8_fewestTaken_10 : decode cX8_fewestTaken 10 = .ok (.istore 4, 2) := by decide +kernel
theorem dX8_fewestTaken_12 : decode cX8_fewestTaken 12 = .ok (.iconst 0, 1) := by decide +kernel
theorem dX8_fewestTaken_13 : decode cX8_fewestTaken 13 = .ok (.istore 5, 2) := by decide +kernel
theorem dX8_fewestTaken_15 : decode cX8_fewestTaken 15 = .ok (.iload 5, 2) := by decide +kernel
theorem dX8_fewestTaken_17 : decode cX8_fewestTaken 17 = .ok (.bipush 7, 2) := by decide +kernel
theorem dX8_fewestTaken_19 : decode cX8_fewestTaken 19 = .ok (.if_icmp .ge 78, 3) := by decide +kernel
theorem dX8_fewestTaken_22 : decode cX8_fewestTaken 22 = .ok (.iconst 0, 1) := by decide +kernel
theorem dX8_fewestTaken_23 : decode cX8_fewestTaken 23 = .ok (.istore 6, 2) := by decide +kernel
theorem dX8_fewestTaken_25 : decode cX8_fewestTaken 25 = .ok (.iload 6, 2) := by decide +kernel
theorem dX8_fewestTaken_27 : decode cX8_fewestTaken 27 = .ok (.sipush 128, 3) := by decide +kernel
theorem dX8_fewestTaken_30 : decode cX8_fewestTaken 30 = .ok (.if_icmp .ge 61, 3) := by decide +kernel
theorem dX8_fewestTaken_33 : decode cX8_fewestTaken 33 = .ok (.iload 6, 2) := by decide +kernel
theorem dX8_fewestTaken_35 : decode cX8_fewestTaken 35 = .ok (.iload 4, 2) := by decide +kernel
theorem dX8_fewestTaken_37 : decode cX8_fewestTaken 37 = .ok (.iconst (-1), 1) := by decide +kernel
theorem dX8_fewestTaken_38 : decode cX8_fewestTaken 38 = .ok (.ixor, 1) := by decide +kernel
theorem dX8_fewestTaken_39 : decode cX8_fewestTaken 39 = .ok (.iand, 1) := by decide +kernel
theorem dX8_fewestTaken_40 : decode cX8_fewestTaken 40 = .ok (.ifCond .ne 45, 3) := by decide +kernel
theorem dX8_fewestTaken_43 : decode cX8_fewestTaken 43 = .ok (.iload 6, 2) := by decide +kernel
theorem dX8_fewestTaken_45 : decode cX8_fewestTaken 45 = .ok (.invokestatic 31, 3) := by decide +kernel
theorem dX8_fewestTaken_48 : decode cX8_fewestTaken 48 = .ok (.iload 5, 2) := by decide +kernel
theorem dX8_fewestTaken_50 : decode cX8_fewestTaken 50 = .ok (.if_icmp .ne 35, 3) := by decide +kernel
theorem dX8_fewestTaken_53 : decode cX8_fewestTaken 53 = .ok (.aload_n 0, 1) := by decide +kernel
theorem dX8_fewestTaken_54 : decode cX8_fewestTaken 54 = .ok (.getfield 12, 3) := by decide +kernel
theorem dX8_fewestTaken_57 : decode cX8_fewestTaken 57 = .ok (.aload_n 2, 1) := by decide +kernel
theorem dX8_fewestTaken_58 : decode cX8_fewestTaken 58 = .ok (.invokevirtual 37, 3) := by decide +kernel
theorem dX8_fewestTaken_61 : decode cX8_fewestTaken 61 = .ok (.aload_n 0, 1) := by decide +kernel
theorem dX8_fewestTaken_62 : decode cX8_fewestTaken 62 = .ok (.getfield 12, 3) := by decide +kernel
theorem dX8_fewestTaken_65 : decode cX8_fewestTaken 65 = .ok (.iload 6, 2) := by decide +kernel
theorem dX8_fewestTaken_67 : decode cX8_fewestTaken 67 = .ok (.invokevirtual 53, 3) := by decide +kernel
theorem dX8_fewestTaken_70 : decode cX8_fewestTaken 70 = .ok (.aload_n 0, 1) := by decide +kernel
theorem dX8_fewestTaken_71 : decode cX8_fewestTaken 71 = .ok (.aload_n 1, 1) := by decide +kernel
theorem dX8_fewestTaken_72 : decode cX8_fewestTaken 72 = .ok (.invokevirtual 45, 3) := by decide +kernel
theorem dX8_fewestTaken_75 : decode cX8_fewestTaken 75 = .ok (.iload_n 3, 1) := by decide +kernel
theorem dX8_fewestTaken_76 : decode cX8_fewestTaken 76 = .ok (.ishr, 1) := by decide +kernel
theorem dX8_fewestTaken_77 : decode cX8_fewestTaken 77 = .ok (.iconst 1, 1) := by decide +kernel
theorem dX8_fewestTaken_78 : decode cX8_fewestTaken 78 = .ok (.iand, 1) := by decide +kernel
theorem dX8_fewestTaken_79 : decode cX8_fewestTaken 79 = .ok (.ifCond .ne 6, 3) := by decide +kernel
theorem dX8_fewestTaken_82 : decode cX8_fewestTaken 82 = .ok (.iload 6, 2) := by decide +kernel
theorem dX8_fewestTaken_84 : decode cX8_fewestTaken 84 = .ok (.ireturn, 1) := by decide +kernel
theorem dX8_fewestTaken_85 : decode cX8_fewestTaken 85 = .ok (.iinc 6 1, 3) := by decide +kernel
theorem dX8_fewestTaken_88 : decode cX8_fewestTaken 88 = .ok (.goto (-63), 3) := by decide +kernel
theorem dX8_fewestTaken_91 : decode cX8_fewestTaken 91 = .ok (.iinc 5 1, 3) := by decide +kernel
theorem dX8_fewestTaken_94 : decode cX8_fewestTaken 94 = .ok (.goto (-79), 3) := by decide +kernel
theorem dX8_fewestTaken_97 : decode cX8_fewestTaken 97 = .ok (.iconst (-1), 1) := by decide +kernel
theorem dX8_fewestTaken_98 : decode cX8_fewestTaken 98 = .ok (.ireturn, 1) := by decide +kernel
theorem dX8_suspects_0 : decode cX8_suspects 0 = .ok (.aload_n 0, 1) := by decide +kernel
theorem dX8_suspects_1 : decode cX8_suspects 1 = .ok (.aload_n 1, 1) := by decide +kernel
theorem dX8_suspects_2 : decode cX8_suspects 2 = .ok (.aload_n 2, 1) := by decide +kernel
theorem dX8_suspects_3 : decode cX8_suspects 3 = .ok (.aload_n 3, 1) := by decide +kernel
theorem dX8_suspects_4 : decode cX8_suspects 4 = .ok (.iconst 0, 1) := by decide +kernel
theorem dX8_suspects_5 : decode cX8_suspects 5 = .ok (.invokevirtual 56, 3) := by decide +kernel
theorem dX8_suspects_8 : decode cX8_suspects 8 = .ok (.ireturn, 1) := by decide +kernel
theorem dX8_bestLook_0 : decode cX8_bestLook 0 = .ok (.aload_n 0, 1) := by decide +kernel
theorem dX8_bestLook_1 : decode cX8_bestLook 1 = .ok (.aload_n 1, 1) := by decide +kernel
theorem dX8_bestLook_2 : decode cX8_bestLook 2 = .ok (.aload_n 2, 1) := by decide +kernel
theorem dX8_bestLook_3 : decode cX8_bestLook 3 = .ok (.aload_n 3, 1) := by decide +kernel
theorem dX8_bestLook_4 : decode cX8_bestLook 4 = .ok (.iload 4, 2) := by decide +kernel
theorem dX8_bestLook_6 : decode cX8_bestLook 6 = .ok (.invokevirtual 56, 3) := by decide +kernel
theorem dX8_bestLook_9 : decode cX8_bestLook 9 = .ok (.istore 5, 2) := by decide +kernel
theorem dX8_bestLook_11 : decode cX8_bestLook 11 = .ok (.iload 5, 2) := by decide +kernel
theorem dX8_bestLook_13 : decode cX8_bestLook 13 = .ok (.invokestatic 31, 3) := by decide +kernel
theorem dX8_bestLook_16 : decode cX8_bestLook 16 = .ok (.istore 6, 2) := by decide +kernel
theorem dX8_bestLook_18 : decode cX8_bestLook 18 = .ok (.iconst (-1), 1) := by decide +kernel
theorem dX8_bestLook_19 : decode cX8_bestLook 19 = .ok (.istore 7, 2) := by decide +kernel
theorem dX8_bestLook_21 : decode cX8_bestLook 21 = .ok (.iload 6, 2) := by decide +kernel
theorem dX8_bestLook_23 : decode cX8_bestLook 23 = .ok (.istore 8, 2) := by decide +kernel
theorem dX8_bestLook_25 : decode cX8_bestLook 25 = .ok (.iconst 0, 1) := by decide +kernel
theorem dX8_bestLook_26 : decode cX8_bestLook 26 = .ok (.istore 9, 2) := by decide +kernel
theorem dX8_bestLook_28 : decode cX8_bestLook 28 = .ok (.iload 9, 2) := by decide +kernel
theorem dX8_bestLook_30 : decode cX8_bestLook 30 = .ok (.bipush 7, 2) := by decide +kernel
theorem dX8_bestLook_32 : decode cX8_bestLook 32 = .ok (.if_icmp .ge 83, 3) := by decide +kernel
theorem dX8_bestLook_35 : decode cX8_bestLook 35 = .ok (.iconst 0, 1) := by decide +kernel
theorem dX8_bestLook_36 : decode cX8_bestLook 36 = .ok (.istore 10, 2) := by decide +kernel
theorem dX8_bestLook_38 : decode cX8_bestLook 38 = .ok (.iconst 0, 1) := by decide +kernel
theorem dX8_bestLook_39 : decode cX8_bestLook 39 = .ok (.istore 11, 2) := by decide +kernel
theorem dX8_bestLook_41 : decode cX8_bestLook 41 = .ok (.iload 11, 2) := by decide +kernel
theorem dX8_bestLook_43 : decode cX8_bestLook 43 = .ok (.bipush 7, 2) := by decide +kernel
theorem dX8_bestLook_45 : decode cX8_bestLook 45 = .ok (.if_icmp .ge 37, 3) := by decide +kernel
theorem dX8_bestLook_48 : decode cX8_bestLook 48 = .ok (.iload 5, 2) := by decide +kernel
theorem dX8_bestLook_50 : decode cX8_bestLook 50 = .ok (.iload 11, 2) := by decide +kernel
theorem dX8_bestLook_52 : decode cX8_bestLook 52 = .ok (.ishr, 1) := by decide +kernel
theorem dX8_bestLook_53 : decode cX8_bestLook 53 = .ok (.iconst 1, 1) := by decide +kernel
theorem dX8_bestLook_54 : decode cX8_bestLook 54 = .ok (.iand, 1) := by decide +kernel
theorem dX8_bestLook_55 : decode cX8_bestLook 55 = .ok (.iconst 1, 1) := by decide +kernel
theorem dX8_bestLook_56 : decode cX8_bestLook 56 = .ok (.if_icmp .ne 20, 3) := by decide +kernel
theorem dX8_bestLook_59 : decode cX8_bestLook 59 = .ok (.iload 10, 2) := by decide +kernel
theorem dX8_bestLook_61 : decode cX8_bestLook 61 = .ok (.aload_n 0, 1) := by decide +kernel
theorem dX8_bestLook_62 : decode cX8_bestLook 62 = .ok (.getfield 18, 3) := by decide +kernel
theorem dX8_bestLook_65 : decode cX8_bestLook 65 = .ok (.iload 11, 2) := by decide +kernel
theorem dX8_bestLook_67 : decode cX8_bestLook 67 = .ok (.iaload, 1) := by decide +kernel
theorem dX8_bestLook_68 : decode cX8_bestLook 68 = .ok (.iload 9, 2) := by decide +kernel
theorem dX8_bestLook_70 : decode cX8_bestLook 70 = .ok (.ishr, 1) := by decide +kernel
theorem dX8_bestLook_71 : decode cX8_bestLook 71 = .ok (.iconst 1, 1) := by decide +kernel
theorem dX8_bestLook_72 : decode cX8_bestLook 72 = .ok (.iand, 1) := by decide +kernel
theorem dX8_bestLook_73 : decode cX8_bestLook 73 = .ok (.iadd, 1) := by decide +kernel
theorem dX8_bestLook_74 : decode cX8_bestLook 74 = .ok (.istore 10, 2) := by decide +kernel
theorem dX8_bestLook_76 : decode cX8_bestLook 76 = .ok (.iinc 11 1, 3) := by decide +kernel
theorem dX8_bestLook_79 : decode cX8_bestLook 79 = .ok (.goto (-38), 3) := by decide +kernel
theorem dX8_bestLook_82 : decode cX8_bestLook 82 = .ok (.iload 10, 2) := by decide +kernel
theorem dX8_bestLook_84 : decode cX8_bestLook 84 = .ok (.iload 6, 2) := by decide +kernel
theorem dX8_bestLook_86 : decode cX8_bestLook 86 = .ok (.iload 10, 2) := by decide +kernel
theorem dX8_bestLook_88 : decode cX8_bestLook 88 = .ok (.isub, 1) := by decide +kernel
theorem dX8_bestLook_89 : decode cX8_bestLook 89 = .ok (.invokestatic 60, 3) := by decide +kernel
theorem dX8_bestLook_92 : decode cX8_bestLook 92 = .ok (.istore 11, 2) := by decide +kernel
theorem dX8_bestLook_94 : decode cX8_bestLook 94 = .ok (.iload 11, 2) := by decide +kernel
theorem dX8_bestLook_96 : decode cX8_bestLook 96 = .ok (.iload 8, 2) := by decide +kernel
theorem dX8_bestLook_98 : decode cX8_bestLook 98 = .ok (.if_icmp .ge 11, 3) := by decide +kernel
theorem dX8_bestLook_101 : decode cX8_bestLook 101 = .ok (.iload 11, 2) := by decide +kernel
theorem dX8_bestLook_103 : decode cX8_bestLook 103 = .ok (.istore 8, 2) := by decide +kernel
theorem dX8_bestLook_105 : decode cX8_bestLook 105 = .ok (.iload 9, 2) := by decide +kernel
theorem dX8_bestLook_107 : decode cX8_bestLook 107 = .ok (.istore 7, 2) := by decide +kernel
theorem dX8_bestLook_109 : decode cX8_bestLook 109 = .ok (.iinc 9 1, 3) := by decide +kernel
theorem dX8_bestLook_112 : decode cX8_bestLook 112 = .ok (.goto (-84), 3) := by decide +kernel
theorem dX8_bestLook_115 : decode cX8_bestLook 115 = .ok (.iload 7, 2) := by decide +kernel
theorem dX8_bestLook_117 : decode cX8_bestLook 117 = .ok (.ireturn, 1) := by decide +kernel
theorem dX8_millionths_0 : decode cX8_millionths 0 = .ok (.iconst 0, 1) := by decide +kernel
theorem dX8_millionths_1 : decode cX8_millionths 1 = .ok (.istore 6, 2) := by decide +kernel
theorem dX8_millionths_3 : decode cX8_millionths 3 = .ok (.iconst 0, 1) := by decide +kernel
theorem dX8_millionths_4 : decode cX8_millionths 4 = .ok (.istore 7, 2) := by decide +kernel
theorem dX8_millionths_6 : decode cX8_millionths 6 = .ok (.iload 7, 2) := by decide +kernel
theorem dX8_millionths_8 : decode cX8_millionths 8 = .ok (.iconst 1, 1) := by decide +kernel
theorem dX8_millionths_9 : decode cX8_millionths 9 = .ok (.iload 4, 2) := by decide +kernel
theorem dX8_millionths_11 : decode cX8_millionths 11 = .ok (.ishl, 1) := by decide +kernel
theorem dX8_millionths_12 : decode cX8_millionths 12 = .ok (.if_icmp .ge 108, 3) := by decide +kernel
theorem dX8_millionths_15 : decode cX8_millionths 15 = .ok (.iconst 1, 1) := by decide +kernel
theorem dX8_millionths_16 : decode cX8_millionths 16 = .ok (.istore 8, 2) := by decide +kernel
theorem dX8_millionths_18 : decode cX8_millionths 18 = .ok (.aload_n 0, 1) := by decide +kernel
theorem dX8_millionths_19 : decode cX8_millionths 19 = .ok (.getfield 12, 3) := by decide +kernel
theorem dX8_millionths_22 : decode cX8_millionths 22 = .ok (.aload_n 2, 1) := by decide +kernel
theorem dX8_millionths_23 : decode cX8_millionths 23 = .ok (.invokevirtual 37, 3) := by decide +kernel
theorem dX8_millionths_26 : decode cX8_millionths 26 = .ok (.iconst 0, 1) := by decide +kernel
theorem dX8_millionths_27 : decode cX8_millionths 27 = .ok (.istore 9, 2) := by decide +kernel
theorem dX8_millionths_29 : decode cX8_millionths 29 = .ok (.iload 9, 2) := by decide +kernel
theorem dX8_millionths_31 : decode cX8_millionths 31 = .ok (.iload 4, 2) := by decide +kernel
theorem dX8_millionths_33 : decode cX8_millionths 33 = .ok (.if_icmp .ge 58, 3) := by decide +kernel
theorem dX8_millionths_36 : decode cX8_millionths 36 = .ok (.iload 7, 2) := by decide +kernel
theorem dX8_millionths_38 : decode cX8_millionths 38 = .ok (.iload 9, 2) := by decide +kernel
theorem dX8_millionths_40 : decode cX8_millionths 40 = .ok (.ishr, 1) := by decide +kernel
theorem dX8_millionths_41 : decode cX8_millionths 41 = .ok (.iconst 1, 1) := by decide +kernel
theorem dX8_millionths_42 : decode cX8_millionths 42 = .ok (.iand, 1) := by decide +kernel
theorem dX8_millionths_43 : decode cX8_millionths 43 = .ok (.iconst 1, 1) := by decide +kernel
theorem dX8_millionths_44 : decode cX8_millionths 44 = .ok (.if_icmp .ne 7, 3) := by decide +kernel
theorem dX8_millionths_47 : decode cX8_millionths 47 = .ok (.iconst 1, 1) := by decide +kernel
theorem dX8_millionths_48 : decode cX8_millionths 48 = .ok (.goto 4, 3) := by decide +kernel
theorem dX8_millionths_51 : decode cX8_millionths 51 = .ok (.iconst 0, 1) := by decide +kernel
theorem dX8_millionths_52 : decode cX8_millionths 52 = .ok (.istore 10, 2) := by decide +kernel
theorem dX8_millionths_54 : decode cX8_millionths 54 = .ok (.iload 8, 2) := by decide +kernel
theorem dX8_millionths_56 : decode cX8_millionths 56 = .ok (.iload 10, 2) := by decide +kernel
theorem dX8_millionths_58 : decode cX8_millionths 58 = .ok (.ifCond .eq 8, 3) := by decide +kernel
theorem dX8_millionths_61 : decode cX8_millionths 61 = .ok (.iload 5, 2) := by decide +kernel
theorem dX8_millionths_63 : decode cX8_millionths 63 = .ok (.goto 8, 3) := by decide +kernel
theorem dX8_millionths_66 : decode cX8_millionths 66 = .ok (.bipush 10, 2) := by decide +kernel
theorem dX8_millionths_68 : decode cX8_millionths 68 = .ok (.iload 5, 2) := by decide +kernel
theorem dX8_millionths_70 : decode cX8_millionths 70 = .ok (.isub, 1) := by decide +kernel
theorem dX8_millionths_71 : decode cX8_millionths 71 = .ok (.imul, 1) := by decide +kernel
theorem dX8_millionths_72 : decode cX8_millionths 72 = .ok (.istore 8, 2) := by decide +kernel
theorem dX8_millionths_74 : decode cX8_millionths 74 = .ok (.aload_n 0, 1) := by decide +kernel
theorem dX8_millionths_75 : decode cX8_millionths 75 = .ok (.getfield 12, 3) := by decide +kernel
theorem dX8_millionths_78 : decode cX8_millionths 78 = .ok (.aload_n 1, 1) := by decide +kernel
theorem dX8_millionths_79 : decode cX8_millionths 79 = .ok (.iload 10, 2) := by decide +kernel
theorem dX8_millionths_81 : decode cX8_millionths 81 = .ok (.invokevirtual 66, 3) := by decide +kernel
theorem dX8_millionths_84 : decode cX8_millionths 84 = .ok (.pop, 1) := by decide +kernel
theorem dX8_millionths_85 : decode cX8_millionths 85 = .ok (.iinc 9 1, 3) := by decide +kernel
theorem dX8_millionths_88 : decode cX8_millionths 88 = .ok (.goto (-59), 3) := by decide +kernel
theorem dX8_millionths_91 : decode cX8_millionths 91 = .ok (.aload_n 0, 1) := by decide +kernel
theorem dX8_millionths_92 : decode cX8_millionths 92 = .ok (.getfield 12, 3) := by decide +kernel
theorem dX8_millionths_95 : decode cX8_millionths 95 = .ok (.aload_n 1, 1) := by decide +kernel
theorem dX8_millionths_96 : decode cX8_millionths 96 = .ok (.invokevirtual 70, 3) := by decide +kernel
theorem dX8_millionths_99 : decode cX8_millionths 99 = .ok (.iload_n 3, 1) := by decide +kernel
theorem dX8_millionths_100 : decode cX8_millionths 100 = .ok (.ishr, 1) := by decide +kernel
theorem dX8_millionths_101 : decode cX8_millionths 101 = .ok (.iconst 1, 1) := by decide +kernel
theorem dX8_millionths_102 : decode cX8_millionths 102 = .ok (.iand, 1) := by decide +kernel
theorem dX8_millionths_103 : decode cX8_millionths 103 = .ok (.iconst 1, 1) := by decide +kernel
theorem dX8_millionths_104 : decode cX8_millionths 104 = .ok (.if_icmp .ne 10, 3) := by decide +kernel
theorem dX8_millionths_107 : decode cX8_millionths 107 = .ok (.iload 6, 2) := by decide +kernel
theorem dX8_millionths_109 : decode cX8_millionths 109 = .ok (.iload 8, 2) := by decide +kernel
theorem dX8_millionths_111 : decode cX8_millionths 111 = .ok (.iadd, 1) := by decide +kernel
theorem dX8_millionths_112 : decode cX8_millionths 112 = .ok (.istore 6, 2) := by decide +kernel
theorem dX8_millionths_114 : decode cX8_millionths 114 = .ok (.iinc 7 1, 3) := by decide +kernel
theorem dX8_millionths_117 : decode cX8_millionths 117 = .ok (.goto (-111), 3) := by decide +kernel
theorem dX8_millionths_120 : decode cX8_millionths 120 = .ok (.iload 4, 2) := by decide +kernel
theorem dX8_millionths_122 : decode cX8_millionths 122 = .ok (.istore 7, 2) := by decide +kernel
theorem dX8_millionths_124 : decode cX8_millionths 124 = .ok (.iload 7, 2) := by decide +kernel
theorem dX8_millionths_126 : decode cX8_millionths 126 = .ok (.bipush 6, 2) := by decide +kernel
theorem dX8_millionths_128 : decode cX8_millionths 128 = .ok (.if_icmp .ge 16, 3) := by decide +kernel
theorem dX8_millionths_131 : decode cX8_millionths 131 = .ok (.iload 6, 2) := by decide +kernel
theorem dX8_millionths_133 : decode cX8_millionths 133 = .ok (.bipush 10, 2) := by decide +kernel
theorem dX8_millionths_135 : decode cX8_millionths 135 = .ok (.imul, 1) := by decide +kernel
theorem dX8_millionths_136 : decode cX8_millionths 136 = .ok (.istore 6, 2) := by decide +kernel
theorem dX8_millionths_138 : decode cX8_millionths 138 = .ok (.iinc 7 1, 3) := by decide +kernel
theorem dX8_millionths_141 : decode cX8_millionths 141 = .ok (.goto (-17), 3) := by decide +kernel
theorem dX8_millionths_144 : decode cX8_millionths 144 = .ok (.iload 6, 2) := by decide +kernel
theorem dX8_millionths_146 : decode cX8_millionths 146 = .ok (.ireturn, 1) := by decide +kernel
theorem dX8_trialGlows_0 : decode cX8_trialGlows 0 = .ok (.aload_n 0, 1) := by decide +kernel
theorem dX8_trialGlows_1 : decode cX8_trialGlows 1 = .ok (.getfield 12, 3) := by decide +kernel
theorem dX8_trialGlows_4 : decode cX8_trialGlows 4 = .ok (.aload_n 1, 1) := by decide +kernel
theorem dX8_trialGlows_5 : decode cX8_trialGlows 5 = .ok (.invokevirtual 70, 3) := by decide +kernel
theorem dX8_trialGlows_8 : decode cX8_trialGlows 8 = .ok (.istore_n 2, 1) := by decide +kernel
theorem dX8_trialGlows_9 : decode cX8_trialGlows 9 = .ok (.iconst 0, 1) := by decide +kernel
theorem dX8_trialGlows_10 : decode cX8_trialGlows 10 = .ok (.istore_n 3, 1) := by decide +kernel
theorem dX8_trialGlows_11 : decode cX8_trialGlows 11 = .ok (.iload_n 3, 1) := by decide +kernel
theorem dX8_trialGlows_12 : decode cX8_trialGlows 12 = .ok (.bipush 12, 2) := by decide +kernel
theorem dX8_trialGlows_14 : decode cX8_trialGlows 14 = .ok (.if_icmp .ge 30, 3) := by decide +kernel
theorem dX8_trialGlows_17 : decode cX8_trialGlows 17 = .ok (.aload_n 0, 1) := by decide +kernel
theorem dX8_trialGlows_18 : decode cX8_trialGlows 18 = .ok (.getfield 12, 3) := by decide +kernel
theorem dX8_trialGlows_21 : decode cX8_trialGlows 21 = .ok (.aload_n 1, 1) := by decide +kernel
theorem dX8_trialGlows_22 : decode cX8_trialGlows 22 = .ok (.iconst 1, 1) := by decide +kernel
theorem dX8_trialGlows_23 : decode cX8_trialGlows 23 = .ok (.invokevirtual 66, 3) := by decide +kernel
theorem dX8_trialGlows_26 : decode cX8_trialGlows 26 = .ok (.pop, 1) := by decide +kernel
theorem dX8_trialGlows_27 : decode cX8_trialGlows 27 = .ok (.iload_n 2, 1) := by decide +kernel
theorem dX8_trialGlows_28 : decode cX8_trialGlows 28 = .ok (.aload_n 0, 1) := by decide +kernel
theorem dX8_trialGlows_29 : decode cX8_trialGlows 29 = .ok (.getfield 12, 3) := by decide +kernel
theorem dX8_trialGlows_32 : decode cX8_trialGlows 32 = .ok (.aload_n 1, 1) := by decide +kernel
theorem dX8_trialGlows_33 : decode cX8_trialGlows 33 = .ok (.invokevirtual 70, 3) := by decide +kernel
theorem dX8_trialGlows_36 : decode cX8_trialGlows 36 = .ok (.ior, 1) := by decide +kernel
theorem dX8_trialGlows_37 : decode cX8_trialGlows 37 = .ok (.istore_n 2, 1) := by decide +kernel
theorem dX8_trialGlows_38 : decode cX8_trialGlows 38 = .ok (.iinc 3 1, 3) := by decide +kernel
theorem dX8_trialGlows_41 : decode cX8_trialGlows 41 = .ok (.goto (-30), 3) := by decide +kernel
theorem dX8_trialGlows_44 : decode cX8_trialGlows 44 = .ok (.iload_n 2, 1) := by decide +kernel
theorem dX8_trialGlows_45 : decode cX8_trialGlows 45 = .ok (.ireturn, 1) := by decide +kernel
theorem dX8_suspectsSeen_0 : decode cX8_suspectsSeen 0 = .ok (.iconst 0, 1) := by decide +kernel
theorem dX8_suspectsSeen_1 : decode cX8_suspectsSeen 1 = .ok (.istore 5, 2) := by decide +kernel
theorem dX8_suspectsSeen_3 : decode cX8_suspectsSeen 3 = .ok (.iconst 0, 1) := by decide +kernel
theorem dX8_suspectsSeen_4 : decode cX8_suspectsSeen 4 = .ok (.istore 6, 2) := by decide +kernel
theorem dX8_suspectsSeen_6 : decode cX8_suspectsSeen 6 = .ok (.iload 6, 2) := by decide +kernel
theorem dX8_suspectsSeen_8 : decode cX8_suspectsSeen 8 = .ok (.bipush 7, 2) := by decide +kernel
theorem dX8_suspectsSeen_10 : decode cX8_suspectsSeen 10 = .ok (.if_icmp .ge 117, 3) := by decide +kernel
theorem dX8_suspectsSeen_13 : decode cX8_suspectsSeen 13 = .ok (.aload_n 2, 1) := by decide +kernel
theorem dX8_suspectsSeen_14 : decode cX8_suspectsSeen 14 = .ok (.iload 6, 2) := by decide +kernel
theorem dX8_suspectsSeen_16 : decode cX8_suspectsSeen 16 = .ok (.invokevirtual 22, 3) := by decide +kernel
theorem dX8_suspectsSeen_19 : decode cX8_suspectsSeen 19 = .ok (.istore 7, 2) := by decide +kernel
theorem dX8_suspectsSeen_21 : decode cX8_suspectsSeen 21 = .ok (.aload_n 0, 1) := by decide +kernel
theorem dX8_suspectsSeen_22 : decode cX8_suspectsSeen 22 = .ok (.getfield 12, 3) := by decide +kernel
theorem dX8_suspectsSeen_25 : decode cX8_suspectsSeen 25 = .ok (.aload_n 2, 1) := by decide +kernel
theorem dX8_suspectsSeen_26 : decode cX8_suspectsSeen 26 = .ok (.invokevirtual 37, 3) := by decide +kernel
theorem dX8_suspectsSeen_29 : decode cX8_suspectsSeen 29 = .ok (.aload_n 0, 1) := by decide +kernel
theorem dX8_suspectsSeen_30 : decode cX8_suspectsSeen 30 = .ok (.getfield 12, 3) := by decide +kernel
theorem dX8_suspectsSeen_33 : decode cX8_suspectsSeen 33 = .ok (.iconst 1, 1) := by decide +kernel
theorem dX8_suspectsSeen_34 : decode cX8_suspectsSeen 34 = .ok (.iload 6, 2) := by decide +kernel
theorem dX8_suspectsSeen_36 : decode cX8_suspectsSeen 36 = .ok (.ishl, 1) := by decide +kernel
theorem dX8_suspectsSeen_37 : decode cX8_suspectsSeen 37 = .ok (.invokevirtual 41, 3) := by decide +kernel
theorem dX8_suspectsSeen_40 : decode cX8_suspectsSeen 40 = .ok (.iconst 0, 1) := by decide +kernel
theorem dX8_suspectsSeen_41 : decode cX8_suspectsSeen 41 = .ok (.istore 8, 2) := by decide +kernel
theorem dX8_suspectsSeen_43 : decode cX8_suspectsSeen 43 = .ok (.iload 8, 2) := by decide +kernel
theorem dX8_suspectsSeen_45 : decode cX8_suspectsSeen 45 = .ok (.bipush 12, 2) := by decide +kernel
theorem dX8_suspectsSeen_47 : decode cX8_suspectsSeen 47 = .ok (.if_icmp .gt 60, 3) := by decide +kernel
theorem dX8_suspectsSeen_50 : decode cX8_suspectsSeen 50 = .ok (.iload 7, 2) := by decide +kernel
theorem dX8_suspectsSeen_52 : decode cX8_suspectsSeen 52 = .ok (.ifCond .eq 55, 3) := by decide +kernel
theorem dX8_suspectsSeen_55 : decode cX8_suspectsSeen 55 = .ok (.aload_n 0, 1) := by decide +kernel
theorem dX8_suspectsSeen_56 : decode cX8_suspectsSeen 56 = .ok (.getfield 12, 3) := by decide +kernel
theorem dX8_suspectsSeen_59 : decode cX8_suspectsSeen 59 = .ok (.aload_n 1, 1) := by decide +kernel
theorem dX8_suspectsSeen_60 : decode cX8_suspectsSeen 60 = .ok (.invokevirtual 70, 3) := by decide +kernel
theorem dX8_suspectsSeen_63 : decode cX8_suspectsSeen 63 = .ok (.istore 9, 2) := by decide +kernel
theorem dX8_suspectsSeen_65 : decode cX8_suspectsSeen 65 = .ok (.iload 8, 2) := by decide +kernel
theorem dX8_suspectsSeen_67 : decode cX8_suspectsSeen 67 = .ok (.iload 4, 2) := by decide +kernel
theorem dX8_suspectsSeen_69 : decode cX8_suspectsSeen 69 = .ok (.if_icmp .ne 12, 3) := by decide +kernel
theorem dX8_suspectsSeen_72 : decode cX8_suspectsSeen 72 = .ok (.aload_n 0, 1) := by decide +kernel
theorem dX8_suspectsSeen_73 : decode cX8_suspectsSeen 73 = .ok (.getfield 18, 3) := by decide +kernel
theorem dX8_suspectsSeen_76 : decode cX8_suspectsSeen 76 = .ok (.iload 6, 2) := by decide +kernel
theorem dX8_suspectsSeen_78 : decode cX8_suspectsSeen 78 = .ok (.iload 9, 2) := by decide +kernel
theorem dX8_suspectsSeen_80 : decode cX8_suspectsSeen 80 = .ok (.iastore, 1) := by decide +kernel
theorem dX8_suspectsSeen_81 : decode cX8_suspectsSeen 81 = .ok (.aload_n 3, 1) := by decide +kernel
theorem dX8_suspectsSeen_82 : decode cX8_suspectsSeen 82 = .ok (.iload 8, 2) := by decide +kernel
theorem dX8_suspectsSeen_84 : decode cX8_suspectsSeen 84 = .ok (.iload 9, 2) := by decide +kernel
theorem dX8_suspectsSeen_86 : decode cX8_suspectsSeen 86 = .ok (.invokevirtual 73, 3) := by decide +kernel
theorem dX8_suspectsSeen_89 : decode cX8_suspectsSeen 89 = .ok (.istore 7, 2) := by decide +kernel
theorem dX8_suspectsSeen_91 : decode cX8_suspectsSeen 91 = .ok (.aload_n 0, 1) := by decide +kernel
theorem dX8_suspectsSeen_92 : decode cX8_suspectsSeen 92 = .ok (.getfield 12, 3) := by decide +kernel
theorem dX8_suspectsSeen_95 : decode cX8_suspectsSeen 95 = .ok (.aload_n 1, 1) := by decide +kernel
theorem dX8_suspectsSeen_96 : decode cX8_suspectsSeen 96 = .ok (.iconst 1, 1) := by decide +kernel
theorem dX8_suspectsSeen_97 : decode cX8_suspectsSeen 97 = .ok (.invokevirtual 66, 3) := by decide +kernel
theorem dX8_suspectsSeen_100 : decode cX8_suspectsSeen 100 = .ok (.pop, 1) := by decide +kernel
theorem dX8_suspectsSeen_101 : decode cX8_suspectsSeen 101 = .ok (.iinc 8 1, 3) := by decide +kernel
theorem dX8_suspectsSeen_104 : decode cX8_suspectsSeen 104 = .ok (.goto (-61), 3) := by decide +kernel
theorem dX8_suspectsSeen_107 : decode cX8_suspectsSeen 107 = .ok (.iload 7, 2) := by decide +kernel
theorem dX8_suspectsSeen_109 : decode cX8_suspectsSeen 109 = .ok (.ifCond .eq 12, 3) := by decide +kernel
theorem dX8_suspectsSeen_112 : decode cX8_suspectsSeen 112 = .ok (.iload 5, 2) := by decide +kernel
theorem dX8_suspectsSeen_114 : decode cX8_suspectsSeen 114 = .ok (.iconst 1, 1) := by decide +kernel
theorem dX8_suspectsSeen_115 : decode cX8_suspectsSeen 115 = .ok (.iload 6, 2) := by decide +kernel
theorem dX8_suspectsSeen_117 : decode cX8_suspectsSeen 117 = .ok (.ishl, 1) := by decide +kernel
theorem dX8_suspectsSeen_118 : decode cX8_suspectsSeen 118 = .ok (.ior, 1) := by decide +kernel
theorem dX8_suspectsSeen_119 : decode cX8_suspectsSeen 119 = .ok (.istore 5, 2) := by decide +kernel
theorem dX8_suspectsSeen_121 : decode cX8_suspectsSeen 121 = .ok (.iinc 6 1, 3) := by decide +kernel
theorem dX8_suspectsSeen_124 : decode cX8_suspectsSeen 124 = .ok (.goto (-118), 3) := by decide +kernel
theorem dX8_suspectsSeen_127 : decode cX8_suspectsSeen 127 = .ok (.iload 5, 2) := by decide +kernel
theorem dX8_suspectsSeen_129 : decode cX8_suspectsSeen 129 = .ok (.ireturn, 1) := by decide +kernel
theorem dX9_init_0 : decode cX9_init 0 = .ok (.aload_n 0, 1) := by decide +kernel
theorem dX9_init_1 : decode cX9_init 1 = .ok (.invokespecial 3, 3) := by decide +kernel
theorem dX9_init_4 : decode cX9_init 4 = .ok (.aload_n 0, 1) := by decide +kernel
theorem dX9_init_5 : decode cX9_init 5 = .ok (.sipush 1000, 3) := by decide +kernel
theorem dX9_init_8 : decode cX9_init 8 = .ok (.newarray .int, 2) := by decide +kernel
theorem dX9_init_10 : decode cX9_init 10 = .ok (.putfield 9, 3) := by decide +kernel
theorem dX9_init_13 : decode cX9_init 13 = .ok (.aload_n 0, 1) := by decide +kernel
theorem dX9_init_14 : decode cX9_init 14 = .ok (.getstatic 15, 3) := by decide +kernel
theorem dX9_init_17 : decode cX9_init 17 = .ok (.putfield 21, 3) := by decide +kernel
theorem dX9_init_20 : decode cX9_init 20 = .ok (.return_, 1) := by decide +kernel
theorem dX9_put_0 : decode cX9_put 0 = .ok (.bipush 56, 2) := by decide +kernel
theorem dX9_put_2 : decode cX9_put 2 = .ok (.istore_n 3, 1) := by decide +kernel
theorem dX9_put_3 : decode cX9_put 3 = .ok (.iload_n 3, 1) := by decide +kernel
theorem dX9_put_4 : decode cX9_put 4 = .ok (.ifCond .lt 83, 3) := by decide +kernel
theorem dX9_put_7 : decode cX9_put 7 = .ok (.lload_n 1, 1) := by decide +kernel
theorem dX9_put_8 : decode cX9_put 8 = .ok (.iload_n 3, 1) := by decide +kernel
theorem dX9_put_9 : decode cX9_put 9 = .ok (.lushr, 1) := by decide +kernel
theorem dX9_put_10 : decode cX9_put 10 = .ok (.ldc2_w 24, 3) := by decide +kernel
theorem dX9_put_13 : decode cX9_put 13 = .ok (.land, 1) := by decide +kernel
theorem dX9_put_14 : decode cX9_put 14 = .ok (.l2i, 1) := by decide +kernel
theorem dX9_put_15 : decode cX9_put 15 = .ok (.istore 4, 2) := by decide +kernel
theorem dX9_put_17 : decode cX9_put 17 = .ok (.iload 4, 2) := by decide +kernel
theorem dX9_put_19 : decode cX9_put 19 = .ok (.bipush 10, 2) := by decide +kernel
theorem dX9_put_21 : decode cX9_put 21 = .ok (.if_icmp .eq 17, 3) := by decide +kernel
theorem dX9_put_24 : decode cX9_put 24 = .ok (.iload 4, 2) := by decide +kernel
theorem dX9_put_26 : decode cX9_put 26 = .ok (.bipush 32, 2) := by decide +kernel
theorem dX9_put_28 : decode cX9_put 28 = .ok (.if_icmp .lt 14, 3) := by decide +kernel
theorem dX9_put_31 : decode cX9_put 31 = .ok (.iload 4, 2) := by decide +kernel
theorem dX9_put_33 : decode cX9_put 33 = .ok (.bipush 126, 2) := by decide +kernel
theorem dX9_put_35 : decode cX9_put 35 = .ok (.if_icmp .gt 7, 3) := by decide +kernel
theorem dX9_put_38 : decode cX9_put 38 = .ok (.iconst 1, 1) := by decide +kernel
theorem dX9_put_39 : decode cX9_put 39 = .ok (.goto 4, 3) := by decide +kernel
theorem dX9_put_42 : decode cX9_put 42 = .ok (.iconst 0, 1) := by decide +kernel
theorem dX9_put_43 : decode cX9_put 43 = .ok (.istore 5, 2) := by decide +kernel
theorem dX9_put_45 : decode cX9_put 45 = .ok (.iload 5, 2) := by decide +kernel
theorem dX9_put_47 : decode cX9_put 47 = .ok (.ifCond .eq 34, 3) := by decide +kernel
theorem dX9_put_50 : decode cX9_put 50 = .ok (.aload_n 0, 1) := by decide +kernel
theorem dX9_put_51 : decode cX9_put 51 = .ok (.getfield 26, 3) := by decide +kernel
theorem dX9_put_54 : decode cX9_put 54 = .ok (.sipush 1000, 3) := by decide +kernel
theorem dX9_put_57 : decode cX9_put 57 = .ok (.if_icmp .ge 24, 3) := by decide +kernel
theorem dX9_put_60 : decode cX9_put 60 = .ok (.aload_n 0, 1) := by decide +kernel
theorem dX9_put_61 : decode cX9_put 61 = .ok (.getfield 9, 3) := by decide +kernel
theorem dX9_put_64 : decode cX9_put 64 = .ok (.aload_n 0, 1) := by decide +kernel
theorem dX9_put_65 : decode cX9_put 65 = .ok (.getfield 26, 3) := by decide +kernel
theorem dX9_put_68 : decode cX9_put 68 = .ok (.iload 4, 2) := by decide +kernel
theorem dX9_put_70 : decode cX9_put 70 = .ok (.iastore, 1) := by decide +kernel
theorem dX9_put_71 : decode cX9_put 71 = .ok (.aload_n 0, 1) := by decide +kernel
theorem dX9_put_72 : decode cX9_put 72 = .ok (.dup, 1) := by decide +kernel
theorem dX9_put_73 : decode cX9_put 73 = .ok (.getfield 26, 3) := by decide +kernel
theorem dX9_put_76 : decode cX9_put 76 = .ok (.iconst 1, 1) := by decide +kernel
theorem dX9_put_77 : decode cX9_put 77 = .ok (.iadd, 1) := by decide +kernel
theorem dX9_put_78 : decode cX9_put 78 = .ok (.putfield 26, 3) := by decide +kernel
theorem dX9_put_81 : decode cX9_put 81 = .ok (.iinc 3 (-8), 3) := by decide +kernel
theorem dX9_put_84 : decode cX9_put 84 = .ok (.goto (-81), 3) := by decide +kernel
theorem dX9_put_87 : decode cX9_put 87 = .ok (.return_, 1) := by decide +kernel
theorem dX9_empty_0 : decode cX9_empty 0 = .ok (.aload_n 0, 1) := by decide +kernel
theorem dX9_empty_1 : decode cX9_empty 1 = .ok (.iconst 0, 1) := by decide +kernel
theorem dX9_empty_2 : decode cX9_empty 2 = .ok (.putfield 26, 3) := by decide +kernel
theorem dX9_empty_5 : decode cX9_empty 5 = .ok (.return_, 1) := by decide +kernel
theorem dX9_toFirst_0 : decode cX9_toFirst 0 = .ok (.aload_n 0, 1) := by decide +kernel
theorem dX9_toFirst_1 : decode cX9_toFirst 1 = .ok (.iconst 0, 1) := by decide +kernel
theorem dX9_toFirst_2 : decode cX9_toFirst 2 = .ok (.putfield 30, 3) := by decide +kernel
theorem dX9_toFirst_5 : decode cX9_toFirst 5 = .ok (.aload_n 0, 1) := by decide +kernel
theorem dX9_toFirst_6 : decode cX9_toFirst 6 = .ok (.invokevirtual 33, 3) := by decide +kernel
theorem dX9_toFirst_9 : decode cX9_toFirst 9 = .ok (.return_, 1) := by decide +kernel
theorem dX9_toNext_0 : decode cX9_toNext 0 = .ok (.aload_n 0, 1) := by decide +kernel
theorem dX9_toNext_1 : decode cX9_toNext 1 = .ok (.getfield 26, 3) := by decide +kernel
theorem dX9_toNext_4 : decode cX9_toNext 4 = .ok (.sipush 1000, 3) := by decide +kernel
theorem dX9_toNext_7 : decode cX9_toNext 7 = .ok (.invokestatic 36, 3) := by decide +kernel
theorem dX9_toNext_10 : decode cX9_toNext 10 = .ok (.istore_n 1, 1) := by decide +kernel
theorem dX9_toNext_11 : decode cX9_toNext 11 = .ok (.iconst 0, 1) := by decide +kernel
theorem dX9_toNext_12 : decode cX9_toNext 12 = .ok (.aload_n 0, 1) := by decide +kernel
theorem dX9_toNext_13 : decode cX9_toNext 13 = .ok (.getfield 30, 3) := by decide +kernel
theorem dX9_toNext_16 : decode cX9_toNext 16 = .ok (.invokestatic 42, 3) := by decide +kernel
theorem dX9_toNext_19 : decode cX9_toNext 19 = .ok (.istore_n 2, 1) := by decide +kernel
theorem dX9_toNext_20 : decode cX9_toNext 20 = .ok (.iload_n 2, 1) := by decide +kernel
theorem dX9_toNext_21 : decode cX9_toNext 21 = .ok (.iload_n 1, 1) := by decide +kernel
theorem dX9_toNext_22 : decode cX9_toNext 22 = .ok (.if_icmp .ge 21, 3) := by decide +kernel
theorem dX9_toNext_25 : decode cX9_toNext 25 = .ok (.aload_n 0, 1) := by decide +kernel
theorem dX9_toNext_26 : decode cX9_toNext 26 = .ok (.getfield 9, 3) := by decide +kernel
theorem dX9_toNext_29 : decode cX9_toNext 29 = .ok (.iload_n 2, 1) := by decide +kernel
theorem dX9_toNext_30 : decode cX9_toNext 30 = .ok (.iaload, 1) := by decide +kernel
theorem dX9_toNext_31 : decode cX9_toNext 31 = .ok (.invokestatic 45, 3) := by decide +kernel
theorem dX9_toNext_34 : decode cX9_toNext 34 = .ok (.ifCond .eq 9, 3) := by decide +kernel
theorem dX9_toNext_37 : decode cX9_toNext 37 = .ok (.iinc 2 1, 3) := by decide +kernel
theorem dX9_toNext_40 : decode cX9_toNext 40 = .ok (.goto (-20), 3) := by decide +kernel
theorem dX9_toNext_43 : decode cX9_toNext 43 = .ok (.aload_n 0, 1) := by decide +kernel
theorem dX9_toNext_44 : decode cX9_toNext 44 = .ok (.iload_n 2, 1) := by decide +kernel
theorem dX9_toNext_45 : decode cX9_toNext 45 = .ok (.putfield 49, 3) := by decide +kernel
theorem dX9_toNext_48 : decode cX9_toNext 48 = .ok (.aload_n 0, 1) := by decide +kernel
theorem dX9_toNext_49 : decode cX9_toNext 49 = .ok (.iconst 0, 1) := by decide +kernel
theorem dX9_toNext_50 : decode cX9_toNext 50 = .ok (.putfield 52, 3) := by decide +kernel
theorem dX9_toNext_53 : decode cX9_toNext 53 = .ok (.aload_n 0, 1) := by decide +kernel
theorem dX9_toNext_54 : decode cX9_toNext 54 = .ok (.lconst 0, 1) := by decide +kernel
theorem dX9_toNext_55 : decode cX9_toNext 55 = .ok (.putfield 55, 3) := by decide +kernel
theorem dX9_toNext_58 : decode cX9_toNext 58 = .ok (.iload_n 2, 1) := by decide +kernel
theorem dX9_toNext_59 : decode cX9_toNext 59 = .ok (.iload_n 1, 1) := by decide +kernel
theorem dX9_toNext_60 : decode cX9_toNext 60 = .ok (.if_icmp .lt 11, 3) := by decide +kernel
theorem dX9_toNext_63 : decode cX9_toNext 63 = .ok (.aload_n 0, 1) := by decide +kernel
theorem dX9_toNext_64 : decode cX9_toNext 64 = .ok (.iconst 0, 1) := by decide +kernel
theorem dX9_toNext_65 : decode cX9_toNext 65 = .ok (.putfield 59, 3) := by decide +kernel
theorem dX9_toNext_68 : decode cX9_toNext 68 = .ok (.goto 188, 3) := by decide +kernel
theorem dX9_toNext_71 : decode cX9_toNext 71 = .ok (.aload_n 0, 1) := by decide +kernel
theorem dX9_toNext_72 : decode cX9_toNext 72 = .ok (.getfield 9, 3) := by decide +kernel
theorem dX9_toNext_75 : decode cX9_toNext 75 = .ok (.iload_n 2, 1) := by decide +kernel
theorem dX9_toNext_76 : decode cX9_toNext 76 = .ok (.iaload, 1) := by decide +kernel
theorem dX9_toNext_77 : decode cX9_toNext 77 = .ok (.invokestatic 62, 3) := by decide +kernel
theorem dX9_toNext_80 : decode cX9_toNext 80 = .ok (.ifCond .eq 66, 3) := by decide +kernel
theorem dX9_toNext_83 : decode cX9_toNext 83 = .ok (.iload_n 2, 1) := by decide +kernel
theorem dX9_toNext_84 : decode cX9_toNext 84 = .ok (.iload_n 1, 1) := by decide +kernel
theorem dX9_toNext_85 : decode cX9_toNext 85 = .ok (.if_icmp .ge 38, 3) := by decide +kernel
theorem dX9_toNext_88 : decode cX9_toNext 88 = .ok (.aload_n 0, 1) := by decide +kernel
theorem dX9_toNext_89 : decode cX9_toNext 89 = .ok (.getfield 9, 3) := by decide +kernel
theorem dX9_toNext_92 : decode cX9_toNext 92 = .ok (.iload_n 2, 1) := by decide +kernel
theorem dX9_toNext_93 : decode cX9_toNext 93 = .ok (.iaload, 1) := by decide +kernel
theorem dX9_toNext_94 : decode cX9_toNext 94 = .ok (.invokestatic 62, 3) := by decide +kernel
theorem dX9_toNext_97 : decode cX9_toNext 97 = .ok (.ifCond .eq 26, 3) := by decide +kernel
theorem dX9_toNext_100 : decode cX9_toNext 100 = .ok (.aload_n 0, 1) := by decide +kernel
theorem dX9_toNext_101 : decode cX9_toNext 101 = .ok (.aload_n 0, 1) := by decide +kernel
theorem dX9_toNext_102 : decode cX9_toNext 102 = .ok (.getfield 55, 3) := by decide +kernel
theorem dX9_toNext_105 : decode cX9_toNext 105 = .ok (.aload_n 0, 1) := by decide +kernel
theorem dX9_toNext_106 : decode cX9_toNext 106 = .ok (.getfield 9, 3) := by decide +kernel
theorem dX9_toNext_109 : decode cX9_toNext 109 = .ok (.iload_n 2, 1) := by decide +kernel
theorem dX9_toNext_110 : decode cX9_toNext 110 = .ok (.iaload, 1) := by decide +kernel
theorem dX9_toNext_111 : decode cX9_toNext 111 = .ok (.invokestatic 65, 3) := by decide +kernel
theorem dX9_toNext_114 : decode cX9_toNext 114 = .ok (.putfield 55, 3) := by decide +kernel
theorem dX9_toNext_117 : decode cX9_toNext 117 = .ok (.iinc 2 1, 3) := by decide +kernel
theorem dX9_toNext_120 : decode cX9_toNext 120 = .ok (.goto (-37), 3) := by decide +kernel
theorem dX9_toNext_123 : decode cX9_toNext 123 = .ok (.aload_n 0, 1) := by decide +kernel
theorem dX9_toNext_124 : decode cX9_toNext 124 = .ok (.iload_n 2, 1) := by decide +kernel
theorem dX9_toNext_125 : decode cX9_toNext 125 = .ok (.aload_n 0, 1) := by decide +kernel
theorem dX9_toNext_126 : decode cX9_toNext 126 = .ok (.getfield 49, 3) := by decide +kernel
theorem dX9_toNext_129 : decode cX9_toNext 129 = .ok (.isub, 1) := by decide +kernel
theorem dX9_toNext_130 : decode cX9_toNext 130 = .ok (.bipush 8, 2) := by decide +kernel
theorem dX9_toNext_132 : decode cX9_toNext 132 = .ok (.if_icmp .le 7, 3) := by decide +kernel
theorem dX9_toNext_135 : decode cX9_toNext 135 = .ok (.iconst 1, 1) := by decide +kernel
theorem dX9_toNext_136 : decode cX9_toNext 136 = .ok (.goto 4, 3) := by decide +kernel
theorem dX9_toNext_139 : decode cX9_toNext 139 = .ok (.iconst 2, 1) := by decide +kernel
theorem dX9_toNext_140 : decode cX9_toNext 140 = .ok (.putfield 59, 3) := by decide +kernel
theorem dX9_toNext_143 : decode cX9_toNext 143 = .ok (.goto 113, 3) := by decide +kernel
theorem dX9_toNext_146 : decode cX9_toNext 146 = .ok (.aload_n 0, 1) := by decide +kernel
theorem dX9_toNext_147 : decode cX9_toNext 147 = .ok (.getfield 9, 3) := by decide +kernel
theorem dX9_toNext_150 : decode cX9_toNext 150 = .ok (.iload_n 2, 1) := by decide +kernel
theorem dX9_toNext_151 : decode cX9_toNext 151 = .ok (.iaload, 1) := by decide +kernel
theorem dX9_toNext_152 : decode cX9_toNext 152 = .ok (.invokestatic 69, 3) := by decide +kernel
theorem dX9_toNext_155 : decode cX9_toNext 155 = .ok (.ifCond .eq 69, 3) := by decide +kernel
theorem dX9_toNext_158 : decode cX9_toNext 158 = .ok (.iload_n 2, 1) := by decide +kernel
theorem dX9_toNext_159 : decode cX9_toNext 159 = .ok (.iload_n 1, 1) := by decide +kernel
theorem dX9_toNext_160 : decode cX9_toNext 160 = .ok (.if_icmp .ge 42, 3) := by decide +kernel
theorem dX9_toNext_163 : decode cX9_toNext 163 = .ok (.aload_n 0, 1) := by decide +kernel
theorem dX9_toNext_164 : decode cX9_toNext 164 = .ok (.getfield 9, 3) := by decide +kernel
theorem dX9_toNext_167 : decode cX9_toNext 167 = .ok (.iload_n 2, 1) := by decide +kernel
theorem dX9_toNext_168 : decode cX9_toNext 168 = .ok (.iaload, 1) := by decide +kernel
theorem dX9_toNext_169 : decode cX9_toNext 169 = .ok (.invokestatic 69, 3) := by decide +kernel
theorem dX9_toNext_172 : decode cX9_toNext 172 = .ok (.ifCond .eq 30, 3) := by decide +kernel
theorem dX9_toNext_175 : decode cX9_toNext 175 = .ok (.aload_n 0, 1) := by decide +kernel
theorem dX9_toNext_176 : decode cX9_toNext 176 = .ok (.aload_n 0, 1) := by decide +kernel
theorem dX9_toNext_177 : decode cX9_toNext 177 = .ok (.getfield 52, 3) := by decide +kernel
theorem dX9_toNext_180 : decode cX9_toNext 180 = .ok (.bipush 10, 2) := by decide +kernel
theorem dX9_toNext_182 : decode cX9_toNext 182 = .ok (.imul, 1) := by decide +kernel
theorem dX9_toNext_183 : decode cX9_toNext 183 = .ok (.aload_n 0, 1) := by decide +kernel
theorem dX9_toNext_184 : decode cX9_toNext 184 = .ok (.getfield 9, 3) := by decide +kernel
theorem dX9_toNext_187 : decode cX9_toNext 187 = .ok (.iload_n 2, 1) := by decide +kernel
theorem dX9_toNext_188 : decode cX9_toNext 188 = .ok (.iaload, 1) := by decide +kernel
theorem dX9_toNext_189 : decode cX9_toNext 189 = .ok (.bipush 48, 2) := by decide +kernel
theorem dX9_toNext_191 : decode cX9_toNext 191 = .ok (.isub, 1) := by decide +kernel
theorem dX9_toNext_192 : decode cX9_toNext 192 = .ok (.iadd, 1) := by decide +kernel
theorem dX9_toNext_193 : decode cX9_toNext 193 = .ok (.putfield 52, 3) := by decide +kernel
theorem dX9_toNext_196 : decode cX9_toNext 196 = .ok (.iinc 2 1, 3) := by decide +kernel
theorem dX9_toNext_199 : decode cX9_toNext 199 = .ok (.goto (-41), 3) := by decide +kernel
theorem dX9_toNext_202 : decode cX9_toNext 202 = .ok (.aload_n 0, 1) := by decide +kernel
theorem dX9_toNext_203 : decode cX9_toNext 203 = .ok (.iload_n 2, 1) := by decide +kernel
theorem dX9_toNext_204 : decode cX9_toNext 204 = .ok (.aload_n 0, 1) := by decide +kernel
theorem dX9_toNext_205 : decode cX9_toNext 205 = .ok (.getfield 49, 3) := by decide +kernel
theorem dX9_toNext_208 : decode cX9_toNext 208 = .ok (.isub, 1) := by decide +kernel
theorem dX9_toNext_209 : decode cX9_toNext 209 = .ok (.iconst 4, 1) := by decide +kernel
theorem dX9_toNext_210 : decode cX9_toNext 210 = .ok (.if_icmp .le 7, 3) := by decide +kernel
theorem dX9_toNext_213 : decode cX9_toNext 213 = .ok (.iconst 1, 1) := by decide +kernel
theorem dX9_toNext_214 : decode cX9_toNext 214 = .ok (.goto 4, 3) := by decide +kernel
theorem dX9_toNext_217 : decode cX9_toNext 217 = .ok (.iconst 3, 1) := by decide +kernel
theorem dX9_toNext_218 : decode cX9_toNext 218 = .ok (.putfield 59, 3) := by decide +kernel
theorem dX9_toNext_221 : decode cX9_toNext 221 = .ok (.goto 35, 3) := by decide +kernel
theorem dX9_toNext_224 : decode cX9_toNext 224 = .ok (.aload_n 0, 1) := by decide +kernel
theorem dX9_toNext_225 : decode cX9_toNext 225 = .ok (.aload_n 0, 1) := by decide +kernel
theorem dX9_toNext_226 : decode cX9_toNext 226 = .ok (.getfield 9, 3) := by decide +kernel
theorem dX9_toNext_229 : decode cX9_toNext 229 = .ok (.iload_n 2, 1) := by decide +kernel
theorem dX9_toNext_230 : decode cX9_toNext 230 = .ok (.iaload, 1) := by decide +kernel
theorem dX9_toNext_231 : decode cX9_toNext 231 = .ok (.putfield 52, 3) := by decide +kernel
theorem dX9_toNext_234 : decode cX9_toNext 234 = .ok (.aload_n 0, 1) := by decide +kernel
theorem dX9_toNext_235 : decode cX9_toNext 235 = .ok (.aload_n 0, 1) := by decide +kernel
theorem dX9_toNext_236 : decode cX9_toNext 236 = .ok (.getfield 52, 3) := by decide +kernel
theorem dX9_toNext_239 : decode cX9_toNext 239 = .ok (.invokestatic 72, 3) := by decide +kernel
theorem dX9_toNext_242 : decode cX9_toNext 242 = .ok (.ifCond .eq 7, 3) := by decide +kernel
theorem dX9_toNext_245 : decode cX9_toNext 245 = .ok (.iconst 4, 1) := by decide +kernel
theorem dX9_toNext_246 : decode cX9_toNext 246 = .ok (.goto 4, 3) := by decide +kernel
theorem dX9_toNext_249 : decode cX9_toNext 249 = .ok (.iconst 1, 1) := by decide +kernel
theorem dX9_toNext_250 : decode cX9_toNext 250 = .ok (.putfield 59, 3) := by decide +kernel
theorem dX9_toNext_253 : decode cX9_toNext 253 = .ok (.iinc 2 1, 3) := by decide +kernel
theorem dX9_toNext_256 : decode cX9_toNext 256 = .ok (.aload_n 0, 1) := by decide +kernel
theorem dX9_toNext_257 : decode cX9_toNext 257 = .ok (.iload_n 2, 1) := by decide +kernel
theorem dX9_toNext_258 : decode cX9_toNext 258 = .ok (.putfield 30, 3) := by decide +kernel
theorem dX9_toNext_261 : decode cX9_toNext 261 = .ok (.aload_n 0, 1) := by decide +kernel
theorem dX9_toNext_262 : decode cX9_toNext 262 = .ok (.aload_n 0, 1) := by decide +kernel
theorem dX9_toNext_263 : decode cX9_toNext 263 = .ok (.getfield 59, 3) := by decide +kernel
theorem dX9_toNext_266 : decode cX9_toNext 266 = .ok (.iconst 2, 1) := by decide +kernel
theorem dX9_toNext_267 : decode cX9_toNext 267 = .ok (.if_icmp .ne 13, 3) := by decide +kernel
theorem dX9_toNext_270 : decode cX9_toNext 270 = .ok (.aload_n 0, 1) := by decide +kernel
theorem dX9_toNext_271 : decode cX9_toNext 271 = .ok (.getfield 55, 3) := by decide +kernel
theorem dX9_toNext_274 : decode cX9_toNext 274 = .ok (.invokestatic 75, 3) := by decide +kernel
theorem dX9_toNext_277 : decode cX9_toNext 277 = .ok (.goto 6, 3) := by decide +kernel
theorem dX9_toNext_280 : decode cX9_toNext 280 = .ok (.getstatic 15, 3) := by decide +kernel
theorem dX9_toNext_283 : decode cX9_toNext 283 = .ok (.putfield 21, 3) := by decide +kernel
theorem dX9_toNext_286 : decode cX9_toNext 286 = .ok (.return_, 1) := by decide +kernel
theorem dX9_isSign_0 : decode cX9_isSign 0 = .ok (.aload_n 0, 1) := by decide +kernel
theorem dX9_isSign_1 : decode cX9_isSign 1 = .ok (.getfield 59, 3) := by decide +kernel
theorem dX9_isSign_4 : decode cX9_isSign 4 = .ok (.iconst 4, 1) := by decide +kernel
theorem dX9_isSign_5 : decode cX9_isSign 5 = .ok (.if_icmp .ne 15, 3) := by decide +kernel
theorem dX9_isSign_8 : decode cX9_isSign 8 = .ok (.aload_n 0, 1) := by decide +kernel
theorem dX9_isSign_9 : decode cX9_isSign 9 = .ok (.getfield 52, 3) := by decide +kernel
theorem dX9_isSign_12 : decode cX9_isSign 12 = .ok (.iload_n 1, 1) := by decide +kernel
theorem dX9_isSign_13 : decode cX9_isSign 13 = .ok (.if_icmp .ne 7, 3) := by decide +kernel
theorem dX9_isSign_16 : decode cX9_isSign 16 = .ok (.iconst 1, 1) := by decide +kernel
theorem dX9_isSign_17 : decode cX9_isSign 17 = .ok (.goto 4, 3) := by decide +kernel
theorem dX9_isSign_20 : decode cX9_isSign 20 = .ok (.iconst 0, 1) := by decide +kernel
theorem dX9_isSign_21 : decode cX9_isSign 21 = .ok (.ireturn, 1) := by decide +kernel
theorem dX9_isBlank_0 : decode cX9_isBlank 0 = .ok (.iload_n 0, 1) := by decide +kernel
theorem dX9_isBlank_1 : decode cX9_isBlank 1 = .ok (.bipush 32, 2) := by decide +kernel
theorem dX9_isBlank_3 : decode cX9_isBlank 3 = .ok (.if_icmp .eq 9, 3) := by decide +kernel
theorem dX9_isBlank_6 : decode cX9_isBlank 6 = .ok (.iload_n 0, 1) := by decide +kernel
theorem dX9_isBlank_7 : decode cX9_isBlank 7 = .ok (.bipush 10, 2) := by decide +kernel
theorem dX9_isBlank_9 : decode cX9_isBlank 9 = .ok (.if_icmp .ne 7, 3) := by decide +kernel
theorem dX9_isBlank_12 : decode cX9_isBlank 12 = .ok (.iconst 1, 1) := by decide +kernel
theorem dX9_isBlank_13 : decode cX9_isBlank 13 = .ok (.goto 4, 3) := by decide +kernel
theorem dX9_isBlank_16 : decode cX9_isBlank 16 = .ok (.iconst 0, 1) := by decide +kernel
theorem dX9_isBlank_17 : decode cX9_isBlank 17 = .ok (.ireturn, 1) := by decide +kernel
theorem dX9_isLetter_0 : decode cX9_isLetter 0 = .ok (.iload_n 0, 1) := by decide +kernel
theorem dX9_isLetter_1 : decode cX9_isLetter 1 = .ok (.bipush 97, 2) := by decide +kernel
theorem dX9_isLetter_3 : decode cX9_isLetter 3 = .ok (.if_icmp .lt 13, 3) := by decide +kernel
theorem dX9_isLetter_6 : decode cX9_isLetter 6 = .ok (.iload_n 0, 1) := by decide +kernel
theorem dX9_isLetter_7 : decode cX9_isLetter 7 = .ok (.bipush 122, 2) := by decide +kernel
theorem dX9_isLetter_9 : decode cX9_isLetter 9 = .ok (.if_icmp .gt 7, 3) := by decide +kernel
theorem dX9_isLetter_12 : decode cX9_isLetter 12 = .ok (.iconst 1, 1) := by decide +kernel
theorem dX9_isLetter_13 : decode cX9_isLetter 13 = .ok (.goto 4, 3) := by decide +kernel
theorem dX9_isLetter_16 : decode cX9_isLetter 16 = .ok (.iconst 0, 1) := by decide +kernel
theorem dX9_isLetter_17 : decode cX9_isLetter 17 = .ok (.ireturn, 1) := by decide +kernel
theorem dX9_isDigit_0 : decode cX9_isDigit 0 = .ok (.iload_n 0, 1) := by decide +kernel
theorem dX9_isDigit_1 : decode cX9_isDigit 1 = .ok (.bipush 48, 2) := by decide +kernel
theorem dX9_isDigit_3 : decode cX9_isDigit 3 = .ok (.if_icmp .lt 13, 3) := by decide +kernel
theorem dX9_isDigit_6 : decode cX9_isDigit 6 = .ok (.iload_n 0, 1) := by decide +kernel
theorem dX9_isDigit_7 : decode cX9_isDigit 7 = .ok (.bipush 57, 2) := by decide +kernel
theorem dX9_isDigit_9 : decode cX9_isDigit 9 = .ok (.if_icmp .gt 7, 3) := by decide +kernel
theorem dX9_isDigit_12 : decode cX9_isDigit 12 = .ok (.iconst 1, 1) := by decide +kernel
theorem dX9_isDigit_13 : decode cX9_isDigit 13 = .ok (.goto 4, 3) := by decide +kernel
theorem dX9_isDigit_16 : decode cX9_isDigit 16 = .ok (.iconst 0, 1) := by decide +kernel
theorem dX9_isDigit_17 : decode cX9_isDigit 17 = .ok (.ireturn, 1) := by decide +kernel
theorem dX9_isOwnSign_0 : decode cX9_isOwnSign 0 = .ok (.iload_n 0, 1) := by decide +kernel
theorem dX9_isOwnSign_1 : decode cX9_isOwnSign 1 = .ok (.bipush 40, 2) := by decide +kernel
theorem dX9_isOwnSign_3 : decode cX9_isOwnSign 3 = .ok (.if_icmp .eq 45, 3) := by decide +kernel
theorem dX9_isOwnSign_6 : decode cX9_isOwnSign 6 = .ok (.iload_n 0, 1) := by decide +kernel
theorem dX9_isOwnSign_7 : decode cX9_isOwnSign 7 = .ok (.bipush 41, 2) := by decide +kernel
theorem dX9_isOwnSign_9 : decode cX9_isOwnSign 9 = .ok (.if_icmp .eq 39, 3) := by decide +kernel
theorem dX9_isOwnSign_12 : decode cX9_isOwnSign 12 = .ok (.iload_n 0, 1) := by decide +kernel
theorem dX9_isOwnSign_13 : decode cX9_isOwnSign 13 = .ok (.bipush 60, 2) := by decide +kernel
theorem dX9_isOwnSign_15 : decode cX9_isOwnSign 15 = .ok (.if_icmp .eq 33, 3) := by decide +kernel
theorem dX9_isOwnSign_18 : decode cX9_isOwnSign 18 = .ok (.iload_n 0, 1) := by decide +kernel
theorem dX9_isOwnSign_19 : decode cX9_isOwnSign 19 = .ok (.bipush 61, 2) := by decide +kernel
theorem dX9_isOwnSign_21 : decode cX9_isOwnSign 21 = .ok (.if_icmp .eq 27, 3) := by decide +kernel
theorem dX9_isOwnSign_24 : decode cX9_isOwnSign 24 = .ok (.iload_n 0, 1) := by decide +kernel
theorem dX9_isOwnSign_25 : decode cX9_isOwnSign 25 = .ok (.bipush 43, 2) := by decide +kernel
theorem dX9_isOwnSign_27 : decode cX9_isOwnSign 27 = .ok (.if_icmp .eq 21, 3) := by decide +kernel
theorem dX9_isOwnSign_30 : decode cX9_isOwnSign 30 = .ok (.iload_n 0, 1) := by decide +kernel
theorem dX9_isOwnSign_31 : decode cX9_isOwnSign 31 = .ok (.bipush 45, 2) := by decide +kernel
theorem dX9_isOwnSign_33 : decode cX9_isOwnSign 33 = .ok (.if_icmp .eq 15, 3) := by decide +kernel
theorem dX9_isOwnSign_36 : decode cX9_isOwnSign 36 = .ok (.iload_n 0, 1) := by decide +kernel
theorem dX9_isOwnSign_37 : decode cX9_isOwnSign 37 = .ok (.bipush 42, 2) := by decide +kernel
theorem dX9_isOwnSign_39 : decode cX9_isOwnSign 39 = .ok (.if_icmp .eq 9, 3) := by decide +kernel
theorem dX9_isOwnSign_42 : decode cX9_isOwnSign 42 = .ok (.iload_n 0, 1) := by decide +kernel
theorem dX9_isOwnSign_43 : decode cX9_isOwnSign 43 = .ok (.bipush 59, 2) := by decide +kernel
theorem dX9_isOwnSign_45 : decode cX9_isOwnSign 45 = .ok (.if_icmp .ne 7, 3) := by decide +kernel
theorem dX9_isOwnSign_48 : decode cX9_isOwnSign 48 = .ok (.iconst 1, 1) := by decide +kernel
theorem dX9_isOwnSign_49 : decode cX9_isOwnSign 49 = .ok (.goto 4, 3) := by decide +kernel
theorem dX9_isOwnSign_52 : decode cX9_isOwnSign 52 = .ok (.iconst 0, 1) := by decide +kernel
theorem dX9_isOwnSign_53 : decode cX9_isOwnSign 53 = .ok (.ireturn, 1) := by decide +kernel
theorem dX10_init_0 : decode cX10_init 0 = .ok (.aload_n 0, 1) := by decide +kernel
theorem dX10_init_1 : decode cX10_init 1 = .ok (.invokespecial 3, 3) := by decide +kernel
theorem dX10_init_4 : decode cX10_init 4 = .ok (.aload_n 0, 1) := by decide +kernel
theorem dX10_init_5 : decode cX10_init 5 = .ok (.bipush 6, 2) := by decide +kernel
theorem dX10_init_7 : decode cX10_init 7 = .ok (.newarray .int, 2) := by decide +kernel
theorem dX10_init_9 : decode cX10_init 9 = .ok (.putfield 9, 3) := by decide +kernel
theorem dX10_init_12 : decode cX10_init 12 = .ok (.aload_n 0, 1) := by decide +kernel
theorem dX10_init_13 : decode cX10_init 13 = .ok (.bipush 6, 2) := by decide +kernel
theorem dX10_init_15 : decode cX10_init 15 = .ok (.newarray .int, 2) := by decide +kernel
theorem dX10_init_17 : decode cX10_init 17 = .ok (.putfield 15, 3) := by decide +kernel
theorem dX10_init_20 : decode cX10_init 20 = .ok (.aload_n 0, 1) := by decide +kernel
theorem dX10_init_21 : decode cX10_init 21 = .ok (.bipush 6, 2) := by decide +kernel
theorem dX10_init_23 : decode cX10_init 23 = .ok (.newarray .int, 2) := by decide +kernel
theorem dX10_init_25 : decode cX10_init 25 = .ok (.putfield 18, 3) := by decide +kernel
theorem dX10_init_28 : decode cX10_init 28 = .ok (.return_, 1) := by decide +kernel
theorem dX10_add_0 : decode cX10_add 0 = .ok (.aload_n 0, 1) := by decide +kernel
theorem dX10_add_1 : decode cX10_add 1 = .ok (.getfield 21, 3) := by decide +kernel
theorem dX10_add_4 : decode cX10_add 4 = .ok (.bipush 6, 2) := by decide +kernel
theorem dX10_add_6 : decode cX10_add 6 = .ok (.if_icmp .lt 5, 3) := by decide +kernel
theorem dX10_add_9 : decode cX10_add 9 = .ok (.iconst 0, 1) := by decide +kernel
theorem dX10_add_10 : decode cX10_add 10 = .ok (.ireturn, 1) := by decide +kernel
theorem dX10_add_11 : decode cX10_add 11 = .ok (.aload_n 0, 1) := by decide +kernel
theorem dX10_add_12 : decode cX10_add 12 = .ok (.getfield 9, 3) := by decide +kernel
theorem dX10_add_15 : decode cX10_add 15 = .ok (.aload_n 0, 1) := by decide +kernel
theorem dX10_add_16 : decode cX10_add 16 = .ok (.getfield 21, 3) := by decide +kernel
theorem dX10_add_19 : decode cX10_add 19 = .ok (.iload_n 1, 1) := by decide +kernel
theorem dX10_add_20 : decode cX10_add 20 = .ok (.iastore, 1) := by decide +kernel
theorem dX10_add_21 : decode cX10_add 21 = .ok (.aload_n 0, 1) := by decide +kernel
theorem dX10_add_22 : decode cX10_add 22 = .ok (.getfield 15, 3) := by decide +kernel
theorem dX10_add_25 : decode cX10_add 25 = .ok (.aload_n 0, 1) := by decide +kernel
theorem dX10_add_26 : decode cX10_add 26 = .ok (.getfield 21, 3) := by decide +kernel
theorem dX10_add_29 : decode cX10_add 29 = .ok (.iload_n 2, 1) := by decide +kernel
theorem dX10_add_30 : decode cX10_add 30 = .ok (.iastore, 1) := by decide +kernel
theorem dX10_add_31 : decode cX10_add 31 = .ok (.aload_n 0, 1) := by decide +kernel
theorem dX10_add_32 : decode cX10_add 32 = .ok (.getfield 18, 3) := by decide +kernel
theorem dX10_add_35 : decode cX10_add 35 = .ok (.aload_n 0, 1) := by decide +kernel
theorem dX10_add_36 : decode cX10_add 36 = .ok (.getfield 21, 3) := by decide +kernel
theorem dX10_add_39 : decode cX10_add 39 = .ok (.iload_n 3, 1) := by decide +kernel
theorem dX10_add_40 : decode cX10_add 40 = .ok (.ifCond .eq 7, 3) := by decide +kernel
theorem dX10_add_43 : decode cX10_add 43 = .ok (.iconst 1, 1) := by decide +kernel
theorem dX10_add_44 : decode cX10_add 44 = .ok (.goto 4, 3) := by decide +kernel
theorem dX10_add_47 : decode cX10_add 47 = .ok (.iconst 0, 1) := by decide +kernel
theorem dX10_add_48 : decode cX10_add 48 = .ok (.iastore, 1) := by decide +kernel
theorem dX10_add_49 : decode cX10_add 49 = .ok (.aload_n 0, 1) := by decide +kernel
theorem dX10_add_50 : decode cX10_add 50 = .ok (.dup, 1) := by decide +kernel
theorem dX10_add_51 : decode cX10_add 51 = .ok (.getfield 21, 3) := by decide +kernel
theorem dX10_add_54 : decode cX10_add 54 = .ok (.iconst 1, 1) := by decide +kernel
theorem dX10_add_55 : decode cX10_add 55 = .ok (.iadd, 1) := by decide +kernel
theorem dX10_add_56 : decode cX10_add 56 = .ok (.putfield 21, 3) := by decide +kernel
theorem dX10_add_59 : decode cX10_add 59 = .ok (.iconst 1, 1) := by decide +kernel
theorem dX10_add_60 : decode cX10_add 60 = .ok (.ireturn, 1) := by decide +kernel
theorem dX10_become_0 : decode cX10_become 0 = .ok (.aload_n 1, 1) := by decide +kernel
theorem dX10_become_1 : decode cX10_become 1 = .ok (.getfield 9, 3) := by decide +kernel
theorem dX10_become_4 : decode cX10_become 4 = .ok (.iconst 0, 1) := by decide +kernel
theorem dX10_become_5 : decode cX10_become 5 = .ok (.aload_n 0, 1) := by decide +kernel
theorem dX10_become_6 : decode cX10_become 6 = .ok (.getfield 9, 3) := by decide +kernel
theorem dX10_become_9 : decode cX10_become 9 = .ok (.iconst 0, 1) := by decide +kernel
theorem dX10_become_10 : decode cX10_become 10 = .ok (.bipush 6, 2) := by decide +kernel
theorem dX10_become_12 : decode cX10_become 12 = .ok (.invokestatic 25, 3) := by decide +kernel
theorem dX10_become_15 : decode cX10_become 15 = .ok (.aload_n 1, 1) := by decide +kernel
theorem dX10_become_16 : decode cX10_become 16 = .ok (.getfield 15, 3) := by decide +kernel
theorem dX10_become_19 : decode cX10_become 19 = .ok (.iconst 0, 1) := by decide +kernel
theorem dX10_become_20 : decode cX10_become 20 = .ok (.aload_n 0, 1) := by decide +kernel
theorem dX10_become_21 : decode cX10_become 21 = .ok (.getfield 15, 3) := by decide +kernel
theorem dX10_become_24 : decode cX10_become 24 = .ok (.iconst 0, 1) := by decide +kernel
theorem dX10_become_25 : decode cX10_become 25 = .ok (.bipush 6, 2) := by decide +kernel
theorem dX10_become_27 : decode cX10_become 27 = .ok (.invokestatic 25, 3) := by decide +kernel
theorem dX10_become_30 : decode cX10_become 30 = .ok (.aload_n 1, 1) := by decide +kernel
theorem dX10_become_31 : decode cX10_become 31 = .ok (.getfield 18, 3) := by decide +kernel
theorem dX10_become_34 : decode cX10_become 34 = .ok (.iconst 0, 1) := by decide +kernel
theorem dX10_become_35 : decode cX10_become 35 = .ok (.aload_n 0, 1) := by decide +kernel
theorem dX10_become_36 : decode cX10_become 36 = .ok (.getfield 18, 3) := by decide +kernel
theorem dX10_become_39 : decode cX10_become 39 = .ok (.iconst 0, 1) := by decide +kernel
theorem dX10_become_40 : decode cX10_become 40 = .ok (.bipush 6, 2) := by decide +kernel
theorem dX10_become_42 : decode cX10_become 42 = .ok (.invokestatic 25, 3) := by decide +kernel
theorem dX10_become_45 : decode cX10_become 45 = .ok (.aload_n 0, 1) := by decide +kernel
theorem dX10_become_46 : decode cX10_become 46 = .ok (.aload_n 1, 1) := by decide +kernel
theorem dX10_become_47 : decode cX10_become 47 = .ok (.getfield 21, 3) := by decide +kernel
theorem dX10_become_50 : decode cX10_become 50 = .ok (.putfield 21, 3) := by decide +kernel
theorem dX10_become_53 : decode cX10_become 53 = .ok (.return_, 1) := by decide +kernel
theorem dX10_forget_0 : decode cX10_forget 0 = .ok (.aload_n 0, 1) := by decide +kernel
theorem dX10_forget_1 : decode cX10_forget 1 = .ok (.iconst 0, 1) := by decide +kernel
theorem dX10_forget_2 : decode cX10_forget 2 = .ok (.putfield 21, 3) := by decide +kernel
theorem dX10_forget_5 : decode cX10_forget 5 = .ok (.return_, 1) := by decide +kernel
theorem dX10_agrees_0 : decode cX10_agrees 0 = .ok (.iconst 0, 1) := by decide +kernel
theorem dX10_agrees_1 : decode cX10_agrees 1 = .ok (.istore_n 3, 1) := by decide +kernel
theorem dX10_agrees_2 : decode cX10_agrees 2 = .ok (.iload_n 3, 1) := by decide +kernel
theorem dX10_agrees_3 : decode cX10_agrees 3 = .ok (.aload_n 0, 1) := by decide +kernel
theorem dX10_agrees_4 : decode cX10_agrees 4 = .ok (.getfield 21, 3) := by decide +kernel
theorem dX10_agrees_7 : decode cX10_agrees 7 = .ok (.if_icmp .ge 46, 3) := by decide +kernel
theorem dX10_agrees_10 : decode cX10_agrees 10 = .ok (.iload_n 3, 1) := by decide +kernel
theorem dX10_agrees_11 : decode cX10_agrees 11 = .ok (.bipush 6, 2) := by decide +kernel
theorem dX10_agrees_13 : decode cX10_agrees 13 = .ok (.if_icmp .ge 40, 3) := by decide +kernel
theorem dX10_agrees_16 : decode cX10_agrees 16 = .ok (.aload_n 0, 1) := by decide +kernel
theorem dX10_agrees_17 : decode cX10_agrees 17 = .ok (.getfield 15, 3) := by decide +kernel
theorem dX10_agrees_20 : decode cX10_agrees 20 = .ok (.iload_n 3, 1) := by decide +kernel
theorem dX10_agrees_21 : decode cX10_agrees 21 = .ok (.iaload, 1) := by decide +kernel
theorem dX10_agrees_22 : decode cX10_agrees 22 = .ok (.iload_n 1, 1) := by decide +kernel
theorem dX10_agrees_23 : decode cX10_agrees 23 = .ok (.if_icmp .ne 24, 3) := by decide +kernel
theorem dX10_agrees_26 : decode cX10_agrees 26 = .ok (.iload_n 2, 1) := by decide +kernel
theorem dX10_agrees_27 : decode cX10_agrees 27 = .ok (.aload_n 0, 1) := by decide +kernel
theorem dX10_agrees_28 : decode cX10_agrees 28 = .ok (.getfield 9, 3) := by decide +kernel
theorem dX10_agrees_31 : decode cX10_agrees 31 = .ok (.iload_n 3, 1) := by decide +kernel
theorem dX10_agrees_32 : decode cX10_agrees 32 = .ok (.iaload, 1) := by decide +kernel
theorem dX10_agrees_33 : decode cX10_agrees 33 = .ok (.ishr, 1) := by decide +kernel
theorem dX10_agrees_34 : decode cX10_agrees 34 = .ok (.iconst 1, 1) := by decide +kernel
theorem dX10_agrees_35 : decode cX10_agrees 35 = .ok (.iand, 1) := by decide +kernel
theorem dX10_agrees_36 : decode cX10_agrees 36 = .ok (.aload_n 0, 1) := by decide +kernel
theorem dX10_agrees_37 : decode cX10_agrees 37 = .ok (.getfield 18, 3) := by decide +kernel
theorem dX10_agrees_40 : decode cX10_agrees 40 = .ok (.iload_n 3, 1) := by decide +kernel
theorem dX10_agrees_41 : decode cX10_agrees 41 = .ok (.iaload, 1) := by decide +kernel
theorem dX10_agrees_42 : decode cX10_agrees 42 = .ok (.if_icmp .eq 5, 3) := by decide +kernel
theorem dX10_agrees_45 : decode cX10_agrees 45 = .ok (.iconst 0, 1) := by decide +kernel
theorem dX10_agrees_46 : decode cX10_agrees 46 = .ok (.ireturn, 1) := by decide +kernel
theorem dX10_agrees_47 : decode cX10_agrees 47 = .ok (.iinc 3 1, 3) := by decide +kernel
theorem dX10_agrees_50 : decode cX10_agrees 50 = .ok (.goto (-48), 3) := by decide +kernel
theorem dX10_agrees_53 : decode cX10_agrees 53 = .ok (.iconst 1, 1) := by decide +kernel
theorem dX10_agrees_54 : decode cX10_agrees 54 = .ok (.ireturn, 1) := by decide +kernel
theorem dX11_init_0 : decode cX11_init 0 = .ok (.aload_n 0, 1) := by decide +kernel
theorem dX11_init_1 : decode cX11_init 1 = .ok (.invokespecial 1, 3) := by decide +kernel
theorem dX11_init_4 : decode cX11_init 4 = .ok (.aload_n 0, 1) := by decide +kernel
theorem dX11_init_5 : decode cX11_init 5 = .ok (.new 7, 3) := by decide +kernel
theorem dX11_init_8 : decode cX11_init 8 = .ok (.dup, 1) := by decide +kernel
theorem dX11_init_9 : decode cX11_init 9 = .ok (.invokespecial 9, 3) := by decide +kernel
theorem dX11_init_12 : decode cX11_init 12 = .ok (.putfield 10, 3) := by decide +kernel
theorem dX11_init_15 : decode cX11_init 15 = .ok (.aload_n 0, 1) := by decide +kernel
theorem dX11_init_16 : decode cX11_init 16 = .ok (.new 16, 3) := by decide +kernel
theorem dX11_init_19 : decode cX11_init 19 = .ok (.dup, 1) := by decide +kernel
theorem dX11_init_20 : decode cX11_init 20 = .ok (.aload_n 0, 1) := by decide +kernel
theorem dX11_init_21 : decode cX11_init 21 = .ok (.getfield 10, 3) := by decide +kernel
theorem dX11_init_24 : decode cX11_init 24 = .ok (.invokespecial 18, 3) := by decide +kernel
theorem dX11_init_27 : decode cX11_init 27 = .ok (.putfield 21, 3) := by decide +kernel
theorem dX11_init_30 : decode cX11_init 30 = .ok (.aload_n 0, 1) := by decide +kernel
theorem dX11_init_31 : decode cX11_init 31 = .ok (.new 25, 3) := by decide +kernel
theorem dX11_init_34 : decode cX11_init 34 = .ok (.dup, 1) := by decide +kernel
theorem dX11_init_35 : decode cX11_init 35 = .ok (.invokespecial 27, 3) := by decide +kernel
theorem dX11_init_38 : decode cX11_init 38 = .ok (.putfield 28, 3) := by decide +kernel
theorem dX11_init_41 : decode cX11_init 41 = .ok (.aload_n 0, 1) := by decide +kernel
theorem dX11_init_42 : decode cX11_init 42 = .ok (.new 32, 3) := by decide +kernel
theorem dX11_init_45 : decode cX11_init 45 = .ok (.dup, 1) := by decide +kernel
theorem dX11_init_46 : decode cX11_init 46 = .ok (.invokespecial 34, 3) := by decide +kernel
theorem dX11_init_49 : decode cX11_init 49 = .ok (.putfield 35, 3) := by decide +kernel
theorem dX11_init_52 : decode cX11_init 52 = .ok (.aload_n 0, 1) := by decide +kernel
theorem dX11_init_53 : decode cX11_init 53 = .ok (.new 39, 3) := by decide +kernel
theorem dX11_init_56 : decode cX11_init 56 = .ok (.dup, 1) := by decide +kernel
theorem dX11_init_57 : decode cX11_init 57 = .ok (.invokespecial 41, 3) := by decide +kernel
theorem dX11_init_60 : decode cX11_init 60 = .ok (.putfield 42, 3) := by decide +kernel
theorem dX11_init_63 : decode cX11_init 63 = .ok (.aload_n 0, 1) := by decide +kernel
theorem dX11_init_64 : decode cX11_init 64 = .ok (.new 46, 3) := by decide +kernel
theorem dX11_init_67 : decode cX11_init 67 = .ok (.dup, 1) := by decide +kernel
theorem dX11_init_68 : decode cX11_init 68 = .ok (.invokespecial 48, 3) := by decide +kernel
theorem dX11_init_71 : decode cX11_init 71 = .ok (.putfield 49, 3) := by decide +kernel
theorem dX11_init_74 : decode cX11_init 74 = .ok (.aload_n 0, 1) := by decide +kernel
theorem dX11_init_75 : decode cX11_init 75 = .ok (.new 53, 3) := by decide +kernel
theorem dX11_init_78 : decode cX11_init 78 = .ok (.dup, 1) := by decide +kernel
theorem dX11_init_79 : decode cX11_init 79 = .ok (.invokespecial 55, 3) := by decide +kernel
theorem dX11_init_82 : decode cX11_init 82 = .ok (.putfield 56, 3) := by decide +kernel
theorem dX11_init_85 : decode cX11_init 85 = .ok (.aload_n 0, 1) := by decide +kernel
theorem dX11_init_86 : decode cX11_init 86 = .ok (.new 60, 3) := by decide +kernel
theorem dX11_init_89 : decode cX11_init 89 = .ok (.dup, 1) := by decide +kernel
theorem dX11_init_90 : decode cX11_init 90 = .ok (.invokespecial 62, 3) := by decide +kernel
theorem dX11_init_93 : decode cX11_init 93 = .ok (.putfield 63, 3) := by decide +kernel
theorem dX11_init_96 : decode cX11_init 96 = .ok (.aload_n 0, 1) := by decide +kernel
theorem dX11_init_97 : decode cX11_init 97 = .ok (.new 60, 3) := by decide +kernel
theorem dX11_init_100 : decode cX11_init 100 = .ok (.dup, 1) := by decide +kernel
theorem dX11_init_101 : decode cX11_init 101 = .ok (.invokespecial 62, 3) := by decide +kernel
theorem dX11_init_104 : decode cX11_init 104 = .ok (.putfield 67, 3) := by decide +kernel
theorem dX11_init_107 : decode cX11_init 107 = .ok (.aload_n 0, 1) := by decide +kernel
theorem dX11_init_108 : decode cX11_init 108 = .ok (.new 70, 3) := by decide +kernel
theorem dX11_init_111 : decode cX11_init 111 = .ok (.dup, 1) := by decide +kernel
theorem dX11_init_112 : decode cX11_init 112 = .ok (.invokespecial 72, 3) := by decide +kernel
theorem dX11_init_115 : decode cX11_init 115 = .ok (.putfield 73, 3) := by decide +kernel
theorem dX11_init_118 : decode cX11_init 118 = .ok (.aload_n 0, 1) := by decide +kernel
theorem dX11_init_119 : decode cX11_init 119 = .ok (.new 70, 3) := by decide +kernel
theorem dX11_init_122 : decode cX11_init 122 = .ok (.dup, 1) := by decide +kernel
theorem dX11_init_123 : decode cX11_init 123 = .ok (.invokespecial 72, 3) := by decide +kernel
theorem dX11_init_126 : decode cX11_init 126 = .ok (.putfield 77, 3) := by decide +kernel
theorem dX11_init_129 : decode cX11_init 129 = .ok (.return_, 1) := by decide +kernel
theorem dX11_feed_0 : decode cX11_feed 0 = .ok (.aload_n 0, 1) := by decide +kernel
theorem dX11_feed_1 : decode cX11_feed 1 = .ok (.getfield 10, 3) := by decide +kernel
theorem dX11_feed_4 : decode cX11_feed 4 = .ok (.lload_n 1, 1) := by decide +kernel
theorem dX11_feed_5 : decode cX11_feed 5 = .ok (.invokevirtual 80, 3) := by decide +kernel
theorem dX11_feed_8 : decode cX11_feed 8 = .ok (.aload_n 0, 1) := by decide +kernel
theorem dX11_feed_9 : decode cX11_feed 9 = .ok (.getfield 10, 3) := by decide +kernel
theorem dX11_feed_12 : decode cX11_feed 12 = .ok (.lload_n 3, 1) := by decide +kernel
theorem dX11_feed_13 : decode cX11_feed 13 = .ok (.invokevirtual 80, 3) := by decide +kernel
theorem dX11_feed_16 : decode cX11_feed 16 = .ok (.aload_n 0, 1) := by decide +kernel
theorem dX11_feed_17 : decode cX11_feed 17 = .ok (.getfield 10, 3) := by decide +kernel
theorem dX11_feed_20 : decode cX11_feed 20 = .ok (.lload 5, 2) := by decide +kernel
theorem dX11_feed_22 : decode cX11_feed 22 = .ok (.invokevirtual 80, 3) := by decide +kernel
theorem dX11_feed_25 : decode cX11_feed 25 = .ok (.aload_n 0, 1) := by decide +kernel
theorem dX11_feed_26 : decode cX11_feed 26 = .ok (.getfield 10, 3) := by decide +kernel
theorem dX11_feed_29 : decode cX11_feed 29 = .ok (.getfield 84, 3) := by decide +kernel
theorem dX11_feed_32 : decode cX11_feed 32 = .ok (.ireturn, 1) := by decide +kernel
theorem dX11_grate_0 : decode cX11_grate 0 = .ok (.aload_n 0, 1) := by decide +kernel
theorem dX11_grate_1 : decode cX11_grate 1 = .ok (.getfield 21, 3) := by decide +kernel
theorem dX11_grate_4 : decode cX11_grate 4 = .ok (.aload_n 0, 1) := by decide +kernel
theorem dX11_grate_5 : decode cX11_grate 5 = .ok (.getfield 67, 3) := by decide +kernel
theorem dX11_grate_8 : decode cX11_grate 8 = .ok (.invokevirtual 88, 3) := by decide +kernel
theorem dX11_grate_11 : decode cX11_grate 11 = .ok (.istore_n 1, 1) := by decide +kernel
theorem dX11_grate_12 : decode cX11_grate 12 = .ok (.aload_n 0, 1) := by decide +kernel
theorem dX11_grate_13 : decode cX11_grate 13 = .ok (.getfield 10, 3) := by decide +kernel
theorem dX11_grate_16 : decode cX11_grate 16 = .ok (.invokevirtual 92, 3) := by decide +kernel
theorem dX11_grate_19 : decode cX11_grate 19 = .ok (.iload_n 1, 1) := by decide +kernel
theorem dX11_grate_20 : decode cX11_grate 20 = .ok (.ifCond .ne 25, 3) := by decide +kernel
theorem dX11_grate_23 : decode cX11_grate 23 = .ok (.aload_n 0, 1) := by decide +kernel
theorem dX11_grate_24 : decode cX11_grate 24 = .ok (.getfield 67, 3) := by decide +kernel
theorem dX11_grate_27 : decode cX11_grate 27 = .ok (.astore_n 2, 1) := by decide +kernel
theorem dX11_grate_28 : decode cX11_grate 28 = .ok (.aload_n 0, 1) := by decide +kernel
theorem dX11_grate_29 : decode cX11_grate 29 = .ok (.aload_n 0, 1) := by decide +kernel
theorem dX11_grate_30 : decode cX11_grate 30 = .ok (.getfield 63, 3) := by decide +kernel
theorem dX11_grate_33 : decode cX11_grate 33 = .ok (.putfield 67, 3) := by decide +kernel
theorem dX11_grate_36 : decode cX11_grate 36 = .ok (.aload_n 0, 1) := by decide +kernel
theorem dX11_grate_37 : decode cX11_grate 37 = .ok (.aload_n 2, 1) := by decide +kernel
theorem dX11_grate_38 : decode cX11_grate 38 = .ok (.putfield 63, 3) := by decide +kernel
theorem dX11_grate_41 : decode cX11_grate 41 = .ok (.aload_n 0, 1) := by decide +kernel
theorem dX11_grate_42 : decode cX11_grate 42 = .ok (.invokevirtual 95, 3) := by decide +kernel
theorem dX11_grate_45 : decode cX11_grate 45 = .ok (.iload_n 1, 1) := by decide +kernel
theorem dX11_grate_46 : decode cX11_grate 46 = .ok (.ireturn, 1) := by decide +kernel
theorem dX11_evening_0 : decode cX11_evening 0 = .ok (.aload_n 0, 1) := by decide +kernel
theorem dX11_evening_1 : decode cX11_evening 1 = .ok (.getfield 21, 3) := by decide +kernel
theorem dX11_evening_4 : decode cX11_evening 4 = .ok (.aload_n 0, 1) := by decide +kernel
theorem dX11_evening_5 : decode cX11_evening 5 = .ok (.getfield 77, 3) := by decide +kernel
theorem dX11_evening_8 : decode cX11_evening 8 = .ok (.aload_n 0, 1) := by decide +kernel
theorem dX11_evening_9 : decode cX11_evening 9 = .ok (.getfield 63, 3) := by decide +kernel
theorem dX11_evening_12 : decode cX11_evening 12 = .ok (.invokevirtual 98, 3) := by decide +kernel
theorem dX11_evening_15 : decode cX11_evening 15 = .ok (.istore_n 1, 1) := by decide +kernel
theorem dX11_evening_16 : decode cX11_evening 16 = .ok (.aload_n 0, 1) := by decide +kernel
theorem dX11_evening_17 : decode cX11_evening 17 = .ok (.getfield 10, 3) := by decide +kernel
theorem dX11_evening_20 : decode cX11_evening 20 = .ok (.invokevirtual 92, 3) := by decide +kernel
theorem dX11_evening_23 : decode cX11_evening 23 = .ok (.iload_n 1, 1) := by decide +kernel
theorem dX11_evening_24 : decode cX11_evening 24 = .ok (.ifCond .ne 21, 3) := by decide +kernel
theorem dX11_evening_27 : decode cX11_evening 27 = .ok (.aload_n 0, 1) := by decide +kernel
theorem dX11_evening_28 : decode cX11_evening 28 = .ok (.getfield 77, 3) := by decide +kernel
theorem dX11_evening_31 : decode cX11_evening 31 = .ok (.astore_n 2, 1) := by decide +kernel
theorem dX11_evening_32 : decode cX11_evening 32 = .ok (.aload_n 0, 1) := by decide +kernel
theorem dX11_evening_33 : decode cX11_evening 33 = .ok (.aload_n 0, 1) := by decide +kernel
theorem dX11_evening_34 : decode cX11_evening 34 = .ok (.getfield 73, 3) := by decide +kernel
theorem dX11_evening_37 : decode cX11_evening 37 = .ok (.putfield 77, 3) := by decide +kernel
theorem dX11_evening_40 : decode cX11_evening 40 = .ok (.aload_n 0, 1) := by decide +kernel
theorem dX11_evening_41 : decode cX11_evening 41 = .ok (.aload_n 2, 1) := by decide +kernel
theorem dX11_evening_42 : decode cX11_evening 42 = .ok (.putfield 73, 3) := by decide +kernel
theorem dX11_evening_45 : decode cX11_evening 45 = .ok (.iload_n 1, 1) := by decide +kernel
theorem dX11_evening_46 : decode cX11_evening 46 = .ok (.ireturn, 1) := by decide +kernel
theorem dX11_ember_0 : decode cX11_ember 0 = .ok (.aload_n 0, 1) := by decide +kernel
theorem dX11_ember_1 : decode cX11_ember 1 = .ok (.iload_n 1, 1) := by decide +kernel
theorem dX11_ember_2 : decode cX11_ember 2 = .ok (.invokevirtual 102, 3) := by decide +kernel
theorem dX11_ember_5 : decode cX11_ember 5 = .ok (.ifCond .ne 6, 3) := by decide +kernel
theorem dX11_ember_8 : decode cX11_ember 8 = .ok (.bipush (-2), 2) := by decide +kernel
theorem dX11_ember_10 : decode cX11_ember 10 = .ok (.ireturn, 1) := by decide +kernel
theorem dX11_ember_11 : decode cX11_ember 11 = .ok (.iload_n 2, 1) := by decide +kernel
theorem dX11_ember_12 : decode cX11_ember 12 = .ok (.tableswitch 92 0 4 #[36, 46, 56, 66, 76], 36) := by decide +kernel
theorem dX11_ember_48 : decode cX11_ember 48 = .ok (.aload_n 0, 1) := by decide +kernel
theorem dX11_ember_49 : decode cX11_ember 49 = .ok (.getfield 63, 3) := by decide +kernel
theorem dX11_ember_52 : decode cX11_ember 52 = .ok (.getfield 106, 3) := by decide +kernel
theorem dX11_ember_55 : decode cX11_ember 55 = .ok (.iload_n 1, 1) := by decide +kernel
theorem dX11_ember_56 : decode cX11_ember 56 = .ok (.iaload, 1) := by decide +kernel
theorem dX11_ember_57 : decode cX11_ember 57 = .ok (.ireturn, 1) := by decide +kernel
theorem dX11_ember_58 : decode cX11_ember 58 = .ok (.aload_n 0, 1) := by decide +kernel
theorem dX11_ember_59 : decode cX11_ember 59 = .ok (.getfield 28, 3) := by decide +kernel
theorem dX11_ember_62 : decode cX11_ember 62 = .ok (.getfield 110, 3) := by decide +kernel
theorem dX11_ember_65 : decode cX11_ember 65 = .ok (.iload_n 1, 1) := by decide +kernel
theorem dX11_ember_66 : decode cX11_ember 66 = .ok (.iaload, 1) := by decide +kernel
theorem dX11_ember_67 : decode cX11_ember 67 = .ok (.ireturn, 1) := by decide +kernel
theorem dX11_ember_68 : decode cX11_ember 68 = .ok (.aload_n 0, 1) := by decide +kernel
theorem dX11_ember_69 : decode cX11_ember 69 = .ok (.getfield 28, 3) := by decide +kernel
theorem dX11_ember_72 : decode cX11_ember 72 = .ok (.getfield 113, 3) := by decide +kernel
theorem dX11_ember_75 : decode cX11_ember 75 = .ok (.iload_n 1, 1) := by decide +kernel
theorem dX11_ember_76 : decode cX11_ember 76 = .ok (.iaload, 1) := by decide +kernel
theorem dX11_ember_77 : decode cX11_ember 77 = .ok (.ireturn, 1) := by decide +kernel
theorem dX11_ember_78 : decode cX11_ember 78 = .ok (.aload_n 0, 1) := by decide +kernel
theorem dX11_ember_79 : decode cX11_ember 79 = .ok (.getfield 28, 3) := by decide +kernel
theorem dX11_ember_82 : decode cX11_ember 82 = .ok (.getfield 116, 3) := by decide +kernel
theorem dX11_ember_85 : decode cX11_ember 85 = .ok (.iload_n 1, 1) := by decide +kernel
theorem dX11_ember_86 : decode cX11_ember 86 = .ok (.iaload, 1) := by decide +kernel
theorem dX11_ember_87 : decode cX11_ember 87 = .ok (.ireturn, 1) := by decide +kernel
theorem dX11_ember_88 : decode cX11_ember 88 = .ok (.aload_n 0, 1) := by decide +kernel
theorem dX11_ember_89 : decode cX11_ember 89 = .ok (.getfield 28, 3) := by decide +kernel
theorem dX11_ember_92 : decode cX11_ember 92 = .ok (.aload_n 0, 1) := by decide +kernel
theorem dX11_ember_93 : decode cX11_ember 93 = .ok (.getfield 63, 3) := by decide +kernel
theorem dX11_ember_96 : decode cX11_ember 96 = .ok (.invokevirtual 119, 3) := by decide +kernel
theorem dX11_ember_99 : decode cX11_ember 99 = .ok (.iload_n 1, 1) := by decide +kernel
theorem dX11_ember_100 : decode cX11_ember 100 = .ok (.ishr, 1) := by decide +kernel
theorem dX11_ember_101 : decode cX11_ember 101 = .ok (.iconst 1, 1) := by decide +kernel
theorem dX11_ember_102 : decode cX11_ember 102 = .ok (.iand, 1) := by decide +kernel
theorem dX11_ember_103 : decode cX11_ember 103 = .ok (.ireturn, 1) := by decide +kernel
theorem dX11_ember_104 : decode cX11_ember 104 = .ok (.bipush (-2), 2) := by decide +kernel
theorem dX11_ember_106 : decode cX11_ember 106 = .ok (.ireturn, 1) := by decide +kernel
theorem dX11_cell_0 : decode cX11_cell 0 = .ok (.iload_n 1, 1) := by decide +kernel
theorem dX11_cell_1 : decode cX11_cell 1 = .ok (.invokestatic 122, 3) := by decide +kernel
theorem dX11_cell_4 : decode cX11_cell 4 = .ok (.ifCond .eq 15, 3) := by decide +kernel
theorem dX11_cell_7 : decode cX11_cell 7 = .ok (.aload_n 0, 1) := by decide +kernel
theorem dX11_cell_8 : decode cX11_cell 8 = .ok (.getfield 28, 3) := by decide +kernel
theorem dX11_cell_11 : decode cX11_cell 11 = .ok (.getfield 125, 3) := by decide +kernel
theorem dX11_cell_14 : decode cX11_cell 14 = .ok (.iload_n 1, 1) := by decide +kernel
theorem dX11_cell_15 : decode cX11_cell 15 = .ok (.iaload, 1) := by decide +kernel
theorem dX11_cell_16 : decode cX11_cell 16 = .ok (.goto 4, 3) := by decide +kernel
theorem dX11_cell_19 : decode cX11_cell 19 = .ok (.iconst (-1), 1) := by decide +kernel
theorem dX11_cell_20 : decode cX11_cell 20 = .ok (.ireturn, 1) := by decide +kernel
theorem dX11_hour_0 : decode cX11_hour 0 = .ok (.aload_n 0, 1) := by decide +kernel
theorem dX11_hour_1 : decode cX11_hour 1 = .ok (.getfield 42, 3) := by decide +kernel
theorem dX11_hour_4 : decode cX11_hour 4 = .ok (.aload_n 0, 1) := by decide +kernel
theorem dX11_hour_5 : decode cX11_hour 5 = .ok (.getfield 28, 3) := by decide +kernel
theorem dX11_hour_8 : decode cX11_hour 8 = .ok (.invokevirtual 128, 3) := by decide +kernel
theorem dX11_hour_11 : decode cX11_hour 11 = .ok (.aload_n 0, 1) := by decide +kernel
theorem dX11_hour_12 : decode cX11_hour 12 = .ok (.getfield 28, 3) := by decide +kernel
theorem dX11_hour_15 : decode cX11_hour 15 = .ok (.aload_n 0, 1) := by decide +kernel
theorem dX11_hour_16 : decode cX11_hour 16 = .ok (.getfield 63, 3) := by decide +kernel
theorem dX11_hour_19 : decode cX11_hour 19 = .ok (.iconst 1, 1) := by decide +kernel
theorem dX11_hour_20 : decode cX11_hour 20 = .ok (.invokevirtual 132, 3) := by decide +kernel
theorem dX11_hour_23 : decode cX11_hour 23 = .ok (.ireturn, 1) := by decide +kernel
theorem dX11_poke_0 : decode cX11_poke 0 = .ok (.aload_n 0, 1) := by decide +kernel
theorem dX11_poke_1 : decode cX11_poke 1 = .ok (.getfield 28, 3) := by decide +kernel
theorem dX11_poke_4 : decode cX11_poke 4 = .ok (.iload_n 1, 1) := by decide +kernel
theorem dX11_poke_5 : decode cX11_poke 5 = .ok (.invokevirtual 136, 3) := by decide +kernel
theorem dX11_poke_8 : decode cX11_poke 8 = .ok (.ifCond .ne 5, 3) := by decide +kernel
theorem dX11_poke_11 : decode cX11_poke 11 = .ok (.iconst (-1), 1) := by decide +kernel
theorem dX11_poke_12 : decode cX11_poke 12 = .ok (.ireturn, 1) := by decide +kernel
theorem dX11_poke_13 : decode cX11_poke 13 = .ok (.aload_n 0, 1) := by decide +kernel
theorem dX11_poke_14 : decode cX11_poke 14 = .ok (.getfield 42, 3) := by decide +kernel
theorem dX11_poke_17 : decode cX11_poke 17 = .ok (.aload_n 0, 1) := by decide +kernel
theorem dX11_poke_18 : decode cX11_poke 18 = .ok (.getfield 28, 3) := by decide +kernel
theorem dX11_poke_21 : decode cX11_poke 21 = .ok (.invokevirtual 128, 3) := by decide +kernel
theorem dX11_poke_24 : decode cX11_poke 24 = .ok (.aload_n 0, 1) := by decide +kernel
theorem dX11_poke_25 : decode cX11_poke 25 = .ok (.getfield 28, 3) := by decide +kernel
theorem dX11_poke_28 : decode cX11_poke 28 = .ok (.iload_n 1, 1) := by decide +kernel
theorem dX11_poke_29 : decode cX11_poke 29 = .ok (.invokevirtual 139, 3) := by decide +kernel
theorem dX11_poke_32 : decode cX11_poke 32 = .ok (.aload_n 0, 1) := by decide +kernel
theorem dX11_poke_33 : decode cX11_poke 33 = .ok (.getfield 28, 3) := by decide +kernel
theorem dX11_poke_36 : decode cX11_poke 36 = .ok (.getfield 110, 3) := by decide +kernel
theorem dX11_poke_39 : decode cX11_poke 39 = .ok (.iload_n 1, 1) := by decide +kernel
theorem dX11_poke_40 : decode cX11_poke 40 = .ok (.iaload, 1) := by decide +kernel
theorem dX11_poke_41 : decode cX11_poke 41 = .ok (.ireturn, 1) := by decide +kernel
theorem dX11_tongs_0 : decode cX11_tongs 0 = .ok (.aload_n 0, 1) := by decide +kernel
theorem dX11_tongs_1 : decode cX11_tongs 1 = .ok (.getfield 28, 3) := by decide +kernel
theorem dX11_tongs_4 : decode cX11_tongs 4 = .ok (.iload_n 1, 1) := by decide +kernel
theorem dX11_tongs_5 : decode cX11_tongs 5 = .ok (.invokevirtual 136, 3) := by decide +kernel
theorem dX11_tongs_8 : decode cX11_tongs 8 = .ok (.ifCond .eq 14, 3) := by decide +kernel
theorem dX11_tongs_11 : decode cX11_tongs 11 = .ok (.aload_n 0, 1) := by decide +kernel
theorem dX11_tongs_12 : decode cX11_tongs 12 = .ok (.getfield 28, 3) := by decide +kernel
theorem dX11_tongs_15 : decode cX11_tongs 15 = .ok (.iload_n 2, 1) := by decide +kernel
theorem dX11_tongs_16 : decode cX11_tongs 16 = .ok (.invokevirtual 143, 3) := by decide +kernel
theorem dX11_tongs_19 : decode cX11_tongs 19 = .ok (.ifCond .ne 5, 3) := by decide +kernel
theorem dX11_tongs_22 : decode cX11_tongs 22 = .ok (.iconst 0, 1) := by decide +kernel
theorem dX11_tongs_23 : decode cX11_tongs 23 = .ok (.ireturn, 1) := by decide +kernel
theorem dX11_tongs_24 : decode cX11_tongs 24 = .ok (.aload_n 0, 1) := by decide +kernel
theorem dX11_tongs_25 : decode cX11_tongs 25 = .ok (.getfield 42, 3) := by decide +kernel
theorem dX11_tongs_28 : decode cX11_tongs 28 = .ok (.aload_n 0, 1) := by decide +kernel
theorem dX11_tongs_29 : decode cX11_tongs 29 = .ok (.getfield 28, 3) := by decide +kernel
theorem dX11_tongs_32 : decode cX11_tongs 32 = .ok (.invokevirtual 128, 3) := by decide +kernel
theorem dX11_tongs_35 : decode cX11_tongs 35 = .ok (.aload_n 0, 1) := by decide +kernel
theorem dX11_tongs_36 : decode cX11_tongs 36 = .ok (.getfield 28, 3) := by decide +kernel
theorem dX11_tongs_39 : decode cX11_tongs 39 = .ok (.iload_n 1, 1) := by decide +kernel
theorem dX11_tongs_40 : decode cX11_tongs 40 = .ok (.iload_n 2, 1) := by decide +kernel
theorem dX11_tongs_41 : decode cX11_tongs 41 = .ok (.invokevirtual 146, 3) := by decide +kernel
theorem dX11_tongs_44 : decode cX11_tongs 44 = .ok (.iconst 1, 1) := by decide +kernel
theorem dX11_tongs_45 : decode cX11_tongs 45 = .ok (.ireturn, 1) := by decide +kernel
theorem dX11_fuel_0 : decode cX11_fuel 0 = .ok (.aload_n 0, 1) := by decide +kernel
theorem dX11_fuel_1 : decode cX11_fuel 1 = .ok (.getfield 28, 3) := by decide +kernel
theorem dX11_fuel_4 : decode cX11_fuel 4 = .ok (.iload_n 1, 1) := by decide +kernel
theorem dX11_fuel_5 : decode cX11_fuel 5 = .ok (.invokevirtual 136, 3) := by decide +kernel
theorem dX11_fuel_8 : decode cX11_fuel 8 = .ok (.ifCond .eq 14, 3) := by decide +kernel
theorem dX11_fuel_11 : decode cX11_fuel 11 = .ok (.iload_n 2, 1) := by decide +kernel
theorem dX11_fuel_12 : decode cX11_fuel 12 = .ok (.iconst 1, 1) := by decide +kernel
theorem dX11_fuel_13 : decode cX11_fuel 13 = .ok (.if_icmp .lt 9, 3) := by decide +kernel
theorem dX11_fuel_16 : decode cX11_fuel 16 = .ok (.iload_n 2, 1) := by decide +kernel
theorem dX11_fuel_17 : decode cX11_fuel 17 = .ok (.bipush 9, 2) := by decide +kernel
theorem dX11_fuel_19 : decode cX11_fuel 19 = .ok (.if_icmp .le 5, 3) := by decide +kernel
theorem dX11_fuel_22 : decode cX11_fuel 22 = .ok (.iconst (-1), 1) := by decide +kernel
theorem dX11_fuel_23 : decode cX11_fuel 23 = .ok (.ireturn, 1) := by decide +kernel
theorem dX11_fuel_24 : decode cX11_fuel 24 = .ok (.aload_n 0, 1) := by decide +kernel
theorem dX11_fuel_25 : decode cX11_fuel 25 = .ok (.getfield 42, 3) := by decide +kernel
theorem dX11_fuel_28 : decode cX11_fuel 28 = .ok (.aload_n 0, 1) := by decide +kernel
theorem dX11_fuel_29 : decode cX11_fuel 29 = .ok (.getfield 28, 3) := by decide +kernel
theorem dX11_fuel_32 : decode cX11_fuel 32 = .ok (.invokevirtual 128, 3) := by decide +kernel
theorem dX11_fuel_35 : decode cX11_fuel 35 = .ok (.aload_n 0, 1) := by decide +kernel
theorem dX11_fuel_36 : decode cX11_fuel 36 = .ok (.getfield 28, 3) := by decide +kernel
theorem dX11_fuel_39 : decode cX11_fuel 39 = .ok (.iload_n 1, 1) := by decide +kernel
theorem dX11_fuel_40 : decode cX11_fuel 40 = .ok (.iload_n 2, 1) := by decide +kernel
theorem dX11_fuel_41 : decode cX11_fuel 41 = .ok (.invokevirtual 150, 3) := by decide +kernel
theorem dX11_fuel_44 : decode cX11_fuel 44 = .ok (.aload_n 0, 1) := by decide +kernel
theorem dX11_fuel_45 : decode cX11_fuel 45 = .ok (.getfield 28, 3) := by decide +kernel
theorem dX11_fuel_48 : decode cX11_fuel 48 = .ok (.getfield 116, 3) := by decide +kernel
theorem dX11_fuel_51 : decode cX11_fuel 51 = .ok (.iload_n 1, 1) := by decide +kernel
theorem dX11_fuel_52 : decode cX11_fuel 52 = .ok (.iaload, 1) := by decide +kernel
theorem dX11_fuel_53 : decode cX11_fuel 53 = .ok (.ireturn, 1) := by decide +kernel
theorem dX11_bank_0 : decode cX11_bank 0 = .ok (.aload_n 0, 1) := by decide +kernel
theorem dX11_bank_1 : decode cX11_bank 1 = .ok (.getfield 42, 3) := by decide +kernel
theorem dX11_bank_4 : decode cX11_bank 4 = .ok (.aload_n 0, 1) := by decide +kernel
theorem dX11_bank_5 : decode cX11_bank 5 = .ok (.getfield 28, 3) := by decide +kernel
theorem dX11_bank_8 : decode cX11_bank 8 = .ok (.invokevirtual 128, 3) := by decide +kernel
theorem dX11_bank_11 : decode cX11_bank 11 = .ok (.aload_n 0, 1) := by decide +kernel
theorem dX11_bank_12 : decode cX11_bank 12 = .ok (.getfield 28, 3) := by decide +kernel
theorem dX11_bank_15 : decode cX11_bank 15 = .ok (.aload_n 0, 1) := by decide +kernel
theorem dX11_bank_16 : decode cX11_bank 16 = .ok (.getfield 28, 3) := by decide +kernel
theorem dX11_bank_19 : decode cX11_bank 19 = .ok (.getfield 153, 3) := by decide +kernel
theorem dX11_bank_22 : decode cX11_bank 22 = .ok (.ifCond .ne 7, 3) := by decide +kernel
theorem dX11_bank_25 : decode cX11_bank 25 = .ok (.iconst 1, 1) := by decide +kernel
theorem dX11_bank_26 : decode cX11_bank 26 = .ok (.goto 4, 3) := by decide +kernel
theorem dX11_bank_29 : decode cX11_bank 29 = .ok (.iconst 0, 1) := by decide +kernel
theorem dX11_bank_30 : decode cX11_bank 30 = .ok (.putfield 153, 3) := by decide +kernel
theorem dX11_bank_33 : decode cX11_bank 33 = .ok (.aload_n 0, 1) := by decide +kernel
theorem dX11_bank_34 : decode cX11_bank 34 = .ok (.getfield 28, 3) := by decide +kernel
theorem dX11_bank_37 : decode cX11_bank 37 = .ok (.getfield 153, 3) := by decide +kernel
theorem dX11_bank_40 : decode cX11_bank 40 = .ok (.ireturn, 1) := by decide +kernel
theorem dX11_undo_0 : decode cX11_undo 0 = .ok (.aload_n 0, 1) := by decide +kernel
theorem dX11_undo_1 : decode cX11_undo 1 = .ok (.getfield 42, 3) := by decide +kernel
theorem dX11_undo_4 : decode cX11_undo 4 = .ok (.aload_n 0, 1) := by decide +kernel
theorem dX11_undo_5 : decode cX11_undo 5 = .ok (.getfield 28, 3) := by decide +kernel
theorem dX11_undo_8 : decode cX11_undo 8 = .ok (.invokevirtual 157, 3) := by decide +kernel
theorem dX11_undo_11 : decode cX11_undo 11 = .ok (.ireturn, 1) := by decide +kernel
theorem dX11_judged_0 : decode cX11_judged 0 = .ok (.iload_n 1, 1) := by decide +kernel
theorem dX11_judged_1 : decode cX11_judged 1 = .ok (.ifCond .lt 8, 3) := by decide +kernel
theorem dX11_judged_4 : decode cX11_judged 4 = .ok (.iload_n 1, 1) := by decide +kernel
theorem dX11_judged_5 : decode cX11_judged 5 = .ok (.iconst 2, 1) := by decide +kernel
theorem dX11_judged_6 : decode cX11_judged 6 = .ok (.if_icmp .le 8, 3) := by decide +kernel
theorem dX11_judged_9 : decode cX11_judged 9 = .ok (.bipush (-2), 2) := by decide +kernel
theorem dX11_judged_11 : decode cX11_judged 11 = .ok (.goto 19, 3) := by decide +kernel
theorem dX11_judged_14 : decode cX11_judged 14 = .ok (.aload_n 0, 1) := by decide +kernel
theorem dX11_judged_15 : decode cX11_judged 15 = .ok (.getfield 49, 3) := by decide +kernel
theorem dX11_judged_18 : decode cX11_judged 18 = .ok (.aload_n 0, 1) := by decide +kernel
theorem dX11_judged_19 : decode cX11_judged 19 = .ok (.getfield 63, 3) := by decide +kernel
theorem dX11_judged_22 : decode cX11_judged 22 = .ok (.aload_n 0, 1) := by decide +kernel
theorem dX11_judged_23 : decode cX11_judged 23 = .ok (.getfield 73, 3) := by decide +kernel
theorem dX11_judged_26 : decode cX11_judged 26 = .ok (.iload_n 1, 1) := by decide +kernel
theorem dX11_judged_27 : decode cX11_judged 27 = .ok (.invokevirtual 161, 3) := by decide +kernel
theorem dX11_judged_30 : decode cX11_judged 30 = .ok (.ireturn, 1) := by decide +kernel
theorem dX11_out_0 : decode cX11_out 0 = .ok (.aload_n 0, 1) := by decide +kernel
theorem dX11_out_1 : decode cX11_out 1 = .ok (.iload_n 1, 1) := by decide +kernel
theorem dX11_out_2 : decode cX11_out 2 = .ok (.invokevirtual 102, 3) := by decide +kernel
theorem dX11_out_5 : decode cX11_out 5 = .ok (.ifCond .ne 5, 3) := by decide +kernel
theorem dX11_out_8 : decode cX11_out 8 = .ok (.iconst (-1), 1) := by decide +kernel
theorem dX11_out_9 : decode cX11_out 9 = .ok (.ireturn, 1) := by decide +kernel
theorem dX11_out_10 : decode cX11_out 10 = .ok (.aload_n 0, 1) := by decide +kernel
theorem dX11_out_11 : decode cX11_out 11 = .ok (.getfield 49, 3) := by decide +kernel
theorem dX11_out_14 : decode cX11_out 14 = .ok (.aload_n 0, 1) := by decide +kernel
theorem dX11_out_15 : decode cX11_out 15 = .ok (.getfield 63, 3) := by decide +kernel
theorem dX11_out_18 : decode cX11_out 18 = .ok (.aload_n 0, 1) := by decide +kernel
theorem dX11_out_19 : decode cX11_out 19 = .ok (.getfield 28, 3) := by decide +kernel
theorem dX11_out_22 : decode cX11_out 22 = .ok (.invokevirtual 165, 3) := by decide +kernel
theorem dX11_out_25 : decode cX11_out 25 = .ok (.aload_n 0, 1) := by decide +kernel
theorem dX11_out_26 : decode cX11_out 26 = .ok (.getfield 49, 3) := by decide +kernel
theorem dX11_out_29 : decode cX11_out 29 = .ok (.iload_n 1, 1) := by decide +kernel
theorem dX11_out_30 : decode cX11_out 30 = .ok (.invokevirtual 169, 3) := by decide +kernel
theorem dX11_out_33 : decode cX11_out 33 = .ok (.ireturn, 1) := by decide +kernel
theorem dX11_lasts_0 : decode cX11_lasts 0 = .ok (.aload_n 0, 1) := by decide +kernel
theorem dX11_lasts_1 : decode cX11_lasts 1 = .ok (.getfield 49, 3) := by decide +kernel
theorem dX11_lasts_4 : decode cX11_lasts 4 = .ok (.aload_n 0, 1) := by decide +kernel
theorem dX11_lasts_5 : decode cX11_lasts 5 = .ok (.getfield 63, 3) := by decide +kernel
theorem dX11_lasts_8 : decode cX11_lasts 8 = .ok (.aload_n 0, 1) := by decide +kernel
theorem dX11_lasts_9 : decode cX11_lasts 9 = .ok (.getfield 28, 3) := by decide +kernel
theorem dX11_lasts_12 : decode cX11_lasts 12 = .ok (.invokevirtual 173, 3) := by decide +kernel
theorem dX11_lasts_15 : decode cX11_lasts 15 = .ok (.istore_n 1, 1) := by decide +kernel
theorem dX11_lasts_16 : decode cX11_lasts 16 = .ok (.iload_n 1, 1) := by decide +kernel
theorem dX11_lasts_17 : decode cX11_lasts 17 = .ok (.bipush 41, 2) := by decide +kernel
theorem dX11_lasts_19 : decode cX11_lasts 19 = .ok (.if_icmp .ne 7, 3) := by decide +kernel
theorem dX11_lasts_22 : decode cX11_lasts 22 = .ok (.iconst (-1), 1) := by decide +kernel
theorem dX11_lasts_23 : decode cX11_lasts 23 = .ok (.goto 4, 3) := by decide +kernel
theorem dX11_lasts_26 : decode cX11_lasts 26 = .ok (.iload_n 1, 1) := by decide +kernel
theorem dX11_lasts_27 : decode cX11_lasts 27 = .ok (.ireturn, 1) := by decide +kernel
theorem dX11_last_0 : decode cX11_last 0 = .ok (.aload_n 0, 1) := by decide +kernel
theorem dX11_last_1 : decode cX11_last 1 = .ok (.getfield 49, 3) := by decide +kernel
theorem dX11_last_4 : decode cX11_last 4 = .ok (.aload_n 0, 1) := by decide +kernel
theorem dX11_last_5 : decode cX11_last 5 = .ok (.getfield 63, 3) := by decide +kernel
theorem dX11_last_8 : decode cX11_last 8 = .ok (.aload_n 0, 1) := by decide +kernel
theorem dX11_last_9 : decode cX11_last 9 = .ok (.getfield 28, 3) := by decide +kernel
theorem dX11_last_12 : decode cX11_last 12 = .ok (.invokevirtual 177, 3) := by decide +kernel
theorem dX11_last_15 : decode cX11_last 15 = .ok (.ireturn, 1) := by decide +kernel
theorem dX11_peak_0 : decode cX11_peak 0 = .ok (.aload_n 0, 1) := by decide +kernel
theorem dX11_peak_1 : decode cX11_peak 1 = .ok (.getfield 49, 3) := by decide +kernel
theorem dX11_peak_4 : decode cX11_peak 4 = .ok (.aload_n 0, 1) := by decide +kernel
theorem dX11_peak_5 : decode cX11_peak 5 = .ok (.getfield 63, 3) := by decide +kernel
theorem dX11_peak_8 : decode cX11_peak 8 = .ok (.aload_n 0, 1) := by decide +kernel
theorem dX11_peak_9 : decode cX11_peak 9 = .ok (.getfield 28, 3) := by decide +kernel
theorem dX11_peak_12 : decode cX11_peak 12 = .ok (.invokevirtual 180, 3) := by decide +kernel
theorem dX11_peak_15 : decode cX11_peak 15 = .ok (.ireturn, 1) := by decide +kernel
theorem dX11_age_0 : decode cX11_age 0 = .ok (.aload_n 0, 1) := by decide +kernel
theorem dX11_age_1 : decode cX11_age 1 = .ok (.getfield 28, 3) := by decide +kernel
theorem dX11_age_4 : decode cX11_age 4 = .ok (.invokevirtual 183, 3) := by decide +kernel
theorem dX11_age_7 : decode cX11_age 7 = .ok (.bipush 20, 2) := by decide +kernel
theorem dX11_age_9 : decode cX11_age 9 = .ok (.idiv, 1) := by decide +kernel
theorem dX11_age_10 : decode cX11_age 10 = .ok (.ireturn, 1) := by decide +kernel
theorem dX11_move_0 : decode cX11_move 0 = .ok (.iload_n 1, 1) := by decide +kernel
theorem dX11_move_1 : decode cX11_move 1 = .ok (.ifCond .lt 8, 3) := by decide +kernel
theorem dX11_move_4 : decode cX11_move 4 = .ok (.iload_n 1, 1) := by decide +kernel
theorem dX11_move_5 : decode cX11_move 5 = .ok (.iconst 1, 1) := by decide +kernel
theorem dX11_move_6 : decode cX11_move 6 = .ok (.if_icmp .le 5, 3) := by decide +kernel
theorem dX11_move_9 : decode cX11_move 9 = .ok (.iconst (-1), 1) := by decide +kernel
theorem dX11_move_10 : decode cX11_move 10 = .ok (.ireturn, 1) := by decide +kernel
theorem dX11_move_11 : decode cX11_move 11 = .ok (.aload_n 0, 1) := by decide +kernel
theorem dX11_move_12 : decode cX11_move 12 = .ok (.getfield 49, 3) := by decide +kernel
theorem dX11_move_15 : decode cX11_move 15 = .ok (.aload_n 0, 1) := by decide +kernel
theorem dX11_move_16 : decode cX11_move 16 = .ok (.getfield 63, 3) := by decide +kernel
theorem dX11_move_19 : decode cX11_move 19 = .ok (.aload_n 0, 1) := by decide +kernel
theorem dX11_move_20 : decode cX11_move 20 = .ok (.getfield 28, 3) := by decide +kernel
theorem dX11_move_23 : decode cX11_move 23 = .ok (.invokevirtual 187, 3) := by decide +kernel
theorem dX11_move_26 : decode cX11_move 26 = .ok (.istore_n 2, 1) := by decide +kernel
theorem dX11_move_27 : decode cX11_move 27 = .ok (.iload_n 2, 1) := by decide +kernel
theorem dX11_move_28 : decode cX11_move 28 = .ok (.iconst (-1), 1) := by decide +kernel
theorem dX11_move_29 : decode cX11_move 29 = .ok (.if_icmp .ne 5, 3) := by decide +kernel
theorem dX11_move_32 : decode cX11_move 32 = .ok (.iconst (-1), 1) := by decide +kernel
theorem dX11_move_33 : decode cX11_move 33 = .ok (.ireturn, 1) := by decide +kernel
theorem dX11_move_34 : decode cX11_move 34 = .ok (.iload_n 1, 1) := by decide +kernel
theorem dX11_move_35 : decode cX11_move 35 = .ok (.ifCond .ne 10, 3) := by decide +kernel
theorem dX11_move_38 : decode cX11_move 38 = .ok (.iload_n 2, 1) := by decide +kernel
theorem dX11_move_39 : decode cX11_move 39 = .ok (.bipush 12, 2) := by decide +kernel
theorem dX11_move_41 : decode cX11_move 41 = .ok (.idiv, 1) := by decide +kernel
theorem dX11_move_42 : decode cX11_move 42 = .ok (.goto 7, 3) := by decide +kernel
theorem dX11_move_45 : decode cX11_move 45 = .ok (.iload_n 2, 1) := by decide +kernel
theorem dX11_move_46 : decode cX11_move 46 = .ok (.bipush 12, 2) := by decide +kernel
theorem dX11_move_48 : decode cX11_move 48 = .ok (.irem, 1) := by decide +kernel
theorem dX11_move_49 : decode cX11_move 49 = .ok (.ireturn, 1) := by decide +kernel
theorem dX11_banks_0 : decode cX11_banks 0 = .ok (.aload_n 0, 1) := by decide +kernel
theorem dX11_banks_1 : decode cX11_banks 1 = .ok (.getfield 49, 3) := by decide +kernel
theorem dX11_banks_4 : decode cX11_banks 4 = .ok (.aload_n 0, 1) := by decide +kernel
theorem dX11_banks_5 : decode cX11_banks 5 = .ok (.getfield 63, 3) := by decide +kernel
theorem dX11_banks_8 : decode cX11_banks 8 = .ok (.aload_n 0, 1) := by decide +kernel
theorem dX11_banks_9 : decode cX11_banks 9 = .ok (.getfield 28, 3) := by decide +kernel
theorem dX11_banks_12 : decode cX11_banks 12 = .ok (.invokevirtual 190, 3) := by decide +kernel
theorem dX11_banks_15 : decode cX11_banks 15 = .ok (.ireturn, 1) := by decide +kernel
theorem dX11_stir_0 : decode cX11_stir 0 = .ok (.iload_n 1, 1) := by decide +kernel
theorem dX11_stir_1 : decode cX11_stir 1 = .ok (.iconst 1, 1) := by decide +kernel
theorem dX11_stir_2 : decode cX11_stir 2 = .ok (.if_icmp .lt 9, 3) := by decide +kernel
theorem dX11_stir_5 : decode cX11_stir 5 = .ok (.iload_n 1, 1) := by decide +kernel
theorem dX11_stir_6 : decode cX11_stir 6 = .ok (.bipush 12, 2) := by decide +kernel
theorem dX11_stir_8 : decode cX11_stir 8 = .ok (.if_icmp .le 7, 3) := by decide +kernel
theorem dX11_stir_11 : decode cX11_stir 11 = .ok (.iconst (-1), 1) := by decide +kernel
theorem dX11_stir_12 : decode cX11_stir 12 = .ok (.goto 19, 3) := by decide +kernel
theorem dX11_stir_15 : decode cX11_stir 15 = .ok (.aload_n 0, 1) := by decide +kernel
theorem dX11_stir_16 : decode cX11_stir 16 = .ok (.getfield 49, 3) := by decide +kernel
theorem dX11_stir_19 : decode cX11_stir 19 = .ok (.aload_n 0, 1) := by decide +kernel
theorem dX11_stir_20 : decode cX11_stir 20 = .ok (.getfield 63, 3) := by decide +kernel
theorem dX11_stir_23 : decode cX11_stir 23 = .ok (.aload_n 0, 1) := by decide +kernel
theorem dX11_stir_24 : decode cX11_stir 24 = .ok (.getfield 28, 3) := by decide +kernel
theorem dX11_stir_27 : decode cX11_stir 27 = .ok (.iload_n 1, 1) := by decide +kernel
theorem dX11_stir_28 : decode cX11_stir 28 = .ok (.invokevirtual 193, 3) := by decide +kernel
theorem dX11_stir_31 : decode cX11_stir 31 = .ok (.ireturn, 1) := by decide +kernel
theorem dX11_kindle_0 : decode cX11_kindle 0 = .ok (.aload_n 0, 1) := by decide +kernel
theorem dX11_kindle_1 : decode cX11_kindle 1 = .ok (.getfield 56, 3) := by decide +kernel
theorem dX11_kindle_4 : decode cX11_kindle 4 = .ok (.aload_n 0, 1) := by decide +kernel
theorem dX11_kindle_5 : decode cX11_kindle 5 = .ok (.getfield 63, 3) := by decide +kernel
theorem dX11_kindle_8 : decode cX11_kindle 8 = .ok (.aload_n 0, 1) := by decide +kernel
theorem dX11_kindle_9 : decode cX11_kindle 9 = .ok (.getfield 28, 3) := by decide +kernel
theorem dX11_kindle_12 : decode cX11_kindle 12 = .ok (.invokevirtual 197, 3) := by decide +kernel
theorem dX11_kindle_15 : decode cX11_kindle 15 = .ok (.ireturn, 1) := by decide +kernel
theorem dX11_save_0 : decode cX11_save 0 = .ok (.aload_n 0, 1) := by decide +kernel
theorem dX11_save_1 : decode cX11_save 1 = .ok (.getfield 28, 3) := by decide +kernel
theorem dX11_save_4 : decode cX11_save 4 = .ok (.iload_n 1, 1) := by decide +kernel
theorem dX11_save_5 : decode cX11_save 5 = .ok (.invokevirtual 136, 3) := by decide +kernel
theorem dX11_save_8 : decode cX11_save 8 = .ok (.ifCond .eq 22, 3) := by decide +kernel
theorem dX11_save_11 : decode cX11_save 11 = .ok (.aload_n 0, 1) := by decide +kernel
theorem dX11_save_12 : decode cX11_save 12 = .ok (.getfield 56, 3) := by decide +kernel
theorem dX11_save_15 : decode cX11_save 15 = .ok (.aload_n 0, 1) := by decide +kernel
theorem dX11_save_16 : decode cX11_save 16 = .ok (.getfield 63, 3) := by decide +kernel
theorem dX11_save_19 : decode cX11_save 19 = .ok (.aload_n 0, 1) := by decide +kernel
theorem dX11_save_20 : decode cX11_save 20 = .ok (.getfield 28, 3) := by decide +kernel
theorem dX11_save_23 : decode cX11_save 23 = .ok (.iload_n 1, 1) := by decide +kernel
theorem dX11_save_24 : decode cX11_save 24 = .ok (.invokevirtual 200, 3) := by decide +kernel
theorem dX11_save_27 : decode cX11_save 27 = .ok (.goto 4, 3) := by decide +kernel
theorem dX11_save_30 : decode cX11_save 30 = .ok (.iconst (-1), 1) := by decide +kernel
theorem dX11_save_31 : decode cX11_save 31 = .ok (.ireturn, 1) := by decide +kernel
theorem dX11_tell_0 : decode cX11_tell 0 = .ok (.aload_n 0, 1) := by decide +kernel
theorem dX11_tell_1 : decode cX11_tell 1 = .ok (.iload_n 1, 1) := by decide +kernel
theorem dX11_tell_2 : decode cX11_tell 2 = .ok (.invokevirtual 102, 3) := by decide +kernel
theorem dX11_tell_5 : decode cX11_tell 5 = .ok (.ifCond .eq 13, 3) := by decide +kernel
theorem dX11_tell_8 : decode cX11_tell 8 = .ok (.iload_n 2, 1) := by decide +kernel
theorem dX11_tell_9 : decode cX11_tell 9 = .ok (.ifCond .lt 9, 3) := by decide +kernel
theorem dX11_tell_12 : decode cX11_tell 12 = .ok (.iload_n 2, 1) := by decide +kernel
theorem dX11_tell_13 : decode cX11_tell 13 = .ok (.bipush 12, 2) := by decide +kernel
theorem dX11_tell_15 : decode cX11_tell 15 = .ok (.if_icmp .le 5, 3) := by decide +kernel
theorem dX11_tell_18 : decode cX11_tell 18 = .ok (.iconst 0, 1) := by decide +kernel
theorem dX11_tell_19 : decode cX11_tell 19 = .ok (.ireturn, 1) := by decide +kernel
theorem dX11_tell_20 : decode cX11_tell 20 = .ok (.aload_n 0, 1) := by decide +kernel
theorem dX11_tell_21 : decode cX11_tell 21 = .ok (.getfield 35, 3) := by decide +kernel
theorem dX11_tell_24 : decode cX11_tell 24 = .ok (.iload_n 1, 1) := by decide +kernel
theorem dX11_tell_25 : decode cX11_tell 25 = .ok (.iload_n 2, 1) := by decide +kernel
theorem dX11_tell_26 : decode cX11_tell 26 = .ok (.iload_n 3, 1) := by decide +kernel
theorem dX11_tell_27 : decode cX11_tell 27 = .ok (.invokevirtual 203, 3) := by decide +kernel
theorem dX11_tell_30 : decode cX11_tell 30 = .ok (.ireturn, 1) := by decide +kernel
theorem dX11_which_0 : decode cX11_which 0 = .ok (.aload_n 0, 1) := by decide +kernel
theorem dX11_which_1 : decode cX11_which 1 = .ok (.getfield 56, 3) := by decide +kernel
theorem dX11_which_4 : decode cX11_which 4 = .ok (.aload_n 0, 1) := by decide +kernel
theorem dX11_which_5 : decode cX11_which 5 = .ok (.getfield 63, 3) := by decide +kernel
theorem dX11_which_8 : decode cX11_which 8 = .ok (.aload_n 0, 1) := by decide +kernel
theorem dX11_which_9 : decode cX11_which 9 = .ok (.getfield 28, 3) := by decide +kernel
theorem dX11_which_12 : decode cX11_which 12 = .ok (.aload_n 0, 1) := by decide +kernel
theorem dX11_which_13 : decode cX11_which 13 = .ok (.getfield 35, 3) := by decide +kernel
theorem dX11_which_16 : decode cX11_which 16 = .ok (.invokevirtual 207, 3) := by decide +kernel
theorem dX11_which_19 : decode cX11_which 19 = .ok (.ireturn, 1) := by decide +kernel
theorem dX11_look_0 : decode cX11_look 0 = .ok (.iload_n 1, 1) := by decide +kernel
theorem dX11_look_1 : decode cX11_look 1 = .ok (.ifCond .lt 9, 3) := by decide +kernel
theorem dX11_look_4 : decode cX11_look 4 = .ok (.iload_n 1, 1) := by decide +kernel
theorem dX11_look_5 : decode cX11_look 5 = .ok (.bipush 12, 2) := by decide +kernel
theorem dX11_look_7 : decode cX11_look 7 = .ok (.if_icmp .le 7, 3) := by decide +kernel
theorem dX11_look_10 : decode cX11_look 10 = .ok (.iconst (-1), 1) := by decide +kernel
theorem dX11_look_11 : decode cX11_look 11 = .ok (.goto 23, 3) := by decide +kernel
theorem dX11_look_14 : decode cX11_look 14 = .ok (.aload_n 0, 1) := by decide +kernel
theorem dX11_look_15 : decode cX11_look 15 = .ok (.getfield 56, 3) := by decide +kernel
theorem dX11_look_18 : decode cX11_look 18 = .ok (.aload_n 0, 1) := by decide +kernel
theorem dX11_look_19 : decode cX11_look 19 = .ok (.getfield 63, 3) := by decide +kernel
theorem dX11_look_22 : decode cX11_look 22 = .ok (.aload_n 0, 1) := by decide +kernel
theorem dX11_look_23 : decode cX11_look 23 = .ok (.getfield 28, 3) := by decide +kernel
theorem dX11_look_26 : decode cX11_look 26 = .ok (.aload_n 0, 1) := by decide +kernel
theorem dX11_look_27 : decode cX11_look 27 = .ok (.getfield 35, 3) := by decide +kernel
theorem dX11_look_30 : decode cX11_look 30 = .ok (.iload_n 1, 1) := by decide +kernel
theorem dX11_look_31 : decode cX11_look 31 = .ok (.invokevirtual 211, 3) := by decide +kernel
theorem dX11_look_34 : decode cX11_look 34 = .ok (.ireturn, 1) := by decide +kernel
theorem dX11_chance_0 : decode cX11_chance 0 = .ok (.aload_n 0, 1) := by decide +kernel
theorem dX11_chance_1 : decode cX11_chance 1 = .ok (.iload_n 1, 1) := by decide +kernel
theorem dX11_chance_2 : decode cX11_chance 2 = .ok (.invokevirtual 102, 3) := by decide +kernel
theorem dX11_chance_5 : decode cX11_chance 5 = .ok (.ifCond .eq 24, 3) := by decide +kernel
theorem dX11_chance_8 : decode cX11_chance 8 = .ok (.iload_n 2, 1) := by decide +kernel
theorem dX11_chance_9 : decode cX11_chance 9 = .ok (.iconst 1, 1) := by decide +kernel
theorem dX11_chance_10 : decode cX11_chance 10 = .ok (.if_icmp .lt 19, 3) := by decide +kernel
theorem dX11_chance_13 : decode cX11_chance 13 = .ok (.iload_n 2, 1) := by decide +kernel
theorem dX11_chance_14 : decode cX11_chance 14 = .ok (.bipush 6, 2) := by decide +kernel
theorem dX11_chance_16 : decode cX11_chance 16 = .ok (.if_icmp .gt 13, 3) := by decide +kernel
theorem dX11_chance_19 : decode cX11_chance 19 = .ok (.iload_n 3, 1) := by decide +kernel
theorem dX11_chance_20 : decode cX11_chance 20 = .ok (.ifCond .lt 9, 3) := by decide +kernel
theorem dX11_chance_23 : decode cX11_chance 23 = .ok (.iload_n 3, 1) := by decide +kernel
theorem dX11_chance_24 : decode cX11_chance 24 = .ok (.bipush 10, 2) := by decide +kernel
theorem dX11_chance_26 : decode cX11_chance 26 = .ok (.if_icmp .le 5, 3) := by decide +kernel
theorem dX11_chance_29 : decode cX11_chance 29 = .ok (.iconst (-1), 1) := by decide +kernel
theorem dX11_chance_30 : decode cX11_chance 30 = .ok (.ireturn, 1) := by decide +kernel
theorem dX11_chance_31 : decode cX11_chance 31 = .ok (.aload_n 0, 1) := by decide +kernel
theorem dX11_chance_32 : decode cX11_chance 32 = .ok (.getfield 56, 3) := by decide +kernel
theorem dX11_chance_35 : decode cX11_chance 35 = .ok (.aload_n 0, 1) := by decide +kernel
theorem dX11_chance_36 : decode cX11_chance 36 = .ok (.getfield 63, 3) := by decide +kernel
theorem dX11_chance_39 : decode cX11_chance 39 = .ok (.aload_n 0, 1) := by decide +kernel
theorem dX11_chance_40 : decode cX11_chance 40 = .ok (.getfield 28, 3) := by decide +kernel
theorem dX11_chance_43 : decode cX11_chance 43 = .ok (.iload_n 1, 1) := by decide +kernel
theorem dX11_chance_44 : decode cX11_chance 44 = .ok (.iload_n 2, 1) := by decide +kernel
theorem dX11_chance_45 : decode cX11_chance 45 = .ok (.iload_n 3, 1) := by decide +kernel
theorem dX11_chance_46 : decode cX11_chance 46 = .ok (.invokevirtual 215, 3) := by decide +kernel
theorem dX11_chance_49 : decode cX11_chance 49 = .ok (.ireturn, 1) := by decide +kernel
theorem dX11_touch_0 : decode cX11_touch 0 = .ok (.aload_n 0, 1) := by decide +kernel
theorem dX11_touch_1 : decode cX11_touch 1 = .ok (.getfield 28, 3) := by decide +kernel
theorem dX11_touch_4 : decode cX11_touch 4 = .ok (.iload_n 1, 1) := by decide +kernel
theorem dX11_touch_5 : decode cX11_touch 5 = .ok (.invokevirtual 136, 3) := by decide +kernel
theorem dX11_touch_8 : decode cX11_touch 8 = .ok (.ifCond .eq 14, 3) := by decide +kernel
theorem dX11_touch_11 : decode cX11_touch 11 = .ok (.aload_n 0, 1) := by decide +kernel
theorem dX11_touch_12 : decode cX11_touch 12 = .ok (.getfield 28, 3) := by decide +kernel
theorem dX11_touch_15 : decode cX11_touch 15 = .ok (.iload_n 1, 1) := by decide +kernel
theorem dX11_touch_16 : decode cX11_touch 16 = .ok (.invokevirtual 219, 3) := by decide +kernel
theorem dX11_touch_19 : decode cX11_touch 19 = .ok (.goto 4, 3) := by decide +kernel
theorem dX11_touch_22 : decode cX11_touch 22 = .ok (.iconst (-1), 1) := by decide +kernel
theorem dX11_touch_23 : decode cX11_touch 23 = .ok (.ireturn, 1) := by decide +kernel
theorem dX11_hall_0 : decode cX11_hall 0 = .ok (.aload_n 0, 1) := by decide +kernel
theorem dX11_hall_1 : decode cX11_hall 1 = .ok (.getfield 28, 3) := by decide +kernel
theorem dX11_hall_4 : decode cX11_hall 4 = .ok (.iload_n 1, 1) := by decide +kernel
theorem dX11_hall_5 : decode cX11_hall 5 = .ok (.invokevirtual 136, 3) := by decide +kernel
theorem dX11_hall_8 : decode cX11_hall 8 = .ok (.ifCond .eq 14, 3) := by decide +kernel
theorem dX11_hall_11 : decode cX11_hall 11 = .ok (.aload_n 0, 1) := by decide +kernel
theorem dX11_hall_12 : decode cX11_hall 12 = .ok (.getfield 28, 3) := by decide +kernel
theorem dX11_hall_15 : decode cX11_hall 15 = .ok (.iload_n 1, 1) := by decide +kernel
theorem dX11_hall_16 : decode cX11_hall 16 = .ok (.invokevirtual 222, 3) := by decide +kernel
theorem dX11_hall_19 : decode cX11_hall 19 = .ok (.goto 4, 3) := by decide +kernel
theorem dX11_hall_22 : decode cX11_hall 22 = .ok (.iconst (-1), 1) := by decide +kernel
theorem dX11_hall_23 : decode cX11_hall 23 = .ok (.ireturn, 1) := by decide +kernel
theorem dX11_halls_0 : decode cX11_halls 0 = .ok (.iconst 0, 1) := by decide +kernel
theorem dX11_halls_1 : decode cX11_halls 1 = .ok (.istore_n 1, 1) := by decide +kernel
theorem dX11_halls_2 : decode cX11_halls 2 = .ok (.iconst 0, 1) := by decide +kernel
theorem dX11_halls_3 : decode cX11_halls 3 = .ok (.istore_n 2, 1) := by decide +kernel
theorem dX11_halls_4 : decode cX11_halls 4 = .ok (.iload_n 2, 1) := by decide +kernel
theorem dX11_halls_5 : decode cX11_halls 5 = .ok (.bipush 7, 2) := by decide +kernel
theorem dX11_halls_7 : decode cX11_halls 7 = .ok (.if_icmp .ge 40, 3) := by decide +kernel
theorem dX11_halls_10 : decode cX11_halls 10 = .ok (.aload_n 0, 1) := by decide +kernel
theorem dX11_halls_11 : decode cX11_halls 11 = .ok (.getfield 28, 3) := by decide +kernel
theorem dX11_halls_14 : decode cX11_halls 14 = .ok (.iload_n 2, 1) := by decide +kernel
theorem dX11_halls_15 : decode cX11_halls 15 = .ok (.invokevirtual 136, 3) := by decide +kernel
theorem dX11_halls_18 : decode cX11_halls 18 = .ok (.ifCond .eq 23, 3) := by decide +kernel
theorem dX11_halls_21 : decode cX11_halls 21 = .ok (.aload_n 0, 1) := by decide +kernel
theorem dX11_halls_22 : decode cX11_halls 22 = .ok (.getfield 28, 3) := by decide +kernel
theorem dX11_halls_25 : decode cX11_halls 25 = .ok (.iload_n 2, 1) := by decide +kernel
theorem dX11_halls_26 : decode cX11_halls 26 = .ok (.invokevirtual 222, 3) := by decide +kernel
theorem dX11_halls_29 : decode cX11_halls 29 = .ok (.iconst 1, 1) := by decide +kernel
theorem dX11_halls_30 : decode cX11_halls 30 = .ok (.iload_n 2, 1) := by decide +kernel
theorem dX11_halls_31 : decode cX11_halls 31 = .ok (.ishl, 1) := by decide +kernel
theorem dX11_halls_32 : decode cX11_halls 32 = .ok (.iconst 1, 1) := by decide +kernel
theorem dX11_halls_33 : decode cX11_halls 33 = .ok (.isub, 1) := by decide +kernel
theorem dX11_halls_34 : decode cX11_halls 34 = .ok (.iand, 1) := by decide +kernel
theorem dX11_halls_35 : decode cX11_halls 35 = .ok (.ifCond .ne 6, 3) := by decide +kernel
theorem dX11_halls_38 : decode cX11_halls 38 = .ok (.iinc 1 1, 3) := by decide +kernel
theorem dX11_halls_41 : decode cX11_halls 41 = .ok (.iinc 2 1, 3) := by decide +kernel
theorem dX11_halls_44 : decode cX11_halls 44 = .ok (.goto (-40), 3) := by decide +kernel
theorem dX11_halls_47 : decode cX11_halls 47 = .ok (.iload_n 1, 1) := by decide +kernel
theorem dX11_halls_48 : decode cX11_halls 48 = .ok (.ireturn, 1) := by decide +kernel
theorem dX11_tower_0 : decode cX11_tower 0 = .ok (.iconst 0, 1) := by decide +kernel
theorem dX11_tower_1 : decode cX11_tower 1 = .ok (.istore_n 1, 1) := by decide +kernel
theorem dX11_tower_2 : decode cX11_tower 2 = .ok (.iconst 0, 1) := by decide +kernel
theorem dX11_tower_3 : decode cX11_tower 3 = .ok (.istore_n 2, 1) := by decide +kernel
theorem dX11_tower_4 : decode cX11_tower 4 = .ok (.iload_n 2, 1) := by decide +kernel
theorem dX11_tower_5 : decode cX11_tower 5 = .ok (.iconst 4, 1) := by decide +kernel
theorem dX11_tower_6 : decode cX11_tower 6 = .ok (.if_icmp .ge 22, 3) := by decide +kernel
theorem dX11_tower_9 : decode cX11_tower 9 = .ok (.iload_n 1, 1) := by decide +kernel
theorem dX11_tower_10 : decode cX11_tower 10 = .ok (.aload_n 0, 1) := by decide +kernel
theorem dX11_tower_11 : decode cX11_tower 11 = .ok (.getfield 28, 3) := by decide +kernel
theorem dX11_tower_14 : decode cX11_tower 14 = .ok (.iload_n 2, 1) := by decide +kernel
theorem dX11_tower_15 : decode cX11_tower 15 = .ok (.invokevirtual 225, 3) := by decide +kernel
theorem dX11_tower_18 : decode cX11_tower 18 = .ok (.invokestatic 228, 3) := by decide +kernel
theorem dX11_tower_21 : decode cX11_tower 21 = .ok (.istore_n 1, 1) := by decide +kernel
theorem dX11_tower_22 : decode cX11_tower 22 = .ok (.iinc 2 1, 3) := by decide +kernel
theorem dX11_tower_25 : decode cX11_tower 25 = .ok (.goto (-21), 3) := by decide +kernel
theorem dX11_tower_28 : decode cX11_tower 28 = .ok (.iload_n 1, 1) := by decide +kernel
theorem dX11_tower_29 : decode cX11_tower 29 = .ok (.ireturn, 1) := by decide +kernel
theorem dX11_alight_0 : decode cX11_alight 0 = .ok (.iload_n 1, 1) := by decide +kernel
theorem dX11_alight_1 : decode cX11_alight 1 = .ok (.invokestatic 234, 3) := by decide +kernel
theorem dX11_alight_4 : decode cX11_alight 4 = .ok (.ifCond .eq 29, 3) := by decide +kernel
theorem dX11_alight_7 : decode cX11_alight 7 = .ok (.aload_n 0, 1) := by decide +kernel
theorem dX11_alight_8 : decode cX11_alight 8 = .ok (.getfield 49, 3) := by decide +kernel
theorem dX11_alight_11 : decode cX11_alight 11 = .ok (.aload_n 0, 1) := by decide +kernel
theorem dX11_alight_12 : decode cX11_alight 12 = .ok (.getfield 63, 3) := by decide +kernel
theorem dX11_alight_15 : decode cX11_alight 15 = .ok (.aload_n 0, 1) := by decide +kernel
theorem dX11_alight_16 : decode cX11_alight 16 = .ok (.getfield 28, 3) := by decide +kernel
theorem dX11_alight_19 : decode cX11_alight 19 = .ok (.iload_n 1, 1) := by decide +kernel
theorem dX11_alight_20 : decode cX11_alight 20 = .ok (.invokevirtual 237, 3) := by decide +kernel
theorem dX11_alight_23 : decode cX11_alight 23 = .ok (.aload_n 0, 1) := by decide +kernel
theorem dX11_alight_24 : decode cX11_alight 24 = .ok (.getfield 63, 3) := by decide +kernel
theorem dX11_alight_27 : decode cX11_alight 27 = .ok (.invokevirtual 119, 3) := by decide +kernel
theorem dX11_alight_30 : decode cX11_alight 30 = .ok (.goto 4, 3) := by decide +kernel
theorem dX11_alight_33 : decode cX11_alight 33 = .ok (.iconst (-1), 1) := by decide +kernel
theorem dX11_alight_34 : decode cX11_alight 34 = .ok (.ireturn, 1) := by decide +kernel
theorem dX11_caught_0 : decode cX11_caught 0 = .ok (.aload_n 0, 1) := by decide +kernel
theorem dX11_caught_1 : decode cX11_caught 1 = .ok (.iload_n 1, 1) := by decide +kernel
theorem dX11_caught_2 : decode cX11_caught 2 = .ok (.invokevirtual 102, 3) := by decide +kernel
theorem dX11_caught_5 : decode cX11_caught 5 = .ok (.ifCond .ne 5, 3) := by decide +kernel
theorem dX11_caught_8 : decode cX11_caught 8 = .ok (.iconst (-1), 1) := by decide +kernel
theorem dX11_caught_9 : decode cX11_caught 9 = .ok (.ireturn, 1) := by decide +kernel
theorem dX11_caught_10 : decode cX11_caught 10 = .ok (.aload_n 0, 1) := by decide +kernel
theorem dX11_caught_11 : decode cX11_caught 11 = .ok (.getfield 49, 3) := by decide +kernel
theorem dX11_caught_14 : decode cX11_caught 14 = .ok (.aload_n 0, 1) := by decide +kernel
theorem dX11_caught_15 : decode cX11_caught 15 = .ok (.getfield 63, 3) := by decide +kernel
theorem dX11_caught_18 : decode cX11_caught 18 = .ok (.aload_n 0, 1) := by decide +kernel
theorem dX11_caught_19 : decode cX11_caught 19 = .ok (.getfield 28, 3) := by decide +kernel
theorem dX11_caught_22 : decode cX11_caught 22 = .ok (.invokevirtual 165, 3) := by decide +kernel
theorem dX11_caught_25 : decode cX11_caught 25 = .ok (.aload_n 0, 1) := by decide +kernel
theorem dX11_caught_26 : decode cX11_caught 26 = .ok (.getfield 49, 3) := by decide +kernel
theorem dX11_caught_29 : decode cX11_caught 29 = .ok (.iload_n 1, 1) := by decide +kernel
theorem dX11_caught_30 : decode cX11_caught 30 = .ok (.invokevirtual 241, 3) := by decide +kernel
theorem dX11_caught_33 : decode cX11_caught 33 = .ok (.ireturn, 1) := by decide +kernel
theorem dX11_ash_0 : decode cX11_ash 0 = .ok (.iload_n 1, 1) := by decide +kernel
theorem dX11_ash_1 : decode cX11_ash 1 = .ok (.invokestatic 234, 3) := by decide +kernel
theorem dX11_ash_4 : decode cX11_ash 4 = .ok (.ifCond .eq 29, 3) := by decide +kernel
theorem dX11_ash_7 : decode cX11_ash 7 = .ok (.aload_n 0, 1) := by decide +kernel
theorem dX11_ash_8 : decode cX11_ash 8 = .ok (.getfield 49, 3) := by decide +kernel
theorem dX11_ash_11 : decode cX11_ash 11 = .ok (.aload_n 0, 1) := by decide +kernel
theorem dX11_ash_12 : decode cX11_ash 12 = .ok (.getfield 63, 3) := by decide +kernel
theorem dX11_ash_15 : decode cX11_ash 15 = .ok (.aload_n 0, 1) := by decide +kernel
theorem dX11_ash_16 : decode cX11_ash 16 = .ok (.getfield 28, 3) := by decide +kernel
theorem dX11_ash_19 : decode cX11_ash 19 = .ok (.iload_n 1, 1) := by decide +kernel
theorem dX11_ash_20 : decode cX11_ash 20 = .ok (.invokevirtual 237, 3) := by decide +kernel
theorem dX11_ash_23 : decode cX11_ash 23 = .ok (.aload_n 0, 1) := by decide +kernel
theorem dX11_ash_24 : decode cX11_ash 24 = .ok (.getfield 63, 3) := by decide +kernel
theorem dX11_ash_27 : decode cX11_ash 27 = .ok (.invokevirtual 244, 3) := by decide +kernel
theorem dX11_ash_30 : decode cX11_ash 30 = .ok (.goto 4, 3) := by decide +kernel
theorem dX11_ash_33 : decode cX11_ash 33 = .ok (.iconst (-1), 1) := by decide +kernel
theorem dX11_ash_34 : decode cX11_ash 34 = .ok (.ireturn, 1) := by decide +kernel
theorem dX11_falls_0 : decode cX11_falls 0 = .ok (.aload_n 0, 1) := by decide +kernel
theorem dX11_falls_1 : decode cX11_falls 1 = .ok (.getfield 49, 3) := by decide +kernel
theorem dX11_falls_4 : decode cX11_falls 4 = .ok (.aload_n 0, 1) := by decide +kernel
theorem dX11_falls_5 : decode cX11_falls 5 = .ok (.getfield 63, 3) := by decide +kernel
theorem dX11_falls_8 : decode cX11_falls 8 = .ok (.aload_n 0, 1) := by decide +kernel
theorem dX11_falls_9 : decode cX11_falls 9 = .ok (.getfield 28, 3) := by decide +kernel
theorem dX11_falls_12 : decode cX11_falls 12 = .ok (.invokevirtual 247, 3) := by decide +kernel
theorem dX11_falls_15 : decode cX11_falls 15 = .ok (.ireturn, 1) := by decide +kernel
theorem dX11_spare_0 : decode cX11_spare 0 = .ok (.aload_n 0, 1) := by decide +kernel
theorem dX11_spare_1 : decode cX11_spare 1 = .ok (.getfield 28, 3) := by decide +kernel
theorem dX11_spare_4 : decode cX11_spare 4 = .ok (.iload_n 1, 1) := by decide +kernel
theorem dX11_spare_5 : decode cX11_spare 5 = .ok (.invokevirtual 136, 3) := by decide +kernel
theorem dX11_spare_8 : decode cX11_spare 8 = .ok (.ifCond .eq 22, 3) := by decide +kernel
theorem dX11_spare_11 : decode cX11_spare 11 = .ok (.aload_n 0, 1) := by decide +kernel
theorem dX11_spare_12 : decode cX11_spare 12 = .ok (.getfield 49, 3) := by decide +kernel
theorem dX11_spare_15 : decode cX11_spare 15 = .ok (.aload_n 0, 1) := by decide +kernel
theorem dX11_spare_16 : decode cX11_spare 16 = .ok (.getfield 63, 3) := by decide +kernel
theorem dX11_spare_19 : decode cX11_spare 19 = .ok (.aload_n 0, 1) := by decide +kernel
theorem dX11_spare_20 : decode cX11_spare 20 = .ok (.getfield 28, 3) := by decide +kernel
theorem dX11_spare_23 : decode cX11_spare 23 = .ok (.iload_n 1, 1) := by decide +kernel
theorem dX11_spare_24 : decode cX11_spare 24 = .ok (.invokevirtual 250, 3) := by decide +kernel
theorem dX11_spare_27 : decode cX11_spare 27 = .ok (.goto 6, 3) := by decide +kernel
theorem dX11_spare_30 : decode cX11_spare 30 = .ok (.sipush (-1000), 3) := by decide +kernel
theorem dX11_spare_33 : decode cX11_spare 33 = .ok (.ireturn, 1) := by decide +kernel
theorem dX11_lone_0 : decode cX11_lone 0 = .ok (.iconst 0, 1) := by decide +kernel
theorem dX11_lone_1 : decode cX11_lone 1 = .ok (.istore_n 1, 1) := by decide +kernel
theorem dX11_lone_2 : decode cX11_lone 2 = .ok (.iconst 0, 1) := by decide +kernel
theorem dX11_lone_3 : decode cX11_lone 3 = .ok (.istore_n 2, 1) := by decide +kernel
theorem dX11_lone_4 : decode cX11_lone 4 = .ok (.iload_n 2, 1) := by decide +kernel
theorem dX11_lone_5 : decode cX11_lone 5 = .ok (.bipush 7, 2) := by decide +kernel
theorem dX11_lone_7 : decode cX11_lone 7 = .ok (.if_icmp .ge 37, 3) := by decide +kernel
theorem dX11_lone_10 : decode cX11_lone 10 = .ok (.aload_n 0, 1) := by decide +kernel
theorem dX11_lone_11 : decode cX11_lone 11 = .ok (.getfield 28, 3) := by decide +kernel
theorem dX11_lone_14 : decode cX11_lone 14 = .ok (.iload_n 2, 1) := by decide +kernel
theorem dX11_lone_15 : decode cX11_lone 15 = .ok (.invokevirtual 136, 3) := by decide +kernel
theorem dX11_lone_18 : decode cX11_lone 18 = .ok (.ifCond .eq 20, 3) := by decide +kernel
theorem dX11_lone_21 : decode cX11_lone 21 = .ok (.aload_n 0, 1) := by decide +kernel
theorem dX11_lone_22 : decode cX11_lone 22 = .ok (.getfield 28, 3) := by decide +kernel
theorem dX11_lone_25 : decode cX11_lone 25 = .ok (.iload_n 2, 1) := by decide +kernel
theorem dX11_lone_26 : decode cX11_lone 26 = .ok (.invokevirtual 219, 3) := by decide +kernel
theorem dX11_lone_29 : decode cX11_lone 29 = .ok (.ifCond .ne 9, 3) := by decide +kernel
theorem dX11_lone_32 : decode cX11_lone 32 = .ok (.iload_n 1, 1) := by decide +kernel
theorem dX11_lone_33 : decode cX11_lone 33 = .ok (.iconst 1, 1) := by decide +kernel
theorem dX11_lone_34 : decode cX11_lone 34 = .ok (.iload_n 2, 1) := by decide +kernel
theorem dX11_lone_35 : decode cX11_lone 35 = .ok (.ishl, 1) := by decide +kernel
theorem dX11_lone_36 : decode cX11_lone 36 = .ok (.ior, 1) := by decide +kernel
theorem dX11_lone_37 : decode cX11_lone 37 = .ok (.istore_n 1, 1) := by decide +kernel
theorem dX11_lone_38 : decode cX11_lone 38 = .ok (.iinc 2 1, 3) := by decide +kernel
theorem dX11_lone_41 : decode cX11_lone 41 = .ok (.goto (-37), 3) := by decide +kernel
theorem dX11_lone_44 : decode cX11_lone 44 = .ok (.iload_n 1, 1) := by decide +kernel
theorem dX11_lone_45 : decode cX11_lone 45 = .ok (.ireturn, 1) := by decide +kernel
theorem dX11_warmest_0 : decode cX11_warmest 0 = .ok (.iconst (-1), 1) := by decide +kernel
theorem dX11_warmest_1 : decode cX11_warmest 1 = .ok (.istore_n 1, 1) := by decide +kernel
theorem dX11_warmest_2 : decode cX11_warmest 2 = .ok (.iconst 0, 1) := by decide +kernel
theorem dX11_warmest_3 : decode cX11_warmest 3 = .ok (.istore_n 2, 1) := by decide +kernel
theorem dX11_warmest_4 : decode cX11_warmest 4 = .ok (.iconst 0, 1) := by decide +kernel
theorem dX11_warmest_5 : decode cX11_warmest 5 = .ok (.istore_n 3, 1) := by decide +kernel
theorem dX11_warmest_6 : decode cX11_warmest 6 = .ok (.iload_n 3, 1) := by decide +kernel
theorem dX11_warmest_7 : decode cX11_warmest 7 = .ok (.bipush 12, 2) := by decide +kernel
theorem dX11_warmest_9 : decode cX11_warmest 9 = .ok (.if_icmp .ge 45, 3) := by decide +kernel
theorem dX11_warmest_12 : decode cX11_warmest 12 = .ok (.aload_n 0, 1) := by decide +kernel
theorem dX11_warmest_13 : decode cX11_warmest 13 = .ok (.getfield 28, 3) := by decide +kernel
theorem dX11_warmest_16 : decode cX11_warmest 16 = .ok (.iload_n 3, 1) := by decide +kernel
theorem dX11_warmest_17 : decode cX11_warmest 17 = .ok (.invokevirtual 143, 3) := by decide +kernel
theorem dX11_warmest_20 : decode cX11_warmest 20 = .ok (.ifCond .eq 14, 3) := by decide +kernel
theorem dX11_warmest_23 : decode cX11_warmest 23 = .ok (.aload_n 0, 1) := by decide +kernel
theorem dX11_warmest_24 : decode cX11_warmest 24 = .ok (.getfield 28, 3) := by decide +kernel
theorem dX11_warmest_27 : decode cX11_warmest 27 = .ok (.iload_n 3, 1) := by decide +kernel
theorem dX11_warmest_28 : decode cX11_warmest 28 = .ok (.invokevirtual 253, 3) := by decide +kernel
theorem dX11_warmest_31 : decode cX11_warmest 31 = .ok (.goto 4, 3) := by decide +kernel
theorem dX11_warmest_34 : decode cX11_warmest 34 = .ok (.iconst 0, 1) := by decide +kernel
theorem dX11_warmest_35 : decode cX11_warmest 35 = .ok (.istore 4, 2) := by decide +kernel
theorem dX11_warmest_37 : decode cX11_warmest 37 = .ok (.iload 4, 2) := by decide +kernel
theorem dX11_warmest_39 : decode cX11_warmest 39 = .ok (.iload_n 2, 1) := by decide +kernel
theorem dX11_warmest_40 : decode cX11_warmest 40 = .ok (.if_icmp .le 8, 3) := by decide +kernel
theorem dX11_warmest_43 : decode cX11_warmest 43 = .ok (.iload 4, 2) := by decide +kernel
theorem dX11_warmest_45 : decode cX11_warmest 45 = .ok (.istore_n 2, 1) := by decide +kernel
theorem dX11_warmest_46 : decode cX11_warmest 46 = .ok (.iload_n 3, 1) := by decide +kernel
theorem dX11_warmest_47 : decode cX11_warmest 47 = .ok (.istore_n 1, 1) := by decide +kernel
theorem dX11_warmest_48 : decode cX11_warmest 48 = .ok (.iinc 3 1, 3) := by decide +kernel
theorem dX11_warmest_51 : decode cX11_warmest 51 = .ok (.goto (-45), 3) := by decide +kernel
theorem dX11_warmest_54 : decode cX11_warmest 54 = .ok (.iload_n 1, 1) := by decide +kernel
theorem dX11_warmest_55 : decode cX11_warmest 55 = .ok (.ireturn, 1) := by decide +kernel
theorem dX11_rests_0 : decode cX11_rests 0 = .ok (.iload_n 1, 1) := by decide +kernel
theorem dX11_rests_1 : decode cX11_rests 1 = .ok (.invokestatic 256, 3) := by decide +kernel
theorem dX11_rests_4 : decode cX11_rests 4 = .ok (.ifCond .eq 17, 3) := by decide +kernel
theorem dX11_rests_7 : decode cX11_rests 7 = .ok (.iload_n 2, 1) := by decide +kernel
theorem dX11_rests_8 : decode cX11_rests 8 = .ok (.invokestatic 256, 3) := by decide +kernel
theorem dX11_rests_11 : decode cX11_rests 11 = .ok (.ifCond .eq 10, 3) := by decide +kernel
theorem dX11_rests_14 : decode cX11_rests 14 = .ok (.iload_n 3, 1) := by decide +kernel
theorem dX11_rests_15 : decode cX11_rests 15 = .ok (.invokestatic 256, 3) := by decide +kernel
theorem dX11_rests_18 : decode cX11_rests 18 = .ok (.ifCond .ne 11, 3) := by decide +kernel
theorem dX11_rests_21 : decode cX11_rests 21 = .ok (.new 259, 3) := by decide +kernel
theorem dX11_rests_24 : decode cX11_rests 24 = .ok (.dup, 1) := by decide +kernel
theorem dX11_rests_25 : decode cX11_rests 25 = .ok (.invokespecial 261, 3) := by decide +kernel
theorem dX11_rests_28 : decode cX11_rests 28 = .ok (.athrow, 1) := by decide +kernel
theorem dX11_rests_29 : decode cX11_rests 29 = .ok (.iconst 0, 1) := by decide +kernel
theorem dX11_rests_30 : decode cX11_rests 30 = .ok (.istore 5, 2) := by decide +kernel
theorem dX11_rests_32 : decode cX11_rests 32 = .ok (.iconst 0, 1) := by decide +kernel
theorem dX11_rests_33 : decode cX11_rests 33 = .ok (.istore 6, 2) := by decide +kernel
theorem dX11_rests_35 : decode cX11_rests 35 = .ok (.iload 6, 2) := by decide +kernel
theorem dX11_rests_37 : decode cX11_rests 37 = .ok (.iconst 4, 1) := by decide +kernel
theorem dX11_rests_38 : decode cX11_rests 38 = .ok (.if_icmp .ge 36, 3) := by decide +kernel
theorem dX11_rests_41 : decode cX11_rests 41 = .ok (.iload_n 1, 1) := by decide +kernel
theorem dX11_rests_42 : decode cX11_rests 42 = .ok (.iload_n 2, 1) := by decide +kernel
theorem dX11_rests_43 : decode cX11_rests 43 = .ok (.iload_n 3, 1) := by decide +kernel
theorem dX11_rests_44 : decode cX11_rests 44 = .ok (.iload 6, 2) := by decide +kernel
theorem dX11_rests_46 : decode cX11_rests 46 = .ok (.invokestatic 262, 3) := by decide +kernel
theorem dX11_rests_49 : decode cX11_rests 49 = .ok (.ifCond .ne 6, 3) := by decide +kernel
theorem dX11_rests_52 : decode cX11_rests 52 = .ok (.goto 16, 3) := by decide +kernel
theorem dX11_rests_55 : decode cX11_rests 55 = .ok (.iload 5, 2) := by decide +kernel
theorem dX11_rests_57 : decode cX11_rests 57 = .ok (.iload 4, 2) := by decide +kernel
theorem dX11_rests_59 : decode cX11_rests 59 = .ok (.if_icmp .ne 6, 3) := by decide +kernel
theorem dX11_rests_62 : decode cX11_rests 62 = .ok (.iload 6, 2) := by decide +kernel
theorem dX11_rests_64 : decode cX11_rests 64 = .ok (.ireturn, 1) := by decide +kernel
theorem dX11_rests_65 : decode cX11_rests 65 = .ok (.iinc 5 1, 3) := by decide +kernel
theorem dX11_rests_68 : decode cX11_rests 68 = .ok (.iinc 6 1, 3) := by decide +kernel
theorem dX11_rests_71 : decode cX11_rests 71 = .ok (.goto (-36), 3) := by decide +kernel
theorem dX11_rests_74 : decode cX11_rests 74 = .ok (.iload 4, 2) := by decide +kernel
theorem dX11_rests_76 : decode cX11_rests 76 = .ok (.iconst (-1), 1) := by decide +kernel
theorem dX11_rests_77 : decode cX11_rests 77 = .ok (.if_icmp .eq 11, 3) := by decide +kernel
theorem dX11_rests_80 : decode cX11_rests 80 = .ok (.new 259, 3) := by decide +kernel
theorem dX11_rests_83 : decode cX11_rests 83 = .ok (.dup, 1) := by decide +kernel
theorem dX11_rests_84 : decode cX11_rests 84 = .ok (.invokespecial 261, 3) := by decide +kernel
theorem dX11_rests_87 : decode cX11_rests 87 = .ok (.athrow, 1) := by decide +kernel
theorem dX11_rests_88 : decode cX11_rests 88 = .ok (.iload 5, 2) := by decide +kernel
theorem dX11_rests_90 : decode cX11_rests 90 = .ok (.ireturn, 1) := by decide +kernel
theorem dX11_winters_0 : decode cX11_winters 0 = .ok (.iload_n 1, 1) := by decide +kernel
theorem dX11_winters_1 : decode cX11_winters 1 = .ok (.ifCond .lt 30, 3) := by decide +kernel
theorem dX11_winters_4 : decode cX11_winters 4 = .ok (.iload_n 1, 1) := by decide +kernel
theorem dX11_winters_5 : decode cX11_winters 5 = .ok (.sipush 9999, 3) := by decide +kernel
theorem dX11_winters_8 : decode cX11_winters 8 = .ok (.if_icmp .gt 23, 3) := by decide +kernel
theorem dX11_winters_11 : decode cX11_winters 11 = .ok (.iload_n 2, 1) := by decide +kernel
theorem dX11_winters_12 : decode cX11_winters 12 = .ok (.iconst 1, 1) := by decide +kernel
theorem dX11_winters_13 : decode cX11_winters 13 = .ok (.if_icmp .lt 18, 3) := by decide +kernel
theorem dX11_winters_16 : decode cX11_winters 16 = .ok (.iload_n 2, 1) := by decide +kernel
theorem dX11_winters_17 : decode cX11_winters 17 = .ok (.bipush 99, 2) := by decide +kernel
theorem dX11_winters_19 : decode cX11_winters 19 = .ok (.if_icmp .gt 12, 3) := by decide +kernel
theorem dX11_winters_22 : decode cX11_winters 22 = .ok (.iload_n 3, 1) := by decide +kernel
theorem dX11_winters_23 : decode cX11_winters 23 = .ok (.ifCond .lt 8, 3) := by decide +kernel
theorem dX11_winters_26 : decode cX11_winters 26 = .ok (.iload_n 3, 1) := by decide +kernel
theorem dX11_winters_27 : decode cX11_winters 27 = .ok (.iconst 2, 1) := by decide +kernel
theorem dX11_winters_28 : decode cX11_winters 28 = .ok (.if_icmp .le 5, 3) := by decide +kernel
theorem dX11_winters_31 : decode cX11_winters 31 = .ok (.iconst (-1), 1) := by decide +kernel
theorem dX11_winters_32 : decode cX11_winters 32 = .ok (.ireturn, 1) := by decide +kernel
theorem dX11_winters_33 : decode cX11_winters 33 = .ok (.aload_n 0, 1) := by decide +kernel
theorem dX11_winters_34 : decode cX11_winters 34 = .ok (.getfield 49, 3) := by decide +kernel
theorem dX11_winters_37 : decode cX11_winters 37 = .ok (.aload_n 0, 1) := by decide +kernel
theorem dX11_winters_38 : decode cX11_winters 38 = .ok (.getfield 63, 3) := by decide +kernel
theorem dX11_winters_41 : decode cX11_winters 41 = .ok (.aload_n 0, 1) := by decide +kernel
theorem dX11_winters_42 : decode cX11_winters 42 = .ok (.getfield 28, 3) := by decide +kernel
theorem dX11_winters_45 : decode cX11_winters 45 = .ok (.iload_n 1, 1) := by decide +kernel
theorem dX11_winters_46 : decode cX11_winters 46 = .ok (.iload_n 2, 1) := by decide +kernel
theorem dX11_winters_47 : decode cX11_winters 47 = .ok (.iload_n 3, 1) := by decide +kernel
theorem dX11_winters_48 : decode cX11_winters 48 = .ok (.invokevirtual 266, 3) := by decide +kernel
theorem dX11_winters_51 : decode cX11_winters 51 = .ok (.ireturn, 1) := by decide +kernel
theorem dX11_mark_0 : decode cX11_mark 0 = .ok (.iload_n 2, 1) := by decide +kernel
theorem dX11_mark_1 : decode cX11_mark 1 = .ok (.ifCond .eq 22, 3) := by decide +kernel
theorem dX11_mark_4 : decode cX11_mark 4 = .ok (.aload_n 0, 1) := by decide +kernel
theorem dX11_mark_5 : decode cX11_mark 5 = .ok (.getfield 42, 3) := by decide +kernel
theorem dX11_mark_8 : decode cX11_mark 8 = .ok (.iload_n 1, 1) := by decide +kernel
theorem dX11_mark_9 : decode cX11_mark 9 = .ok (.aload_n 0, 1) := by decide +kernel
theorem dX11_mark_10 : decode cX11_mark 10 = .ok (.getfield 28, 3) := by decide +kernel
theorem dX11_mark_13 : decode cX11_mark 13 = .ok (.aload_n 0, 1) := by decide +kernel
theorem dX11_mark_14 : decode cX11_mark 14 = .ok (.getfield 35, 3) := by decide +kernel
theorem dX11_mark_17 : decode cX11_mark 17 = .ok (.invokevirtual 269, 3) := by decide +kernel
theorem dX11_mark_20 : decode cX11_mark 20 = .ok (.goto 19, 3) := by decide +kernel
theorem dX11_mark_23 : decode cX11_mark 23 = .ok (.aload_n 0, 1) := by decide +kernel
theorem dX11_mark_24 : decode cX11_mark 24 = .ok (.getfield 42, 3) := by decide +kernel
theorem dX11_mark_27 : decode cX11_mark 27 = .ok (.iload_n 1, 1) := by decide +kernel
theorem dX11_mark_28 : decode cX11_mark 28 = .ok (.aload_n 0, 1) := by decide +kernel
theorem dX11_mark_29 : decode cX11_mark 29 = .ok (.getfield 28, 3) := by decide +kernel
theorem dX11_mark_32 : decode cX11_mark 32 = .ok (.aload_n 0, 1) := by decide +kernel
theorem dX11_mark_33 : decode cX11_mark 33 = .ok (.getfield 35, 3) := by decide +kernel
theorem dX11_mark_36 : decode cX11_mark 36 = .ok (.invokevirtual 273, 3) := by decide +kernel
theorem dX11_mark_39 : decode cX11_mark 39 = .ok (.ireturn, 1) := by decide +kernel
theorem dX11_count_0 : decode cX11_count 0 = .ok (.iload_n 1, 1) := by decide +kernel
theorem dX11_count_1 : decode cX11_count 1 = .ok (.tableswitch 178 0 11 #[63, 71, 79, 87, 102, 118, 126, 134, 146, 154, 162, 170], 63) := by decide +kernel
theorem dX11_count_64 : decode cX11_count 64 = .ok (.aload_n 0, 1) := by decide +kernel
theorem dX11_count_65 : decode cX11_count 65 = .ok (.getfield 63, 3) := by decide +kernel
theorem dX11_count_68 : decode cX11_count 68 = .ok (.getfield 276, 3) := by decide +kernel
theorem dX11_count_71 : decode cX11_count 71 = .ok (.ireturn, 1) := by decide +kernel
theorem dX11_count_72 : decode cX11_count 72 = .ok (.aload_n 0, 1) := by decide +kernel
theorem dX11_count_73 : decode cX11_count 73 = .ok (.getfield 63, 3) := by decide +kernel
theorem dX11_count_76 : decode cX11_count 76 = .ok (.getfield 279, 3) := by decide +kernel
theorem dX11_count_79 : decode cX11_count 79 = .ok (.ireturn, 1) := by decide +kernel
theorem dX11_count_80 : decode cX11_count 80 = .ok (.aload_n 0, 1) := by decide +kernel
theorem dX11_count_81 : decode cX11_count 81 = .ok (.getfield 28, 3) := by decide +kernel
theorem dX11_count_84 : decode cX11_count 84 = .ok (.getfield 282, 3) := by decide +kernel
theorem dX11_count_87 : decode cX11_count 87 = .ok (.ireturn, 1) := by decide +kernel
theorem dX11_count_88 : decode cX11_count 88 = .ok (.aload_n 0, 1) := by decide +kernel
theorem dX11_count_89 : decode cX11_count 89 = .ok (.getfield 63, 3) := by decide +kernel
theorem dX11_count_92 : decode cX11_count 92 = .ok (.aload_n 0, 1) := by decide +kernel
theorem dX11_count_93 : decode cX11_count 93 = .ok (.getfield 28, 3) := by decide +kernel
theorem dX11_count_96 : decode cX11_count 96 = .ok (.getfield 282, 3) := by decide +kernel
theorem dX11_count_99 : decode cX11_count 99 = .ok (.invokevirtual 285, 3) := by decide +kernel
theorem dX11_count_102 : decode cX11_count 102 = .ok (.ireturn, 1) := by decide +kernel
theorem dX11_count_103 : decode cX11_count 103 = .ok (.aload_n 0, 1) := by decide +kernel
theorem dX11_count_104 : decode cX11_count 104 = .ok (.getfield 28, 3) := by decide +kernel
theorem dX11_count_107 : decode cX11_count 107 = .ok (.getfield 153, 3) := by decide +kernel
theorem dX11_count_110 : decode cX11_count 110 = .ok (.ifCond .eq 7, 3) := by decide +kernel
theorem dX11_count_113 : decode cX11_count 113 = .ok (.iconst 1, 1) := by decide +kernel
theorem dX11_count_114 : decode cX11_count 114 = .ok (.goto 4, 3) := by decide +kernel
theorem dX11_count_117 : decode cX11_count 117 = .ok (.iconst 0, 1) := by decide +kernel
theorem dX11_count_118 : decode cX11_count 118 = .ok (.ireturn, 1) := by decide +kernel
theorem dX11_count_119 : decode cX11_count 119 = .ok (.aload_n 0, 1) := by decide +kernel
theorem dX11_count_120 : decode cX11_count 120 = .ok (.getfield 28, 3) := by decide +kernel
theorem dX11_count_123 : decode cX11_count 123 = .ok (.invokevirtual 183, 3) := by decide +kernel
theorem dX11_count_126 : decode cX11_count 126 = .ok (.ireturn, 1) := by decide +kernel
theorem dX11_count_127 : decode cX11_count 127 = .ok (.aload_n 0, 1) := by decide +kernel
theorem dX11_count_128 : decode cX11_count 128 = .ok (.getfield 28, 3) := by decide +kernel
theorem dX11_count_131 : decode cX11_count 131 = .ok (.invokevirtual 288, 3) := by decide +kernel
theorem dX11_count_134 : decode cX11_count 134 = .ok (.ireturn, 1) := by decide +kernel
theorem dX11_count_135 : decode cX11_count 135 = .ok (.aload_n 0, 1) := by decide +kernel
theorem dX11_count_136 : decode cX11_count 136 = .ok (.getfield 28, 3) := by decide +kernel
theorem dX11_count_139 : decode cX11_count 139 = .ok (.aload_n 0, 1) := by decide +kernel
theorem dX11_count_140 : decode cX11_count 140 = .ok (.getfield 63, 3) := by decide +kernel
theorem dX11_count_143 : decode cX11_count 143 = .ok (.invokevirtual 244, 3) := by decide +kernel
theorem dX11_count_146 : decode cX11_count 146 = .ok (.ireturn, 1) := by decide +kernel
theorem dX11_count_147 : decode cX11_count 147 = .ok (.aload_n 0, 1) := by decide +kernel
theorem dX11_count_148 : decode cX11_count 148 = .ok (.getfield 73, 3) := by decide +kernel
theorem dX11_count_151 : decode cX11_count 151 = .ok (.getfield 291, 3) := by decide +kernel
theorem dX11_count_154 : decode cX11_count 154 = .ok (.ireturn, 1) := by decide +kernel
theorem dX11_count_155 : decode cX11_count 155 = .ok (.aload_n 0, 1) := by decide +kernel
theorem dX11_count_156 : decode cX11_count 156 = .ok (.getfield 35, 3) := by decide +kernel
theorem dX11_count_159 : decode cX11_count 159 = .ok (.getfield 294, 3) := by decide +kernel
theorem dX11_count_162 : decode cX11_count 162 = .ok (.ireturn, 1) := by decide +kernel
theorem dX11_count_163 : decode cX11_count 163 = .ok (.aload_n 0, 1) := by decide +kernel
theorem dX11_count_164 : decode cX11_count 164 = .ok (.getfield 42, 3) := by decide +kernel
theorem dX11_count_167 : decode cX11_count 167 = .ok (.getfield 297, 3) := by decide +kernel
theorem dX11_count_170 : decode cX11_count 170 = .ok (.ireturn, 1) := by decide +kernel
theorem dX11_count_171 : decode cX11_count 171 = .ok (.aload_n 0, 1) := by decide +kernel
theorem dX11_count_172 : decode cX11_count 172 = .ok (.getfield 10, 3) := by decide +kernel
theorem dX11_count_175 : decode cX11_count 175 = .ok (.getfield 84, 3) := by decide +kernel
theorem dX11_count_178 : decode cX11_count 178 = .ok (.ireturn, 1) := by decide +kernel
theorem dX11_count_179 : decode cX11_count 179 = .ok (.iconst (-1), 1) := by decide +kernel
theorem dX11_count_180 : decode cX11_count 180 = .ok (.ireturn, 1) := by decide +kernel
theorem dX11_beginAnew_0 : decode cX11_beginAnew 0 = .ok (.aload_n 0, 1) := by decide +kernel
theorem dX11_beginAnew_1 : decode cX11_beginAnew 1 = .ok (.getfield 28, 3) := by decide +kernel
theorem dX11_beginAnew_4 : decode cX11_beginAnew 4 = .ok (.aload_n 0, 1) := by decide +kernel
theorem dX11_beginAnew_5 : decode cX11_beginAnew 5 = .ok (.getfield 63, 3) := by decide +kernel
theorem dX11_beginAnew_8 : decode cX11_beginAnew 8 = .ok (.getfield 298, 3) := by decide +kernel
theorem dX11_beginAnew_11 : decode cX11_beginAnew 11 = .ok (.invokevirtual 301, 3) := by decide +kernel
theorem dX11_beginAnew_14 : decode cX11_beginAnew 14 = .ok (.aload_n 0, 1) := by decide +kernel
theorem dX11_beginAnew_15 : decode cX11_beginAnew 15 = .ok (.getfield 73, 3) := by decide +kernel
theorem dX11_beginAnew_18 : decode cX11_beginAnew 18 = .ok (.invokevirtual 304, 3) := by decide +kernel
theorem dX11_beginAnew_21 : decode cX11_beginAnew 21 = .ok (.aload_n 0, 1) := by decide +kernel
theorem dX11_beginAnew_22 : decode cX11_beginAnew 22 = .ok (.getfield 35, 3) := by decide +kernel
theorem dX11_beginAnew_25 : decode cX11_beginAnew 25 = .ok (.invokevirtual 307, 3) := by decide +kernel
theorem dX11_beginAnew_28 : decode cX11_beginAnew 28 = .ok (.aload_n 0, 1) := by decide +kernel
theorem dX11_beginAnew_29 : decode cX11_beginAnew 29 = .ok (.getfield 42, 3) := by decide +kernel
theorem dX11_beginAnew_32 : decode cX11_beginAnew 32 = .ok (.invokevirtual 308, 3) := by decide +kernel
theorem dX11_beginAnew_35 : decode cX11_beginAnew 35 = .ok (.return_, 1) := by decide +kernel
theorem dX11_isEmber_0 : decode cX11_isEmber 0 = .ok (.iload_n 1, 1) := by decide +kernel
theorem dX11_isEmber_1 : decode cX11_isEmber 1 = .ok (.ifCond .lt 24, 3) := by decide +kernel
theorem dX11_isEmber_4 : decode cX11_isEmber 4 = .ok (.iload_n 1, 1) := by decide +kernel
theorem dX11_isEmber_5 : decode cX11_isEmber 5 = .ok (.aload_n 0, 1) := by decide +kernel
theorem dX11_isEmber_6 : decode cX11_isEmber 6 = .ok (.getfield 63, 3) := by decide +kernel
theorem dX11_isEmber_9 : decode cX11_isEmber 9 = .ok (.getfield 276, 3) := by decide +kernel
theorem dX11_isEmber_12 : decode cX11_isEmber 12 = .ok (.if_icmp .ge 13, 3) := by decide +kernel
theorem dX11_isEmber_15 : decode cX11_isEmber 15 = .ok (.iload_n 1, 1) := by decide +kernel
theorem dX11_isEmber_16 : decode cX11_isEmber 16 = .ok (.bipush 7, 2) := by decide +kernel
theorem dX11_isEmber_18 : decode cX11_isEmber 18 = .ok (.if_icmp .ge 7, 3) := by decide +kernel
theorem dX11_isEmber_21 : decode cX11_isEmber 21 = .ok (.iconst 1, 1) := by decide +kernel
theorem dX11_isEmber_22 : decode cX11_isEmber 22 = .ok (.goto 4, 3) := by decide +kernel
theorem dX11_isEmber_25 : decode cX11_isEmber 25 = .ok (.iconst 0, 1) := by decide +kernel
theorem dX11_isEmber_26 : decode cX11_isEmber 26 = .ok (.ireturn, 1) := by decide +kernel
theorem dX11_isCell_0 : decode cX11_isCell 0 = .ok (.iload_n 0, 1) := by decide +kernel
theorem dX11_isCell_1 : decode cX11_isCell 1 = .ok (.ifCond .lt 13, 3) := by decide +kernel
theorem dX11_isCell_4 : decode cX11_isCell 4 = .ok (.iload_n 0, 1) := by decide +kernel
theorem dX11_isCell_5 : decode cX11_isCell 5 = .ok (.bipush 12, 2) := by decide +kernel
theorem dX11_isCell_7 : decode cX11_isCell 7 = .ok (.if_icmp .ge 7, 3) := by decide +kernel
theorem dX11_isCell_10 : decode cX11_isCell 10 = .ok (.iconst 1, 1) := by decide +kernel
theorem dX11_isCell_11 : decode cX11_isCell 11 = .ok (.goto 4, 3) := by decide +kernel
theorem dX11_isCell_14 : decode cX11_isCell 14 = .ok (.iconst 0, 1) := by decide +kernel
theorem dX11_isCell_15 : decode cX11_isCell 15 = .ok (.ireturn, 1) := by decide +kernel
theorem dX11_isLongView_0 : decode cX11_isLongView 0 = .ok (.iload_n 0, 1) := by decide +kernel
theorem dX11_isLongView_1 : decode cX11_isLongView 1 = .ok (.ifCond .lt 13, 3) := by decide +kernel
theorem dX11_isLongView_4 : decode cX11_isLongView 4 = .ok (.iload_n 0, 1) := by decide +kernel
theorem dX11_isLongView_5 : decode cX11_isLongView 5 = .ok (.bipush 40, 2) := by decide +kernel
theorem dX11_isLongView_7 : decode cX11_isLongView 7 = .ok (.if_icmp .gt 7, 3) := by decide +kernel
theorem dX11_isLongView_10 : decode cX11_isLongView 10 = .ok (.iconst 1, 1) := by decide +kernel
theorem dX11_isLongView_11 : decode cX11_isLongView 11 = .ok (.goto 4, 3) := by decide +kernel
theorem dX11_isLongView_14 : decode cX11_isLongView 14 = .ok (.iconst 0, 1) := by decide +kernel
theorem dX11_isLongView_15 : decode cX11_isLongView 15 = .ok (.ireturn, 1) := by decide +kernel
theorem dX11_isGain_0 : decode cX11_isGain 0 = .ok (.iload_n 0, 1) := by decide +kernel
theorem dX11_isGain_1 : decode cX11_isGain 1 = .ok (.ifCond .lt 13, 3) := by decide +kernel
theorem dX11_isGain_4 : decode cX11_isGain 4 = .ok (.iload_n 0, 1) := by decide +kernel
theorem dX11_isGain_5 : decode cX11_isGain 5 = .ok (.bipush 9, 2) := by decide +kernel
theorem dX11_isGain_7 : decode cX11_isGain 7 = .ok (.if_icmp .gt 7, 3) := by decide +kernel
theorem dX11_isGain_10 : decode cX11_isGain 10 = .ok (.iconst 1, 1) := by decide +kernel
theorem dX11_isGain_11 : decode cX11_isGain 11 = .ok (.goto 4, 3) := by decide +kernel
theorem dX11_isGain_14 : decode cX11_isGain 14 = .ok (.iconst 0, 1) := by decide +kernel
theorem dX11_isGain_15 : decode cX11_isGain 15 = .ok (.ireturn, 1) := by decide +kernel
theorem dX11_isAtRest_0 : decode cX11_isAtRest 0 = .ok (.iload_n 3, 1) := by decide +kernel
theorem dX11_isAtRest_1 : decode cX11_isAtRest 1 = .ok (.iconst 1, 1) := by decide +kernel
theorem dX11_isAtRest_2 : decode cX11_isAtRest 2 = .ok (.ishr, 1) := by decide +kernel
theorem dX11_isAtRest_3 : decode cX11_isAtRest 3 = .ok (.iconst 1, 1) := by decide +kernel
theorem dX11_isAtRest_4 : decode cX11_isAtRest 4 = .ok (.if_icmp .ne 7, 3) := by decide +kernel
theorem dX11_isAtRest_7 : decode cX11_isAtRest 7 = .ok (.iconst 1, 1) := by decide +kernel
theorem dX11_isAtRest_8 : decode cX11_isAtRest 8 = .ok (.goto 4, 3) := by decide +kernel
theorem dX11_isAtRest_11 : decode cX11_isAtRest 11 = .ok (.iconst 0, 1) := by decide +kernel
theorem dX11_isAtRest_12 : decode cX11_isAtRest 12 = .ok (.istore 4, 2) := by decide +kernel
theorem dX11_isAtRest_14 : decode cX11_isAtRest 14 = .ok (.iload_n 3, 1) := by decide +kernel
theorem dX11_isAtRest_15 : decode cX11_isAtRest 15 = .ok (.iconst 1, 1) := by decide +kernel
theorem dX11_isAtRest_16 : decode cX11_isAtRest 16 = .ok (.iand, 1) := by decide +kernel
theorem dX11_isAtRest_17 : decode cX11_isAtRest 17 = .ok (.iconst 1, 1) := by decide +kernel
theorem dX11_isAtRest_18 : decode cX11_isAtRest 18 = .ok (.if_icmp .ne 7, 3) := by decide +kernel
theorem dX11_isAtRest_21 : decode cX11_isAtRest 21 = .ok (.iconst 1, 1) := by decide +kernel
theorem dX11_isAtRest_22 : decode cX11_isAtRest 22 = .ok (.goto 4, 3) := by decide +kernel
theorem dX11_isAtRest_25 : decode cX11_isAtRest 25 = .ok (.iconst 0, 1) := by decide +kernel
theorem dX11_isAtRest_26 : decode cX11_isAtRest 26 = .ok (.istore 5, 2) := by decide +kernel
theorem dX11_isAtRest_28 : decode cX11_isAtRest 28 = .ok (.iload_n 0, 1) := by decide +kernel
theorem dX11_isAtRest_29 : decode cX11_isAtRest 29 = .ok (.iload_n 1, 1) := by decide +kernel
theorem dX11_isAtRest_30 : decode cX11_isAtRest 30 = .ok (.iload_n 2, 1) := by decide +kernel
theorem dX11_isAtRest_31 : decode cX11_isAtRest 31 = .ok (.iload 4, 2) := by decide +kernel
theorem dX11_isAtRest_33 : decode cX11_isAtRest 33 = .ok (.iload 5, 2) := by decide +kernel
theorem dX11_isAtRest_35 : decode cX11_isAtRest 35 = .ok (.invokestatic 309, 3) := by decide +kernel
theorem dX11_isAtRest_38 : decode cX11_isAtRest 38 = .ok (.ifCond .ne 20, 3) := by decide +kernel
theorem dX11_isAtRest_41 : decode cX11_isAtRest 41 = .ok (.iload_n 0, 1) := by decide +kernel
theorem dX11_isAtRest_42 : decode cX11_isAtRest 42 = .ok (.iload_n 1, 1) := by decide +kernel
theorem dX11_isAtRest_43 : decode cX11_isAtRest 43 = .ok (.iload_n 2, 1) := by decide +kernel
theorem dX11_isAtRest_44 : decode cX11_isAtRest 44 = .ok (.iload 5, 2) := by decide +kernel
theorem dX11_isAtRest_46 : decode cX11_isAtRest 46 = .ok (.iload 4, 2) := by decide +kernel
theorem dX11_isAtRest_48 : decode cX11_isAtRest 48 = .ok (.invokestatic 309, 3) := by decide +kernel
theorem dX11_isAtRest_51 : decode cX11_isAtRest 51 = .ok (.ifCond .ne 7, 3) := by decide +kernel
theorem dX11_isAtRest_54 : decode cX11_isAtRest 54 = .ok (.iconst 1, 1) := by decide +kernel
theorem dX11_isAtRest_55 : decode cX11_isAtRest 55 = .ok (.goto 4, 3) := by decide +kernel
theorem dX11_isAtRest_58 : decode cX11_isAtRest 58 = .ok (.iconst 0, 1) := by decide +kernel
theorem dX11_isAtRest_59 : decode cX11_isAtRest 59 = .ok (.ireturn, 1) := by decide +kernel
theorem dX11_gainsByTurning_0 : decode cX11_gainsByTurning 0 = .ok (.iload_n 0, 1) := by decide +kernel
theorem dX11_gainsByTurning_1 : decode cX11_gainsByTurning 1 = .ok (.iload_n 1, 1) := by decide +kernel
theorem dX11_gainsByTurning_2 : decode cX11_gainsByTurning 2 = .ok (.iload_n 2, 1) := by decide +kernel
theorem dX11_gainsByTurning_3 : decode cX11_gainsByTurning 3 = .ok (.iload_n 3, 1) := by decide +kernel
theorem dX11_gainsByTurning_4 : decode cX11_gainsByTurning 4 = .ok (.ifCond .ne 7, 3) := by decide +kernel
theorem dX11_gainsByTurning_7 : decode cX11_gainsByTurning 7 = .ok (.iconst 1, 1) := by decide +kernel
theorem dX11_gainsByTurning_8 : decode cX11_gainsByTurning 8 = .ok (.goto 4, 3) := by decide +kernel
theorem dX11_gainsByTurning_11 : decode cX11_gainsByTurning 11 = .ok (.iconst 0, 1) := by decide +kernel
theorem dX11_gainsByTurning_12 : decode cX11_gainsByTurning 12 = .ok (.iload 4, 2) := by decide +kernel
theorem dX11_gainsByTurning_14 : decode cX11_gainsByTurning 14 = .ok (.invokestatic 313, 3) := by decide +kernel
theorem dX11_gainsByTurning_17 : decode cX11_gainsByTurning 17 = .ok (.iload_n 0, 1) := by decide +kernel
theorem dX11_gainsByTurning_18 : decode cX11_gainsByTurning 18 = .ok (.iload_n 1, 1) := by decide +kernel
theorem dX11_gainsByTurning_19 : decode cX11_gainsByTurning 19 = .ok (.iload_n 2, 1) := by decide +kernel
theorem dX11_gainsByTurning_20 : decode cX11_gainsByTurning 20 = .ok (.iload_n 3, 1) := by decide +kernel
theorem dX11_gainsByTurning_21 : decode cX11_gainsByTurning 21 = .ok (.iload 4, 2) := by decide +kernel
theorem dX11_gainsByTurning_23 : decode cX11_gainsByTurning 23 = .ok (.invokestatic 313, 3) := by decide +kernel
theorem dX11_gainsByTurning_26 : decode cX11_gainsByTurning 26 = .ok (.if_icmp .le 7, 3) := by decide +kernel
theorem dX11_gainsByTurning_29 : decode cX11_gainsByTurning 29 = .ok (.iconst 1, 1) := by decide +kernel
theorem dX11_gainsByTurning_30 : decode cX11_gainsByTurning 30 = .ok (.goto 4, 3) := by decide +kernel
theorem dX11_gainsByTurning_33 : decode cX11_gainsByTurning 33 = .ok (.iconst 0, 1) := by decide +kernel
theorem dX11_gainsByTurning_34 : decode cX11_gainsByTurning 34 = .ok (.ireturn, 1) := by decide +kernel
theorem dX11_gainOf_0 : decode cX11_gainOf 0 = .ok (.iload_n 3, 1) := by decide +kernel
theorem dX11_gainOf_1 : decode cX11_gainOf 1 = .ok (.ifCond .eq 15, 3) := by decide +kernel
theorem dX11_gainOf_4 : decode cX11_gainOf 4 = .ok (.iload 4, 2) := by decide +kernel
theorem dX11_gainOf_6 : decode cX11_gainOf 6 = .ok (.ifCond .eq 7, 3) := by decide +kernel
theorem dX11_gainOf_9 : decode cX11_gainOf 9 = .ok (.iload_n 0, 1) := by decide +kernel
theorem dX11_gainOf_10 : decode cX11_gainOf 10 = .ok (.goto 5, 3) := by decide +kernel
theorem dX11_gainOf_13 : decode cX11_gainOf 13 = .ok (.iload_n 1, 1) := by decide +kernel
theorem dX11_gainOf_14 : decode cX11_gainOf 14 = .ok (.ineg, 1) := by decide +kernel
theorem dX11_gainOf_15 : decode cX11_gainOf 15 = .ok (.ireturn, 1) := by decide +kernel
theorem dX11_gainOf_16 : decode cX11_gainOf 16 = .ok (.iload 4, 2) := by decide +kernel
theorem dX11_gainOf_18 : decode cX11_gainOf 18 = .ok (.ifCond .eq 7, 3) := by decide +kernel
theorem dX11_gainOf_21 : decode cX11_gainOf 21 = .ok (.iload_n 2, 1) := by decide +kernel
theorem dX11_gainOf_22 : decode cX11_gainOf 22 = .ok (.goto 4, 3) := by decide +kernel
theorem dX11_gainOf_25 : decode cX11_gainOf 25 = .ok (.iconst 0, 1) := by decide +kernel
theorem dX11_gainOf_26 : decode cX11_gainOf 26 = .ok (.ireturn, 1) := by decide +kernel
theorem dX12_thrown_0 : decode cX12_thrown 0 = .ok (.aload_n 0, 1) := by decide +kernel
theorem dX12_thrown_1 : decode cX12_thrown 1 = .ok (.getfield 1, 3) := by decide +kernel
theorem dX12_thrown_4 : decode cX12_thrown 4 = .ok (.ireturn, 1) := by decide +kernel
theorem dX12_feed_0 : decode cX12_feed 0 = .ok (.aload_n 0, 1) := by decide +kernel
theorem dX12_feed_1 : decode cX12_feed 1 = .ok (.iconst 0, 1) := by decide +kernel
theorem dX12_feed_2 : decode cX12_feed 2 = .ok (.putfield 1, 3) := by decide +kernel
theorem dX12_feed_5 : decode cX12_feed 5 = .ok (.aload_n 0, 1) := by decide +kernel
theorem dX12_feed_6 : decode cX12_feed 6 = .ok (.lload_n 1, 1) := by decide +kernel
theorem dX12_feed_7 : decode cX12_feed 7 = .ok (.invokevirtual 7, 3) := by decide +kernel
theorem dX12_feed_10 : decode cX12_feed 10 = .ok (.aload_n 0, 1) := by decide +kernel
theorem dX12_feed_11 : decode cX12_feed 11 = .ok (.lload_n 3, 1) := by decide +kernel
theorem dX12_feed_12 : decode cX12_feed 12 = .ok (.invokevirtual 7, 3) := by decide +kernel
theorem dX12_feed_15 : decode cX12_feed 15 = .ok (.aload_n 0, 1) := by decide +kernel
theorem dX12_feed_16 : decode cX12_feed 16 = .ok (.lload 5, 2) := by decide +kernel
theorem dX12_feed_18 : decode cX12_feed 18 = .ok (.invokevirtual 7, 3) := by decide +kernel
theorem dX12_feed_21 : decode cX12_feed 21 = .ok (.aload_n 0, 1) := by decide +kernel
theorem dX12_feed_22 : decode cX12_feed 22 = .ok (.getfield 11, 3) := by decide +kernel
theorem dX12_feed_25 : decode cX12_feed 25 = .ok (.ireturn, 1) := by decide +kernel
theorem dX12_lay_0 : decode cX12_lay 0 = .ok (.bipush 56, 2) := by decide +kernel
theorem dX12_lay_2 : decode cX12_lay 2 = .ok (.istore_n 3, 1) := by decide +kernel
theorem dX12_lay_3 : decode cX12_lay 3 = .ok (.iload_n 3, 1) := by decide +kernel
theorem dX12_lay_4 : decode cX12_lay 4 = .ok (.ifCond .lt 71, 3) := by decide +kernel
theorem dX12_lay_7 : decode cX12_lay 7 = .ok (.lload_n 1, 1) := by decide +kernel
theorem dX12_lay_8 : decode cX12_lay 8 = .ok (.iload_n 3, 1) := by decide +kernel
theorem dX12_lay_9 : decode cX12_lay 9 = .ok (.lshr, 1) := by decide +kernel
theorem dX12_lay_10 : decode cX12_lay 10 = .ok (.l2i, 1) := by decide +kernel
theorem dX12_lay_11 : decode cX12_lay 11 = .ok (.sipush 255, 3) := by decide +kernel
theorem dX12_lay_14 : decode cX12_lay 14 = .ok (.iand, 1) := by decide +kernel
theorem dX12_lay_15 : decode cX12_lay 15 = .ok (.istore 4, 2) := by decide +kernel
theorem dX12_lay_17 : decode cX12_lay 17 = .ok (.iload 4, 2) := by decide +kernel
theorem dX12_lay_19 : decode cX12_lay 19 = .ok (.bipush 10, 2) := by decide +kernel
theorem dX12_lay_21 : decode cX12_lay 21 = .ok (.if_icmp .eq 17, 3) := by decide +kernel
theorem dX12_lay_24 : decode cX12_lay 24 = .ok (.iload 4, 2) := by decide +kernel
theorem dX12_lay_26 : decode cX12_lay 26 = .ok (.bipush 32, 2) := by decide +kernel
theorem dX12_lay_28 : decode cX12_lay 28 = .ok (.if_icmp .lt 41, 3) := by decide +kernel
theorem dX12_lay_31 : decode cX12_lay 31 = .ok (.iload 4, 2) := by decide +kernel
theorem dX12_lay_33 : decode cX12_lay 33 = .ok (.bipush 126, 2) := by decide +kernel
theorem dX12_lay_35 : decode cX12_lay 35 = .ok (.if_icmp .gt 34, 3) := by decide +kernel
theorem dX12_lay_38 : decode cX12_lay 38 = .ok (.aload_n 0, 1) := by decide +kernel
theorem dX12_lay_39 : decode cX12_lay 39 = .ok (.getfield 11, 3) := by decide +kernel
theorem dX12_lay_42 : decode cX12_lay 42 = .ok (.sipush 1000, 3) := by decide +kernel
theorem dX12_lay_45 : decode cX12_lay 45 = .ok (.if_icmp .ge 24, 3) := by decide +kernel
theorem dX12_lay_48 : decode cX12_lay 48 = .ok (.aload_n 0, 1) := by decide +kernel
theorem dX12_lay_49 : decode cX12_lay 49 = .ok (.getfield 14, 3) := by decide +kernel
theorem dX12_lay_52 : decode cX12_lay 52 = .ok (.aload_n 0, 1) := by decide +kernel
theorem dX12_lay_53 : decode cX12_lay 53 = .ok (.getfield 11, 3) := by decide +kernel
theorem dX12_lay_56 : decode cX12_lay 56 = .ok (.iload 4, 2) := by decide +kernel
theorem dX12_lay_58 : decode cX12_lay 58 = .ok (.iastore, 1) := by decide +kernel
theorem dX12_lay_59 : decode cX12_lay 59 = .ok (.aload_n 0, 1) := by decide +kernel
theorem dX12_lay_60 : decode cX12_lay 60 = .ok (.dup, 1) := by decide +kernel
theorem dX12_lay_61 : decode cX12_lay 61 = .ok (.getfield 11, 3) := by decide +kernel
theorem dX12_lay_64 : decode cX12_lay 64 = .ok (.iconst 1, 1) := by decide +kernel
theorem dX12_lay_65 : decode cX12_lay 65 = .ok (.iadd, 1) := by decide +kernel
theorem dX12_lay_66 : decode cX12_lay 66 = .ok (.putfield 11, 3) := by decide +kernel
theorem dX12_lay_69 : decode cX12_lay 69 = .ok (.iinc 3 (-8), 3) := by decide +kernel
theorem dX12_lay_72 : decode cX12_lay 72 = .ok (.goto (-69), 3) := by decide +kernel
theorem dX12_lay_75 : decode cX12_lay 75 = .ok (.return_, 1) := by decide +kernel
theorem dX12_init_0 : decode cX12_init 0 = .ok (.aload_n 0, 1) := by decide +kernel
theorem dX12_init_1 : decode cX12_init 1 = .ok (.invokespecial 18, 3) := by decide +kernel
theorem dX12_init_4 : decode cX12_init 4 = .ok (.aload_n 0, 1) := by decide +kernel
theorem dX12_init_5 : decode cX12_init 5 = .ok (.sipush 1000, 3) := by decide +kernel
theorem dX12_init_8 : decode cX12_init 8 = .ok (.newarray .int, 2) := by decide +kernel
theorem dX12_init_10 : decode cX12_init 10 = .ok (.putfield 14, 3) := by decide +kernel
theorem dX12_init_13 : decode cX12_init 13 = .ok (.aload_n 0, 1) := by decide +kernel
theorem dX12_init_14 : decode cX12_init 14 = .ok (.sipush 1002, 3) := by decide +kernel
theorem dX12_init_17 : decode cX12_init 17 = .ok (.newarray .int, 2) := by decide +kernel
theorem dX12_init_19 : decode cX12_init 19 = .ok (.putfield 24, 3) := by decide +kernel
theorem dX12_init_22 : decode cX12_init 22 = .ok (.aload_n 0, 1) := by decide +kernel
theorem dX12_init_23 : decode cX12_init 23 = .ok (.sipush 1002, 3) := by decide +kernel
theorem dX12_init_26 : decode cX12_init 26 = .ok (.newarray .int, 2) := by decide +kernel
theorem dX12_init_28 : decode cX12_init 28 = .ok (.putfield 27, 3) := by decide +kernel
theorem dX12_init_31 : decode cX12_init 31 = .ok (.aload_n 0, 1) := by decide +kernel
theorem dX12_init_32 : decode cX12_init 32 = .ok (.sipush 1002, 3) := by decide +kernel
theorem dX12_init_35 : decode cX12_init 35 = .ok (.newarray .long, 2) := by decide +kernel
theorem dX12_init_37 : decode cX12_init 37 = .ok (.putfield 30, 3) := by decide +kernel
theorem dX12_init_40 : decode cX12_init 40 = .ok (.aload_n 0, 1) := by decide +kernel
theorem dX12_init_41 : decode cX12_init 41 = .ok (.bipush 23, 2) := by decide +kernel
theorem dX12_init_43 : decode cX12_init 43 = .ok (.newarray .long, 2) := by decide +kernel
theorem dX12_init_45 : decode cX12_init 45 = .ok (.dup, 1) := by decide +kernel
theorem dX12_init_46 : decode cX12_init 46 = .ok (.iconst 0, 1) := by decide +kernel
theorem dX12_init_47 : decode cX12_init 47 = .ok (.ldc2_w 34, 3) := by decide +kernel
theorem dX12_init_50 : decode cX12_init 50 = .ok (.lastore, 1) := by decide +kernel
theorem dX12_init_51 : decode cX12_init 51 = .ok (.dup, 1) := by decide +kernel
theorem dX12_init_52 : decode cX12_init 52 = .ok (.iconst 1, 1) := by decide +kernel
theorem dX12_init_53 : decode cX12_init 53 = .ok (.ldc2_w 36, 3) := by decide +kernel
theorem dX12_init_56 : decode cX12_init 56 = .ok (.lastore, 1) := by decide +kernel
theorem dX12_init_57 : decode cX12_init 57 = .ok (.dup, 1) := by decide +kernel
theorem dX12_init_58 : decode cX12_init 58 = .ok (.iconst 2, 1) := by decide +kernel
theorem dX12_init_59 : decode cX12_init 59 = .ok (.ldc2_w 38, 3) := by decide +kernel
theorem dX12_init_62 : decode cX12_init 62 = .ok (.lastore, 1) := by decide +kernel
theorem dX12_init_63 : decode cX12_init 63 = .ok (.dup, 1) := by decide +kernel
theorem dX12_init_64 : decode cX12_init 64 = .ok (.iconst 3, 1) := by decide +kernel
theorem dX12_init_65 : decode cX12_init 65 = .ok (.ldc2_w 40, 3) := by decide +kernel
theorem dX12_init_68 : decode cX12_init 68 = .ok (.lastore, 1) := by decide +kernel
theorem dX12_init_69 : decode cX12_init 69 = .ok (.dup, 1) := by decide +kernel
theorem dX12_init_70 : decode cX12_init 70 = .ok (.iconst 4, 1) := by decide +kernel
theorem dX12_init_71 : decode cX12_init 71 = .ok (.ldc2_w 42, 3) := by decide +kernel
theorem dX12_init_74 : decode cX12_init 74 = .ok (.lastore, 1) := by decide +kernel
theorem dX12_init_75 : decode cX12_init 75 = .ok (.dup, 1) := by decide +kernel
theorem dX12_init_76 : decode cX12_init 76 = .ok (.iconst 5, 1) := by decide +kernel
theorem dX12_init_77 : decode cX12_init 77 = .ok (.ldc2_w 44, 3) := by decide +kernel
theorem dX12_init_80 : decode cX12_init 80 = .ok (.lastore, 1) := by decide +kernel
theorem dX12_init_81 : decode cX12_init 81 = .ok (.dup, 1) := by decide +kernel
theorem dX12_init_82 : decode cX12_init 82 = .ok (.bipush 6, 2) := by decide +kernel
theorem dX12_init_84 : decode cX12_init 84 = .ok (.ldc2_w 46, 3) := by decide +kernel
theorem dX12_init_87 : decode cX12_init 87 = .ok (.lastore, 1) := by decide +kernel
theorem dX12_init_88 : decode cX12_init 88 = .ok (.dup, 1) := by decide +kernel
theorem dX12_init_89 : decode cX12_init 89 = .ok (.bipush 7, 2) := by decide +kernel
theorem dX12_init_91 : decode cX12_init 91 = .ok (.ldc2_w 48, 3) := by decide +kernel
theorem dX12_init_94 : decode cX12_init 94 = .ok (.lastore, 1) := by decide +kernel
theorem dX12_init_95 : decode cX12_init 95 = .ok (.dup, 1) := by decide +kernel
theorem dX12_init_96 : decode cX12_init 96 = .ok (.bipush 8, 2) := by decide +kernel
theorem dX12_init_98 : decode cX12_init 98 = .ok (.ldc2_w 50, 3) := by decide +kernel
theorem dX12_init_101 : decode cX12_init 101 = .ok (.lastore, 1) := by decide +kernel
theorem dX12_init_102 : decode cX12_init 102 = .ok (.dup, 1) := by decide +kernel
theorem dX12_init_103 : decode cX12_init 103 = .ok (.bipush 9, 2) := by decide +kernel
theorem dX12_init_105 : decode cX12_init 105 = .ok (.ldc2_w 52, 3) := by decide +kernel
theorem dX12_init_108 : decode cX12_init 108 = .ok (.lastore, 1) := by decide +kernel
theorem dX12_init_109 : decode cX12_init 109 = .ok (.dup, 1) := by decide +kernel
theorem dX12_init_110 : decode cX12_init 110 = .ok (.bipush 10, 2) := by decide +kernel
theorem dX12_init_112 : decode cX12_init 112 = .ok (.ldc2_w 54, 3) := by decide +kernel
theorem dX12_init_115 : decode cX12_init 115 = .ok (.lastore, 1) := by decide +kernel
theorem dX12_init_116 : decode cX12_init 116 = .ok (.dup, 1) := by decide +kernel
theorem dX12_init_117 : decode cX12_init 117 = .ok (.bipush 11, 2) := by decide +kernel
theorem dX12_init_119 : decode cX12_init 119 = .ok (.ldc2_w 56, 3) := by decide +kernel
theorem dX12_init_122 : decode cX12_init 122 = .ok (.lastore, 1) := by decide +kernel
theorem dX12_init_123 : decode cX12_init 123 = .ok (.dup, 1) := by decide +kernel
theorem dX12_init_124 : decode cX12_init 124 = .ok (.bipush 12, 2) := by decide +kernel
theorem dX12_init_126 : decode cX12_init 126 = .ok (.ldc2_w 58, 3) := by decide +kernel
theorem dX12_init_129 : decode cX12_init 129 = .ok (.lastore, 1) := by decide +kernel
theorem dX12_init_130 : decode cX12_init 130 = .ok (.dup, 1) := by decide +kernel
theorem dX12_init_131 : decode cX12_init 131 = .ok (.bipush 13, 2) := by decide +kernel
theorem dX12_init_133 : decode cX12_init 133 = .ok (.ldc2_w 60, 3) := by decide +kernel
theorem dX12_init_136 : decode cX12_init 136 = .ok (.lastore, 1) := by decide +kernel
theorem dX12_init_137 : decode cX12_init 137 = .ok (.dup, 1) := by decide +kernel
theorem dX12_init_138 : decode cX12_init 138 = .ok (.bipush 14, 2) := by decide +kernel
theorem dX12_init_140 : decode cX12_init 140 = .ok (.ldc2_w 62, 3) := by decide +kernel
theorem dX12_init_143 : decode cX12_init 143 = .ok (.lastore, 1) := by decide +kernel
theorem dX12_init_144 : decode cX12_init 144 = .ok (.dup, 1) := by decide +kernel
theorem dX12_init_145 : decode cX12_init 145 = .ok (.bipush 15, 2) := by decide +kernel
theorem dX12_init_147 : decode cX12_init 147 = .ok (.ldc2_w 64, 3) := by decide +kernel
theorem dX12_init_150 : decode cX12_init 150 = .ok (.lastore, 1) := by decide +kernel
theorem dX12_init_151 : decode cX12_init 151 = .ok (.dup, 1) := by decide +kernel
theorem dX12_init_152 : decode cX12_init 152 = .ok (.bipush 16, 2) := by decide +kernel
theorem dX12_init_154 : decode cX12_init 154 = .ok (.ldc2_w 66, 3) := by decide +kernel
theorem dX12_init_157 : decode cX12_init 157 = .ok (.lastore, 1) := by decide +kernel
theorem dX12_init_158 : decode cX12_init 158 = .ok (.dup, 1) := by decide +kernel
theorem dX12_init_159 : decode cX12_init 159 = .ok (.bipush 17, 2) := by decide +kernel
theorem dX12_init_161 : decode cX12_init 161 = .ok (.ldc2_w 68, 3) := by decide +kernel
theorem dX12_init_164 : decode cX12_init 164 = .ok (.lastore, 1) := by decide +kernel
theorem dX12_init_165 : decode cX12_init 165 = .ok (.dup, 1) := by decide +kernel
theorem dX12_init_166 : decode cX12_init 166 = .ok (.bipush 18, 2) := by decide +kernel
theorem dX12_init_168 : decode cX12_init 168 = .ok (.ldc2_w 70, 3) := by decide +kernel
theorem dX12_init_171 : decode cX12_init 171 = .ok (.lastore, 1) := by decide +kernel
theorem dX12_init_172 : decode cX12_init 172 = .ok (.dup, 1) := by decide +kernel
theorem dX12_init_173 : decode cX12_init 173 = .ok (.bipush 19, 2) := by decide +kernel
theorem dX12_init_175 : decode cX12_init 175 = .ok (.ldc2_w 72, 3) := by decide +kernel
theorem dX12_init_178 : decode cX12_init 178 = .ok (.lastore, 1) := by decide +kernel
theorem dX12_init_179 : decode cX12_init 179 = .ok (.dup, 1) := by decide +kernel
theorem dX12_init_180 : decode cX12_init 180 = .ok (.bipush 20, 2) := by decide +kernel
theorem dX12_init_182 : decode cX12_init 182 = .ok (.ldc2_w 74, 3) := by decide +kernel
theorem dX12_init_185 : decode cX12_init 185 = .ok (.lastore, 1) := by decide +kernel
theorem dX12_init_186 : decode cX12_init 186 = .ok (.dup, 1) := by decide +kernel
theorem dX12_init_187 : decode cX12_init 187 = .ok (.bipush 21, 2) := by decide +kernel
theorem dX12_init_189 : decode cX12_init 189 = .ok (.ldc2_w 76, 3) := by decide +kernel
theorem dX12_init_192 : decode cX12_init 192 = .ok (.lastore, 1) := by decide +kernel
theorem dX12_init_193 : decode cX12_init 193 = .ok (.dup, 1) := by decide +kernel
theorem dX12_init_194 : decode cX12_init 194 = .ok (.bipush 22, 2) := by decide +kernel
theorem dX12_init_196 : decode cX12_init 196 = .ok (.ldc2_w 78, 3) := by decide +kernel
theorem dX12_init_199 : decode cX12_init 199 = .ok (.lastore, 1) := by decide +kernel
theorem dX12_init_200 : decode cX12_init 200 = .ok (.putfield 80, 3) := by decide +kernel
theorem dX12_init_203 : decode cX12_init 203 = .ok (.aload_n 0, 1) := by decide +kernel
theorem dX12_init_204 : decode cX12_init 204 = .ok (.bipush 100, 2) := by decide +kernel
theorem dX12_init_206 : decode cX12_init 206 = .ok (.newarray .int, 2) := by decide +kernel
theorem dX12_init_208 : decode cX12_init 208 = .ok (.putfield 83, 3) := by decide +kernel
theorem dX12_init_211 : decode cX12_init 211 = .ok (.aload_n 0, 1) := by decide +kernel
theorem dX12_init_212 : decode cX12_init 212 = .ok (.sipush 2200, 3) := by decide +kernel
theorem dX12_init_215 : decode cX12_init 215 = .ok (.newarray .int, 2) := by decide +kernel
theorem dX12_init_217 : decode cX12_init 217 = .ok (.putfield 86, 3) := by decide +kernel
theorem dX12_init_220 : decode cX12_init 220 = .ok (.aload_n 0, 1) := by decide +kernel
theorem dX12_init_221 : decode cX12_init 221 = .ok (.sipush 2200, 3) := by decide +kernel
theorem dX12_init_224 : decode cX12_init 224 = .ok (.newarray .int, 2) := by decide +kernel
theorem dX12_init_226 : decode cX12_init 226 = .ok (.putfield 89, 3) := by decide +kernel
theorem dX12_init_229 : decode cX12_init 229 = .ok (.aload_n 0, 1) := by decide +kernel
theorem dX12_init_230 : decode cX12_init 230 = .ok (.bipush 7, 2) := by decide +kernel
theorem dX12_init_232 : decode cX12_init 232 = .ok (.newarray .long, 2) := by decide +kernel
theorem dX12_init_234 : decode cX12_init 234 = .ok (.putfield 92, 3) := by decide +kernel
theorem dX12_init_237 : decode cX12_init 237 = .ok (.aload_n 0, 1) := by decide +kernel
theorem dX12_init_238 : decode cX12_init 238 = .ok (.bipush 7, 2) := by decide +kernel
theorem dX12_init_240 : decode cX12_init 240 = .ok (.newarray .long, 2) := by decide +kernel
theorem dX12_init_242 : decode cX12_init 242 = .ok (.putfield 95, 3) := by decide +kernel
theorem dX12_init_245 : decode cX12_init 245 = .ok (.aload_n 0, 1) := by decide +kernel
theorem dX12_init_246 : decode cX12_init 246 = .ok (.sipush 250, 3) := by decide +kernel
theorem dX12_init_249 : decode cX12_init 249 = .ok (.newarray .int, 2) := by decide +kernel
theorem dX12_init_251 : decode cX12_init 251 = .ok (.putfield 98, 3) := by decide +kernel
theorem dX12_init_254 : decode cX12_init 254 = .ok (.aload_n 0, 1) := by decide +kernel
theorem dX12_init_255 : decode cX12_init 255 = .ok (.iconst 4, 1) := by decide +kernel
theorem dX12_init_256 : decode cX12_init 256 = .ok (.newarray .int, 2) := by decide +kernel
theorem dX12_init_258 : decode cX12_init 258 = .ok (.putfield 101, 3) := by decide +kernel
theorem dX12_init_261 : decode cX12_init 261 = .ok (.aload_n 0, 1) := by decide +kernel
theorem dX12_init_262 : decode cX12_init 262 = .ok (.sipush 1100, 3) := by decide +kernel
theorem dX12_init_265 : decode cX12_init 265 = .ok (.newarray .int, 2) := by decide +kernel
theorem dX12_init_267 : decode cX12_init 267 = .ok (.putfield 104, 3) := by decide +kernel
theorem dX12_init_270 : decode cX12_init 270 = .ok (.aload_n 0, 1) := by decide +kernel
theorem dX12_init_271 : decode cX12_init 271 = .ok (.sipush 966, 3) := by decide +kernel
theorem dX12_init_274 : decode cX12_init 274 = .ok (.newarray .int, 2) := by decide +kernel
theorem dX12_init_276 : decode cX12_init 276 = .ok (.putfield 107, 3) := by decide +kernel
theorem dX12_init_279 : decode cX12_init 279 = .ok (.aload_n 0, 1) := by decide +kernel
theorem dX12_init_280 : decode cX12_init 280 = .ok (.iconst 4, 1) := by decide +kernel
theorem dX12_init_281 : decode cX12_init 281 = .ok (.newarray .boolean, 2) := by decide +kernel
theorem dX12_init_283 : decode cX12_init 283 = .ok (.putfield 110, 3) := by decide +kernel
theorem dX12_init_286 : decode cX12_init 286 = .ok (.aload_n 0, 1) := by decide +kernel
theorem dX12_init_287 : decode cX12_init 287 = .ok (.bipush 7, 2) := by decide +kernel
theorem dX12_init_289 : decode cX12_init 289 = .ok (.newarray .int, 2) := by decide +kernel
theorem dX12_init_291 : decode cX12_init 291 = .ok (.putfield 114, 3) := by decide +kernel
theorem dX12_init_294 : decode cX12_init 294 = .ok (.aload_n 0, 1) := by decide +kernel
theorem dX12_init_295 : decode cX12_init 295 = .ok (.bipush 7, 2) := by decide +kernel
theorem dX12_init_297 : decode cX12_init 297 = .ok (.newarray .int, 2) := by decide +kernel
theorem dX12_init_299 : decode cX12_init 299 = .ok (.putfield 117, 3) := by decide +kernel
theorem dX12_init_302 : decode cX12_init 302 = .ok (.aload_n 0, 1) := by decide +kernel
theorem dX12_init_303 : decode cX12_init 303 = .ok (.iconst 0, 1) := by decide +kernel
theorem dX12_init_304 : decode cX12_init 304 = .ok (.invokevirtual 120, 3) := by decide +kernel
theorem dX12_init_307 : decode cX12_init 307 = .ok (.aload_n 0, 1) := by decide +kernel
theorem dX12_init_308 : decode cX12_init 308 = .ok (.invokevirtual 124, 3) := by decide +kernel
theorem dX12_init_311 : decode cX12_init 311 = .ok (.return_, 1) := by decide +kernel
theorem dX12_isLetter_0 : decode cX12_isLetter 0 = .ok (.iload_n 0, 1) := by decide +kernel
theorem dX12_isLetter_1 : decode cX12_isLetter 1 = .ok (.bipush 97, 2) := by decide +kernel
theorem dX12_isLetter_3 : decode cX12_isLetter 3 = .ok (.if_icmp .lt 13, 3) := by decide +kernel
theorem dX12_isLetter_6 : decode cX12_isLetter 6 = .ok (.iload_n 0, 1) := by decide +kernel
theorem dX12_isLetter_7 : decode cX12_isLetter 7 = .ok (.bipush 122, 2) := by decide +kernel
theorem dX12_isLetter_9 : decode cX12_isLetter 9 = .ok (.if_icmp .gt 7, 3) := by decide +kernel
theorem dX12_isLetter_12 : decode cX12_isLetter 12 = .ok (.iconst 1, 1) := by decide +kernel
theorem dX12_isLetter_13 : decode cX12_isLetter 13 = .ok (.goto 4, 3) := by decide +kernel
theorem dX12_isLetter_16 : decode cX12_isLetter 16 = .ok (.iconst 0, 1) := by decide +kernel
theorem dX12_isLetter_17 : decode cX12_isLetter 17 = .ok (.ireturn, 1) := by decide +kernel
theorem dX12_isDigit_0 : decode cX12_isDigit 0 = .ok (.iload_n 0, 1) := by decide +kernel
theorem dX12_isDigit_1 : decode cX12_isDigit 1 = .ok (.bipush 48, 2) := by decide +kernel
theorem dX12_isDigit_3 : decode cX12_isDigit 3 = .ok (.if_icmp .lt 13, 3) := by decide +kernel
theorem dX12_isDigit_6 : decode cX12_isDigit 6 = .ok (.iload_n 0, 1) := by decide +kernel
theorem dX12_isDigit_7 : decode cX12_isDigit 7 = .ok (.bipush 57, 2) := by decide +kernel
theorem dX12_isDigit_9 : decode cX12_isDigit 9 = .ok (.if_icmp .gt 7, 3) := by decide +kernel
theorem dX12_isDigit_12 : decode cX12_isDigit 12 = .ok (.iconst 1, 1) := by decide +kernel
theorem dX12_isDigit_13 : decode cX12_isDigit 13 = .ok (.goto 4, 3) := by decide +kernel
theorem dX12_isDigit_16 : decode cX12_isDigit 16 = .ok (.iconst 0, 1) := by decide +kernel
theorem dX12_isDigit_17 : decode cX12_isDigit 17 = .ok (.ireturn, 1) := by decide +kernel
theorem dX12_rank_0 : decode cX12_rank 0 = .ok (.iload_n 0, 1) := by decide +kernel
theorem dX12_rank_1 : decode cX12_rank 1 = .ok (.invokestatic 127, 3) := by decide +kernel
theorem dX12_rank_4 : decode cX12_rank 4 = .ok (.ifCond .eq 10, 3) := by decide +kernel
theorem dX12_rank_7 : decode cX12_rank 7 = .ok (.iload_n 0, 1) := by decide +kernel
theorem dX12_rank_8 : decode cX12_rank 8 = .ok (.bipush 96, 2) := by decide +kernel
theorem dX12_rank_10 : decode cX12_rank 10 = .ok (.isub, 1) := by decide +kernel
theorem dX12_rank_11 : decode cX12_rank 11 = .ok (.goto 7, 3) := by decide +kernel
theorem dX12_rank_14 : decode cX12_rank 14 = .ok (.iload_n 0, 1) := by decide +kernel
theorem dX12_rank_15 : decode cX12_rank 15 = .ok (.bipush 21, 2) := by decide +kernel
theorem dX12_rank_17 : decode cX12_rank 17 = .ok (.isub, 1) := by decide +kernel
theorem dX12_rank_18 : decode cX12_rank 18 = .ok (.ireturn, 1) := by decide +kernel
theorem dX12_isSignOf_0 : decode cX12_isSignOf 0 = .ok (.iload_n 0, 1) := by decide +kernel
theorem dX12_isSignOf_1 : decode cX12_isSignOf 1 = .ok (.bipush 40, 2) := by decide +kernel
theorem dX12_isSignOf_3 : decode cX12_isSignOf 3 = .ok (.if_icmp .eq 45, 3) := by decide +kernel
theorem dX12_isSignOf_6 : decode cX12_isSignOf 6 = .ok (.iload_n 0, 1) := by decide +kernel
theorem dX12_isSignOf_7 : decode cX12_isSignOf 7 = .ok (.bipush 41, 2) := by decide +kernel
theorem dX12_isSignOf_9 : decode cX12_isSignOf 9 = .ok (.if_icmp .eq 39, 3) := by decide +kernel
theorem dX12_isSignOf_12 : decode cX12_isSignOf 12 = .ok (.iload_n 0, 1) := by decide +kernel
theorem dX12_isSignOf_13 : decode cX12_isSignOf 13 = .ok (.bipush 59, 2) := by decide +kernel
theorem dX12_isSignOf_15 : decode cX12_isSignOf 15 = .ok (.if_icmp .eq 33, 3) := by decide +kernel
theorem dX12_isSignOf_18 : decode cX12_isSignOf 18 = .ok (.iload_n 0, 1) := by decide +kernel
theorem dX12_isSignOf_19 : decode cX12_isSignOf 19 = .ok (.bipush 61, 2) := by decide +kernel
theorem dX12_isSignOf_21 : decode cX12_isSignOf 21 = .ok (.if_icmp .eq 27, 3) := by decide +kernel
theorem dX12_isSignOf_24 : decode cX12_isSignOf 24 = .ok (.iload_n 0, 1) := by decide +kernel
theorem dX12_isSignOf_25 : decode cX12_isSignOf 25 = .ok (.bipush 60, 2) := by decide +kernel
theorem dX12_isSignOf_27 : decode cX12_isSignOf 27 = .ok (.if_icmp .eq 21, 3) := by decide +kernel
theorem dX12_isSignOf_30 : decode cX12_isSignOf 30 = .ok (.iload_n 0, 1) := by decide +kernel
theorem dX12_isSignOf_31 : decode cX12_isSignOf 31 = .ok (.bipush 43, 2) := by decide +kernel
theorem dX12_isSignOf_33 : decode cX12_isSignOf 33 = .ok (.if_icmp .eq 15, 3) := by decide +kernel
theorem dX12_isSignOf_36 : decode cX12_isSignOf 36 = .ok (.iload_n 0, 1) := by decide +kernel
theorem dX12_isSignOf_37 : decode cX12_isSignOf 37 = .ok (.bipush 45, 2) := by decide +kernel
theorem dX12_isSignOf_39 : decode cX12_isSignOf 39 = .ok (.if_icmp .eq 9, 3) := by decide +kernel
theorem dX12_isSignOf_42 : decode cX12_isSignOf 42 = .ok (.iload_n 0, 1) := by decide +kernel
theorem dX12_isSignOf_43 : decode cX12_isSignOf 43 = .ok (.bipush 42, 2) := by decide +kernel
theorem dX12_isSignOf_45 : decode cX12_isSignOf 45 = .ok (.if_icmp .ne 7, 3) := by decide +kernel
theorem dX12_isSignOf_48 : decode cX12_isSignOf 48 = .ok (.iconst 1, 1) := by decide +kernel
theorem dX12_isSignOf_49 : decode cX12_isSignOf 49 = .ok (.goto 4, 3) := by decide +kernel
theorem dX12_isSignOf_52 : decode cX12_isSignOf 52 = .ok (.iconst 0, 1) := by decide +kernel
theorem dX12_isSignOf_53 : decode cX12_isSignOf 53 = .ok (.ireturn, 1) := by decide +kernel
theorem dX12_cutAll_0 : decode cX12_cutAll 0 = .ok (.aload_n 0, 1) := by decide +kernel
theorem dX12_cutAll_1 : decode cX12_cutAll 1 = .ok (.aload_n 0, 1) := by decide +kernel
theorem dX12_cutAll_2 : decode cX12_cutAll 2 = .ok (.getfield 11, 3) := by decide +kernel
theorem dX12_cutAll_5 : decode cX12_cutAll 5 = .ok (.putfield 131, 3) := by decide +kernel
theorem dX12_cutAll_8 : decode cX12_cutAll 8 = .ok (.aload_n 0, 1) := by decide +kernel
theorem dX12_cutAll_9 : decode cX12_cutAll 9 = .ok (.iconst 0, 1) := by decide +kernel
theorem dX12_cutAll_10 : decode cX12_cutAll 10 = .ok (.putfield 11, 3) := by decide +kernel
theorem dX12_cutAll_13 : decode cX12_cutAll 13 = .ok (.iconst 0, 1) := by decide +kernel
theorem dX12_cutAll_14 : decode cX12_cutAll 14 = .ok (.istore_n 1, 1) := by decide +kernel
theorem dX12_cutAll_15 : decode cX12_cutAll 15 = .ok (.iconst 0, 1) := by decide +kernel
theorem dX12_cutAll_16 : decode cX12_cutAll 16 = .ok (.istore_n 2, 1) := by decide +kernel
theorem dX12_cutAll_17 : decode cX12_cutAll 17 = .ok (.iload_n 2, 1) := by decide +kernel
theorem dX12_cutAll_18 : decode cX12_cutAll 18 = .ok (.aload_n 0, 1) := by decide +kernel
theorem dX12_cutAll_19 : decode cX12_cutAll 19 = .ok (.getfield 131, 3) := by decide +kernel
theorem dX12_cutAll_22 : decode cX12_cutAll 22 = .ok (.if_icmp .ge 257, 3) := by decide +kernel
theorem dX12_cutAll_25 : decode cX12_cutAll 25 = .ok (.aload_n 0, 1) := by decide +kernel
theorem dX12_cutAll_26 : decode cX12_cutAll 26 = .ok (.getfield 14, 3) := by decide +kernel
theorem dX12_cutAll_29 : decode cX12_cutAll 29 = .ok (.iload_n 2, 1) := by decide +kernel
theorem dX12_cutAll_30 : decode cX12_cutAll 30 = .ok (.iaload, 1) := by decide +kernel
theorem dX12_cutAll_31 : decode cX12_cutAll 31 = .ok (.istore_n 3, 1) := by decide +kernel
theorem dX12_cutAll_32 : decode cX12_cutAll 32 = .ok (.iload_n 3, 1) := by decide +kernel
theorem dX12_cutAll_33 : decode cX12_cutAll 33 = .ok (.bipush 10, 2) := by decide +kernel
theorem dX12_cutAll_35 : decode cX12_cutAll 35 = .ok (.if_icmp .eq 9, 3) := by decide +kernel
theorem dX12_cutAll_38 : decode cX12_cutAll 38 = .ok (.iload_n 3, 1) := by decide +kernel
theorem dX12_cutAll_39 : decode cX12_cutAll 39 = .ok (.bipush 32, 2) := by decide +kernel
theorem dX12_cutAll_41 : decode cX12_cutAll 41 = .ok (.if_icmp .ne 9, 3) := by decide +kernel
theorem dX12_cutAll_44 : decode cX12_cutAll 44 = .ok (.iinc 2 1, 3) := by decide +kernel
theorem dX12_cutAll_47 : decode cX12_cutAll 47 = .ok (.goto (-30), 3) := by decide +kernel
theorem dX12_cutAll_50 : decode cX12_cutAll 50 = .ok (.iload_n 2, 1) := by decide +kernel
theorem dX12_cutAll_51 : decode cX12_cutAll 51 = .ok (.istore 4, 2) := by decide +kernel
theorem dX12_cutAll_53 : decode cX12_cutAll 53 = .ok (.lconst 0, 1) := by decide +kernel
theorem dX12_cutAll_54 : decode cX12_cutAll 54 = .ok (.lstore 5, 2) := by decide +kernel
theorem dX12_cutAll_56 : decode cX12_cutAll 56 = .ok (.aload_n 0, 1) := by decide +kernel
theorem dX12_cutAll_57 : decode cX12_cutAll 57 = .ok (.getfield 27, 3) := by decide +kernel
theorem dX12_cutAll_60 : decode cX12_cutAll 60 = .ok (.iload_n 1, 1) := by decide +kernel
theorem dX12_cutAll_61 : decode cX12_cutAll 61 = .ok (.iload_n 2, 1) := by decide +kernel
theorem dX12_cutAll_62 : decode cX12_cutAll 62 = .ok (.iastore, 1) := by decide +kernel
theorem dX12_cutAll_63 : decode cX12_cutAll 63 = .ok (.iload_n 3, 1) := by decide +kernel
theorem dX12_cutAll_64 : decode cX12_cutAll 64 = .ok (.invokestatic 127, 3) := by decide +kernel
theorem dX12_cutAll_67 : decode cX12_cutAll 67 = .ok (.ifCond .eq 85, 3) := by decide +kernel
theorem dX12_cutAll_70 : decode cX12_cutAll 70 = .ok (.iload_n 2, 1) := by decide +kernel
theorem dX12_cutAll_71 : decode cX12_cutAll 71 = .ok (.aload_n 0, 1) := by decide +kernel
theorem dX12_cutAll_72 : decode cX12_cutAll 72 = .ok (.getfield 131, 3) := by decide +kernel
theorem dX12_cutAll_75 : decode cX12_cutAll 75 = .ok (.if_icmp .ge 54, 3) := by decide +kernel
theorem dX12_cutAll_78 : decode cX12_cutAll 78 = .ok (.aload_n 0, 1) := by decide +kernel
theorem dX12_cutAll_79 : decode cX12_cutAll 79 = .ok (.getfield 14, 3) := by decide +kernel
theorem dX12_cutAll_82 : decode cX12_cutAll 82 = .ok (.iload_n 2, 1) := by decide +kernel
theorem dX12_cutAll_83 : decode cX12_cutAll 83 = .ok (.iaload, 1) := by decide +kernel
theorem dX12_cutAll_84 : decode cX12_cutAll 84 = .ok (.invokestatic 127, 3) := by decide +kernel
theorem dX12_cutAll_87 : decode cX12_cutAll 87 = .ok (.ifCond .eq 42, 3) := by decide +kernel
theorem dX12_cutAll_90 : decode cX12_cutAll 90 = .ok (.iload_n 2, 1) := by decide +kernel
theorem dX12_cutAll_91 : decode cX12_cutAll 91 = .ok (.iload 4, 2) := by decide +kernel
theorem dX12_cutAll_93 : decode cX12_cutAll 93 = .ok (.isub, 1) := by decide +kernel
theorem dX12_cutAll_94 : decode cX12_cutAll 94 = .ok (.bipush 8, 2) := by decide +kernel
theorem dX12_cutAll_96 : decode cX12_cutAll 96 = .ok (.if_icmp .ge 23, 3) := by decide +kernel
theorem dX12_cutAll_99 : decode cX12_cutAll 99 = .ok (.ldc2_w 134, 3) := by decide +kernel
theorem dX12_cutAll_102 : decode cX12_cutAll 102 = .ok (.lload 5, 2) := by decide +kernel
theorem dX12_cutAll_104 : decode cX12_cutAll 104 = .ok (.lmul, 1) := by decide +kernel
theorem dX12_cutAll_105 : decode cX12_cutAll 105 = .ok (.aload_n 0, 1) := by decide +kernel
theorem dX12_cutAll_106 : decode cX12_cutAll 106 = .ok (.getfield 14, 3) := by decide +kernel
theorem dX12_cutAll_109 : decode cX12_cutAll 109 = .ok (.iload_n 2, 1) := by decide +kernel
theorem dX12_cutAll_110 : decode cX12_cutAll 110 = .ok (.iaload, 1) := by decide +kernel
theorem dX12_cutAll_111 : decode cX12_cutAll 111 = .ok (.invokestatic 136, 3) := by decide +kernel
theorem dX12_cutAll_114 : decode cX12_cutAll 114 = .ok (.i2l, 1) := by decide +kernel
theorem dX12_cutAll_115 : decode cX12_cutAll 115 = .ok (.ladd, 1) := by decide +kernel
theorem dX12_cutAll_116 : decode cX12_cutAll 116 = .ok (.goto 5, 3) := by decide +kernel
theorem dX12_cutAll_119 : decode cX12_cutAll 119 = .ok (.lload 5, 2) := by decide +kernel
theorem dX12_cutAll_121 : decode cX12_cutAll 121 = .ok (.lstore 5, 2) := by decide +kernel
theorem dX12_cutAll_123 : decode cX12_cutAll 123 = .ok (.iinc 2 1, 3) := by decide +kernel
theorem dX12_cutAll_126 : decode cX12_cutAll 126 = .ok (.goto (-56), 3) := by decide +kernel
theorem dX12_cutAll_129 : decode cX12_cutAll 129 = .ok (.aload_n 0, 1) := by decide +kernel
theorem dX12_cutAll_130 : decode cX12_cutAll 130 = .ok (.getfield 24, 3) := by decide +kernel
theorem dX12_cutAll_133 : decode cX12_cutAll 133 = .ok (.iload_n 1, 1) := by decide +kernel
theorem dX12_cutAll_134 : decode cX12_cutAll 134 = .ok (.iload_n 2, 1) := by decide +kernel
theorem dX12_cutAll_135 : decode cX12_cutAll 135 = .ok (.iload 4, 2) := by decide +kernel
theorem dX12_cutAll_137 : decode cX12_cutAll 137 = .ok (.isub, 1) := by decide +kernel
theorem dX12_cutAll_138 : decode cX12_cutAll 138 = .ok (.bipush 8, 2) := by decide +kernel
theorem dX12_cutAll_140 : decode cX12_cutAll 140 = .ok (.if_icmp .le 7, 3) := by decide +kernel
theorem dX12_cutAll_143 : decode cX12_cutAll 143 = .ok (.iconst 4, 1) := by decide +kernel
theorem dX12_cutAll_144 : decode cX12_cutAll 144 = .ok (.goto 4, 3) := by decide +kernel
theorem dX12_cutAll_147 : decode cX12_cutAll 147 = .ok (.iconst 1, 1) := by decide +kernel
theorem dX12_cutAll_148 : decode cX12_cutAll 148 = .ok (.iastore, 1) := by decide +kernel
theorem dX12_cutAll_149 : decode cX12_cutAll 149 = .ok (.goto 116, 3) := by decide +kernel
theorem dX12_cutAll_152 : decode cX12_cutAll 152 = .ok (.iload_n 3, 1) := by decide +kernel
theorem dX12_cutAll_153 : decode cX12_cutAll 153 = .ok (.invokestatic 140, 3) := by decide +kernel
theorem dX12_cutAll_156 : decode cX12_cutAll 156 = .ok (.ifCond .eq 84, 3) := by decide +kernel
theorem dX12_cutAll_159 : decode cX12_cutAll 159 = .ok (.iload_n 2, 1) := by decide +kernel
theorem dX12_cutAll_160 : decode cX12_cutAll 160 = .ok (.aload_n 0, 1) := by decide +kernel
theorem dX12_cutAll_161 : decode cX12_cutAll 161 = .ok (.getfield 131, 3) := by decide +kernel
theorem dX12_cutAll_164 : decode cX12_cutAll 164 = .ok (.if_icmp .ge 54, 3) := by decide +kernel
theorem dX12_cutAll_167 : decode cX12_cutAll 167 = .ok (.aload_n 0, 1) := by decide +kernel
theorem dX12_cutAll_168 : decode cX12_cutAll 168 = .ok (.getfield 14, 3) := by decide +kernel
theorem dX12_cutAll_171 : decode cX12_cutAll 171 = .ok (.iload_n 2, 1) := by decide +kernel
theorem dX12_cutAll_172 : decode cX12_cutAll 172 = .ok (.iaload, 1) := by decide +kernel
theorem dX12_cutAll_173 : decode cX12_cutAll 173 = .ok (.invokestatic 140, 3) := by decide +kernel
theorem dX12_cutAll_176 : decode cX12_cutAll 176 = .ok (.ifCond .eq 42, 3) := by decide +kernel
theorem dX12_cutAll_179 : decode cX12_cutAll 179 = .ok (.iload_n 2, 1) := by decide +kernel
theorem dX12_cutAll_180 : decode cX12_cutAll 180 = .ok (.iload 4, 2) := by decide +kernel
theorem dX12_cutAll_182 : decode cX12_cutAll 182 = .ok (.isub, 1) := by decide +kernel
theorem dX12_cutAll_183 : decode cX12_cutAll 183 = .ok (.iconst 4, 1) := by decide +kernel
theorem dX12_cutAll_184 : decode cX12_cutAll 184 = .ok (.if_icmp .ge 24, 3) := by decide +kernel
theorem dX12_cutAll_187 : decode cX12_cutAll 187 = .ok (.ldc2_w 143, 3) := by decide +kernel
theorem dX12_cutAll_190 : decode cX12_cutAll 190 = .ok (.lload 5, 2) := by decide +kernel
theorem dX12_cutAll_192 : decode cX12_cutAll 192 = .ok (.lmul, 1) := by decide +kernel
theorem dX12_cutAll_193 : decode cX12_cutAll 193 = .ok (.aload_n 0, 1) := by decide +kernel
theorem dX12_cutAll_194 : decode cX12_cutAll 194 = .ok (.getfield 14, 3) := by decide +kernel
theorem dX12_cutAll_197 : decode cX12_cutAll 197 = .ok (.iload_n 2, 1) := by decide +kernel
theorem dX12_cutAll_198 : decode cX12_cutAll 198 = .ok (.iaload, 1) := by decide +kernel
theorem dX12_cutAll_199 : decode cX12_cutAll 199 = .ok (.i2l, 1) := by decide +kernel
theorem dX12_cutAll_200 : decode cX12_cutAll 200 = .ok (.ladd, 1) := by decide +kernel
theorem dX12_cutAll_201 : decode cX12_cutAll 201 = .ok (.ldc2_w 145, 3) := by decide +kernel
theorem dX12_cutAll_204 : decode cX12_cutAll 204 = .ok (.lsub, 1) := by decide +kernel
theorem dX12_cutAll_205 : decode cX12_cutAll 205 = .ok (.goto 5, 3) := by decide +kernel
theorem dX12_cutAll_208 : decode cX12_cutAll 208 = .ok (.lload 5, 2) := by decide +kernel
theorem dX12_cutAll_210 : decode cX12_cutAll 210 = .ok (.lstore 5, 2) := by decide +kernel
theorem dX12_cutAll_212 : decode cX12_cutAll 212 = .ok (.iinc 2 1, 3) := by decide +kernel
theorem dX12_cutAll_215 : decode cX12_cutAll 215 = .ok (.goto (-56), 3) := by decide +kernel
theorem dX12_cutAll_218 : decode cX12_cutAll 218 = .ok (.aload_n 0, 1) := by decide +kernel
theorem dX12_cutAll_219 : decode cX12_cutAll 219 = .ok (.getfield 24, 3) := by decide +kernel
theorem dX12_cutAll_222 : decode cX12_cutAll 222 = .ok (.iload_n 1, 1) := by decide +kernel
theorem dX12_cutAll_223 : decode cX12_cutAll 223 = .ok (.iload_n 2, 1) := by decide +kernel
theorem dX12_cutAll_224 : decode cX12_cutAll 224 = .ok (.iload 4, 2) := by decide +kernel
theorem dX12_cutAll_226 : decode cX12_cutAll 226 = .ok (.isub, 1) := by decide +kernel
theorem dX12_cutAll_227 : decode cX12_cutAll 227 = .ok (.iconst 4, 1) := by decide +kernel
theorem dX12_cutAll_228 : decode cX12_cutAll 228 = .ok (.if_icmp .le 7, 3) := by decide +kernel
theorem dX12_cutAll_231 : decode cX12_cutAll 231 = .ok (.iconst 4, 1) := by decide +kernel
theorem dX12_cutAll_232 : decode cX12_cutAll 232 = .ok (.goto 4, 3) := by decide +kernel
theorem dX12_cutAll_235 : decode cX12_cutAll 235 = .ok (.iconst 2, 1) := by decide +kernel
theorem dX12_cutAll_236 : decode cX12_cutAll 236 = .ok (.iastore, 1) := by decide +kernel
theorem dX12_cutAll_237 : decode cX12_cutAll 237 = .ok (.goto 28, 3) := by decide +kernel
theorem dX12_cutAll_240 : decode cX12_cutAll 240 = .ok (.iload_n 3, 1) := by decide +kernel
theorem dX12_cutAll_241 : decode cX12_cutAll 241 = .ok (.i2l, 1) := by decide +kernel
theorem dX12_cutAll_242 : decode cX12_cutAll 242 = .ok (.lstore 5, 2) := by decide +kernel
theorem dX12_cutAll_244 : decode cX12_cutAll 244 = .ok (.aload_n 0, 1) := by decide +kernel
theorem dX12_cutAll_245 : decode cX12_cutAll 245 = .ok (.getfield 24, 3) := by decide +kernel
theorem dX12_cutAll_248 : decode cX12_cutAll 248 = .ok (.iload_n 1, 1) := by decide +kernel
theorem dX12_cutAll_249 : decode cX12_cutAll 249 = .ok (.iload_n 3, 1) := by decide +kernel
theorem dX12_cutAll_250 : decode cX12_cutAll 250 = .ok (.invokestatic 147, 3) := by decide +kernel
theorem dX12_cutAll_253 : decode cX12_cutAll 253 = .ok (.ifCond .eq 7, 3) := by decide +kernel
theorem dX12_cutAll_256 : decode cX12_cutAll 256 = .ok (.iconst 3, 1) := by decide +kernel
theorem dX12_cutAll_257 : decode cX12_cutAll 257 = .ok (.goto 4, 3) := by decide +kernel
theorem dX12_cutAll_260 : decode cX12_cutAll 260 = .ok (.iconst 4, 1) := by decide +kernel
theorem dX12_cutAll_261 : decode cX12_cutAll 261 = .ok (.iastore, 1) := by decide +kernel
theorem dX12_cutAll_262 : decode cX12_cutAll 262 = .ok (.iinc 2 1, 3) := by decide +kernel
theorem dX12_cutAll_265 : decode cX12_cutAll 265 = .ok (.aload_n 0, 1) := by decide +kernel
theorem dX12_cutAll_266 : decode cX12_cutAll 266 = .ok (.getfield 30, 3) := by decide +kernel
theorem dX12_cutAll_269 : decode cX12_cutAll 269 = .ok (.iload_n 1, 1) := by decide +kernel
theorem dX12_cutAll_270 : decode cX12_cutAll 270 = .ok (.lload 5, 2) := by decide +kernel
theorem dX12_cutAll_272 : decode cX12_cutAll 272 = .ok (.lastore, 1) := by decide +kernel
theorem dX12_cutAll_273 : decode cX12_cutAll 273 = .ok (.iinc 1 1, 3) := by decide +kernel
theorem dX12_cutAll_276 : decode cX12_cutAll 276 = .ok (.goto (-259), 3) := by decide +kernel
theorem dX12_cutAll_279 : decode cX12_cutAll 279 = .ok (.aload_n 0, 1) := by decide +kernel
theorem dX12_cutAll_280 : decode cX12_cutAll 280 = .ok (.getfield 24, 3) := by decide +kernel
theorem dX12_cutAll_283 : decode cX12_cutAll 283 = .ok (.iload_n 1, 1) := by decide +kernel
theorem dX12_cutAll_284 : decode cX12_cutAll 284 = .ok (.iconst 0, 1) := by decide +kernel
theorem dX12_cutAll_285 : decode cX12_cutAll 285 = .ok (.iastore, 1) := by decide +kernel
theorem dX12_cutAll_286 : decode cX12_cutAll 286 = .ok (.aload_n 0, 1) := by decide +kernel
theorem dX12_cutAll_287 : decode cX12_cutAll 287 = .ok (.getfield 27, 3) := by decide +kernel
theorem dX12_cutAll_290 : decode cX12_cutAll 290 = .ok (.iload_n 1, 1) := by decide +kernel
theorem dX12_cutAll_291 : decode cX12_cutAll 291 = .ok (.aload_n 0, 1) := by decide +kernel
theorem dX12_cutAll_292 : decode cX12_cutAll 292 = .ok (.getfield 131, 3) := by decide +kernel
theorem dX12_cutAll_295 : decode cX12_cutAll 295 = .ok (.iastore, 1) := by decide +kernel
theorem dX12_cutAll_296 : decode cX12_cutAll 296 = .ok (.aload_n 0, 1) := by decide +kernel
theorem dX12_cutAll_297 : decode cX12_cutAll 297 = .ok (.iconst 0, 1) := by decide +kernel
theorem dX12_cutAll_298 : decode cX12_cutAll 298 = .ok (.putfield 150, 3) := by decide +kernel
theorem dX12_cutAll_301 : decode cX12_cutAll 301 = .ok (.aload_n 0, 1) := by decide +kernel
theorem dX12_cutAll_302 : decode cX12_cutAll 302 = .ok (.iconst 0, 1) := by decide +kernel
theorem dX12_cutAll_303 : decode cX12_cutAll 303 = .ok (.putfield 153, 3) := by decide +kernel
theorem dX12_cutAll_306 : decode cX12_cutAll 306 = .ok (.return_, 1) := by decide +kernel
theorem dX12_wrong_0 : decode cX12_wrong 0 = .ok (.aload_n 0, 1) := by decide +kernel
theorem dX12_wrong_1 : decode cX12_wrong 1 = .ok (.getfield 153, 3) := by decide +kernel
theorem dX12_wrong_4 : decode cX12_wrong 4 = .ok (.ifCond .ne 21, 3) := by decide +kernel
theorem dX12_wrong_7 : decode cX12_wrong 7 = .ok (.aload_n 0, 1) := by decide +kernel
theorem dX12_wrong_8 : decode cX12_wrong 8 = .ok (.iload_n 1, 1) := by decide +kernel
theorem dX12_wrong_9 : decode cX12_wrong 9 = .ok (.bipush 16, 2) := by decide +kernel
theorem dX12_wrong_11 : decode cX12_wrong 11 = .ok (.aload_n 0, 1) := by decide +kernel
theorem dX12_wrong_12 : decode cX12_wrong 12 = .ok (.getfield 27, 3) := by decide +kernel
theorem dX12_wrong_15 : decode cX12_wrong 15 = .ok (.aload_n 0, 1) := by decide +kernel
theorem dX12_wrong_16 : decode cX12_wrong 16 = .ok (.getfield 150, 3) := by decide +kernel
theorem dX12_wrong_19 : decode cX12_wrong 19 = .ok (.iaload, 1) := by decide +kernel
theorem dX12_wrong_20 : decode cX12_wrong 20 = .ok (.imul, 1) := by decide +kernel
theorem dX12_wrong_21 : decode cX12_wrong 21 = .ok (.iadd, 1) := by decide +kernel
theorem dX12_wrong_22 : decode cX12_wrong 22 = .ok (.putfield 153, 3) := by decide +kernel
theorem dX12_wrong_25 : decode cX12_wrong 25 = .ok (.return_, 1) := by decide +kernel
theorem dX12_isSign_0 : decode cX12_isSign 0 = .ok (.aload_n 0, 1) := by decide +kernel
theorem dX12_isSign_1 : decode cX12_isSign 1 = .ok (.getfield 153, 3) := by decide +kernel
theorem dX12_isSign_4 : decode cX12_isSign 4 = .ok (.ifCond .ne 35, 3) := by decide +kernel
theorem dX12_isSign_7 : decode cX12_isSign 7 = .ok (.aload_n 0, 1) := by decide +kernel
theorem dX12_isSign_8 : decode cX12_isSign 8 = .ok (.getfield 24, 3) := by decide +kernel
theorem dX12_isSign_11 : decode cX12_isSign 11 = .ok (.aload_n 0, 1) := by decide +kernel
theorem dX12_isSign_12 : decode cX12_isSign 12 = .ok (.getfield 150, 3) := by decide +kernel
theorem dX12_isSign_15 : decode cX12_isSign 15 = .ok (.iaload, 1) := by decide +kernel
theorem dX12_isSign_16 : decode cX12_isSign 16 = .ok (.iconst 3, 1) := by decide +kernel
theorem dX12_isSign_17 : decode cX12_isSign 17 = .ok (.if_icmp .ne 22, 3) := by decide +kernel
theorem dX12_isSign_20 : decode cX12_isSign 20 = .ok (.aload_n 0, 1) := by decide +kernel
theorem dX12_isSign_21 : decode cX12_isSign 21 = .ok (.getfield 30, 3) := by decide +kernel
theorem dX12_isSign_24 : decode cX12_isSign 24 = .ok (.aload_n 0, 1) := by decide +kernel
theorem dX12_isSign_25 : decode cX12_isSign 25 = .ok (.getfield 150, 3) := by decide +kernel
theorem dX12_isSign_28 : decode cX12_isSign 28 = .ok (.laload, 1) := by decide +kernel
theorem dX12_isSign_29 : decode cX12_isSign 29 = .ok (.iload_n 1, 1) := by decide +kernel
theorem dX12_isSign_30 : decode cX12_isSign 30 = .ok (.i2l, 1) := by decide +kernel
theorem dX12_isSign_31 : decode cX12_isSign 31 = .ok (.lcmp, 1) := by decide +kernel
theorem dX12_isSign_32 : decode cX12_isSign 32 = .ok (.ifCond .ne 7, 3) := by decide +kernel
theorem dX12_isSign_35 : decode cX12_isSign 35 = .ok (.iconst 1, 1) := by decide +kernel
theorem dX12_isSign_36 : decode cX12_isSign 36 = .ok (.goto 4, 3) := by decide +kernel
theorem dX12_isSign_39 : decode cX12_isSign 39 = .ok (.iconst 0, 1) := by decide +kernel
theorem dX12_isSign_40 : decode cX12_isSign 40 = .ok (.ireturn, 1) := by decide +kernel
theorem dX12_isWord_0 : decode cX12_isWord 0 = .ok (.aload_n 0, 1) := by decide +kernel
theorem dX12_isWord_1 : decode cX12_isWord 1 = .ok (.getfield 153, 3) := by decide +kernel
theorem dX12_isWord_4 : decode cX12_isWord 4 = .ok (.ifCond .ne 39, 3) := by decide +kernel
theorem dX12_isWord_7 : decode cX12_isWord 7 = .ok (.aload_n 0, 1) := by decide +kernel
theorem dX12_isWord_8 : decode cX12_isWord 8 = .ok (.getfield 24, 3) := by decide +kernel
theorem dX12_isWord_11 : decode cX12_isWord 11 = .ok (.aload_n 0, 1) := by decide +kernel
theorem dX12_isWord_12 : decode cX12_isWord 12 = .ok (.getfield 150, 3) := by decide +kernel
theorem dX12_isWord_15 : decode cX12_isWord 15 = .ok (.iaload, 1) := by decide +kernel
theorem dX12_isWord_16 : decode cX12_isWord 16 = .ok (.iconst 1, 1) := by decide +kernel
theorem dX12_isWord_17 : decode cX12_isWord 17 = .ok (.if_icmp .ne 26, 3) := by decide +kernel
theorem dX12_isWord_20 : decode cX12_isWord 20 = .ok (.aload_n 0, 1) := by decide +kernel
theorem dX12_isWord_21 : decode cX12_isWord 21 = .ok (.getfield 30, 3) := by decide +kernel
theorem dX12_isWord_24 : decode cX12_isWord 24 = .ok (.aload_n 0, 1) := by decide +kernel
theorem dX12_isWord_25 : decode cX12_isWord 25 = .ok (.getfield 150, 3) := by decide +kernel
theorem dX12_isWord_28 : decode cX12_isWord 28 = .ok (.laload, 1) := by decide +kernel
theorem dX12_isWord_29 : decode cX12_isWord 29 = .ok (.aload_n 0, 1) := by decide +kernel
theorem dX12_isWord_30 : decode cX12_isWord 30 = .ok (.getfield 80, 3) := by decide +kernel
theorem dX12_isWord_33 : decode cX12_isWord 33 = .ok (.iload_n 1, 1) := by decide +kernel
theorem dX12_isWord_34 : decode cX12_isWord 34 = .ok (.laload, 1) := by decide +kernel
theorem dX12_isWord_35 : decode cX12_isWord 35 = .ok (.lcmp, 1) := by decide +kernel
theorem dX12_isWord_36 : decode cX12_isWord 36 = .ok (.ifCond .ne 7, 3) := by decide +kernel
theorem dX12_isWord_39 : decode cX12_isWord 39 = .ok (.iconst 1, 1) := by decide +kernel
theorem dX12_isWord_40 : decode cX12_isWord 40 = .ok (.goto 4, 3) := by decide +kernel
theorem dX12_isWord_43 : decode cX12_isWord 43 = .ok (.iconst 0, 1) := by decide +kernel
theorem dX12_isWord_44 : decode cX12_isWord 44 = .ok (.ireturn, 1) := by decide +kernel
theorem dX12_takeSign_0 : decode cX12_takeSign 0 = .ok (.aload_n 0, 1) := by decide +kernel
theorem dX12_takeSign_1 : decode cX12_takeSign 1 = .ok (.iload_n 1, 1) := by decide +kernel
theorem dX12_takeSign_2 : decode cX12_takeSign 2 = .ok (.invokevirtual 156, 3) := by decide +kernel
theorem dX12_takeSign_5 : decode cX12_takeSign 5 = .ok (.ifCond .eq 16, 3) := by decide +kernel
theorem dX12_takeSign_8 : decode cX12_takeSign 8 = .ok (.aload_n 0, 1) := by decide +kernel
theorem dX12_takeSign_9 : decode cX12_takeSign 9 = .ok (.dup, 1) := by decide +kernel
theorem dX12_takeSign_10 : decode cX12_takeSign 10 = .ok (.getfield 150, 3) := by decide +kernel
theorem dX12_takeSign_13 : decode cX12_takeSign 13 = .ok (.iconst 1, 1) := by decide +kernel
theorem dX12_takeSign_14 : decode cX12_takeSign 14 = .ok (.iadd, 1) := by decide +kernel
theorem dX12_takeSign_15 : decode cX12_takeSign 15 = .ok (.putfield 150, 3) := by decide +kernel
theorem dX12_takeSign_18 : decode cX12_takeSign 18 = .ok (.goto 8, 3) := by decide +kernel
theorem dX12_takeSign_21 : decode cX12_takeSign 21 = .ok (.aload_n 0, 1) := by decide +kernel
theorem dX12_takeSign_22 : decode cX12_takeSign 22 = .ok (.iconst 1, 1) := by decide +kernel
theorem dX12_takeSign_23 : decode cX12_takeSign 23 = .ok (.invokevirtual 159, 3) := by decide +kernel
theorem dX12_takeSign_26 : decode cX12_takeSign 26 = .ok (.return_, 1) := by decide +kernel
theorem dX12_hasSign_0 : decode cX12_hasSign 0 = .ok (.aload_n 0, 1) := by decide +kernel
theorem dX12_hasSign_1 : decode cX12_hasSign 1 = .ok (.iload_n 1, 1) := by decide +kernel
theorem dX12_hasSign_2 : decode cX12_hasSign 2 = .ok (.invokevirtual 156, 3) := by decide +kernel
theorem dX12_hasSign_5 : decode cX12_hasSign 5 = .ok (.istore_n 2, 1) := by decide +kernel
theorem dX12_hasSign_6 : decode cX12_hasSign 6 = .ok (.aload_n 0, 1) := by decide +kernel
theorem dX12_hasSign_7 : decode cX12_hasSign 7 = .ok (.dup, 1) := by decide +kernel
theorem dX12_hasSign_8 : decode cX12_hasSign 8 = .ok (.getfield 150, 3) := by decide +kernel
theorem dX12_hasSign_11 : decode cX12_hasSign 11 = .ok (.iload_n 2, 1) := by decide +kernel
theorem dX12_hasSign_12 : decode cX12_hasSign 12 = .ok (.ifCond .eq 7, 3) := by decide +kernel
theorem dX12_hasSign_15 : decode cX12_hasSign 15 = .ok (.iconst 1, 1) := by decide +kernel
theorem dX12_hasSign_16 : decode cX12_hasSign 16 = .ok (.goto 4, 3) := by decide +kernel
theorem dX12_hasSign_19 : decode cX12_hasSign 19 = .ok (.iconst 0, 1) := by decide +kernel
theorem dX12_hasSign_20 : decode cX12_hasSign 20 = .ok (.iadd, 1) := by decide +kernel
theorem dX12_hasSign_21 : decode cX12_hasSign 21 = .ok (.putfield 150, 3) := by decide +kernel
theorem dX12_hasSign_24 : decode cX12_hasSign 24 = .ok (.iload_n 2, 1) := by decide +kernel
theorem dX12_hasSign_25 : decode cX12_hasSign 25 = .ok (.ireturn, 1) := by decide +kernel
theorem dX12_hasWord_0 : decode cX12_hasWord 0 = .ok (.aload_n 0, 1) := by decide +kernel
theorem dX12_hasWord_1 : decode cX12_hasWord 1 = .ok (.iload_n 1, 1) := by decide +kernel
theorem dX12_hasWord_2 : decode cX12_hasWord 2 = .ok (.invokevirtual 162, 3) := by decide +kernel
theorem dX12_hasWord_5 : decode cX12_hasWord 5 = .ok (.istore_n 2, 1) := by decide +kernel
theorem dX12_hasWord_6 : decode cX12_hasWord 6 = .ok (.aload_n 0, 1) := by decide +kernel
theorem dX12_hasWord_7 : decode cX12_hasWord 7 = .ok (.dup, 1) := by decide +kernel
theorem dX12_hasWord_8 : decode cX12_hasWord 8 = .ok (.getfield 150, 3) := by decide +kernel
theorem dX12_hasWord_11 : decode cX12_hasWord 11 = .ok (.iload_n 2, 1) := by decide +kernel
theorem dX12_hasWord_12 : decode cX12_hasWord 12 = .ok (.ifCond .eq 7, 3) := by decide +kernel
theorem dX12_hasWord_15 : decode cX12_hasWord 15 = .ok (.iconst 1, 1) := by decide +kernel
theorem dX12_hasWord_16 : decode cX12_hasWord 16 = .ok (.goto 4, 3) := by decide +kernel
theorem dX12_hasWord_19 : decode cX12_hasWord 19 = .ok (.iconst 0, 1) := by decide +kernel
theorem dX12_hasWord_20 : decode cX12_hasWord 20 = .ok (.iadd, 1) := by decide +kernel
theorem dX12_hasWord_21 : decode cX12_hasWord 21 = .ok (.putfield 150, 3) := by decide +kernel
theorem dX12_hasWord_24 : decode cX12_hasWord 24 = .ok (.iload_n 2, 1) := by decide +kernel
theorem dX12_hasWord_25 : decode cX12_hasWord 25 = .ok (.ireturn, 1) := by decide +kernel
theorem dX12_takeWord_0 : decode cX12_takeWord 0 = .ok (.aload_n 0, 1) := by decide +kernel
theorem dX12_takeWord_1 : decode cX12_takeWord 1 = .ok (.iload_n 1, 1) := by decide +kernel
theorem dX12_takeWord_2 : decode cX12_takeWord 2 = .ok (.invokevirtual 165, 3) := by decide +kernel
theorem dX12_takeWord_5 : decode cX12_takeWord 5 = .ok (.ifCond .ne 8, 3) := by decide +kernel
theorem dX12_takeWord_8 : decode cX12_takeWord 8 = .ok (.aload_n 0, 1) := by decide +kernel
theorem dX12_takeWord_9 : decode cX12_takeWord 9 = .ok (.iconst 1, 1) := by decide +kernel
theorem dX12_takeWord_10 : decode cX12_takeWord 10 = .ok (.invokevirtual 159, 3) := by decide +kernel
theorem dX12_takeWord_13 : decode cX12_takeWord 13 = .ok (.return_, 1) := by decide +kernel
theorem dX12_within_0 : decode cX12_within 0 = .ok (.iload_n 0, 1) := by decide +kernel
theorem dX12_within_1 : decode cX12_within 1 = .ok (.iload_n 1, 1) := by decide +kernel
theorem dX12_within_2 : decode cX12_within 2 = .ok (.if_icmp .lt 12, 3) := by decide +kernel
theorem dX12_within_5 : decode cX12_within 5 = .ok (.iload_n 0, 1) := by decide +kernel
theorem dX12_within_6 : decode cX12_within 6 = .ok (.iload_n 2, 1) := by decide +kernel
theorem dX12_within_7 : decode cX12_within 7 = .ok (.if_icmp .gt 7, 3) := by decide +kernel
theorem dX12_within_10 : decode cX12_within 10 = .ok (.iconst 1, 1) := by decide +kernel
theorem dX12_within_11 : decode cX12_within 11 = .ok (.goto 4, 3) := by decide +kernel
theorem dX12_within_14 : decode cX12_within 14 = .ok (.iconst 0, 1) := by decide +kernel
theorem dX12_within_15 : decode cX12_within 15 = .ok (.ireturn, 1) := by decide +kernel
theorem dX12_standsAsAlways_0 : decode cX12_standsAsAlways 0 = .ok (.iconst 0, 1) := by decide +kernel
theorem dX12_standsAsAlways_1 : decode cX12_standsAsAlways 1 = .ok (.istore_n 2, 1) := by decide +kernel
theorem dX12_standsAsAlways_2 : decode cX12_standsAsAlways 2 = .ok (.iload_n 2, 1) := by decide +kernel
theorem dX12_standsAsAlways_3 : decode cX12_standsAsAlways 3 = .ok (.bipush 50, 2) := by decide +kernel
theorem dX12_standsAsAlways_5 : decode cX12_standsAsAlways 5 = .ok (.if_icmp .ge 18, 3) := by decide +kernel
theorem dX12_standsAsAlways_8 : decode cX12_standsAsAlways 8 = .ok (.aload_n 0, 1) := by decide +kernel
theorem dX12_standsAsAlways_9 : decode cX12_standsAsAlways 9 = .ok (.getfield 83, 3) := by decide +kernel
theorem dX12_standsAsAlways_12 : decode cX12_standsAsAlways 12 = .ok (.iload_n 1, 1) := by decide +kernel
theorem dX12_standsAsAlways_13 : decode cX12_standsAsAlways 13 = .ok (.iload_n 2, 1) := by decide +kernel
theorem dX12_standsAsAlways_14 : decode cX12_standsAsAlways 14 = .ok (.iadd, 1) := by decide +kernel
theorem dX12_standsAsAlways_15 : decode cX12_standsAsAlways 15 = .ok (.iconst 0, 1) := by decide +kernel
theorem dX12_standsAsAlways_16 : decode cX12_standsAsAlways 16 = .ok (.iastore, 1) := by decide +kernel
theorem dX12_standsAsAlways_17 : decode cX12_standsAsAlways 17 = .ok (.iinc 2 1, 3) := by decide +kernel
theorem dX12_standsAsAlways_20 : decode cX12_standsAsAlways 20 = .ok (.goto (-18), 3) := by decide +kernel
theorem dX12_standsAsAlways_23 : decode cX12_standsAsAlways 23 = .ok (.aload_n 0, 1) := by decide +kernel
