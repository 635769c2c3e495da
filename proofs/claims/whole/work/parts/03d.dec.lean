theorem dX12_falls__77 : decode cX12_falls_ 77 = .ok (.iload_n 1, 1) := by decide +kernel
theorem dX12_falls__78 : decode cX12_falls_ 78 = .ok (.ireturn, 1) := by decide +kernel
theorem dX12_spare_0 : decode cX12_spare 0 = .ok (.aload_n 0, 1) := by decide +kernel
theorem dX12_spare_1 : decode cX12_spare 1 = .ok (.iconst 0, 1) := by decide +kernel
theorem dX12_spare_2 : decode cX12_spare 2 = .ok (.putfield 1, 3) := by decide +kernel
theorem dX12_spare_5 : decode cX12_spare 5 = .ok (.aload_n 0, 1) := by decide +kernel
theorem dX12_spare_6 : decode cX12_spare 6 = .ok (.iload_n 1, 1) := by decide +kernel
theorem dX12_spare_7 : decode cX12_spare 7 = .ok (.invokevirtual 305, 3) := by decide +kernel
theorem dX12_spare_10 : decode cX12_spare 10 = .ok (.ifCond .eq 12, 3) := by decide +kernel
theorem dX12_spare_13 : decode cX12_spare 13 = .ok (.aload_n 0, 1) := by decide +kernel
theorem dX12_spare_14 : decode cX12_spare 14 = .ok (.iconst 0, 1) := by decide +kernel
theorem dX12_spare_15 : decode cX12_spare 15 = .ok (.iload_n 1, 1) := by decide +kernel
theorem dX12_spare_16 : decode cX12_spare 16 = .ok (.invokevirtual 268, 3) := by decide +kernel
theorem dX12_spare_19 : decode cX12_spare 19 = .ok (.ifCond .ne 7, 3) := by decide +kernel
theorem dX12_spare_22 : decode cX12_spare 22 = .ok (.sipush (-1000), 3) := by decide +kernel
theorem dX12_spare_25 : decode cX12_spare 25 = .ok (.ireturn, 1) := by decide +kernel
theorem dX12_spare_26 : decode cX12_spare 26 = .ok (.aload_n 0, 1) := by decide +kernel
theorem dX12_spare_27 : decode cX12_spare 27 = .ok (.invokevirtual 329, 3) := by decide +kernel
theorem dX12_spare_30 : decode cX12_spare 30 = .ok (.aload_n 0, 1) := by decide +kernel
theorem dX12_spare_31 : decode cX12_spare 31 = .ok (.iconst 0, 1) := by decide +kernel
theorem dX12_spare_32 : decode cX12_spare 32 = .ok (.invokevirtual 335, 3) := by decide +kernel
theorem dX12_spare_35 : decode cX12_spare 35 = .ok (.istore_n 2, 1) := by decide +kernel
theorem dX12_spare_36 : decode cX12_spare 36 = .ok (.aload_n 0, 1) := by decide +kernel
theorem dX12_spare_37 : decode cX12_spare 37 = .ok (.invokevirtual 329, 3) := by decide +kernel
theorem dX12_spare_40 : decode cX12_spare 40 = .ok (.aload_n 0, 1) := by decide +kernel
theorem dX12_spare_41 : decode cX12_spare 41 = .ok (.sipush 882, 3) := by decide +kernel
theorem dX12_spare_44 : decode cX12_spare 44 = .ok (.iload_n 1, 1) := by decide +kernel
theorem dX12_spare_45 : decode cX12_spare 45 = .ok (.invokevirtual 293, 3) := by decide +kernel
theorem dX12_spare_48 : decode cX12_spare 48 = .ok (.iload_n 2, 1) := by decide +kernel
theorem dX12_spare_49 : decode cX12_spare 49 = .ok (.aload_n 0, 1) := by decide +kernel
theorem dX12_spare_50 : decode cX12_spare 50 = .ok (.iconst 0, 1) := by decide +kernel
theorem dX12_spare_51 : decode cX12_spare 51 = .ok (.invokevirtual 335, 3) := by decide +kernel
theorem dX12_spare_54 : decode cX12_spare 54 = .ok (.isub, 1) := by decide +kernel
theorem dX12_spare_55 : decode cX12_spare 55 = .ok (.ireturn, 1) := by decide +kernel
theorem dX12_peak_0 : decode cX12_peak 0 = .ok (.aload_n 0, 1) := by decide +kernel
theorem dX12_peak_1 : decode cX12_peak 1 = .ok (.iconst 0, 1) := by decide +kernel
theorem dX12_peak_2 : decode cX12_peak 2 = .ok (.putfield 1, 3) := by decide +kernel
theorem dX12_peak_5 : decode cX12_peak 5 = .ok (.aload_n 0, 1) := by decide +kernel
theorem dX12_peak_6 : decode cX12_peak 6 = .ok (.invokevirtual 329, 3) := by decide +kernel
theorem dX12_peak_9 : decode cX12_peak 9 = .ok (.iconst 0, 1) := by decide +kernel
theorem dX12_peak_10 : decode cX12_peak 10 = .ok (.istore_n 1, 1) := by decide +kernel
theorem dX12_peak_11 : decode cX12_peak 11 = .ok (.iconst (-1), 1) := by decide +kernel
theorem dX12_peak_12 : decode cX12_peak 12 = .ok (.istore_n 2, 1) := by decide +kernel
theorem dX12_peak_13 : decode cX12_peak 13 = .ok (.iconst 0, 1) := by decide +kernel
theorem dX12_peak_14 : decode cX12_peak 14 = .ok (.istore_n 3, 1) := by decide +kernel
theorem dX12_peak_15 : decode cX12_peak 15 = .ok (.iload_n 3, 1) := by decide +kernel
theorem dX12_peak_16 : decode cX12_peak 16 = .ok (.bipush 40, 2) := by decide +kernel
theorem dX12_peak_18 : decode cX12_peak 18 = .ok (.if_icmp .gt 51, 3) := by decide +kernel
theorem dX12_peak_21 : decode cX12_peak 21 = .ok (.aload_n 0, 1) := by decide +kernel
theorem dX12_peak_22 : decode cX12_peak 22 = .ok (.sipush 882, 3) := by decide +kernel
theorem dX12_peak_25 : decode cX12_peak 25 = .ok (.invokevirtual 326, 3) := by decide +kernel
theorem dX12_peak_28 : decode cX12_peak 28 = .ok (.istore 4, 2) := by decide +kernel
theorem dX12_peak_30 : decode cX12_peak 30 = .ok (.iload 4, 2) := by decide +kernel
theorem dX12_peak_32 : decode cX12_peak 32 = .ok (.iload_n 2, 1) := by decide +kernel
theorem dX12_peak_33 : decode cX12_peak 33 = .ok (.if_icmp .le 7, 3) := by decide +kernel
theorem dX12_peak_36 : decode cX12_peak 36 = .ok (.iload_n 3, 1) := by decide +kernel
theorem dX12_peak_37 : decode cX12_peak 37 = .ok (.goto 4, 3) := by decide +kernel
theorem dX12_peak_40 : decode cX12_peak 40 = .ok (.iload_n 1, 1) := by decide +kernel
theorem dX12_peak_41 : decode cX12_peak 41 = .ok (.istore_n 1, 1) := by decide +kernel
theorem dX12_peak_42 : decode cX12_peak 42 = .ok (.iload 4, 2) := by decide +kernel
theorem dX12_peak_44 : decode cX12_peak 44 = .ok (.iload_n 2, 1) := by decide +kernel
theorem dX12_peak_45 : decode cX12_peak 45 = .ok (.if_icmp .le 8, 3) := by decide +kernel
theorem dX12_peak_48 : decode cX12_peak 48 = .ok (.iload 4, 2) := by decide +kernel
theorem dX12_peak_50 : decode cX12_peak 50 = .ok (.goto 4, 3) := by decide +kernel
theorem dX12_peak_53 : decode cX12_peak 53 = .ok (.iload_n 2, 1) := by decide +kernel
theorem dX12_peak_54 : decode cX12_peak 54 = .ok (.istore_n 2, 1) := by decide +kernel
theorem dX12_peak_55 : decode cX12_peak 55 = .ok (.aload_n 0, 1) := by decide +kernel
theorem dX12_peak_56 : decode cX12_peak 56 = .ok (.sipush 882, 3) := by decide +kernel
theorem dX12_peak_59 : decode cX12_peak 59 = .ok (.invokevirtual 315, 3) := by decide +kernel
theorem dX12_peak_62 : decode cX12_peak 62 = .ok (.pop, 1) := by decide +kernel
theorem dX12_peak_63 : decode cX12_peak 63 = .ok (.iinc 3 1, 3) := by decide +kernel
theorem dX12_peak_66 : decode cX12_peak 66 = .ok (.goto (-51), 3) := by decide +kernel
theorem dX12_peak_69 : decode cX12_peak 69 = .ok (.iload_n 1, 1) := by decide +kernel
theorem dX12_peak_70 : decode cX12_peak 70 = .ok (.ireturn, 1) := by decide +kernel
theorem dX12_age_0 : decode cX12_age 0 = .ok (.aload_n 0, 1) := by decide +kernel
theorem dX12_age_1 : decode cX12_age 1 = .ok (.iconst 0, 1) := by decide +kernel
theorem dX12_age_2 : decode cX12_age 2 = .ok (.putfield 1, 3) := by decide +kernel
theorem dX12_age_5 : decode cX12_age 5 = .ok (.aload_n 0, 1) := by decide +kernel
theorem dX12_age_6 : decode cX12_age 6 = .ok (.iconst 0, 1) := by decide +kernel
theorem dX12_age_7 : decode cX12_age 7 = .ok (.invokevirtual 326, 3) := by decide +kernel
theorem dX12_age_10 : decode cX12_age 10 = .ok (.bipush 20, 2) := by decide +kernel
theorem dX12_age_12 : decode cX12_age 12 = .ok (.idiv, 1) := by decide +kernel
theorem dX12_age_13 : decode cX12_age 13 = .ok (.ireturn, 1) := by decide +kernel
theorem dX12_move_0 : decode cX12_move 0 = .ok (.aload_n 0, 1) := by decide +kernel
theorem dX12_move_1 : decode cX12_move 1 = .ok (.iconst 0, 1) := by decide +kernel
theorem dX12_move_2 : decode cX12_move 2 = .ok (.putfield 1, 3) := by decide +kernel
theorem dX12_move_5 : decode cX12_move 5 = .ok (.iload_n 1, 1) := by decide +kernel
theorem dX12_move_6 : decode cX12_move 6 = .ok (.iconst 0, 1) := by decide +kernel
theorem dX12_move_7 : decode cX12_move 7 = .ok (.iconst 1, 1) := by decide +kernel
theorem dX12_move_8 : decode cX12_move 8 = .ok (.invokestatic 308, 3) := by decide +kernel
theorem dX12_move_11 : decode cX12_move 11 = .ok (.ifCond .ne 5, 3) := by decide +kernel
theorem dX12_move_14 : decode cX12_move 14 = .ok (.iconst (-1), 1) := by decide +kernel
theorem dX12_move_15 : decode cX12_move 15 = .ok (.ireturn, 1) := by decide +kernel
theorem dX12_move_16 : decode cX12_move 16 = .ok (.aload_n 0, 1) := by decide +kernel
theorem dX12_move_17 : decode cX12_move 17 = .ok (.invokevirtual 329, 3) := by decide +kernel
theorem dX12_move_20 : decode cX12_move 20 = .ok (.aload_n 0, 1) := by decide +kernel
theorem dX12_move_21 : decode cX12_move 21 = .ok (.iconst 0, 1) := by decide +kernel
theorem dX12_move_22 : decode cX12_move 22 = .ok (.invokevirtual 335, 3) := by decide +kernel
theorem dX12_move_25 : decode cX12_move 25 = .ok (.istore_n 2, 1) := by decide +kernel
theorem dX12_move_26 : decode cX12_move 26 = .ok (.iconst (-1), 1) := by decide +kernel
theorem dX12_move_27 : decode cX12_move 27 = .ok (.istore_n 3, 1) := by decide +kernel
theorem dX12_move_28 : decode cX12_move 28 = .ok (.iconst 0, 1) := by decide +kernel
theorem dX12_move_29 : decode cX12_move 29 = .ok (.istore 4, 2) := by decide +kernel
theorem dX12_move_31 : decode cX12_move 31 = .ok (.iload 4, 2) := by decide +kernel
theorem dX12_move_33 : decode cX12_move 33 = .ok (.bipush 12, 2) := by decide +kernel
theorem dX12_move_35 : decode cX12_move 35 = .ok (.aload_n 0, 1) := by decide +kernel
theorem dX12_move_36 : decode cX12_move 36 = .ok (.invokevirtual 252, 3) := by decide +kernel
theorem dX12_move_39 : decode cX12_move 39 = .ok (.imul, 1) := by decide +kernel
theorem dX12_move_40 : decode cX12_move 40 = .ok (.if_icmp .ge 83, 3) := by decide +kernel
theorem dX12_move_43 : decode cX12_move 43 = .ok (.aload_n 0, 1) := by decide +kernel
theorem dX12_move_44 : decode cX12_move 44 = .ok (.iconst 0, 1) := by decide +kernel
theorem dX12_move_45 : decode cX12_move 45 = .ok (.iload 4, 2) := by decide +kernel
theorem dX12_move_47 : decode cX12_move 47 = .ok (.bipush 12, 2) := by decide +kernel
theorem dX12_move_49 : decode cX12_move 49 = .ok (.idiv, 1) := by decide +kernel
theorem dX12_move_50 : decode cX12_move 50 = .ok (.iload 4, 2) := by decide +kernel
theorem dX12_move_52 : decode cX12_move 52 = .ok (.bipush 12, 2) := by decide +kernel
theorem dX12_move_54 : decode cX12_move 54 = .ok (.irem, 1) := by decide +kernel
theorem dX12_move_55 : decode cX12_move 55 = .ok (.invokevirtual 320, 3) := by decide +kernel
theorem dX12_move_58 : decode cX12_move 58 = .ok (.ifCond .eq 59, 3) := by decide +kernel
theorem dX12_move_61 : decode cX12_move 61 = .ok (.aload_n 0, 1) := by decide +kernel
theorem dX12_move_62 : decode cX12_move 62 = .ok (.invokevirtual 329, 3) := by decide +kernel
theorem dX12_move_65 : decode cX12_move 65 = .ok (.aload_n 0, 1) := by decide +kernel
theorem dX12_move_66 : decode cX12_move 66 = .ok (.getfield 107, 3) := by decide +kernel
theorem dX12_move_69 : decode cX12_move 69 = .ok (.sipush 884, 3) := by decide +kernel
theorem dX12_move_72 : decode cX12_move 72 = .ok (.iload 4, 2) := by decide +kernel
theorem dX12_move_74 : decode cX12_move 74 = .ok (.bipush 12, 2) := by decide +kernel
theorem dX12_move_76 : decode cX12_move 76 = .ok (.idiv, 1) := by decide +kernel
theorem dX12_move_77 : decode cX12_move 77 = .ok (.iadd, 1) := by decide +kernel
theorem dX12_move_78 : decode cX12_move 78 = .ok (.iload 4, 2) := by decide +kernel
theorem dX12_move_80 : decode cX12_move 80 = .ok (.bipush 12, 2) := by decide +kernel
theorem dX12_move_82 : decode cX12_move 82 = .ok (.irem, 1) := by decide +kernel
theorem dX12_move_83 : decode cX12_move 83 = .ok (.iastore, 1) := by decide +kernel
theorem dX12_move_84 : decode cX12_move 84 = .ok (.aload_n 0, 1) := by decide +kernel
theorem dX12_move_85 : decode cX12_move 85 = .ok (.iconst 0, 1) := by decide +kernel
theorem dX12_move_86 : decode cX12_move 86 = .ok (.invokevirtual 335, 3) := by decide +kernel
theorem dX12_move_89 : decode cX12_move 89 = .ok (.istore 5, 2) := by decide +kernel
theorem dX12_move_91 : decode cX12_move 91 = .ok (.iload 5, 2) := by decide +kernel
theorem dX12_move_93 : decode cX12_move 93 = .ok (.iload_n 2, 1) := by decide +kernel
theorem dX12_move_94 : decode cX12_move 94 = .ok (.if_icmp .le 8, 3) := by decide +kernel
theorem dX12_move_97 : decode cX12_move 97 = .ok (.iload 4, 2) := by decide +kernel
theorem dX12_move_99 : decode cX12_move 99 = .ok (.goto 4, 3) := by decide +kernel
theorem dX12_move_102 : decode cX12_move 102 = .ok (.iload_n 3, 1) := by decide +kernel
theorem dX12_move_103 : decode cX12_move 103 = .ok (.istore_n 3, 1) := by decide +kernel
theorem dX12_move_104 : decode cX12_move 104 = .ok (.iload 5, 2) := by decide +kernel
theorem dX12_move_106 : decode cX12_move 106 = .ok (.iload_n 2, 1) := by decide +kernel
theorem dX12_move_107 : decode cX12_move 107 = .ok (.if_icmp .le 8, 3) := by decide +kernel
theorem dX12_move_110 : decode cX12_move 110 = .ok (.iload 5, 2) := by decide +kernel
theorem dX12_move_112 : decode cX12_move 112 = .ok (.goto 4, 3) := by decide +kernel
theorem dX12_move_115 : decode cX12_move 115 = .ok (.iload_n 2, 1) := by decide +kernel
theorem dX12_move_116 : decode cX12_move 116 = .ok (.istore_n 2, 1) := by decide +kernel
theorem dX12_move_117 : decode cX12_move 117 = .ok (.iinc 4 1, 3) := by decide +kernel
theorem dX12_move_120 : decode cX12_move 120 = .ok (.goto (-89), 3) := by decide +kernel
theorem dX12_move_123 : decode cX12_move 123 = .ok (.iload_n 3, 1) := by decide +kernel
theorem dX12_move_124 : decode cX12_move 124 = .ok (.ifCond .ge 7, 3) := by decide +kernel
theorem dX12_move_127 : decode cX12_move 127 = .ok (.iconst (-1), 1) := by decide +kernel
theorem dX12_move_128 : decode cX12_move 128 = .ok (.goto 18, 3) := by decide +kernel
theorem dX12_move_131 : decode cX12_move 131 = .ok (.iload_n 1, 1) := by decide +kernel
theorem dX12_move_132 : decode cX12_move 132 = .ok (.ifCond .ne 10, 3) := by decide +kernel
theorem dX12_move_135 : decode cX12_move 135 = .ok (.iload_n 3, 1) := by decide +kernel
theorem dX12_move_136 : decode cX12_move 136 = .ok (.bipush 12, 2) := by decide +kernel
theorem dX12_move_138 : decode cX12_move 138 = .ok (.idiv, 1) := by decide +kernel
theorem dX12_move_139 : decode cX12_move 139 = .ok (.goto 7, 3) := by decide +kernel
theorem dX12_move_142 : decode cX12_move 142 = .ok (.iload_n 3, 1) := by decide +kernel
theorem dX12_move_143 : decode cX12_move 143 = .ok (.bipush 12, 2) := by decide +kernel
theorem dX12_move_145 : decode cX12_move 145 = .ok (.irem, 1) := by decide +kernel
theorem dX12_move_146 : decode cX12_move 146 = .ok (.ireturn, 1) := by decide +kernel
theorem dX12_lastsBanked_0 : decode cX12_lastsBanked 0 = .ok (.aload_n 0, 1) := by decide +kernel
theorem dX12_lastsBanked_1 : decode cX12_lastsBanked 1 = .ok (.invokevirtual 329, 3) := by decide +kernel
theorem dX12_lastsBanked_4 : decode cX12_lastsBanked 4 = .ok (.iconst 0, 1) := by decide +kernel
theorem dX12_lastsBanked_5 : decode cX12_lastsBanked 5 = .ok (.istore_n 2, 1) := by decide +kernel
theorem dX12_lastsBanked_6 : decode cX12_lastsBanked 6 = .ok (.iload_n 2, 1) := by decide +kernel
theorem dX12_lastsBanked_7 : decode cX12_lastsBanked 7 = .ok (.iload_n 1, 1) := by decide +kernel
theorem dX12_lastsBanked_8 : decode cX12_lastsBanked 8 = .ok (.if_icmp .ge 29, 3) := by decide +kernel
theorem dX12_lastsBanked_11 : decode cX12_lastsBanked 11 = .ok (.aload_n 0, 1) := by decide +kernel
theorem dX12_lastsBanked_12 : decode cX12_lastsBanked 12 = .ok (.sipush 882, 3) := by decide +kernel
theorem dX12_lastsBanked_15 : decode cX12_lastsBanked 15 = .ok (.invokevirtual 284, 3) := by decide +kernel
theorem dX12_lastsBanked_18 : decode cX12_lastsBanked 18 = .ok (.ifCond .ne 5, 3) := by decide +kernel
theorem dX12_lastsBanked_21 : decode cX12_lastsBanked 21 = .ok (.iload_n 2, 1) := by decide +kernel
theorem dX12_lastsBanked_22 : decode cX12_lastsBanked 22 = .ok (.ireturn, 1) := by decide +kernel
theorem dX12_lastsBanked_23 : decode cX12_lastsBanked 23 = .ok (.aload_n 0, 1) := by decide +kernel
theorem dX12_lastsBanked_24 : decode cX12_lastsBanked 24 = .ok (.sipush 882, 3) := by decide +kernel
theorem dX12_lastsBanked_27 : decode cX12_lastsBanked 27 = .ok (.invokevirtual 315, 3) := by decide +kernel
theorem dX12_lastsBanked_30 : decode cX12_lastsBanked 30 = .ok (.pop, 1) := by decide +kernel
theorem dX12_lastsBanked_31 : decode cX12_lastsBanked 31 = .ok (.iinc 2 1, 3) := by decide +kernel
theorem dX12_lastsBanked_34 : decode cX12_lastsBanked 34 = .ok (.goto (-28), 3) := by decide +kernel
theorem dX12_lastsBanked_37 : decode cX12_lastsBanked 37 = .ok (.aload_n 0, 1) := by decide +kernel
theorem dX12_lastsBanked_38 : decode cX12_lastsBanked 38 = .ok (.getfield 107, 3) := by decide +kernel
theorem dX12_lastsBanked_41 : decode cX12_lastsBanked 41 = .ok (.sipush 883, 3) := by decide +kernel
theorem dX12_lastsBanked_44 : decode cX12_lastsBanked 44 = .ok (.iconst 1, 1) := by decide +kernel
theorem dX12_lastsBanked_45 : decode cX12_lastsBanked 45 = .ok (.aload_n 0, 1) := by decide +kernel
theorem dX12_lastsBanked_46 : decode cX12_lastsBanked 46 = .ok (.getfield 107, 3) := by decide +kernel
theorem dX12_lastsBanked_49 : decode cX12_lastsBanked 49 = .ok (.sipush 883, 3) := by decide +kernel
theorem dX12_lastsBanked_52 : decode cX12_lastsBanked 52 = .ok (.iaload, 1) := by decide +kernel
theorem dX12_lastsBanked_53 : decode cX12_lastsBanked 53 = .ok (.isub, 1) := by decide +kernel
theorem dX12_lastsBanked_54 : decode cX12_lastsBanked 54 = .ok (.iastore, 1) := by decide +kernel
theorem dX12_lastsBanked_55 : decode cX12_lastsBanked 55 = .ok (.aload_n 0, 1) := by decide +kernel
theorem dX12_lastsBanked_56 : decode cX12_lastsBanked 56 = .ok (.iload_n 1, 1) := by decide +kernel
theorem dX12_lastsBanked_57 : decode cX12_lastsBanked 57 = .ok (.invokevirtual 335, 3) := by decide +kernel
theorem dX12_lastsBanked_60 : decode cX12_lastsBanked 60 = .ok (.ireturn, 1) := by decide +kernel
theorem dX12_banks_0 : decode cX12_banks 0 = .ok (.aload_n 0, 1) := by decide +kernel
theorem dX12_banks_1 : decode cX12_banks 1 = .ok (.iconst 0, 1) := by decide +kernel
theorem dX12_banks_2 : decode cX12_banks 2 = .ok (.putfield 1, 3) := by decide +kernel
theorem dX12_banks_5 : decode cX12_banks 5 = .ok (.iconst (-1), 1) := by decide +kernel
theorem dX12_banks_6 : decode cX12_banks 6 = .ok (.istore_n 1, 1) := by decide +kernel
theorem dX12_banks_7 : decode cX12_banks 7 = .ok (.iconst (-1), 1) := by decide +kernel
theorem dX12_banks_8 : decode cX12_banks 8 = .ok (.istore_n 2, 1) := by decide +kernel
theorem dX12_banks_9 : decode cX12_banks 9 = .ok (.iconst 0, 1) := by decide +kernel
theorem dX12_banks_10 : decode cX12_banks 10 = .ok (.istore_n 3, 1) := by decide +kernel
theorem dX12_banks_11 : decode cX12_banks 11 = .ok (.iload_n 3, 1) := by decide +kernel
theorem dX12_banks_12 : decode cX12_banks 12 = .ok (.bipush 12, 2) := by decide +kernel
theorem dX12_banks_14 : decode cX12_banks 14 = .ok (.if_icmp .gt 41, 3) := by decide +kernel
theorem dX12_banks_17 : decode cX12_banks 17 = .ok (.aload_n 0, 1) := by decide +kernel
theorem dX12_banks_18 : decode cX12_banks 18 = .ok (.iload_n 3, 1) := by decide +kernel
theorem dX12_banks_19 : decode cX12_banks 19 = .ok (.invokevirtual 338, 3) := by decide +kernel
theorem dX12_banks_22 : decode cX12_banks 22 = .ok (.istore 4, 2) := by decide +kernel
theorem dX12_banks_24 : decode cX12_banks 24 = .ok (.iload 4, 2) := by decide +kernel
theorem dX12_banks_26 : decode cX12_banks 26 = .ok (.iload_n 2, 1) := by decide +kernel
theorem dX12_banks_27 : decode cX12_banks 27 = .ok (.if_icmp .le 7, 3) := by decide +kernel
theorem dX12_banks_30 : decode cX12_banks 30 = .ok (.iload_n 3, 1) := by decide +kernel
theorem dX12_banks_31 : decode cX12_banks 31 = .ok (.goto 4, 3) := by decide +kernel
theorem dX12_banks_34 : decode cX12_banks 34 = .ok (.iload_n 1, 1) := by decide +kernel
theorem dX12_banks_35 : decode cX12_banks 35 = .ok (.istore_n 1, 1) := by decide +kernel
theorem dX12_banks_36 : decode cX12_banks 36 = .ok (.iload 4, 2) := by decide +kernel
theorem dX12_banks_38 : decode cX12_banks 38 = .ok (.iload_n 2, 1) := by decide +kernel
theorem dX12_banks_39 : decode cX12_banks 39 = .ok (.if_icmp .le 8, 3) := by decide +kernel
theorem dX12_banks_42 : decode cX12_banks 42 = .ok (.iload 4, 2) := by decide +kernel
theorem dX12_banks_44 : decode cX12_banks 44 = .ok (.goto 4, 3) := by decide +kernel
theorem dX12_banks_47 : decode cX12_banks 47 = .ok (.iload_n 2, 1) := by decide +kernel
theorem dX12_banks_48 : decode cX12_banks 48 = .ok (.istore_n 2, 1) := by decide +kernel
theorem dX12_banks_49 : decode cX12_banks 49 = .ok (.iinc 3 1, 3) := by decide +kernel
theorem dX12_banks_52 : decode cX12_banks 52 = .ok (.goto (-41), 3) := by decide +kernel
theorem dX12_banks_55 : decode cX12_banks 55 = .ok (.aload_n 0, 1) := by decide +kernel
theorem dX12_banks_56 : decode cX12_banks 56 = .ok (.invokevirtual 329, 3) := by decide +kernel
theorem dX12_banks_59 : decode cX12_banks 59 = .ok (.aload_n 0, 1) := by decide +kernel
theorem dX12_banks_60 : decode cX12_banks 60 = .ok (.iconst 0, 1) := by decide +kernel
theorem dX12_banks_61 : decode cX12_banks 61 = .ok (.invokevirtual 335, 3) := by decide +kernel
theorem dX12_banks_64 : decode cX12_banks 64 = .ok (.iload_n 2, 1) := by decide +kernel
theorem dX12_banks_65 : decode cX12_banks 65 = .ok (.if_icmp .le 7, 3) := by decide +kernel
theorem dX12_banks_68 : decode cX12_banks 68 = .ok (.iconst (-1), 1) := by decide +kernel
theorem dX12_banks_69 : decode cX12_banks 69 = .ok (.goto 4, 3) := by decide +kernel
theorem dX12_banks_72 : decode cX12_banks 72 = .ok (.iload_n 1, 1) := by decide +kernel
theorem dX12_banks_73 : decode cX12_banks 73 = .ok (.ireturn, 1) := by decide +kernel
theorem dX12_stir_0 : decode cX12_stir 0 = .ok (.aload_n 0, 1) := by decide +kernel
theorem dX12_stir_1 : decode cX12_stir 1 = .ok (.iconst 0, 1) := by decide +kernel
theorem dX12_stir_2 : decode cX12_stir 2 = .ok (.putfield 1, 3) := by decide +kernel
theorem dX12_stir_5 : decode cX12_stir 5 = .ok (.iload_n 1, 1) := by decide +kernel
theorem dX12_stir_6 : decode cX12_stir 6 = .ok (.iconst 1, 1) := by decide +kernel
theorem dX12_stir_7 : decode cX12_stir 7 = .ok (.bipush 12, 2) := by decide +kernel
theorem dX12_stir_9 : decode cX12_stir 9 = .ok (.invokestatic 308, 3) := by decide +kernel
theorem dX12_stir_12 : decode cX12_stir 12 = .ok (.ifCond .ne 5, 3) := by decide +kernel
theorem dX12_stir_15 : decode cX12_stir 15 = .ok (.iconst (-1), 1) := by decide +kernel
theorem dX12_stir_16 : decode cX12_stir 16 = .ok (.ireturn, 1) := by decide +kernel
theorem dX12_stir_17 : decode cX12_stir 17 = .ok (.iconst (-1), 1) := by decide +kernel
theorem dX12_stir_18 : decode cX12_stir 18 = .ok (.istore_n 2, 1) := by decide +kernel
theorem dX12_stir_19 : decode cX12_stir 19 = .ok (.iconst (-1), 1) := by decide +kernel
theorem dX12_stir_20 : decode cX12_stir 20 = .ok (.istore_n 3, 1) := by decide +kernel
theorem dX12_stir_21 : decode cX12_stir 21 = .ok (.iconst 0, 1) := by decide +kernel
theorem dX12_stir_22 : decode cX12_stir 22 = .ok (.istore 4, 2) := by decide +kernel
theorem dX12_stir_24 : decode cX12_stir 24 = .ok (.iload 4, 2) := by decide +kernel
theorem dX12_stir_26 : decode cX12_stir 26 = .ok (.aload_n 0, 1) := by decide +kernel
theorem dX12_stir_27 : decode cX12_stir 27 = .ok (.invokevirtual 252, 3) := by decide +kernel
theorem dX12_stir_30 : decode cX12_stir 30 = .ok (.if_icmp .ge 90, 3) := by decide +kernel
theorem dX12_stir_33 : decode cX12_stir 33 = .ok (.aload_n 0, 1) := by decide +kernel
theorem dX12_stir_34 : decode cX12_stir 34 = .ok (.iconst 0, 1) := by decide +kernel
theorem dX12_stir_35 : decode cX12_stir 35 = .ok (.iload 4, 2) := by decide +kernel
theorem dX12_stir_37 : decode cX12_stir 37 = .ok (.invokevirtual 268, 3) := by decide +kernel
theorem dX12_stir_40 : decode cX12_stir 40 = .ok (.ifCond .eq 74, 3) := by decide +kernel
theorem dX12_stir_43 : decode cX12_stir 43 = .ok (.aload_n 0, 1) := by decide +kernel
theorem dX12_stir_44 : decode cX12_stir 44 = .ok (.invokevirtual 329, 3) := by decide +kernel
theorem dX12_stir_47 : decode cX12_stir 47 = .ok (.aload_n 0, 1) := by decide +kernel
theorem dX12_stir_48 : decode cX12_stir 48 = .ok (.sipush 882, 3) := by decide +kernel
theorem dX12_stir_51 : decode cX12_stir 51 = .ok (.iload 4, 2) := by decide +kernel
theorem dX12_stir_53 : decode cX12_stir 53 = .ok (.invokevirtual 317, 3) := by decide +kernel
theorem dX12_stir_56 : decode cX12_stir 56 = .ok (.iconst 0, 1) := by decide +kernel
theorem dX12_stir_57 : decode cX12_stir 57 = .ok (.istore 5, 2) := by decide +kernel
theorem dX12_stir_59 : decode cX12_stir 59 = .ok (.iload 5, 2) := by decide +kernel
theorem dX12_stir_61 : decode cX12_stir 61 = .ok (.iload_n 1, 1) := by decide +kernel
theorem dX12_stir_62 : decode cX12_stir 62 = .ok (.if_icmp .ge 17, 3) := by decide +kernel
theorem dX12_stir_65 : decode cX12_stir 65 = .ok (.aload_n 0, 1) := by decide +kernel
theorem dX12_stir_66 : decode cX12_stir 66 = .ok (.sipush 882, 3) := by decide +kernel
theorem dX12_stir_69 : decode cX12_stir 69 = .ok (.invokevirtual 315, 3) := by decide +kernel
theorem dX12_stir_72 : decode cX12_stir 72 = .ok (.pop, 1) := by decide +kernel
theorem dX12_stir_73 : decode cX12_stir 73 = .ok (.iinc 5 1, 3) := by decide +kernel
theorem dX12_stir_76 : decode cX12_stir 76 = .ok (.goto (-17), 3) := by decide +kernel
theorem dX12_stir_79 : decode cX12_stir 79 = .ok (.aload_n 0, 1) := by decide +kernel
theorem dX12_stir_80 : decode cX12_stir 80 = .ok (.sipush 882, 3) := by decide +kernel
theorem dX12_stir_83 : decode cX12_stir 83 = .ok (.invokevirtual 326, 3) := by decide +kernel
theorem dX12_stir_86 : decode cX12_stir 86 = .ok (.istore 5, 2) := by decide +kernel
theorem dX12_stir_88 : decode cX12_stir 88 = .ok (.iload 5, 2) := by decide +kernel
theorem dX12_stir_90 : decode cX12_stir 90 = .ok (.iload_n 3, 1) := by decide +kernel
theorem dX12_stir_91 : decode cX12_stir 91 = .ok (.if_icmp .le 8, 3) := by decide +kernel
theorem dX12_stir_94 : decode cX12_stir 94 = .ok (.iload 4, 2) := by decide +kernel
theorem dX12_stir_96 : decode cX12_stir 96 = .ok (.goto 4, 3) := by decide +kernel
theorem dX12_stir_99 : decode cX12_stir 99 = .ok (.iload_n 2, 1) := by decide +kernel
theorem dX12_stir_100 : decode cX12_stir 100 = .ok (.istore_n 2, 1) := by decide +kernel
theorem dX12_stir_101 : decode cX12_stir 101 = .ok (.iload 5, 2) := by decide +kernel
theorem dX12_stir_103 : decode cX12_stir 103 = .ok (.iload_n 3, 1) := by decide +kernel
theorem dX12_stir_104 : decode cX12_stir 104 = .ok (.if_icmp .le 8, 3) := by decide +kernel
theorem dX12_stir_107 : decode cX12_stir 107 = .ok (.iload 5, 2) := by decide +kernel
theorem dX12_stir_109 : decode cX12_stir 109 = .ok (.goto 4, 3) := by decide +kernel
theorem dX12_stir_112 : decode cX12_stir 112 = .ok (.iload_n 3, 1) := by decide +kernel
theorem dX12_stir_113 : decode cX12_stir 113 = .ok (.istore_n 3, 1) := by decide +kernel
theorem dX12_stir_114 : decode cX12_stir 114 = .ok (.iinc 4 1, 3) := by decide +kernel
theorem dX12_stir_117 : decode cX12_stir 117 = .ok (.goto (-93), 3) := by decide +kernel
theorem dX12_stir_120 : decode cX12_stir 120 = .ok (.iload_n 2, 1) := by decide +kernel
theorem dX12_stir_121 : decode cX12_stir 121 = .ok (.ireturn, 1) := by decide +kernel
theorem dX12_everAlight_0 : decode cX12_everAlight 0 = .ok (.aload_n 0, 1) := by decide +kernel
theorem dX12_everAlight_1 : decode cX12_everAlight 1 = .ok (.sipush 882, 3) := by decide +kernel
theorem dX12_everAlight_4 : decode cX12_everAlight 4 = .ok (.invokevirtual 284, 3) := by decide +kernel
theorem dX12_everAlight_7 : decode cX12_everAlight 7 = .ok (.istore_n 2, 1) := by decide +kernel
theorem dX12_everAlight_8 : decode cX12_everAlight 8 = .ok (.iconst 0, 1) := by decide +kernel
theorem dX12_everAlight_9 : decode cX12_everAlight 9 = .ok (.istore_n 3, 1) := by decide +kernel
theorem dX12_everAlight_10 : decode cX12_everAlight 10 = .ok (.iload_n 3, 1) := by decide +kernel
theorem dX12_everAlight_11 : decode cX12_everAlight 11 = .ok (.iload_n 1, 1) := by decide +kernel
theorem dX12_everAlight_12 : decode cX12_everAlight 12 = .ok (.if_icmp .ge 27, 3) := by decide +kernel
theorem dX12_everAlight_15 : decode cX12_everAlight 15 = .ok (.aload_n 0, 1) := by decide +kernel
theorem dX12_everAlight_16 : decode cX12_everAlight 16 = .ok (.sipush 882, 3) := by decide +kernel
theorem dX12_everAlight_19 : decode cX12_everAlight 19 = .ok (.invokevirtual 315, 3) := by decide +kernel
theorem dX12_everAlight_22 : decode cX12_everAlight 22 = .ok (.pop, 1) := by decide +kernel
theorem dX12_everAlight_23 : decode cX12_everAlight 23 = .ok (.iload_n 2, 1) := by decide +kernel
theorem dX12_everAlight_24 : decode cX12_everAlight 24 = .ok (.aload_n 0, 1) := by decide +kernel
theorem dX12_everAlight_25 : decode cX12_everAlight 25 = .ok (.sipush 882, 3) := by decide +kernel
theorem dX12_everAlight_28 : decode cX12_everAlight 28 = .ok (.invokevirtual 284, 3) := by decide +kernel
theorem dX12_everAlight_31 : decode cX12_everAlight 31 = .ok (.ior, 1) := by decide +kernel
theorem dX12_everAlight_32 : decode cX12_everAlight 32 = .ok (.istore_n 2, 1) := by decide +kernel
theorem dX12_everAlight_33 : decode cX12_everAlight 33 = .ok (.iinc 3 1, 3) := by decide +kernel
theorem dX12_everAlight_36 : decode cX12_everAlight 36 = .ok (.goto (-26), 3) := by decide +kernel
theorem dX12_everAlight_39 : decode cX12_everAlight 39 = .ok (.iload_n 2, 1) := by decide +kernel
theorem dX12_everAlight_40 : decode cX12_everAlight 40 = .ok (.ireturn, 1) := by decide +kernel
theorem dX12_thereNow_0 : decode cX12_thereNow 0 = .ok (.iconst 0, 1) := by decide +kernel
theorem dX12_thereNow_1 : decode cX12_thereNow 1 = .ok (.istore_n 2, 1) := by decide +kernel
theorem dX12_thereNow_2 : decode cX12_thereNow 2 = .ok (.iconst 0, 1) := by decide +kernel
theorem dX12_thereNow_3 : decode cX12_thereNow 3 = .ok (.istore_n 3, 1) := by decide +kernel
theorem dX12_thereNow_4 : decode cX12_thereNow 4 = .ok (.iload_n 3, 1) := by decide +kernel
theorem dX12_thereNow_5 : decode cX12_thereNow 5 = .ok (.aload_n 0, 1) := by decide +kernel
theorem dX12_thereNow_6 : decode cX12_thereNow 6 = .ok (.invokevirtual 252, 3) := by decide +kernel
theorem dX12_thereNow_9 : decode cX12_thereNow 9 = .ok (.if_icmp .ge 42, 3) := by decide +kernel
theorem dX12_thereNow_12 : decode cX12_thereNow 12 = .ok (.iload_n 2, 1) := by decide +kernel
theorem dX12_thereNow_13 : decode cX12_thereNow 13 = .ok (.aload_n 0, 1) := by decide +kernel
theorem dX12_thereNow_14 : decode cX12_thereNow 14 = .ok (.iconst 0, 1) := by decide +kernel
theorem dX12_thereNow_15 : decode cX12_thereNow 15 = .ok (.iload_n 3, 1) := by decide +kernel
theorem dX12_thereNow_16 : decode cX12_thereNow 16 = .ok (.invokevirtual 268, 3) := by decide +kernel
theorem dX12_thereNow_19 : decode cX12_thereNow 19 = .ok (.ifCond .eq 23, 3) := by decide +kernel
theorem dX12_thereNow_22 : decode cX12_thereNow 22 = .ok (.iload_n 1, 1) := by decide +kernel
theorem dX12_thereNow_23 : decode cX12_thereNow 23 = .ok (.ifCond .ne 13, 3) := by decide +kernel
theorem dX12_thereNow_26 : decode cX12_thereNow 26 = .ok (.aload_n 0, 1) := by decide +kernel
theorem dX12_thereNow_27 : decode cX12_thereNow 27 = .ok (.iload_n 3, 1) := by decide +kernel
theorem dX12_thereNow_28 : decode cX12_thereNow 28 = .ok (.iconst 0, 1) := by decide +kernel
theorem dX12_thereNow_29 : decode cX12_thereNow 29 = .ok (.invokevirtual 255, 3) := by decide +kernel
theorem dX12_thereNow_32 : decode cX12_thereNow 32 = .ok (.iconst 3, 1) := by decide +kernel
theorem dX12_thereNow_33 : decode cX12_thereNow 33 = .ok (.if_icmp .eq 9, 3) := by decide +kernel
theorem dX12_thereNow_36 : decode cX12_thereNow 36 = .ok (.iconst 1, 1) := by decide +kernel
theorem dX12_thereNow_37 : decode cX12_thereNow 37 = .ok (.iload_n 3, 1) := by decide +kernel
theorem dX12_thereNow_38 : decode cX12_thereNow 38 = .ok (.ishl, 1) := by decide +kernel
theorem dX12_thereNow_39 : decode cX12_thereNow 39 = .ok (.goto 4, 3) := by decide +kernel
theorem dX12_thereNow_42 : decode cX12_thereNow 42 = .ok (.iconst 0, 1) := by decide +kernel
theorem dX12_thereNow_43 : decode cX12_thereNow 43 = .ok (.ior, 1) := by decide +kernel
theorem dX12_thereNow_44 : decode cX12_thereNow 44 = .ok (.istore_n 2, 1) := by decide +kernel
theorem dX12_thereNow_45 : decode cX12_thereNow 45 = .ok (.iinc 3 1, 3) := by decide +kernel
theorem dX12_thereNow_48 : decode cX12_thereNow 48 = .ok (.goto (-44), 3) := by decide +kernel
theorem dX12_thereNow_51 : decode cX12_thereNow 51 = .ok (.iload_n 2, 1) := by decide +kernel
theorem dX12_thereNow_52 : decode cX12_thereNow 52 = .ok (.ireturn, 1) := by decide +kernel
theorem dX12_kindle_0 : decode cX12_kindle 0 = .ok (.aload_n 0, 1) := by decide +kernel
theorem dX12_kindle_1 : decode cX12_kindle 1 = .ok (.iconst 0, 1) := by decide +kernel
theorem dX12_kindle_2 : decode cX12_kindle 2 = .ok (.putfield 1, 3) := by decide +kernel
theorem dX12_kindle_5 : decode cX12_kindle 5 = .ok (.aload_n 0, 1) := by decide +kernel
theorem dX12_kindle_6 : decode cX12_kindle 6 = .ok (.iconst 0, 1) := by decide +kernel
theorem dX12_kindle_7 : decode cX12_kindle 7 = .ok (.invokevirtual 341, 3) := by decide +kernel
theorem dX12_kindle_10 : decode cX12_kindle 10 = .ok (.istore_n 1, 1) := by decide +kernel
theorem dX12_kindle_11 : decode cX12_kindle 11 = .ok (.iconst (-1), 1) := by decide +kernel
theorem dX12_kindle_12 : decode cX12_kindle 12 = .ok (.istore_n 2, 1) := by decide +kernel
theorem dX12_kindle_13 : decode cX12_kindle 13 = .ok (.iconst 0, 1) := by decide +kernel
theorem dX12_kindle_14 : decode cX12_kindle 14 = .ok (.istore_n 3, 1) := by decide +kernel
theorem dX12_kindle_15 : decode cX12_kindle 15 = .ok (.iload_n 3, 1) := by decide +kernel
theorem dX12_kindle_16 : decode cX12_kindle 16 = .ok (.iconst 1, 1) := by decide +kernel
theorem dX12_kindle_17 : decode cX12_kindle 17 = .ok (.aload_n 0, 1) := by decide +kernel
theorem dX12_kindle_18 : decode cX12_kindle 18 = .ok (.invokevirtual 252, 3) := by decide +kernel
theorem dX12_kindle_21 : decode cX12_kindle 21 = .ok (.ishl, 1) := by decide +kernel
theorem dX12_kindle_22 : decode cX12_kindle 22 = .ok (.if_icmp .ge 110, 3) := by decide +kernel
theorem dX12_kindle_25 : decode cX12_kindle 25 = .ok (.iload_n 3, 1) := by decide +kernel
theorem dX12_kindle_26 : decode cX12_kindle 26 = .ok (.iload_n 1, 1) := by decide +kernel
theorem dX12_kindle_27 : decode cX12_kindle 27 = .ok (.iconst (-1), 1) := by decide +kernel
theorem dX12_kindle_28 : decode cX12_kindle 28 = .ok (.ixor, 1) := by decide +kernel
theorem dX12_kindle_29 : decode cX12_kindle 29 = .ok (.iand, 1) := by decide +kernel
theorem dX12_kindle_30 : decode cX12_kindle 30 = .ok (.ifCond .ne 96, 3) := by decide +kernel
theorem dX12_kindle_33 : decode cX12_kindle 33 = .ok (.iload_n 2, 1) := by decide +kernel
theorem dX12_kindle_34 : decode cX12_kindle 34 = .ok (.ifCond .lt 14, 3) := by decide +kernel
theorem dX12_kindle_37 : decode cX12_kindle 37 = .ok (.iload_n 3, 1) := by decide +kernel
theorem dX12_kindle_38 : decode cX12_kindle 38 = .ok (.invokestatic 344, 3) := by decide +kernel
theorem dX12_kindle_41 : decode cX12_kindle 41 = .ok (.iload_n 2, 1) := by decide +kernel
theorem dX12_kindle_42 : decode cX12_kindle 42 = .ok (.invokestatic 344, 3) := by decide +kernel
theorem dX12_kindle_45 : decode cX12_kindle 45 = .ok (.if_icmp .ge 81, 3) := by decide +kernel
theorem dX12_kindle_48 : decode cX12_kindle 48 = .ok (.aload_n 0, 1) := by decide +kernel
theorem dX12_kindle_49 : decode cX12_kindle 49 = .ok (.invokevirtual 329, 3) := by decide +kernel
theorem dX12_kindle_52 : decode cX12_kindle 52 = .ok (.iconst 0, 1) := by decide +kernel
theorem dX12_kindle_53 : decode cX12_kindle 53 = .ok (.istore 4, 2) := by decide +kernel
theorem dX12_kindle_55 : decode cX12_kindle 55 = .ok (.iload 4, 2) := by decide +kernel
theorem dX12_kindle_57 : decode cX12_kindle 57 = .ok (.aload_n 0, 1) := by decide +kernel
theorem dX12_kindle_58 : decode cX12_kindle 58 = .ok (.invokevirtual 252, 3) := by decide +kernel
theorem dX12_kindle_61 : decode cX12_kindle 61 = .ok (.if_icmp .ge 46, 3) := by decide +kernel
theorem dX12_kindle_64 : decode cX12_kindle 64 = .ok (.aload_n 0, 1) := by decide +kernel
theorem dX12_kindle_65 : decode cX12_kindle 65 = .ok (.getfield 107, 3) := by decide +kernel
theorem dX12_kindle_68 : decode cX12_kindle 68 = .ok (.sipush 891, 3) := by decide +kernel
theorem dX12_kindle_71 : decode cX12_kindle 71 = .ok (.iload 4, 2) := by decide +kernel
theorem dX12_kindle_73 : decode cX12_kindle 73 = .ok (.iadd, 1) := by decide +kernel
theorem dX12_kindle_74 : decode cX12_kindle 74 = .ok (.iload_n 3, 1) := by decide +kernel
theorem dX12_kindle_75 : decode cX12_kindle 75 = .ok (.iload 4, 2) := by decide +kernel
theorem dX12_kindle_77 : decode cX12_kindle 77 = .ok (.ishr, 1) := by decide +kernel
theorem dX12_kindle_78 : decode cX12_kindle 78 = .ok (.iconst 1, 1) := by decide +kernel
theorem dX12_kindle_79 : decode cX12_kindle 79 = .ok (.iand, 1) := by decide +kernel
theorem dX12_kindle_80 : decode cX12_kindle 80 = .ok (.iconst 1, 1) := by decide +kernel
theorem dX12_kindle_81 : decode cX12_kindle 81 = .ok (.if_icmp .ne 8, 3) := by decide +kernel
theorem dX12_kindle_84 : decode cX12_kindle 84 = .ok (.bipush 20, 2) := by decide +kernel
theorem dX12_kindle_86 : decode cX12_kindle 86 = .ok (.goto 14, 3) := by decide +kernel
theorem dX12_kindle_89 : decode cX12_kindle 89 = .ok (.aload_n 0, 1) := by decide +kernel
theorem dX12_kindle_90 : decode cX12_kindle 90 = .ok (.getfield 107, 3) := by decide +kernel
theorem dX12_kindle_93 : decode cX12_kindle 93 = .ok (.sipush 891, 3) := by decide +kernel
theorem dX12_kindle_96 : decode cX12_kindle 96 = .ok (.iload 4, 2) := by decide +kernel
theorem dX12_kindle_98 : decode cX12_kindle 98 = .ok (.iadd, 1) := by decide +kernel
theorem dX12_kindle_99 : decode cX12_kindle 99 = .ok (.iaload, 1) := by decide +kernel
theorem dX12_kindle_100 : decode cX12_kindle 100 = .ok (.iastore, 1) := by decide +kernel
theorem dX12_kindle_101 : decode cX12_kindle 101 = .ok (.iinc 4 1, 3) := by decide +kernel
theorem dX12_kindle_104 : decode cX12_kindle 104 = .ok (.goto (-49), 3) := by decide +kernel
theorem dX12_kindle_107 : decode cX12_kindle 107 = .ok (.iload_n 1, 1) := by decide +kernel
theorem dX12_kindle_108 : decode cX12_kindle 108 = .ok (.aload_n 0, 1) := by decide +kernel
theorem dX12_kindle_109 : decode cX12_kindle 109 = .ok (.bipush 12, 2) := by decide +kernel
theorem dX12_kindle_111 : decode cX12_kindle 111 = .ok (.invokevirtual 347, 3) := by decide +kernel
theorem dX12_kindle_114 : decode cX12_kindle 114 = .ok (.iconst (-1), 1) := by decide +kernel
theorem dX12_kindle_115 : decode cX12_kindle 115 = .ok (.ixor, 1) := by decide +kernel
theorem dX12_kindle_116 : decode cX12_kindle 116 = .ok (.iand, 1) := by decide +kernel
theorem dX12_kindle_117 : decode cX12_kindle 117 = .ok (.ifCond .ne 7, 3) := by decide +kernel
theorem dX12_kindle_120 : decode cX12_kindle 120 = .ok (.iload_n 3, 1) := by decide +kernel
theorem dX12_kindle_121 : decode cX12_kindle 121 = .ok (.goto 4, 3) := by decide +kernel
theorem dX12_kindle_124 : decode cX12_kindle 124 = .ok (.iload_n 2, 1) := by decide +kernel
theorem dX12_kindle_125 : decode cX12_kindle 125 = .ok (.istore_n 2, 1) := by decide +kernel
theorem dX12_kindle_126 : decode cX12_kindle 126 = .ok (.iinc 3 1, 3) := by decide +kernel
theorem dX12_kindle_129 : decode cX12_kindle 129 = .ok (.goto (-114), 3) := by decide +kernel
theorem dX12_kindle_132 : decode cX12_kindle 132 = .ok (.iload_n 2, 1) := by decide +kernel
theorem dX12_kindle_133 : decode cX12_kindle 133 = .ok (.ireturn, 1) := by decide +kernel
theorem dX12_save_0 : decode cX12_save 0 = .ok (.aload_n 0, 1) := by decide +kernel
theorem dX12_save_1 : decode cX12_save 1 = .ok (.iconst 0, 1) := by decide +kernel
theorem dX12_save_2 : decode cX12_save 2 = .ok (.putfield 1, 3) := by decide +kernel
theorem dX12_save_5 : decode cX12_save 5 = .ok (.aload_n 0, 1) := by decide +kernel
theorem dX12_save_6 : decode cX12_save 6 = .ok (.iload_n 1, 1) := by decide +kernel
theorem dX12_save_7 : decode cX12_save 7 = .ok (.invokevirtual 305, 3) := by decide +kernel
theorem dX12_save_10 : decode cX12_save 10 = .ok (.ifCond .eq 12, 3) := by decide +kernel
theorem dX12_save_13 : decode cX12_save 13 = .ok (.aload_n 0, 1) := by decide +kernel
theorem dX12_save_14 : decode cX12_save 14 = .ok (.iconst 0, 1) := by decide +kernel
theorem dX12_save_15 : decode cX12_save 15 = .ok (.iload_n 1, 1) := by decide +kernel
theorem dX12_save_16 : decode cX12_save 16 = .ok (.invokevirtual 268, 3) := by decide +kernel
theorem dX12_save_19 : decode cX12_save 19 = .ok (.ifCond .ne 5, 3) := by decide +kernel
theorem dX12_save_22 : decode cX12_save 22 = .ok (.iconst (-1), 1) := by decide +kernel
theorem dX12_save_23 : decode cX12_save 23 = .ok (.ireturn, 1) := by decide +kernel
theorem dX12_save_24 : decode cX12_save 24 = .ok (.aload_n 0, 1) := by decide +kernel
theorem dX12_save_25 : decode cX12_save 25 = .ok (.iconst 1, 1) := by decide +kernel
theorem dX12_save_26 : decode cX12_save 26 = .ok (.invokevirtual 341, 3) := by decide +kernel
theorem dX12_save_29 : decode cX12_save 29 = .ok (.iconst 1, 1) := by decide +kernel
theorem dX12_save_30 : decode cX12_save 30 = .ok (.iload_n 1, 1) := by decide +kernel
theorem dX12_save_31 : decode cX12_save 31 = .ok (.ishl, 1) := by decide +kernel
theorem dX12_save_32 : decode cX12_save 32 = .ok (.iconst (-1), 1) := by decide +kernel
theorem dX12_save_33 : decode cX12_save 33 = .ok (.ixor, 1) := by decide +kernel
theorem dX12_save_34 : decode cX12_save 34 = .ok (.iand, 1) := by decide +kernel
theorem dX12_save_35 : decode cX12_save 35 = .ok (.istore_n 2, 1) := by decide +kernel
theorem dX12_save_36 : decode cX12_save 36 = .ok (.iconst (-1), 1) := by decide +kernel
theorem dX12_save_37 : decode cX12_save 37 = .ok (.istore_n 3, 1) := by decide +kernel
theorem dX12_save_38 : decode cX12_save 38 = .ok (.iconst 0, 1) := by decide +kernel
theorem dX12_save_39 : decode cX12_save 39 = .ok (.istore 4, 2) := by decide +kernel
theorem dX12_save_41 : decode cX12_save 41 = .ok (.iload 4, 2) := by decide +kernel
theorem dX12_save_43 : decode cX12_save 43 = .ok (.iconst 1, 1) := by decide +kernel
theorem dX12_save_44 : decode cX12_save 44 = .ok (.aload_n 0, 1) := by decide +kernel
theorem dX12_save_45 : decode cX12_save 45 = .ok (.invokevirtual 252, 3) := by decide +kernel
theorem dX12_save_48 : decode cX12_save 48 = .ok (.ishl, 1) := by decide +kernel
theorem dX12_save_49 : decode cX12_save 49 = .ok (.if_icmp .ge 96, 3) := by decide +kernel
theorem dX12_save_52 : decode cX12_save 52 = .ok (.iload 4, 2) := by decide +kernel
theorem dX12_save_54 : decode cX12_save 54 = .ok (.iload_n 2, 1) := by decide +kernel
theorem dX12_save_55 : decode cX12_save 55 = .ok (.iconst (-1), 1) := by decide +kernel
theorem dX12_save_56 : decode cX12_save 56 = .ok (.ixor, 1) := by decide +kernel
theorem dX12_save_57 : decode cX12_save 57 = .ok (.iand, 1) := by decide +kernel
theorem dX12_save_58 : decode cX12_save 58 = .ok (.ifCond .ne 81, 3) := by decide +kernel
theorem dX12_save_61 : decode cX12_save 61 = .ok (.iload_n 3, 1) := by decide +kernel
theorem dX12_save_62 : decode cX12_save 62 = .ok (.ifCond .lt 15, 3) := by decide +kernel
theorem dX12_save_65 : decode cX12_save 65 = .ok (.iload 4, 2) := by decide +kernel
theorem dX12_save_67 : decode cX12_save 67 = .ok (.invokestatic 344, 3) := by decide +kernel
theorem dX12_save_70 : decode cX12_save 70 = .ok (.iload_n 3, 1) := by decide +kernel
theorem dX12_save_71 : decode cX12_save 71 = .ok (.invokestatic 344, 3) := by decide +kernel
theorem dX12_save_74 : decode cX12_save 74 = .ok (.if_icmp .ge 65, 3) := by decide +kernel
theorem dX12_save_77 : decode cX12_save 77 = .ok (.aload_n 0, 1) := by decide +kernel
theorem dX12_save_78 : decode cX12_save 78 = .ok (.invokevirtual 329, 3) := by decide +kernel
theorem dX12_save_81 : decode cX12_save 81 = .ok (.iconst 0, 1) := by decide +kernel
theorem dX12_save_82 : decode cX12_save 82 = .ok (.istore 5, 2) := by decide +kernel
theorem dX12_save_84 : decode cX12_save 84 = .ok (.iload 5, 2) := by decide +kernel
theorem dX12_save_86 : decode cX12_save 86 = .ok (.aload_n 0, 1) := by decide +kernel
theorem dX12_save_87 : decode cX12_save 87 = .ok (.invokevirtual 252, 3) := by decide +kernel
theorem dX12_save_90 : decode cX12_save 90 = .ok (.if_icmp .ge 29, 3) := by decide +kernel
theorem dX12_save_93 : decode cX12_save 93 = .ok (.iload 4, 2) := by decide +kernel
theorem dX12_save_95 : decode cX12_save 95 = .ok (.iload 5, 2) := by decide +kernel
theorem dX12_save_97 : decode cX12_save 97 = .ok (.ishr, 1) := by decide +kernel
theorem dX12_save_98 : decode cX12_save 98 = .ok (.iconst 1, 1) := by decide +kernel
theorem dX12_save_99 : decode cX12_save 99 = .ok (.iand, 1) := by decide +kernel
theorem dX12_save_100 : decode cX12_save 100 = .ok (.iconst 1, 1) := by decide +kernel
theorem dX12_save_101 : decode cX12_save 101 = .ok (.if_icmp .ne 12, 3) := by decide +kernel
theorem dX12_save_104 : decode cX12_save 104 = .ok (.aload_n 0, 1) := by decide +kernel
theorem dX12_save_105 : decode cX12_save 105 = .ok (.sipush 882, 3) := by decide +kernel
theorem dX12_save_108 : decode cX12_save 108 = .ok (.iload 5, 2) := by decide +kernel
theorem dX12_save_110 : decode cX12_save 110 = .ok (.invokevirtual 293, 3) := by decide +kernel
theorem dX12_save_113 : decode cX12_save 113 = .ok (.iinc 5 1, 3) := by decide +kernel
theorem dX12_save_116 : decode cX12_save 116 = .ok (.goto (-32), 3) := by decide +kernel
theorem dX12_save_119 : decode cX12_save 119 = .ok (.aload_n 0, 1) := by decide +kernel
theorem dX12_save_120 : decode cX12_save 120 = .ok (.bipush 12, 2) := by decide +kernel
theorem dX12_save_122 : decode cX12_save 122 = .ok (.invokevirtual 347, 3) := by decide +kernel
theorem dX12_save_125 : decode cX12_save 125 = .ok (.iload_n 1, 1) := by decide +kernel
theorem dX12_save_126 : decode cX12_save 126 = .ok (.ishr, 1) := by decide +kernel
theorem dX12_save_127 : decode cX12_save 127 = .ok (.iconst 1, 1) := by decide +kernel
theorem dX12_save_128 : decode cX12_save 128 = .ok (.iand, 1) := by decide +kernel
theorem dX12_save_129 : decode cX12_save 129 = .ok (.ifCond .ne 8, 3) := by decide +kernel
theorem dX12_save_132 : decode cX12_save 132 = .ok (.iload 4, 2) := by decide +kernel
theorem dX12_save_134 : decode cX12_save 134 = .ok (.goto 4, 3) := by decide +kernel
theorem dX12_save_137 : decode cX12_save 137 = .ok (.iload_n 3, 1) := by decide +kernel
theorem dX12_save_138 : decode cX12_save 138 = .ok (.istore_n 3, 1) := by decide +kernel
theorem dX12_save_139 : decode cX12_save 139 = .ok (.iinc 4 1, 3) := by decide +kernel
theorem dX12_save_142 : decode cX12_save 142 = .ok (.goto (-101), 3) := by decide +kernel
theorem dX12_save_145 : decode cX12_save 145 = .ok (.iload_n 3, 1) := by decide +kernel
theorem dX12_save_146 : decode cX12_save 146 = .ok (.ireturn, 1) := by decide +kernel
theorem dX12_tell_0 : decode cX12_tell 0 = .ok (.aload_n 0, 1) := by decide +kernel
theorem dX12_tell_1 : decode cX12_tell 1 = .ok (.iconst 0, 1) := by decide +kernel
theorem dX12_tell_2 : decode cX12_tell 2 = .ok (.putfield 1, 3) := by decide +kernel
theorem dX12_tell_5 : decode cX12_tell 5 = .ok (.aload_n 0, 1) := by decide +kernel
theorem dX12_tell_6 : decode cX12_tell 6 = .ok (.iload_n 1, 1) := by decide +kernel
theorem dX12_tell_7 : decode cX12_tell 7 = .ok (.invokevirtual 305, 3) := by decide +kernel
theorem dX12_tell_10 : decode cX12_tell 10 = .ok (.ifCond .eq 25, 3) := by decide +kernel
theorem dX12_tell_13 : decode cX12_tell 13 = .ok (.iload_n 2, 1) := by decide +kernel
theorem dX12_tell_14 : decode cX12_tell 14 = .ok (.iconst 0, 1) := by decide +kernel
theorem dX12_tell_15 : decode cX12_tell 15 = .ok (.bipush 12, 2) := by decide +kernel
theorem dX12_tell_17 : decode cX12_tell 17 = .ok (.invokestatic 308, 3) := by decide +kernel
theorem dX12_tell_20 : decode cX12_tell 20 = .ok (.ifCond .eq 15, 3) := by decide +kernel
theorem dX12_tell_23 : decode cX12_tell 23 = .ok (.aload_n 0, 1) := by decide +kernel
theorem dX12_tell_24 : decode cX12_tell 24 = .ok (.getfield 107, 3) := by decide +kernel
theorem dX12_tell_27 : decode cX12_tell 27 = .ok (.bipush 23, 2) := by decide +kernel
theorem dX12_tell_29 : decode cX12_tell 29 = .ok (.iaload, 1) := by decide +kernel
theorem dX12_tell_30 : decode cX12_tell 30 = .ok (.bipush 6, 2) := by decide +kernel
theorem dX12_tell_32 : decode cX12_tell 32 = .ok (.if_icmp .ne 5, 3) := by decide +kernel
theorem dX12_tell_35 : decode cX12_tell 35 = .ok (.iconst 0, 1) := by decide +kernel
theorem dX12_tell_36 : decode cX12_tell 36 = .ok (.ireturn, 1) := by decide +kernel
theorem dX12_tell_37 : decode cX12_tell 37 = .ok (.bipush 24, 2) := by decide +kernel
theorem dX12_tell_39 : decode cX12_tell 39 = .ok (.iconst 3, 1) := by decide +kernel
theorem dX12_tell_40 : decode cX12_tell 40 = .ok (.aload_n 0, 1) := by decide +kernel
theorem dX12_tell_41 : decode cX12_tell 41 = .ok (.getfield 107, 3) := by decide +kernel
theorem dX12_tell_44 : decode cX12_tell 44 = .ok (.bipush 23, 2) := by decide +kernel
theorem dX12_tell_46 : decode cX12_tell 46 = .ok (.iaload, 1) := by decide +kernel
theorem dX12_tell_47 : decode cX12_tell 47 = .ok (.imul, 1) := by decide +kernel
theorem dX12_tell_48 : decode cX12_tell 48 = .ok (.iadd, 1) := by decide +kernel
theorem dX12_tell_49 : decode cX12_tell 49 = .ok (.istore 4, 2) := by decide +kernel
theorem dX12_tell_51 : decode cX12_tell 51 = .ok (.aload_n 0, 1) := by decide +kernel
theorem dX12_tell_52 : decode cX12_tell 52 = .ok (.getfield 107, 3) := by decide +kernel
theorem dX12_tell_55 : decode cX12_tell 55 = .ok (.iload 4, 2) := by decide +kernel
theorem dX12_tell_57 : decode cX12_tell 57 = .ok (.iload_n 1, 1) := by decide +kernel
theorem dX12_tell_58 : decode cX12_tell 58 = .ok (.iastore, 1) := by decide +kernel
theorem dX12_tell_59 : decode cX12_tell 59 = .ok (.aload_n 0, 1) := by decide +kernel
theorem dX12_tell_60 : decode cX12_tell 60 = .ok (.getfield 107, 3) := by decide +kernel
theorem dX12_tell_63 : decode cX12_tell 63 = .ok (.iload 4, 2) := by decide +kernel
theorem dX12_tell_65 : decode cX12_tell 65 = .ok (.iconst 1, 1) := by decide +kernel
theorem dX12_tell_66 : decode cX12_tell 66 = .ok (.iadd, 1) := by decide +kernel
theorem dX12_tell_67 : decode cX12_tell 67 = .ok (.iload_n 2, 1) := by decide +kernel
theorem dX12_tell_68 : decode cX12_tell 68 = .ok (.iastore, 1) := by decide +kernel
theorem dX12_tell_69 : decode cX12_tell 69 = .ok (.aload_n 0, 1) := by decide +kernel
theorem dX12_tell_70 : decode cX12_tell 70 = .ok (.getfield 107, 3) := by decide +kernel
theorem dX12_tell_73 : decode cX12_tell 73 = .ok (.iload 4, 2) := by decide +kernel
theorem dX12_tell_75 : decode cX12_tell 75 = .ok (.iconst 2, 1) := by decide +kernel
theorem dX12_tell_76 : decode cX12_tell 76 = .ok (.iadd, 1) := by decide +kernel
theorem dX12_tell_77 : decode cX12_tell 77 = .ok (.iload_n 3, 1) := by decide +kernel
theorem dX12_tell_78 : decode cX12_tell 78 = .ok (.ifCond .eq 7, 3) := by decide +kernel
theorem dX12_tell_81 : decode cX12_tell 81 = .ok (.iconst 1, 1) := by decide +kernel
theorem dX12_tell_82 : decode cX12_tell 82 = .ok (.goto 4, 3) := by decide +kernel
theorem dX12_tell_85 : decode cX12_tell 85 = .ok (.iconst 0, 1) := by decide +kernel
theorem dX12_tell_86 : decode cX12_tell 86 = .ok (.iastore, 1) := by decide +kernel
theorem dX12_tell_87 : decode cX12_tell 87 = .ok (.aload_n 0, 1) := by decide +kernel
theorem dX12_tell_88 : decode cX12_tell 88 = .ok (.getfield 107, 3) := by decide +kernel
theorem dX12_tell_91 : decode cX12_tell 91 = .ok (.bipush 23, 2) := by decide +kernel
theorem dX12_tell_93 : decode cX12_tell 93 = .ok (.dup2, 1) := by decide +kernel
theorem dX12_tell_94 : decode cX12_tell 94 = .ok (.iaload, 1) := by decide +kernel
theorem dX12_tell_95 : decode cX12_tell 95 = .ok (.iconst 1, 1) := by decide +kernel
theorem dX12_tell_96 : decode cX12_tell 96 = .ok (.iadd, 1) := by decide +kernel
theorem dX12_tell_97 : decode cX12_tell 97 = .ok (.iastore, 1) := by decide +kernel
theorem dX12_tell_98 : decode cX12_tell 98 = .ok (.iconst 1, 1) := by decide +kernel
theorem dX12_tell_99 : decode cX12_tell 99 = .ok (.ireturn, 1) := by decide +kernel
theorem dX12_litFor_0 : decode cX12_litFor 0 = .ok (.aload_n 0, 1) := by decide +kernel
theorem dX12_litFor_1 : decode cX12_litFor 1 = .ok (.invokevirtual 329, 3) := by decide +kernel
theorem dX12_litFor_4 : decode cX12_litFor 4 = .ok (.aload_n 0, 1) := by decide +kernel
theorem dX12_litFor_5 : decode cX12_litFor 5 = .ok (.getfield 107, 3) := by decide +kernel
theorem dX12_litFor_8 : decode cX12_litFor 8 = .ok (.sipush 891, 3) := by decide +kernel
theorem dX12_litFor_11 : decode cX12_litFor 11 = .ok (.iload_n 1, 1) := by decide +kernel
theorem dX12_litFor_12 : decode cX12_litFor 12 = .ok (.iadd, 1) := by decide +kernel
theorem dX12_litFor_13 : decode cX12_litFor 13 = .ok (.bipush 20, 2) := by decide +kernel
theorem dX12_litFor_15 : decode cX12_litFor 15 = .ok (.iastore, 1) := by decide +kernel
theorem dX12_litFor_16 : decode cX12_litFor 16 = .ok (.iconst 0, 1) := by decide +kernel
theorem dX12_litFor_17 : decode cX12_litFor 17 = .ok (.istore_n 3, 1) := by decide +kernel
theorem dX12_litFor_18 : decode cX12_litFor 18 = .ok (.iload_n 3, 1) := by decide +kernel
theorem dX12_litFor_19 : decode cX12_litFor 19 = .ok (.iload_n 2, 1) := by decide +kernel
theorem dX12_litFor_20 : decode cX12_litFor 20 = .ok (.if_icmp .ge 17, 3) := by decide +kernel
theorem dX12_litFor_23 : decode cX12_litFor 23 = .ok (.aload_n 0, 1) := by decide +kernel
theorem dX12_litFor_24 : decode cX12_litFor 24 = .ok (.sipush 882, 3) := by decide +kernel
theorem dX12_litFor_27 : decode cX12_litFor 27 = .ok (.invokevirtual 315, 3) := by decide +kernel
theorem dX12_litFor_30 : decode cX12_litFor 30 = .ok (.pop, 1) := by decide +kernel
theorem dX12_litFor_31 : decode cX12_litFor 31 = .ok (.iinc 3 1, 3) := by decide +kernel
theorem dX12_litFor_34 : decode cX12_litFor 34 = .ok (.goto (-16), 3) := by decide +kernel
theorem dX12_litFor_37 : decode cX12_litFor 37 = .ok (.return_, 1) := by decide +kernel
theorem dX12_whichNow_0 : decode cX12_whichNow 0 = .ok (.iconst 0, 1) := by decide +kernel
theorem dX12_whichNow_1 : decode cX12_whichNow 1 = .ok (.istore_n 1, 1) := by decide +kernel
theorem dX12_whichNow_2 : decode cX12_whichNow 2 = .ok (.iconst 0, 1) := by decide +kernel
theorem dX12_whichNow_3 : decode cX12_whichNow 3 = .ok (.istore_n 2, 1) := by decide +kernel
theorem dX12_whichNow_4 : decode cX12_whichNow 4 = .ok (.iload_n 2, 1) := by decide +kernel
theorem dX12_whichNow_5 : decode cX12_whichNow 5 = .ok (.aload_n 0, 1) := by decide +kernel
theorem dX12_whichNow_6 : decode cX12_whichNow 6 = .ok (.invokevirtual 252, 3) := by decide +kernel
theorem dX12_whichNow_9 : decode cX12_whichNow 9 = .ok (.if_icmp .ge 119, 3) := by decide +kernel
theorem dX12_whichNow_12 : decode cX12_whichNow 12 = .ok (.aload_n 0, 1) := by decide +kernel
theorem dX12_whichNow_13 : decode cX12_whichNow 13 = .ok (.iconst 0, 1) := by decide +kernel
theorem dX12_whichNow_14 : decode cX12_whichNow 14 = .ok (.iload_n 2, 1) := by decide +kernel
theorem dX12_whichNow_15 : decode cX12_whichNow 15 = .ok (.invokevirtual 268, 3) := by decide +kernel
theorem dX12_whichNow_18 : decode cX12_whichNow 18 = .ok (.istore_n 3, 1) := by decide +kernel
theorem dX12_whichNow_19 : decode cX12_whichNow 19 = .ok (.iconst 0, 1) := by decide +kernel
theorem dX12_whichNow_20 : decode cX12_whichNow 20 = .ok (.istore 4, 2) := by decide +kernel
theorem dX12_whichNow_22 : decode cX12_whichNow 22 = .ok (.iload 4, 2) := by decide +kernel
theorem dX12_whichNow_24 : decode cX12_whichNow 24 = .ok (.aload_n 0, 1) := by decide +kernel
theorem dX12_whichNow_25 : decode cX12_whichNow 25 = .ok (.getfield 107, 3) := by decide +kernel
theorem dX12_whichNow_28 : decode cX12_whichNow 28 = .ok (.bipush 23, 2) := by decide +kernel
theorem dX12_whichNow_30 : decode cX12_whichNow 30 = .ok (.iaload, 1) := by decide +kernel
theorem dX12_whichNow_31 : decode cX12_whichNow 31 = .ok (.if_icmp .ge 77, 3) := by decide +kernel
theorem dX12_whichNow_34 : decode cX12_whichNow 34 = .ok (.iload_n 3, 1) := by decide +kernel
theorem dX12_whichNow_35 : decode cX12_whichNow 35 = .ok (.ifCond .eq 73, 3) := by decide +kernel
theorem dX12_whichNow_38 : decode cX12_whichNow 38 = .ok (.bipush 24, 2) := by decide +kernel
theorem dX12_whichNow_40 : decode cX12_whichNow 40 = .ok (.iconst 3, 1) := by decide +kernel
theorem dX12_whichNow_41 : decode cX12_whichNow 41 = .ok (.iload 4, 2) := by decide +kernel
theorem dX12_whichNow_43 : decode cX12_whichNow 43 = .ok (.imul, 1) := by decide +kernel
theorem dX12_whichNow_44 : decode cX12_whichNow 44 = .ok (.iadd, 1) := by decide +kernel
theorem dX12_whichNow_45 : decode cX12_whichNow 45 = .ok (.istore 5, 2) := by decide +kernel
theorem dX12_whichNow_47 : decode cX12_whichNow 47 = .ok (.aload_n 0, 1) := by decide +kernel
theorem dX12_whichNow_48 : decode cX12_whichNow 48 = .ok (.iload_n 2, 1) := by decide +kernel
theorem dX12_whichNow_49 : decode cX12_whichNow 49 = .ok (.aload_n 0, 1) := by decide +kernel
theorem dX12_whichNow_50 : decode cX12_whichNow 50 = .ok (.getfield 107, 3) := by decide +kernel
theorem dX12_whichNow_53 : decode cX12_whichNow 53 = .ok (.iload 5, 2) := by decide +kernel
theorem dX12_whichNow_55 : decode cX12_whichNow 55 = .ok (.iconst 1, 1) := by decide +kernel
theorem dX12_whichNow_56 : decode cX12_whichNow 56 = .ok (.iadd, 1) := by decide +kernel
theorem dX12_whichNow_57 : decode cX12_whichNow 57 = .ok (.iaload, 1) := by decide +kernel
theorem dX12_whichNow_58 : decode cX12_whichNow 58 = .ok (.invokevirtual 350, 3) := by decide +kernel
theorem dX12_whichNow_61 : decode cX12_whichNow 61 = .ok (.aload_n 0, 1) := by decide +kernel
theorem dX12_whichNow_62 : decode cX12_whichNow 62 = .ok (.sipush 882, 3) := by decide +kernel
theorem dX12_whichNow_65 : decode cX12_whichNow 65 = .ok (.aload_n 0, 1) := by decide +kernel
theorem dX12_whichNow_66 : decode cX12_whichNow 66 = .ok (.getfield 107, 3) := by decide +kernel
theorem dX12_whichNow_69 : decode cX12_whichNow 69 = .ok (.iload 5, 2) := by decide +kernel
theorem dX12_whichNow_71 : decode cX12_whichNow 71 = .ok (.iaload, 1) := by decide +kernel
theorem dX12_whichNow_72 : decode cX12_whichNow 72 = .ok (.invokevirtual 272, 3) := by decide +kernel
theorem dX12_whichNow_75 : decode cX12_whichNow 75 = .ok (.aload_n 0, 1) := by decide +kernel
theorem dX12_whichNow_76 : decode cX12_whichNow 76 = .ok (.getfield 107, 3) := by decide +kernel
theorem dX12_whichNow_79 : decode cX12_whichNow 79 = .ok (.iload 5, 2) := by decide +kernel
theorem dX12_whichNow_81 : decode cX12_whichNow 81 = .ok (.iconst 2, 1) := by decide +kernel
theorem dX12_whichNow_82 : decode cX12_whichNow 82 = .ok (.iadd, 1) := by decide +kernel
theorem dX12_whichNow_83 : decode cX12_whichNow 83 = .ok (.iaload, 1) := by decide +kernel
theorem dX12_whichNow_84 : decode cX12_whichNow 84 = .ok (.iconst 1, 1) := by decide +kernel
theorem dX12_whichNow_85 : decode cX12_whichNow 85 = .ok (.if_icmp .ne 7, 3) := by decide +kernel
theorem dX12_whichNow_88 : decode cX12_whichNow 88 = .ok (.iconst 1, 1) := by decide +kernel
theorem dX12_whichNow_89 : decode cX12_whichNow 89 = .ok (.goto 4, 3) := by decide +kernel
theorem dX12_whichNow_92 : decode cX12_whichNow 92 = .ok (.iconst 0, 1) := by decide +kernel
theorem dX12_whichNow_93 : decode cX12_whichNow 93 = .ok (.if_icmp .ne 7, 3) := by decide +kernel
theorem dX12_whichNow_96 : decode cX12_whichNow 96 = .ok (.iconst 1, 1) := by decide +kernel
theorem dX12_whichNow_97 : decode cX12_whichNow 97 = .ok (.goto 4, 3) := by decide +kernel
theorem dX12_whichNow_100 : decode cX12_whichNow 100 = .ok (.iconst 0, 1) := by decide +kernel
theorem dX12_whichNow_101 : decode cX12_whichNow 101 = .ok (.istore_n 3, 1) := by decide +kernel
theorem dX12_whichNow_102 : decode cX12_whichNow 102 = .ok (.iinc 4 1, 3) := by decide +kernel
theorem dX12_whichNow_105 : decode cX12_whichNow 105 = .ok (.goto (-83), 3) := by decide +kernel
theorem dX12_whichNow_108 : decode cX12_whichNow 108 = .ok (.iload_n 1, 1) := by decide +kernel
theorem dX12_whichNow_109 : decode cX12_whichNow 109 = .ok (.iload_n 3, 1) := by decide +kernel
theorem dX12_whichNow_110 : decode cX12_whichNow 110 = .ok (.ifCond .eq 9, 3) := by decide +kernel
theorem dX12_whichNow_113 : decode cX12_whichNow 113 = .ok (.iconst 1, 1) := by decide +kernel
theorem dX12_whichNow_114 : decode cX12_whichNow 114 = .ok (.iload_n 2, 1) := by decide +kernel
theorem dX12_whichNow_115 : decode cX12_whichNow 115 = .ok (.ishl, 1) := by decide +kernel
theorem dX12_whichNow_116 : decode cX12_whichNow 116 = .ok (.goto 4, 3) := by decide +kernel
theorem dX12_whichNow_119 : decode cX12_whichNow 119 = .ok (.iconst 0, 1) := by decide +kernel
theorem dX12_whichNow_120 : decode cX12_whichNow 120 = .ok (.ior, 1) := by decide +kernel
theorem dX12_whichNow_121 : decode cX12_whichNow 121 = .ok (.istore_n 1, 1) := by decide +kernel
theorem dX12_whichNow_122 : decode cX12_whichNow 122 = .ok (.iinc 2 1, 3) := by decide +kernel
theorem dX12_whichNow_125 : decode cX12_whichNow 125 = .ok (.goto (-121), 3) := by decide +kernel
theorem dX12_whichNow_128 : decode cX12_whichNow 128 = .ok (.iload_n 1, 1) := by decide +kernel
theorem dX12_whichNow_129 : decode cX12_whichNow 129 = .ok (.ireturn, 1) := by decide +kernel
theorem dX12_which_0 : decode cX12_which 0 = .ok (.aload_n 0, 1) := by decide +kernel
theorem dX12_which_1 : decode cX12_which 1 = .ok (.iconst 0, 1) := by decide +kernel
theorem dX12_which_2 : decode cX12_which 2 = .ok (.putfield 1, 3) := by decide +kernel
theorem dX12_which_5 : decode cX12_which 5 = .ok (.aload_n 0, 1) := by decide +kernel
theorem dX12_which_6 : decode cX12_which 6 = .ok (.invokevirtual 353, 3) := by decide +kernel
theorem dX12_which_9 : decode cX12_which 9 = .ok (.ireturn, 1) := by decide +kernel
theorem dX12_look_0 : decode cX12_look 0 = .ok (.aload_n 0, 1) := by decide +kernel
theorem dX12_look_1 : decode cX12_look 1 = .ok (.iconst 0, 1) := by decide +kernel
theorem dX12_look_2 : decode cX12_look 2 = .ok (.putfield 1, 3) := by decide +kernel
theorem dX12_look_5 : decode cX12_look 5 = .ok (.iload_n 1, 1) := by decide +kernel
theorem dX12_look_6 : decode cX12_look 6 = .ok (.iconst 0, 1) := by decide +kernel
theorem dX12_look_7 : decode cX12_look 7 = .ok (.bipush 12, 2) := by decide +kernel
theorem dX12_look_9 : decode cX12_look 9 = .ok (.invokestatic 308, 3) := by decide +kernel
theorem dX12_look_12 : decode cX12_look 12 = .ok (.ifCond .ne 5, 3) := by decide +kernel
theorem dX12_look_15 : decode cX12_look 15 = .ok (.iconst (-1), 1) := by decide +kernel
theorem dX12_look_16 : decode cX12_look 16 = .ok (.ireturn, 1) := by decide +kernel
theorem dX12_look_17 : decode cX12_look 17 = .ok (.aload_n 0, 1) := by decide +kernel
theorem dX12_look_18 : decode cX12_look 18 = .ok (.invokevirtual 353, 3) := by decide +kernel
theorem dX12_look_21 : decode cX12_look 21 = .ok (.istore_n 2, 1) := by decide +kernel
theorem dX12_look_22 : decode cX12_look 22 = .ok (.iconst 0, 1) := by decide +kernel
theorem dX12_look_23 : decode cX12_look 23 = .ok (.istore_n 3, 1) := by decide +kernel
theorem dX12_look_24 : decode cX12_look 24 = .ok (.iload_n 3, 1) := by decide +kernel
theorem dX12_look_25 : decode cX12_look 25 = .ok (.bipush 7, 2) := by decide +kernel
theorem dX12_look_27 : decode cX12_look 27 = .ok (.if_icmp .ge 16, 3) := by decide +kernel
theorem dX12_look_30 : decode cX12_look 30 = .ok (.aload_n 0, 1) := by decide +kernel
theorem dX12_look_31 : decode cX12_look 31 = .ok (.getfield 117, 3) := by decide +kernel
theorem dX12_look_34 : decode cX12_look 34 = .ok (.iload_n 3, 1) := by decide +kernel
theorem dX12_look_35 : decode cX12_look 35 = .ok (.iconst 0, 1) := by decide +kernel
theorem dX12_look_36 : decode cX12_look 36 = .ok (.iastore, 1) := by decide +kernel
theorem dX12_look_37 : decode cX12_look 37 = .ok (.iinc 3 1, 3) := by decide +kernel
theorem dX12_look_40 : decode cX12_look 40 = .ok (.goto (-16), 3) := by decide +kernel
theorem dX12_look_43 : decode cX12_look 43 = .ok (.iconst 0, 1) := by decide +kernel
theorem dX12_look_44 : decode cX12_look 44 = .ok (.istore_n 3, 1) := by decide +kernel
theorem dX12_look_45 : decode cX12_look 45 = .ok (.iload_n 3, 1) := by decide +kernel
theorem dX12_look_46 : decode cX12_look 46 = .ok (.aload_n 0, 1) := by decide +kernel
theorem dX12_look_47 : decode cX12_look 47 = .ok (.invokevirtual 252, 3) := by decide +kernel
theorem dX12_look_50 : decode cX12_look 50 = .ok (.if_icmp .ge 69, 3) := by decide +kernel
theorem dX12_look_53 : decode cX12_look 53 = .ok (.iload_n 2, 1) := by decide +kernel
theorem dX12_look_54 : decode cX12_look 54 = .ok (.iload_n 3, 1) := by decide +kernel
theorem dX12_look_55 : decode cX12_look 55 = .ok (.ishr, 1) := by decide +kernel
theorem dX12_look_56 : decode cX12_look 56 = .ok (.iconst 1, 1) := by decide +kernel
theorem dX12_look_57 : decode cX12_look 57 = .ok (.iand, 1) := by decide +kernel
theorem dX12_look_58 : decode cX12_look 58 = .ok (.iconst 1, 1) := by decide +kernel
theorem dX12_look_59 : decode cX12_look 59 = .ok (.if_icmp .ne 54, 3) := by decide +kernel
theorem dX12_look_62 : decode cX12_look 62 = .ok (.aload_n 0, 1) := by decide +kernel
theorem dX12_look_63 : decode cX12_look 63 = .ok (.iload_n 3, 1) := by decide +kernel
theorem dX12_look_64 : decode cX12_look 64 = .ok (.iload_n 1, 1) := by decide +kernel
theorem dX12_look_65 : decode cX12_look 65 = .ok (.invokevirtual 350, 3) := by decide +kernel
theorem dX12_look_68 : decode cX12_look 68 = .ok (.iconst 0, 1) := by decide +kernel
theorem dX12_look_69 : decode cX12_look 69 = .ok (.istore 4, 2) := by decide +kernel
theorem dX12_look_71 : decode cX12_look 71 = .ok (.iload 4, 2) := by decide +kernel
theorem dX12_look_73 : decode cX12_look 73 = .ok (.aload_n 0, 1) := by decide +kernel
theorem dX12_look_74 : decode cX12_look 74 = .ok (.invokevirtual 252, 3) := by decide +kernel
theorem dX12_look_77 : decode cX12_look 77 = .ok (.if_icmp .ge 36, 3) := by decide +kernel
theorem dX12_look_80 : decode cX12_look 80 = .ok (.aload_n 0, 1) := by decide +kernel
theorem dX12_look_81 : decode cX12_look 81 = .ok (.getfield 117, 3) := by decide +kernel
theorem dX12_look_84 : decode cX12_look 84 = .ok (.iload 4, 2) := by decide +kernel
theorem dX12_look_86 : decode cX12_look 86 = .ok (.dup2, 1) := by decide +kernel
theorem dX12_look_87 : decode cX12_look 87 = .ok (.iaload, 1) := by decide +kernel
theorem dX12_look_88 : decode cX12_look 88 = .ok (.aload_n 0, 1) := by decide +kernel
theorem dX12_look_89 : decode cX12_look 89 = .ok (.sipush 882, 3) := by decide +kernel
theorem dX12_look_92 : decode cX12_look 92 = .ok (.iload 4, 2) := by decide +kernel
theorem dX12_look_94 : decode cX12_look 94 = .ok (.invokevirtual 272, 3) := by decide +kernel
theorem dX12_look_97 : decode cX12_look 97 = .ok (.ifCond .eq 7, 3) := by decide +kernel
theorem dX12_look_100 : decode cX12_look 100 = .ok (.iconst 1, 1) := by decide +kernel
theorem dX12_look_101 : decode cX12_look 101 = .ok (.goto 4, 3) := by decide +kernel
theorem dX12_look_104 : decode cX12_look 104 = .ok (.iconst 0, 1) := by decide +kernel
theorem dX12_look_105 : decode cX12_look 105 = .ok (.iadd, 1) := by decide +kernel
theorem dX12_look_106 : decode cX12_look 106 = .ok (.iastore, 1) := by decide +kernel
theorem dX12_look_107 : decode cX12_look 107 = .ok (.iinc 4 1, 3) := by decide +kernel
theorem dX12_look_110 : decode cX12_look 110 = .ok (.goto (-39), 3) := by decide +kernel
theorem dX12_look_113 : decode cX12_look 113 = .ok (.iinc 3 1, 3) := by decide +kernel
theorem dX12_look_116 : decode cX12_look 116 = .ok (.goto (-71), 3) := by decide +kernel
theorem dX12_look_119 : decode cX12_look 119 = .ok (.iconst (-1), 1) := by decide +kernel
theorem dX12_look_120 : decode cX12_look 120 = .ok (.istore_n 3, 1) := by decide +kernel
theorem dX12_look_121 : decode cX12_look 121 = .ok (.iload_n 2, 1) := by decide +kernel
theorem dX12_look_122 : decode cX12_look 122 = .ok (.invokestatic 344, 3) := by decide +kernel
theorem dX12_look_125 : decode cX12_look 125 = .ok (.istore 4, 2) := by decide +kernel
theorem dX12_look_127 : decode cX12_look 127 = .ok (.iconst 0, 1) := by decide +kernel
theorem dX12_look_128 : decode cX12_look 128 = .ok (.istore 5, 2) := by decide +kernel
theorem dX12_look_130 : decode cX12_look 130 = .ok (.iload 5, 2) := by decide +kernel
theorem dX12_look_132 : decode cX12_look 132 = .ok (.aload_n 0, 1) := by decide +kernel
theorem dX12_look_133 : decode cX12_look 133 = .ok (.invokevirtual 252, 3) := by decide +kernel
theorem dX12_look_136 : decode cX12_look 136 = .ok (.if_icmp .ge 85, 3) := by decide +kernel
theorem dX12_look_139 : decode cX12_look 139 = .ok (.aload_n 0, 1) := by decide +kernel
theorem dX12_look_140 : decode cX12_look 140 = .ok (.getfield 117, 3) := by decide +kernel
theorem dX12_look_143 : decode cX12_look 143 = .ok (.iload 5, 2) := by decide +kernel
theorem dX12_look_145 : decode cX12_look 145 = .ok (.iaload, 1) := by decide +kernel
theorem dX12_look_146 : decode cX12_look 146 = .ok (.iload_n 2, 1) := by decide +kernel
theorem dX12_look_147 : decode cX12_look 147 = .ok (.invokestatic 344, 3) := by decide +kernel
theorem dX12_look_150 : decode cX12_look 150 = .ok (.aload_n 0, 1) := by decide +kernel
theorem dX12_look_151 : decode cX12_look 151 = .ok (.getfield 117, 3) := by decide +kernel
theorem dX12_look_154 : decode cX12_look 154 = .ok (.iload 5, 2) := by decide +kernel
theorem dX12_look_156 : decode cX12_look 156 = .ok (.iaload, 1) := by decide +kernel
theorem dX12_look_157 : decode cX12_look 157 = .ok (.isub, 1) := by decide +kernel
theorem dX12_look_158 : decode cX12_look 158 = .ok (.if_icmp .le 13, 3) := by decide +kernel
theorem dX12_look_161 : decode cX12_look 161 = .ok (.aload_n 0, 1) := by decide +kernel
theorem dX12_look_162 : decode cX12_look 162 = .ok (.getfield 117, 3) := by decide +kernel
theorem dX12_look_165 : decode cX12_look 165 = .ok (.iload 5, 2) := by decide +kernel
theorem dX12_look_167 : decode cX12_look 167 = .ok (.iaload, 1) := by decide +kernel
theorem dX12_look_168 : decode cX12_look 168 = .ok (.goto 15, 3) := by decide +kernel
theorem dX12_look_171 : decode cX12_look 171 = .ok (.iload_n 2, 1) := by decide +kernel
theorem dX12_look_172 : decode cX12_look 172 = .ok (.invokestatic 344, 3) := by decide +kernel
theorem dX12_look_175 : decode cX12_look 175 = .ok (.aload_n 0, 1) := by decide +kernel
theorem dX12_look_176 : decode cX12_look 176 = .ok (.getfield 117, 3) := by decide +kernel
theorem dX12_look_179 : decode cX12_look 179 = .ok (.iload 5, 2) := by decide +kernel
theorem dX12_look_181 : decode cX12_look 181 = .ok (.iaload, 1) := by decide +kernel
theorem dX12_look_182 : decode cX12_look 182 = .ok (.isub, 1) := by decide +kernel
theorem dX12_look_183 : decode cX12_look 183 = .ok (.istore 6, 2) := by decide +kernel
theorem dX12_look_185 : decode cX12_look 185 = .ok (.iload 6, 2) := by decide +kernel
theorem dX12_look_187 : decode cX12_look 187 = .ok (.iload 4, 2) := by decide +kernel
theorem dX12_look_189 : decode cX12_look 189 = .ok (.if_icmp .ge 8, 3) := by decide +kernel
theorem dX12_look_192 : decode cX12_look 192 = .ok (.iload 5, 2) := by decide +kernel
theorem dX12_look_194 : decode cX12_look 194 = .ok (.goto 4, 3) := by decide +kernel
theorem dX12_look_197 : decode cX12_look 197 = .ok (.iload_n 3, 1) := by decide +kernel
theorem dX12_look_198 : decode cX12_look 198 = .ok (.istore_n 3, 1) := by decide +kernel
theorem dX12_look_199 : decode cX12_look 199 = .ok (.iload 6, 2) := by decide +kernel
theorem dX12_look_201 : decode cX12_look 201 = .ok (.iload 4, 2) := by decide +kernel
theorem dX12_look_203 : decode cX12_look 203 = .ok (.if_icmp .ge 8, 3) := by decide +kernel
theorem dX12_look_206 : decode cX12_look 206 = .ok (.iload 6, 2) := by decide +kernel
theorem dX12_look_208 : decode cX12_look 208 = .ok (.goto 5, 3) := by decide +kernel
theorem dX12_look_211 : decode cX12_look 211 = .ok (.iload 4, 2) := by decide +kernel
theorem dX12_look_213 : decode cX12_look 213 = .ok (.istore 4, 2) := by decide +kernel
theorem dX12_look_215 : decode cX12_look 215 = .ok (.iinc 5 1, 3) := by decide +kernel
theorem dX12_look_218 : decode cX12_look 218 = .ok (.goto (-88), 3) := by decide +kernel
theorem dX12_look_221 : decode cX12_look 221 = .ok (.iload_n 3, 1) := by decide +kernel
theorem dX12_look_222 : decode cX12_look 222 = .ok (.ireturn, 1) := by decide +kernel
theorem dX12_chance_0 : decode cX12_chance 0 = .ok (.aload_n 0, 1) := by decide +kernel
theorem dX12_chance_1 : decode cX12_chance 1 = .ok (.iconst 0, 1) := by decide +kernel
theorem dX12_chance_2 : decode cX12_chance 2 = .ok (.putfield 1, 3) := by decide +kernel
theorem dX12_chance_5 : decode cX12_chance 5 = .ok (.aload_n 0, 1) := by decide +kernel
theorem dX12_chance_6 : decode cX12_chance 6 = .ok (.iload_n 1, 1) := by decide +kernel
theorem dX12_chance_7 : decode cX12_chance 7 = .ok (.invokevirtual 305, 3) := by decide +kernel
theorem dX12_chance_10 : decode cX12_chance 10 = .ok (.ifCond .eq 23, 3) := by decide +kernel
theorem dX12_chance_13 : decode cX12_chance 13 = .ok (.iload_n 2, 1) := by decide +kernel
theorem dX12_chance_14 : decode cX12_chance 14 = .ok (.iconst 1, 1) := by decide +kernel
theorem dX12_chance_15 : decode cX12_chance 15 = .ok (.bipush 6, 2) := by decide +kernel
theorem dX12_chance_17 : decode cX12_chance 17 = .ok (.invokestatic 308, 3) := by decide +kernel
theorem dX12_chance_20 : decode cX12_chance 20 = .ok (.ifCond .eq 13, 3) := by decide +kernel
theorem dX12_chance_23 : decode cX12_chance 23 = .ok (.iload_n 3, 1) := by decide +kernel
theorem dX12_chance_24 : decode cX12_chance 24 = .ok (.iconst 0, 1) := by decide +kernel
theorem dX12_chance_25 : decode cX12_chance 25 = .ok (.bipush 10, 2) := by decide +kernel
theorem dX12_chance_27 : decode cX12_chance 27 = .ok (.invokestatic 308, 3) := by decide +kernel
theorem dX12_chance_30 : decode cX12_chance 30 = .ok (.ifCond .ne 5, 3) := by decide +kernel
theorem dX12_chance_33 : decode cX12_chance 33 = .ok (.iconst (-1), 1) := by decide +kernel
theorem dX12_chance_34 : decode cX12_chance 34 = .ok (.ireturn, 1) := by decide +kernel
theorem dX12_chance_35 : decode cX12_chance 35 = .ok (.lconst 1, 1) := by decide +kernel
theorem dX12_chance_36 : decode cX12_chance 36 = .ok (.lstore 4, 2) := by decide +kernel
theorem dX12_chance_38 : decode cX12_chance 38 = .ok (.lconst 0, 1) := by decide +kernel
theorem dX12_chance_39 : decode cX12_chance 39 = .ok (.lstore 6, 2) := by decide +kernel
theorem dX12_chance_41 : decode cX12_chance 41 = .ok (.iconst 0, 1) := by decide +kernel
theorem dX12_chance_42 : decode cX12_chance 42 = .ok (.istore 8, 2) := by decide +kernel
theorem dX12_chance_44 : decode cX12_chance 44 = .ok (.iload 8, 2) := by decide +kernel
theorem dX12_chance_46 : decode cX12_chance 46 = .ok (.iload_n 2, 1) := by decide +kernel
theorem dX12_chance_47 : decode cX12_chance 47 = .ok (.if_icmp .ge 17, 3) := by decide +kernel
theorem dX12_chance_50 : decode cX12_chance 50 = .ok (.lload 4, 2) := by decide +kernel
theorem dX12_chance_52 : decode cX12_chance 52 = .ok (.ldc2_w 143, 3) := by decide +kernel
theorem dX12_chance_55 : decode cX12_chance 55 = .ok (.lmul, 1) := by decide +kernel
theorem dX12_chance_56 : decode cX12_chance 56 = .ok (.lstore 4, 2) := by decide +kernel
theorem dX12_chance_58 : decode cX12_chance 58 = .ok (.iinc 8 1, 3) := by decide +kernel
theorem dX12_chance_61 : decode cX12_chance 61 = .ok (.goto (-17), 3) := by decide +kernel
theorem dX12_chance_64 : decode cX12_chance 64 = .ok (.iconst 0, 1) := by decide +kernel
theorem dX12_chance_65 : decode cX12_chance 65 = .ok (.istore 8, 2) := by decide +kernel
theorem dX12_chance_67 : decode cX12_chance 67 = .ok (.iload 8, 2) := by decide +kernel
theorem dX12_chance_69 : decode cX12_chance 69 = .ok (.iconst 1, 1) := by decide +kernel
theorem dX12_chance_70 : decode cX12_chance 70 = .ok (.iload_n 2, 1) := by decide +kernel
theorem dX12_chance_71 : decode cX12_chance 71 = .ok (.ishl, 1) := by decide +kernel
theorem dX12_chance_72 : decode cX12_chance 72 = .ok (.if_icmp .ge 115, 3) := by decide +kernel
theorem dX12_chance_75 : decode cX12_chance 75 = .ok (.aload_n 0, 1) := by decide +kernel
theorem dX12_chance_76 : decode cX12_chance 76 = .ok (.invokevirtual 329, 3) := by decide +kernel
theorem dX12_chance_79 : decode cX12_chance 79 = .ok (.lconst 1, 1) := by decide +kernel
theorem dX12_chance_80 : decode cX12_chance 80 = .ok (.lstore 9, 2) := by decide +kernel
theorem dX12_chance_82 : decode cX12_chance 82 = .ok (.iconst 0, 1) := by decide +kernel
theorem dX12_chance_83 : decode cX12_chance 83 = .ok (.istore 11, 2) := by decide +kernel
theorem dX12_chance_85 : decode cX12_chance 85 = .ok (.iload 11, 2) := by decide +kernel
theorem dX12_chance_87 : decode cX12_chance 87 = .ok (.iload_n 2, 1) := by decide +kernel
theorem dX12_chance_88 : decode cX12_chance 88 = .ok (.if_icmp .ge 71, 3) := by decide +kernel
theorem dX12_chance_91 : decode cX12_chance 91 = .ok (.iload 8, 2) := by decide +kernel
theorem dX12_chance_93 : decode cX12_chance 93 = .ok (.iload 11, 2) := by decide +kernel
theorem dX12_chance_95 : decode cX12_chance 95 = .ok (.ishr, 1) := by decide +kernel
theorem dX12_chance_96 : decode cX12_chance 96 = .ok (.iconst 1, 1) := by decide +kernel
theorem dX12_chance_97 : decode cX12_chance 97 = .ok (.iand, 1) := by decide +kernel
theorem dX12_chance_98 : decode cX12_chance 98 = .ok (.iconst 1, 1) := by decide +kernel
theorem dX12_chance_99 : decode cX12_chance 99 = .ok (.if_icmp .ne 7, 3) := by decide +kernel
theorem dX12_chance_102 : decode cX12_chance 102 = .ok (.iconst 1, 1) := by decide +kernel
theorem dX12_chance_103 : decode cX12_chance 103 = .ok (.goto 4, 3) := by decide +kernel
theorem dX12_chance_106 : decode cX12_chance 106 = .ok (.iconst 0, 1) := by decide +kernel
theorem dX12_chance_107 : decode cX12_chance 107 = .ok (.istore 12, 2) := by decide +kernel
theorem dX12_chance_109 : decode cX12_chance 109 = .ok (.lload 9, 2) := by decide +kernel
theorem dX12_chance_111 : decode cX12_chance 111 = .ok (.iload 12, 2) := by decide +kernel
theorem dX12_chance_113 : decode cX12_chance 113 = .ok (.ifCond .eq 8, 3) := by decide +kernel
theorem dX12_chance_116 : decode cX12_chance 116 = .ok (.iload_n 3, 1) := by decide +kernel
theorem dX12_chance_117 : decode cX12_chance 117 = .ok (.i2l, 1) := by decide +kernel
theorem dX12_chance_118 : decode cX12_chance 118 = .ok (.goto 8, 3) := by decide +kernel
theorem dX12_chance_121 : decode cX12_chance 121 = .ok (.bipush 10, 2) := by decide +kernel
theorem dX12_chance_123 : decode cX12_chance 123 = .ok (.iload_n 3, 1) := by decide +kernel
theorem dX12_chance_124 : decode cX12_chance 124 = .ok (.isub, 1) := by decide +kernel
theorem dX12_chance_125 : decode cX12_chance 125 = .ok (.i2l, 1) := by decide +kernel
theorem dX12_chance_126 : decode cX12_chance 126 = .ok (.lmul, 1) := by decide +kernel
theorem dX12_chance_127 : decode cX12_chance 127 = .ok (.lstore 9, 2) := by decide +kernel
theorem dX12_chance_129 : decode cX12_chance 129 = .ok (.aload_n 0, 1) := by decide +kernel
theorem dX12_chance_130 : decode cX12_chance 130 = .ok (.sipush 882, 3) := by decide +kernel
theorem dX12_chance_133 : decode cX12_chance 133 = .ok (.iload 12, 2) := by decide +kernel
theorem dX12_chance_135 : decode cX12_chance 135 = .ok (.ifCond .eq 13, 3) := by decide +kernel
theorem dX12_chance_138 : decode cX12_chance 138 = .ok (.aload_n 0, 1) := by decide +kernel
theorem dX12_chance_139 : decode cX12_chance 139 = .ok (.sipush 882, 3) := by decide +kernel
theorem dX12_chance_142 : decode cX12_chance 142 = .ok (.invokevirtual 299, 3) := by decide +kernel
theorem dX12_chance_145 : decode cX12_chance 145 = .ok (.goto 4, 3) := by decide +kernel
theorem dX12_chance_148 : decode cX12_chance 148 = .ok (.iconst 0, 1) := by decide +kernel
theorem dX12_chance_149 : decode cX12_chance 149 = .ok (.invokevirtual 302, 3) := by decide +kernel
theorem dX12_chance_152 : decode cX12_chance 152 = .ok (.pop, 1) := by decide +kernel
theorem dX12_chance_153 : decode cX12_chance 153 = .ok (.iinc 11 1, 3) := by decide +kernel
theorem dX12_chance_156 : decode cX12_chance 156 = .ok (.goto (-71), 3) := by decide +kernel
theorem dX12_chance_159 : decode cX12_chance 159 = .ok (.lload 6, 2) := by decide +kernel
theorem dX12_chance_161 : decode cX12_chance 161 = .ok (.aload_n 0, 1) := by decide +kernel
theorem dX12_chance_162 : decode cX12_chance 162 = .ok (.sipush 882, 3) := by decide +kernel
theorem dX12_chance_165 : decode cX12_chance 165 = .ok (.iload_n 1, 1) := by decide +kernel
theorem dX12_chance_166 : decode cX12_chance 166 = .ok (.invokevirtual 272, 3) := by decide +kernel
theorem dX12_chance_169 : decode cX12_chance 169 = .ok (.ifCond .eq 8, 3) := by decide +kernel
theorem dX12_chance_172 : decode cX12_chance 172 = .ok (.lload 9, 2) := by decide +kernel
theorem dX12_chance_174 : decode cX12_chance 174 = .ok (.goto 4, 3) := by decide +kernel
theorem dX12_chance_177 : decode cX12_chance 177 = .ok (.lconst 0, 1) := by decide +kernel
theorem dX12_chance_178 : decode cX12_chance 178 = .ok (.ladd, 1) := by decide +kernel
theorem dX12_chance_179 : decode cX12_chance 179 = .ok (.lstore 6, 2) := by decide +kernel
theorem dX12_chance_181 : decode cX12_chance 181 = .ok (.iinc 8 1, 3) := by decide +kernel
theorem dX12_chance_184 : decode cX12_chance 184 = .ok (.goto (-117), 3) := by decide +kernel
theorem dX12_chance_187 : decode cX12_chance 187 = .ok (.lload 6, 2) := by decide +kernel
theorem dX12_chance_189 : decode cX12_chance 189 = .ok (.ldc2_w 356, 3) := by decide +kernel
theorem dX12_chance_192 : decode cX12_chance 192 = .ok (.lmul, 1) := by decide +kernel
theorem dX12_chance_193 : decode cX12_chance 193 = .ok (.lload 4, 2) := by decide +kernel
theorem dX12_chance_195 : decode cX12_chance 195 = .ok (.ldiv, 1) := by decide +kernel
theorem dX12_chance_196 : decode cX12_chance 196 = .ok (.l2i, 1) := by decide +kernel
theorem dX12_chance_197 : decode cX12_chance 197 = .ok (.ireturn, 1) := by decide +kernel
theorem dX12_touch_0 : decode cX12_touch 0 = .ok (.aload_n 0, 1) := by decide +kernel
theorem dX12_touch_1 : decode cX12_touch 1 = .ok (.iconst 0, 1) := by decide +kernel
theorem dX12_touch_2 : decode cX12_touch 2 = .ok (.putfield 1, 3) := by decide +kernel
theorem dX12_touch_5 : decode cX12_touch 5 = .ok (.aload_n 0, 1) := by decide +kernel
theorem dX12_touch_6 : decode cX12_touch 6 = .ok (.iload_n 1, 1) := by decide +kernel
theorem dX12_touch_7 : decode cX12_touch 7 = .ok (.invokevirtual 305, 3) := by decide +kernel
theorem dX12_touch_10 : decode cX12_touch 10 = .ok (.ifCond .eq 21, 3) := by decide +kernel
theorem dX12_touch_13 : decode cX12_touch 13 = .ok (.aload_n 0, 1) := by decide +kernel
theorem dX12_touch_14 : decode cX12_touch 14 = .ok (.iconst 0, 1) := by decide +kernel
theorem dX12_touch_15 : decode cX12_touch 15 = .ok (.iload_n 1, 1) := by decide +kernel
theorem dX12_touch_16 : decode cX12_touch 16 = .ok (.invokevirtual 268, 3) := by decide +kernel
theorem dX12_touch_19 : decode cX12_touch 19 = .ok (.ifCond .eq 12, 3) := by decide +kernel
theorem dX12_touch_22 : decode cX12_touch 22 = .ok (.aload_n 0, 1) := by decide +kernel
theorem dX12_touch_23 : decode cX12_touch 23 = .ok (.iconst 0, 1) := by decide +kernel
theorem dX12_touch_24 : decode cX12_touch 24 = .ok (.iload_n 1, 1) := by decide +kernel
theorem dX12_touch_25 : decode cX12_touch 25 = .ok (.invokevirtual 278, 3) := by decide +kernel
theorem dX12_touch_28 : decode cX12_touch 28 = .ok (.goto 4, 3) := by decide +kernel
theorem dX12_touch_31 : decode cX12_touch 31 = .ok (.iconst (-1), 1) := by decide +kernel
theorem dX12_touch_32 : decode cX12_touch 32 = .ok (.ireturn, 1) := by decide +kernel
theorem dX12_lone_0 : decode cX12_lone 0 = .ok (.aload_n 0, 1) := by decide +kernel
theorem dX12_lone_1 : decode cX12_lone 1 = .ok (.iconst 0, 1) := by decide +kernel
theorem dX12_lone_2 : decode cX12_lone 2 = .ok (.putfield 1, 3) := by decide +kernel
theorem dX12_lone_5 : decode cX12_lone 5 = .ok (.iconst 0, 1) := by decide +kernel
theorem dX12_lone_6 : decode cX12_lone 6 = .ok (.istore_n 1, 1) := by decide +kernel
theorem dX12_lone_7 : decode cX12_lone 7 = .ok (.iconst 0, 1) := by decide +kernel
theorem dX12_lone_8 : decode cX12_lone 8 = .ok (.istore_n 2, 1) := by decide +kernel
theorem dX12_lone_9 : decode cX12_lone 9 = .ok (.iload_n 2, 1) := by decide +kernel
theorem dX12_lone_10 : decode cX12_lone 10 = .ok (.aload_n 0, 1) := by decide +kernel
theorem dX12_lone_11 : decode cX12_lone 11 = .ok (.invokevirtual 252, 3) := by decide +kernel
theorem dX12_lone_14 : decode cX12_lone 14 = .ok (.if_icmp .ge 37, 3) := by decide +kernel
theorem dX12_lone_17 : decode cX12_lone 17 = .ok (.iload_n 1, 1) := by decide +kernel
theorem dX12_lone_18 : decode cX12_lone 18 = .ok (.aload_n 0, 1) := by decide +kernel
theorem dX12_lone_19 : decode cX12_lone 19 = .ok (.iconst 0, 1) := by decide +kernel
theorem dX12_lone_20 : decode cX12_lone 20 = .ok (.iload_n 2, 1) := by decide +kernel
theorem dX12_lone_21 : decode cX12_lone 21 = .ok (.invokevirtual 268, 3) := by decide +kernel
theorem dX12_lone_24 : decode cX12_lone 24 = .ok (.ifCond .eq 18, 3) := by decide +kernel
theorem dX12_lone_27 : decode cX12_lone 27 = .ok (.aload_n 0, 1) := by decide +kernel
theorem dX12_lone_28 : decode cX12_lone 28 = .ok (.iconst 0, 1) := by decide +kernel
theorem dX12_lone_29 : decode cX12_lone 29 = .ok (.iload_n 2, 1) := by decide +kernel
theorem dX12_lone_30 : decode cX12_lone 30 = .ok (.invokevirtual 278, 3) := by decide +kernel
theorem dX12_lone_33 : decode cX12_lone 33 = .ok (.ifCond .ne 9, 3) := by decide +kernel
theorem dX12_lone_36 : decode cX12_lone 36 = .ok (.iconst 1, 1) := by decide +kernel
theorem dX12_lone_37 : decode cX12_lone 37 = .ok (.iload_n 2, 1) := by decide +kernel
theorem dX12_lone_38 : decode cX12_lone 38 = .ok (.ishl, 1) := by decide +kernel
theorem dX12_lone_39 : decode cX12_lone 39 = .ok (.goto 4, 3) := by decide +kernel
theorem dX12_lone_42 : decode cX12_lone 42 = .ok (.iconst 0, 1) := by decide +kernel
theorem dX12_lone_43 : decode cX12_lone 43 = .ok (.ior, 1) := by decide +kernel
theorem dX12_lone_44 : decode cX12_lone 44 = .ok (.istore_n 1, 1) := by decide +kernel
theorem dX12_lone_45 : decode cX12_lone 45 = .ok (.iinc 2 1, 3) := by decide +kernel
theorem dX12_lone_48 : decode cX12_lone 48 = .ok (.goto (-39), 3) := by decide +kernel
theorem dX12_lone_51 : decode cX12_lone 51 = .ok (.iload_n 1, 1) := by decide +kernel
theorem dX12_lone_52 : decode cX12_lone 52 = .ok (.ireturn, 1) := by decide +kernel
theorem dX12_warmest_0 : decode cX12_warmest 0 = .ok (.aload_n 0, 1) := by decide +kernel
theorem dX12_warmest_1 : decode cX12_warmest 1 = .ok (.iconst 0, 1) := by decide +kernel
theorem dX12_warmest_2 : decode cX12_warmest 2 = .ok (.putfield 1, 3) := by decide +kernel
theorem dX12_warmest_5 : decode cX12_warmest 5 = .ok (.iconst (-1), 1) := by decide +kernel
theorem dX12_warmest_6 : decode cX12_warmest 6 = .ok (.istore_n 1, 1) := by decide +kernel
theorem dX12_warmest_7 : decode cX12_warmest 7 = .ok (.iconst 0, 1) := by decide +kernel
theorem dX12_warmest_8 : decode cX12_warmest 8 = .ok (.istore_n 2, 1) := by decide +kernel
theorem dX12_warmest_9 : decode cX12_warmest 9 = .ok (.iconst 0, 1) := by decide +kernel
theorem dX12_warmest_10 : decode cX12_warmest 10 = .ok (.istore_n 3, 1) := by decide +kernel
theorem dX12_warmest_11 : decode cX12_warmest 11 = .ok (.iload_n 3, 1) := by decide +kernel
theorem dX12_warmest_12 : decode cX12_warmest 12 = .ok (.bipush 12, 2) := by decide +kernel
theorem dX12_warmest_14 : decode cX12_warmest 14 = .ok (.if_icmp .ge 120, 3) := by decide +kernel
theorem dX12_warmest_17 : decode cX12_warmest 17 = .ok (.iconst 0, 1) := by decide +kernel
theorem dX12_warmest_18 : decode cX12_warmest 18 = .ok (.istore 4, 2) := by decide +kernel
theorem dX12_warmest_20 : decode cX12_warmest 20 = .ok (.iconst 0, 1) := by decide +kernel
theorem dX12_warmest_21 : decode cX12_warmest 21 = .ok (.istore 5, 2) := by decide +kernel
theorem dX12_warmest_23 : decode cX12_warmest 23 = .ok (.iload 5, 2) := by decide +kernel
theorem dX12_warmest_25 : decode cX12_warmest 25 = .ok (.aload_n 0, 1) := by decide +kernel
theorem dX12_warmest_26 : decode cX12_warmest 26 = .ok (.invokevirtual 252, 3) := by decide +kernel
theorem dX12_warmest_29 : decode cX12_warmest 29 = .ok (.if_icmp .ge 54, 3) := by decide +kernel
theorem dX12_warmest_32 : decode cX12_warmest 32 = .ok (.iload 4, 2) := by decide +kernel
theorem dX12_warmest_34 : decode cX12_warmest 34 = .ok (.aload_n 0, 1) := by decide +kernel
theorem dX12_warmest_35 : decode cX12_warmest 35 = .ok (.iconst 0, 1) := by decide +kernel
theorem dX12_warmest_36 : decode cX12_warmest 36 = .ok (.iload 5, 2) := by decide +kernel
theorem dX12_warmest_38 : decode cX12_warmest 38 = .ok (.invokevirtual 268, 3) := by decide +kernel
theorem dX12_warmest_41 : decode cX12_warmest 41 = .ok (.ifCond .eq 32, 3) := by decide +kernel
theorem dX12_warmest_44 : decode cX12_warmest 44 = .ok (.iload_n 3, 1) := by decide +kernel
theorem dX12_warmest_45 : decode cX12_warmest 45 = .ok (.aload_n 0, 1) := by decide +kernel
theorem dX12_warmest_46 : decode cX12_warmest 46 = .ok (.getfield 107, 3) := by decide +kernel
theorem dX12_warmest_49 : decode cX12_warmest 49 = .ok (.iconst 2, 1) := by decide +kernel
theorem dX12_warmest_50 : decode cX12_warmest 50 = .ok (.iload 5, 2) := by decide +kernel
theorem dX12_warmest_52 : decode cX12_warmest 52 = .ok (.iadd, 1) := by decide +kernel
theorem dX12_warmest_53 : decode cX12_warmest 53 = .ok (.iaload, 1) := by decide +kernel
theorem dX12_warmest_54 : decode cX12_warmest 54 = .ok (.invokestatic 275, 3) := by decide +kernel
theorem dX12_warmest_57 : decode cX12_warmest 57 = .ok (.ifCond .eq 16, 3) := by decide +kernel
theorem dX12_warmest_60 : decode cX12_warmest 60 = .ok (.aload_n 0, 1) := by decide +kernel
theorem dX12_warmest_61 : decode cX12_warmest 61 = .ok (.getfield 107, 3) := by decide +kernel
theorem dX12_warmest_64 : decode cX12_warmest 64 = .ok (.bipush 9, 2) := by decide +kernel
theorem dX12_warmest_66 : decode cX12_warmest 66 = .ok (.iload 5, 2) := by decide +kernel
theorem dX12_warmest_68 : decode cX12_warmest 68 = .ok (.iadd, 1) := by decide +kernel
theorem dX12_warmest_69 : decode cX12_warmest 69 = .ok (.iaload, 1) := by decide +kernel
theorem dX12_warmest_70 : decode cX12_warmest 70 = .ok (.goto 4, 3) := by decide +kernel
theorem dX12_warmest_73 : decode cX12_warmest 73 = .ok (.iconst 0, 1) := by decide +kernel
theorem dX12_warmest_74 : decode cX12_warmest 74 = .ok (.iadd, 1) := by decide +kernel
theorem dX12_warmest_75 : decode cX12_warmest 75 = .ok (.istore 4, 2) := by decide +kernel
theorem dX12_warmest_77 : decode cX12_warmest 77 = .ok (.iinc 5 1, 3) := by decide +kernel
theorem dX12_warmest_80 : decode cX12_warmest 80 = .ok (.goto (-57), 3) := by decide +kernel
theorem dX12_warmest_83 : decode cX12_warmest 83 = .ok (.aload_n 0, 1) := by decide +kernel
theorem dX12_warmest_84 : decode cX12_warmest 84 = .ok (.iconst 0, 1) := by decide +kernel
theorem dX12_warmest_85 : decode cX12_warmest 85 = .ok (.iload_n 3, 1) := by decide +kernel
theorem dX12_warmest_86 : decode cX12_warmest 86 = .ok (.invokevirtual 281, 3) := by decide +kernel
theorem dX12_warmest_89 : decode cX12_warmest 89 = .ok (.ifCond .ge 13, 3) := by decide +kernel
theorem dX12_warmest_92 : decode cX12_warmest 92 = .ok (.iload 4, 2) := by decide +kernel
theorem dX12_warmest_94 : decode cX12_warmest 94 = .ok (.iload_n 2, 1) := by decide +kernel
theorem dX12_warmest_95 : decode cX12_warmest 95 = .ok (.if_icmp .le 7, 3) := by decide +kernel
theorem dX12_warmest_98 : decode cX12_warmest 98 = .ok (.iconst 1, 1) := by decide +kernel
theorem dX12_warmest_99 : decode cX12_warmest 99 = .ok (.goto 4, 3) := by decide +kernel
theorem dX12_warmest_102 : decode cX12_warmest 102 = .ok (.iconst 0, 1) := by decide +kernel
theorem dX12_warmest_103 : decode cX12_warmest 103 = .ok (.istore 5, 2) := by decide +kernel
theorem dX12_warmest_105 : decode cX12_warmest 105 = .ok (.iload 5, 2) := by decide +kernel
theorem dX12_warmest_107 : decode cX12_warmest 107 = .ok (.ifCond .eq 7, 3) := by decide +kernel
theorem dX12_warmest_110 : decode cX12_warmest 110 = .ok (.iload_n 3, 1) := by decide +kernel
theorem dX12_warmest_111 : decode cX12_warmest 111 = .ok (.goto 4, 3) := by decide +kernel
theorem dX12_warmest_114 : decode cX12_warmest 114 = .ok (.iload_n 1, 1) := by decide +kernel
theorem dX12_warmest_115 : decode cX12_warmest 115 = .ok (.istore_n 1, 1) := by decide +kernel
theorem dX12_warmest_116 : decode cX12_warmest 116 = .ok (.iload 5, 2) := by decide +kernel
theorem dX12_warmest_118 : decode cX12_warmest 118 = .ok (.ifCond .eq 8, 3) := by decide +kernel
theorem dX12_warmest_121 : decode cX12_warmest 121 = .ok (.iload 4, 2) := by decide +kernel
theorem dX12_warmest_123 : decode cX12_warmest 123 = .ok (.goto 4, 3) := by decide +kernel
theorem dX12_warmest_126 : decode cX12_warmest 126 = .ok (.iload_n 2, 1) := by decide +kernel
theorem dX12_warmest_127 : decode cX12_warmest 127 = .ok (.istore_n 2, 1) := by decide +kernel
theorem dX12_warmest_128 : decode cX12_warmest 128 = .ok (.iinc 3 1, 3) := by decide +kernel
theorem dX12_warmest_131 : decode cX12_warmest 131 = .ok (.goto (-120), 3) := by decide +kernel
theorem dX12_warmest_134 : decode cX12_warmest 134 = .ok (.iload_n 1, 1) := by decide +kernel
theorem dX12_warmest_135 : decode cX12_warmest 135 = .ok (.ireturn, 1) := by decide +kernel
theorem dX12_hallOf_0 : decode cX12_hallOf 0 = .ok (.iconst 1, 1) := by decide +kernel
theorem dX12_hallOf_1 : decode cX12_hallOf 1 = .ok (.iload_n 1, 1) := by decide +kernel
theorem dX12_hallOf_2 : decode cX12_hallOf 2 = .ok (.ishl, 1) := by decide +kernel
theorem dX12_hallOf_3 : decode cX12_hallOf 3 = .ok (.istore_n 2, 1) := by decide +kernel
theorem dX12_hallOf_4 : decode cX12_hallOf 4 = .ok (.iconst 0, 1) := by decide +kernel
theorem dX12_hallOf_5 : decode cX12_hallOf 5 = .ok (.istore_n 3, 1) := by decide +kernel
theorem dX12_hallOf_6 : decode cX12_hallOf 6 = .ok (.iload_n 3, 1) := by decide +kernel
theorem dX12_hallOf_7 : decode cX12_hallOf 7 = .ok (.bipush 7, 2) := by decide +kernel
theorem dX12_hallOf_9 : decode cX12_hallOf 9 = .ok (.if_icmp .ge 51, 3) := by decide +kernel
theorem dX12_hallOf_12 : decode cX12_hallOf 12 = .ok (.iconst 0, 1) := by decide +kernel
theorem dX12_hallOf_13 : decode cX12_hallOf 13 = .ok (.istore 4, 2) := by decide +kernel
theorem dX12_hallOf_15 : decode cX12_hallOf 15 = .ok (.iload 4, 2) := by decide +kernel
theorem dX12_hallOf_17 : decode cX12_hallOf 17 = .ok (.aload_n 0, 1) := by decide +kernel
theorem dX12_hallOf_18 : decode cX12_hallOf 18 = .ok (.invokevirtual 252, 3) := by decide +kernel
theorem dX12_hallOf_21 : decode cX12_hallOf 21 = .ok (.if_icmp .ge 33, 3) := by decide +kernel
theorem dX12_hallOf_24 : decode cX12_hallOf 24 = .ok (.iload_n 2, 1) := by decide +kernel
theorem dX12_hallOf_25 : decode cX12_hallOf 25 = .ok (.iload_n 2, 1) := by decide +kernel
theorem dX12_hallOf_26 : decode cX12_hallOf 26 = .ok (.iload 4, 2) := by decide +kernel
theorem dX12_hallOf_28 : decode cX12_hallOf 28 = .ok (.ishr, 1) := by decide +kernel
theorem dX12_hallOf_29 : decode cX12_hallOf 29 = .ok (.iconst 1, 1) := by decide +kernel
theorem dX12_hallOf_30 : decode cX12_hallOf 30 = .ok (.iand, 1) := by decide +kernel
theorem dX12_hallOf_31 : decode cX12_hallOf 31 = .ok (.iconst 1, 1) := by decide +kernel
theorem dX12_hallOf_32 : decode cX12_hallOf 32 = .ok (.if_icmp .ne 13, 3) := by decide +kernel
theorem dX12_hallOf_35 : decode cX12_hallOf 35 = .ok (.aload_n 0, 1) := by decide +kernel
theorem dX12_hallOf_36 : decode cX12_hallOf 36 = .ok (.iconst 0, 1) := by decide +kernel
theorem dX12_hallOf_37 : decode cX12_hallOf 37 = .ok (.iload 4, 2) := by decide +kernel
theorem dX12_hallOf_39 : decode cX12_hallOf 39 = .ok (.invokevirtual 278, 3) := by decide +kernel
theorem dX12_hallOf_42 : decode cX12_hallOf 42 = .ok (.goto 4, 3) := by decide +kernel
theorem dX12_hallOf_45 : decode cX12_hallOf 45 = .ok (.iconst 0, 1) := by decide +kernel
theorem dX12_hallOf_46 : decode cX12_hallOf 46 = .ok (.ior, 1) := by decide +kernel
theorem dX12_hallOf_47 : decode cX12_hallOf 47 = .ok (.istore_n 2, 1) := by decide +kernel
theorem dX12_hallOf_48 : decode cX12_hallOf 48 = .ok (.iinc 4 1, 3) := by decide +kernel
theorem dX12_hallOf_51 : decode cX12_hallOf 51 = .ok (.goto (-36), 3) := by decide +kernel
theorem dX12_hallOf_54 : decode cX12_hallOf 54 = .ok (.iinc 3 1, 3) := by decide +kernel
theorem dX12_hallOf_57 : decode cX12_hallOf 57 = .ok (.goto (-51), 3) := by decide +kernel
theorem dX12_hallOf_60 : decode cX12_hallOf 60 = .ok (.iload_n 2, 1) := by decide +kernel
theorem dX12_hallOf_61 : decode cX12_hallOf 61 = .ok (.ireturn, 1) := by decide +kernel
theorem dX12_hall_0 : decode cX12_hall 0 = .ok (.aload_n 0, 1) := by decide +kernel
theorem dX12_hall_1 : decode cX12_hall 1 = .ok (.iconst 0, 1) := by decide +kernel
theorem dX12_hall_2 : decode cX12_hall 2 = .ok (.putfield 1, 3) := by decide +kernel
theorem dX12_hall_5 : decode cX12_hall 5 = .ok (.aload_n 0, 1) := by decide +kernel
theorem dX12_hall_6 : decode cX12_hall 6 = .ok (.iload_n 1, 1) := by decide +kernel
theorem dX12_hall_7 : decode cX12_hall 7 = .ok (.invokevirtual 305, 3) := by decide +kernel
theorem dX12_hall_10 : decode cX12_hall 10 = .ok (.ifCond .eq 20, 3) := by decide +kernel
theorem dX12_hall_13 : decode cX12_hall 13 = .ok (.aload_n 0, 1) := by decide +kernel
theorem dX12_hall_14 : decode cX12_hall 14 = .ok (.iconst 0, 1) := by decide +kernel
theorem dX12_hall_15 : decode cX12_hall 15 = .ok (.iload_n 1, 1) := by decide +kernel
theorem dX12_hall_16 : decode cX12_hall 16 = .ok (.invokevirtual 268, 3) := by decide +kernel
theorem dX12_hall_19 : decode cX12_hall 19 = .ok (.ifCond .eq 11, 3) := by decide +kernel
theorem dX12_hall_22 : decode cX12_hall 22 = .ok (.aload_n 0, 1) := by decide +kernel
theorem dX12_hall_23 : decode cX12_hall 23 = .ok (.iload_n 1, 1) := by decide +kernel
theorem dX12_hall_24 : decode cX12_hall 24 = .ok (.invokevirtual 358, 3) := by decide +kernel
theorem dX12_hall_27 : decode cX12_hall 27 = .ok (.goto 4, 3) := by decide +kernel
theorem dX12_hall_30 : decode cX12_hall 30 = .ok (.iconst (-1), 1) := by decide +kernel
theorem dX12_hall_31 : decode cX12_hall 31 = .ok (.ireturn, 1) := by decide +kernel
theorem dX12_halls_0 : decode cX12_halls 0 = .ok (.aload_n 0, 1) := by decide +kernel
theorem dX12_halls_1 : decode cX12_halls 1 = .ok (.iconst 0, 1) := by decide +kernel
theorem dX12_halls_2 : decode cX12_halls 2 = .ok (.putfield 1, 3) := by decide +kernel
theorem dX12_halls_5 : decode cX12_halls 5 = .ok (.iconst 0, 1) := by decide +kernel
theorem dX12_halls_6 : decode cX12_halls 6 = .ok (.istore_n 1, 1) := by decide +kernel
theorem dX12_halls_7 : decode cX12_halls 7 = .ok (.iconst 0, 1) := by decide +kernel
theorem dX12_halls_8 : decode cX12_halls 8 = .ok (.istore_n 2, 1) := by decide +kernel
theorem dX12_halls_9 : decode cX12_halls 9 = .ok (.iload_n 2, 1) := by decide +kernel
theorem dX12_halls_10 : decode cX12_halls 10 = .ok (.aload_n 0, 1) := by decide +kernel
theorem dX12_halls_11 : decode cX12_halls 11 = .ok (.invokevirtual 252, 3) := by decide +kernel
theorem dX12_halls_14 : decode cX12_halls 14 = .ok (.if_icmp .ge 40, 3) := by decide +kernel
theorem dX12_halls_17 : decode cX12_halls 17 = .ok (.iload_n 1, 1) := by decide +kernel
theorem dX12_halls_18 : decode cX12_halls 18 = .ok (.aload_n 0, 1) := by decide +kernel
theorem dX12_halls_19 : decode cX12_halls 19 = .ok (.iconst 0, 1) := by decide +kernel
theorem dX12_halls_20 : decode cX12_halls 20 = .ok (.iload_n 2, 1) := by decide +kernel
theorem dX12_halls_21 : decode cX12_halls 21 = .ok (.invokevirtual 268, 3) := by decide +kernel
theorem dX12_halls_24 : decode cX12_halls 24 = .ok (.ifCond .eq 21, 3) := by decide +kernel
theorem dX12_halls_27 : decode cX12_halls 27 = .ok (.aload_n 0, 1) := by decide +kernel
theorem dX12_halls_28 : decode cX12_halls 28 = .ok (.iload_n 2, 1) := by decide +kernel
theorem dX12_halls_29 : decode cX12_halls 29 = .ok (.invokevirtual 358, 3) := by decide +kernel
theorem dX12_halls_32 : decode cX12_halls 32 = .ok (.iconst 1, 1) := by decide +kernel
theorem dX12_halls_33 : decode cX12_halls 33 = .ok (.iload_n 2, 1) := by decide +kernel
theorem dX12_halls_34 : decode cX12_halls 34 = .ok (.ishl, 1) := by decide +kernel
theorem dX12_halls_35 : decode cX12_halls 35 = .ok (.iconst 1, 1) := by decide +kernel
theorem dX12_halls_36 : decode cX12_halls 36 = .ok (.isub, 1) := by decide +kernel
theorem dX12_halls_37 : decode cX12_halls 37 = .ok (.iand, 1) := by decide +kernel
theorem dX12_halls_38 : decode cX12_halls 38 = .ok (.ifCond .ne 7, 3) := by decide +kernel
theorem dX12_halls_41 : decode cX12_halls 41 = .ok (.iconst 1, 1) := by decide +kernel
theorem dX12_halls_42 : decode cX12_halls 42 = .ok (.goto 4, 3) := by decide +kernel
theorem dX12_halls_45 : decode cX12_halls 45 = .ok (.iconst 0, 1) := by decide +kernel
theorem dX12_halls_46 : decode cX12_halls 46 = .ok (.iadd, 1) := by decide +kernel
theorem dX12_halls_47 : decode cX12_halls 47 = .ok (.istore_n 1, 1) := by decide +kernel
theorem dX12_halls_48 : decode cX12_halls 48 = .ok (.iinc 2 1, 3) := by decide +kernel
theorem dX12_halls_51 : decode cX12_halls 51 = .ok (.goto (-42), 3) := by decide +kernel
theorem dX12_halls_54 : decode cX12_halls 54 = .ok (.iload_n 1, 1) := by decide +kernel
theorem dX12_halls_55 : decode cX12_halls 55 = .ok (.ireturn, 1) := by decide +kernel
theorem dX12_tower_0 : decode cX12_tower 0 = .ok (.aload_n 0, 1) := by decide +kernel
theorem dX12_tower_1 : decode cX12_tower 1 = .ok (.iconst 0, 1) := by decide +kernel
theorem dX12_tower_2 : decode cX12_tower 2 = .ok (.putfield 1, 3) := by decide +kernel
theorem dX12_tower_5 : decode cX12_tower 5 = .ok (.iconst 0, 1) := by decide +kernel
theorem dX12_tower_6 : decode cX12_tower 6 = .ok (.istore_n 1, 1) := by decide +kernel
theorem dX12_tower_7 : decode cX12_tower 7 = .ok (.iconst 0, 1) := by decide +kernel
theorem dX12_tower_8 : decode cX12_tower 8 = .ok (.istore_n 2, 1) := by decide +kernel
theorem dX12_tower_9 : decode cX12_tower 9 = .ok (.iload_n 2, 1) := by decide +kernel
theorem dX12_tower_10 : decode cX12_tower 10 = .ok (.iconst 4, 1) := by decide +kernel
theorem dX12_tower_11 : decode cX12_tower 11 = .ok (.if_icmp .ge 46, 3) := by decide +kernel
theorem dX12_tower_14 : decode cX12_tower 14 = .ok (.iconst 0, 1) := by decide +kernel
theorem dX12_tower_15 : decode cX12_tower 15 = .ok (.istore_n 3, 1) := by decide +kernel
theorem dX12_tower_16 : decode cX12_tower 16 = .ok (.iload_n 3, 1) := by decide +kernel
theorem dX12_tower_17 : decode cX12_tower 17 = .ok (.iconst 3, 1) := by decide +kernel
theorem dX12_tower_18 : decode cX12_tower 18 = .ok (.if_icmp .ge 22, 3) := by decide +kernel
theorem dX12_tower_21 : decode cX12_tower 21 = .ok (.aload_n 0, 1) := by decide +kernel
theorem dX12_tower_22 : decode cX12_tower 22 = .ok (.iconst 0, 1) := by decide +kernel
theorem dX12_tower_23 : decode cX12_tower 23 = .ok (.iload_n 2, 1) := by decide +kernel
theorem dX12_tower_24 : decode cX12_tower 24 = .ok (.iconst 4, 1) := by decide +kernel
theorem dX12_tower_25 : decode cX12_tower 25 = .ok (.iload_n 3, 1) := by decide +kernel
theorem dX12_tower_26 : decode cX12_tower 26 = .ok (.imul, 1) := by decide +kernel
theorem dX12_tower_27 : decode cX12_tower 27 = .ok (.iadd, 1) := by decide +kernel
theorem dX12_tower_28 : decode cX12_tower 28 = .ok (.invokevirtual 281, 3) := by decide +kernel
theorem dX12_tower_31 : decode cX12_tower 31 = .ok (.ifCond .lt 9, 3) := by decide +kernel
theorem dX12_tower_34 : decode cX12_tower 34 = .ok (.iinc 3 1, 3) := by decide +kernel
theorem dX12_tower_37 : decode cX12_tower 37 = .ok (.goto (-21), 3) := by decide +kernel
theorem dX12_tower_40 : decode cX12_tower 40 = .ok (.iload_n 3, 1) := by decide +kernel
theorem dX12_tower_41 : decode cX12_tower 41 = .ok (.iload_n 1, 1) := by decide +kernel
theorem dX12_tower_42 : decode cX12_tower 42 = .ok (.if_icmp .le 7, 3) := by decide +kernel
theorem dX12_tower_45 : decode cX12_tower 45 = .ok (.iload_n 3, 1) := by decide +kernel
theorem dX12_tower_46 : decode cX12_tower 46 = .ok (.goto 4, 3) := by decide +kernel
theorem dX12_tower_49 : decode cX12_tower 49 = .ok (.iload_n 1, 1) := by decide +kernel
theorem dX12_tower_50 : decode cX12_tower 50 = .ok (.istore_n 1, 1) := by decide +kernel
theorem dX12_tower_51 : decode cX12_tower 51 = .ok (.iinc 2 1, 3) := by decide +kernel
theorem dX12_tower_54 : decode cX12_tower 54 = .ok (.goto (-45), 3) := by decide +kernel
theorem dX12_tower_57 : decode cX12_tower 57 = .ok (.iload_n 1, 1) := by decide +kernel
theorem dX12_tower_58 : decode cX12_tower 58 = .ok (.ireturn, 1) := by decide +kernel
theorem dX12_alight_0 : decode cX12_alight 0 = .ok (.aload_n 0, 1) := by decide +kernel
theorem dX12_alight_1 : decode cX12_alight 1 = .ok (.iconst 0, 1) := by decide +kernel
theorem dX12_alight_2 : decode cX12_alight 2 = .ok (.putfield 1, 3) := by decide +kernel
theorem dX12_alight_5 : decode cX12_alight 5 = .ok (.iload_n 1, 1) := by decide +kernel
theorem dX12_alight_6 : decode cX12_alight 6 = .ok (.iconst 0, 1) := by decide +kernel
theorem dX12_alight_7 : decode cX12_alight 7 = .ok (.bipush 40, 2) := by decide +kernel
theorem dX12_alight_9 : decode cX12_alight 9 = .ok (.invokestatic 308, 3) := by decide +kernel
theorem dX12_alight_12 : decode cX12_alight 12 = .ok (.ifCond .ne 5, 3) := by decide +kernel
theorem dX12_alight_15 : decode cX12_alight 15 = .ok (.iconst (-1), 1) := by decide +kernel
theorem dX12_alight_16 : decode cX12_alight 16 = .ok (.ireturn, 1) := by decide +kernel
theorem dX12_alight_17 : decode cX12_alight 17 = .ok (.aload_n 0, 1) := by decide +kernel
theorem dX12_alight_18 : decode cX12_alight 18 = .ok (.invokevirtual 329, 3) := by decide +kernel
theorem dX12_alight_21 : decode cX12_alight 21 = .ok (.iconst 0, 1) := by decide +kernel
theorem dX12_alight_22 : decode cX12_alight 22 = .ok (.istore_n 2, 1) := by decide +kernel
theorem dX12_alight_23 : decode cX12_alight 23 = .ok (.iload_n 2, 1) := by decide +kernel
theorem dX12_alight_24 : decode cX12_alight 24 = .ok (.iload_n 1, 1) := by decide +kernel
theorem dX12_alight_25 : decode cX12_alight 25 = .ok (.if_icmp .ge 17, 3) := by decide +kernel
theorem dX12_alight_28 : decode cX12_alight 28 = .ok (.aload_n 0, 1) := by decide +kernel
theorem dX12_alight_29 : decode cX12_alight 29 = .ok (.sipush 882, 3) := by decide +kernel
theorem dX12_alight_32 : decode cX12_alight 32 = .ok (.invokevirtual 315, 3) := by decide +kernel
theorem dX12_alight_35 : decode cX12_alight 35 = .ok (.pop, 1) := by decide +kernel
theorem dX12_alight_36 : decode cX12_alight 36 = .ok (.iinc 2 1, 3) := by decide +kernel
theorem dX12_alight_39 : decode cX12_alight 39 = .ok (.goto (-16), 3) := by decide +kernel
theorem dX12_alight_42 : decode cX12_alight 42 = .ok (.aload_n 0, 1) := by decide +kernel
theorem dX12_alight_43 : decode cX12_alight 43 = .ok (.sipush 882, 3) := by decide +kernel
theorem dX12_alight_46 : decode cX12_alight 46 = .ok (.invokevirtual 284, 3) := by decide +kernel
theorem dX12_alight_49 : decode cX12_alight 49 = .ok (.ireturn, 1) := by decide +kernel
theorem dX12_getsBy_0 : decode cX12_getsBy 0 = .ok (.iload_n 0, 1) := by decide +kernel
theorem dX12_getsBy_1 : decode cX12_getsBy 1 = .ok (.iconst 1, 1) := by decide +kernel
theorem dX12_getsBy_2 : decode cX12_getsBy 2 = .ok (.if_icmp .ne 17, 3) := by decide +kernel
theorem dX12_getsBy_5 : decode cX12_getsBy 5 = .ok (.iload_n 1, 1) := by decide +kernel
theorem dX12_getsBy_6 : decode cX12_getsBy 6 = .ok (.iconst 1, 1) := by decide +kernel
theorem dX12_getsBy_7 : decode cX12_getsBy 7 = .ok (.if_icmp .ne 7, 3) := by decide +kernel
theorem dX12_getsBy_10 : decode cX12_getsBy 10 = .ok (.iload_n 2, 1) := by decide +kernel
theorem dX12_getsBy_11 : decode cX12_getsBy 11 = .ok (.goto 19, 3) := by decide +kernel
theorem dX12_getsBy_14 : decode cX12_getsBy 14 = .ok (.iload_n 3, 1) := by decide +kernel
theorem dX12_getsBy_15 : decode cX12_getsBy 15 = .ok (.ineg, 1) := by decide +kernel
theorem dX12_getsBy_16 : decode cX12_getsBy 16 = .ok (.goto 14, 3) := by decide +kernel
theorem dX12_getsBy_19 : decode cX12_getsBy 19 = .ok (.iload_n 1, 1) := by decide +kernel
theorem dX12_getsBy_20 : decode cX12_getsBy 20 = .ok (.iconst 1, 1) := by decide +kernel
theorem dX12_getsBy_21 : decode cX12_getsBy 21 = .ok (.if_icmp .ne 8, 3) := by decide +kernel
theorem dX12_getsBy_24 : decode cX12_getsBy 24 = .ok (.iload 4, 2) := by decide +kernel
theorem dX12_getsBy_26 : decode cX12_getsBy 26 = .ok (.goto 4, 3) := by decide +kernel
theorem dX12_getsBy_29 : decode cX12_getsBy 29 = .ok (.iconst 0, 1) := by decide +kernel
theorem dX12_getsBy_30 : decode cX12_getsBy 30 = .ok (.ireturn, 1) := by decide +kernel
theorem dX12_rests_0 : decode cX12_rests 0 = .ok (.iload_n 1, 1) := by decide +kernel
theorem dX12_rests_1 : decode cX12_rests 1 = .ok (.iconst 0, 1) := by decide +kernel
theorem dX12_rests_2 : decode cX12_rests 2 = .ok (.bipush 9, 2) := by decide +kernel
theorem dX12_rests_4 : decode cX12_rests 4 = .ok (.invokestatic 308, 3) := by decide +kernel
theorem dX12_rests_7 : decode cX12_rests 7 = .ok (.ifCond .eq 33, 3) := by decide +kernel
theorem dX12_rests_10 : decode cX12_rests 10 = .ok (.iload_n 2, 1) := by decide +kernel
theorem dX12_rests_11 : decode cX12_rests 11 = .ok (.iconst 0, 1) := by decide +kernel
theorem dX12_rests_12 : decode cX12_rests 12 = .ok (.bipush 9, 2) := by decide +kernel
theorem dX12_rests_14 : decode cX12_rests 14 = .ok (.invokestatic 308, 3) := by decide +kernel
theorem dX12_rests_17 : decode cX12_rests 17 = .ok (.ifCond .eq 23, 3) := by decide +kernel
theorem dX12_rests_20 : decode cX12_rests 20 = .ok (.iload_n 3, 1) := by decide +kernel
theorem dX12_rests_21 : decode cX12_rests 21 = .ok (.iconst 0, 1) := by decide +kernel
theorem dX12_rests_22 : decode cX12_rests 22 = .ok (.bipush 9, 2) := by decide +kernel
theorem dX12_rests_24 : decode cX12_rests 24 = .ok (.invokestatic 308, 3) := by decide +kernel
theorem dX12_rests_27 : decode cX12_rests 27 = .ok (.ifCond .eq 13, 3) := by decide +kernel
theorem dX12_rests_30 : decode cX12_rests 30 = .ok (.iload 4, 2) := by decide +kernel
theorem dX12_rests_32 : decode cX12_rests 32 = .ok (.iconst (-1), 1) := by decide +kernel
theorem dX12_rests_33 : decode cX12_rests 33 = .ok (.if_icmp .lt 7, 3) := by decide +kernel
theorem dX12_rests_36 : decode cX12_rests 36 = .ok (.iconst 1, 1) := by decide +kernel
theorem dX12_rests_37 : decode cX12_rests 37 = .ok (.goto 4, 3) := by decide +kernel
theorem dX12_rests_40 : decode cX12_rests 40 = .ok (.iconst 0, 1) := by decide +kernel
theorem dX12_rests_41 : decode cX12_rests 41 = .ok (.istore 5, 2) := by decide +kernel
theorem dX12_rests_43 : decode cX12_rests 43 = .ok (.iconst 0, 1) := by decide +kernel
theorem dX12_rests_44 : decode cX12_rests 44 = .ok (.istore 6, 2) := by decide +kernel
theorem dX12_rests_46 : decode cX12_rests 46 = .ok (.iconst (-1), 1) := by decide +kernel
theorem dX12_rests_47 : decode cX12_rests 47 = .ok (.istore 7, 2) := by decide +kernel
theorem dX12_rests_49 : decode cX12_rests 49 = .ok (.iconst 0, 1) := by decide +kernel
theorem dX12_rests_50 : decode cX12_rests 50 = .ok (.istore 8, 2) := by decide +kernel
theorem dX12_rests_52 : decode cX12_rests 52 = .ok (.iload 8, 2) := by decide +kernel
theorem dX12_rests_54 : decode cX12_rests 54 = .ok (.iconst 4, 1) := by decide +kernel
theorem dX12_rests_55 : decode cX12_rests 55 = .ok (.if_icmp .ge 119, 3) := by decide +kernel
theorem dX12_rests_58 : decode cX12_rests 58 = .ok (.iload 5, 2) := by decide +kernel
theorem dX12_rests_60 : decode cX12_rests 60 = .ok (.ifCond .eq 114, 3) := by decide +kernel
theorem dX12_rests_63 : decode cX12_rests 63 = .ok (.iload 8, 2) := by decide +kernel
theorem dX12_rests_65 : decode cX12_rests 65 = .ok (.iconst 2, 1) := by decide +kernel
theorem dX12_rests_66 : decode cX12_rests 66 = .ok (.idiv, 1) := by decide +kernel
theorem dX12_rests_67 : decode cX12_rests 67 = .ok (.istore 9, 2) := by decide +kernel
theorem dX12_rests_69 : decode cX12_rests 69 = .ok (.iload 8, 2) := by decide +kernel
theorem dX12_rests_71 : decode cX12_rests 71 = .ok (.iconst 2, 1) := by decide +kernel
theorem dX12_rests_72 : decode cX12_rests 72 = .ok (.irem, 1) := by decide +kernel
theorem dX12_rests_73 : decode cX12_rests 73 = .ok (.istore 10, 2) := by decide +kernel
theorem dX12_rests_75 : decode cX12_rests 75 = .ok (.iconst 1, 1) := by decide +kernel
theorem dX12_rests_76 : decode cX12_rests 76 = .ok (.iload 9, 2) := by decide +kernel
theorem dX12_rests_78 : decode cX12_rests 78 = .ok (.isub, 1) := by decide +kernel
theorem dX12_rests_79 : decode cX12_rests 79 = .ok (.iload 10, 2) := by decide +kernel
theorem dX12_rests_81 : decode cX12_rests 81 = .ok (.iload_n 1, 1) := by decide +kernel
theorem dX12_rests_82 : decode cX12_rests 82 = .ok (.iload_n 2, 1) := by decide +kernel
theorem dX12_rests_83 : decode cX12_rests 83 = .ok (.iload_n 3, 1) := by decide +kernel
theorem dX12_rests_84 : decode cX12_rests 84 = .ok (.invokestatic 361, 3) := by decide +kernel
theorem dX12_rests_87 : decode cX12_rests 87 = .ok (.iload 9, 2) := by decide +kernel
theorem dX12_rests_89 : decode cX12_rests 89 = .ok (.iload 10, 2) := by decide +kernel
theorem dX12_rests_91 : decode cX12_rests 91 = .ok (.iload_n 1, 1) := by decide +kernel
theorem dX12_rests_92 : decode cX12_rests 92 = .ok (.iload_n 2, 1) := by decide +kernel
theorem dX12_rests_93 : decode cX12_rests 93 = .ok (.iload_n 3, 1) := by decide +kernel
theorem dX12_rests_94 : decode cX12_rests 94 = .ok (.invokestatic 361, 3) := by decide +kernel
theorem dX12_rests_97 : decode cX12_rests 97 = .ok (.if_icmp .gt 32, 3) := by decide +kernel
theorem dX12_rests_100 : decode cX12_rests 100 = .ok (.iconst 1, 1) := by decide +kernel
theorem dX12_rests_101 : decode cX12_rests 101 = .ok (.iload 10, 2) := by decide +kernel
theorem dX12_rests_103 : decode cX12_rests 103 = .ok (.isub, 1) := by decide +kernel
theorem dX12_rests_104 : decode cX12_rests 104 = .ok (.iload 9, 2) := by decide +kernel
theorem dX12_rests_106 : decode cX12_rests 106 = .ok (.iload_n 1, 1) := by decide +kernel
theorem dX12_rests_107 : decode cX12_rests 107 = .ok (.iload_n 2, 1) := by decide +kernel
theorem dX12_rests_108 : decode cX12_rests 108 = .ok (.iload_n 3, 1) := by decide +kernel
theorem dX12_rests_109 : decode cX12_rests 109 = .ok (.invokestatic 361, 3) := by decide +kernel
theorem dX12_rests_112 : decode cX12_rests 112 = .ok (.iload 10, 2) := by decide +kernel
theorem dX12_rests_114 : decode cX12_rests 114 = .ok (.iload 9, 2) := by decide +kernel
theorem dX12_rests_116 : decode cX12_rests 116 = .ok (.iload_n 1, 1) := by decide +kernel
theorem dX12_rests_117 : decode cX12_rests 117 = .ok (.iload_n 2, 1) := by decide +kernel
theorem dX12_rests_118 : decode cX12_rests 118 = .ok (.iload_n 3, 1) := by decide +kernel
theorem dX12_rests_119 : decode cX12_rests 119 = .ok (.invokestatic 361, 3) := by decide +kernel
theorem dX12_rests_122 : decode cX12_rests 122 = .ok (.if_icmp .gt 7, 3) := by decide +kernel
theorem dX12_rests_125 : decode cX12_rests 125 = .ok (.iconst 1, 1) := by decide +kernel
theorem dX12_rests_126 : decode cX12_rests 126 = .ok (.goto 4, 3) := by decide +kernel
theorem dX12_rests_129 : decode cX12_rests 129 = .ok (.iconst 0, 1) := by decide +kernel
theorem dX12_rests_130 : decode cX12_rests 130 = .ok (.istore 11, 2) := by decide +kernel
theorem dX12_rests_132 : decode cX12_rests 132 = .ok (.iload 11, 2) := by decide +kernel
theorem dX12_rests_134 : decode cX12_rests 134 = .ok (.ifCond .eq 15, 3) := by decide +kernel
theorem dX12_rests_137 : decode cX12_rests 137 = .ok (.iload 6, 2) := by decide +kernel
theorem dX12_rests_139 : decode cX12_rests 139 = .ok (.iload 4, 2) := by decide +kernel
theorem dX12_rests_141 : decode cX12_rests 141 = .ok (.if_icmp .ne 8, 3) := by decide +kernel
theorem dX12_rests_144 : decode cX12_rests 144 = .ok (.iload 8, 2) := by decide +kernel
theorem dX12_rests_146 : decode cX12_rests 146 = .ok (.goto 5, 3) := by decide +kernel
theorem dX12_rests_149 : decode cX12_rests 149 = .ok (.iload 7, 2) := by decide +kernel
theorem dX12_rests_151 : decode cX12_rests 151 = .ok (.istore 7, 2) := by decide +kernel
theorem dX12_rests_153 : decode cX12_rests 153 = .ok (.iload 6, 2) := by decide +kernel
theorem dX12_rests_155 : decode cX12_rests 155 = .ok (.iload 11, 2) := by decide +kernel
theorem dX12_rests_157 : decode cX12_rests 157 = .ok (.ifCond .eq 7, 3) := by decide +kernel
theorem dX12_rests_160 : decode cX12_rests 160 = .ok (.iconst 1, 1) := by decide +kernel
theorem dX12_rests_161 : decode cX12_rests 161 = .ok (.goto 4, 3) := by decide +kernel
theorem dX12_rests_164 : decode cX12_rests 164 = .ok (.iconst 0, 1) := by decide +kernel
theorem dX12_rests_165 : decode cX12_rests 165 = .ok (.iadd, 1) := by decide +kernel
theorem dX12_rests_166 : decode cX12_rests 166 = .ok (.istore 6, 2) := by decide +kernel
theorem dX12_rests_168 : decode cX12_rests 168 = .ok (.iinc 8 1, 3) := by decide +kernel
theorem dX12_rests_171 : decode cX12_rests 171 = .ok (.goto (-119), 3) := by decide +kernel
theorem dX12_rests_174 : decode cX12_rests 174 = .ok (.aload_n 0, 1) := by decide +kernel
theorem dX12_rests_175 : decode cX12_rests 175 = .ok (.iload 5, 2) := by decide +kernel
theorem dX12_rests_177 : decode cX12_rests 177 = .ok (.ifCond .eq 17, 3) := by decide +kernel
theorem dX12_rests_180 : decode cX12_rests 180 = .ok (.iload 4, 2) := by decide +kernel
theorem dX12_rests_182 : decode cX12_rests 182 = .ok (.ifCond .lt 8, 3) := by decide +kernel
theorem dX12_rests_185 : decode cX12_rests 185 = .ok (.iload 7, 2) := by decide +kernel
theorem dX12_rests_187 : decode cX12_rests 187 = .ok (.ifCond .lt 7, 3) := by decide +kernel
theorem dX12_rests_190 : decode cX12_rests 190 = .ok (.iconst 0, 1) := by decide +kernel
theorem dX12_rests_191 : decode cX12_rests 191 = .ok (.goto 4, 3) := by decide +kernel
theorem dX12_rests_194 : decode cX12_rests 194 = .ok (.iconst 1, 1) := by decide +kernel
theorem dX12_rests_195 : decode cX12_rests 195 = .ok (.putfield 1, 3) := by decide +kernel
theorem dX12_rests_198 : decode cX12_rests 198 = .ok (.aload_n 0, 1) := by decide +kernel
theorem dX12_rests_199 : decode cX12_rests 199 = .ok (.getfield 1, 3) := by decide +kernel
theorem dX12_rests_202 : decode cX12_rests 202 = .ok (.ifCond .le 7, 3) := by decide +kernel
theorem dX12_rests_205 : decode cX12_rests 205 = .ok (.iconst 0, 1) := by decide +kernel
theorem dX12_rests_206 : decode cX12_rests 206 = .ok (.goto 15, 3) := by decide +kernel
theorem dX12_rests_209 : decode cX12_rests 209 = .ok (.iload 4, 2) := by decide +kernel
theorem dX12_rests_211 : decode cX12_rests 211 = .ok (.ifCond .ge 8, 3) := by decide +kernel
theorem dX12_rests_214 : decode cX12_rests 214 = .ok (.iload 6, 2) := by decide +kernel
theorem dX12_rests_216 : decode cX12_rests 216 = .ok (.goto 5, 3) := by decide +kernel
theorem dX12_rests_219 : decode cX12_rests 219 = .ok (.iload 7, 2) := by decide +kernel
theorem dX12_rests_221 : decode cX12_rests 221 = .ok (.ireturn, 1) := by decide +kernel
theorem dX12_draw_0 : decode cX12_draw 0 = .ok (.aload_n 0, 1) := by decide +kernel
theorem dX12_draw_1 : decode cX12_draw 1 = .ok (.aload_n 0, 1) := by decide +kernel
theorem dX12_draw_2 : decode cX12_draw 2 = .ok (.getfield 365, 3) := by decide +kernel
theorem dX12_draw_5 : decode cX12_draw 5 = .ok (.ldc2_w 369, 3) := by decide +kernel
theorem dX12_draw_8 : decode cX12_draw 8 = .ok (.lmul, 1) := by decide +kernel
theorem dX12_draw_9 : decode cX12_draw 9 = .ok (.ldc2_w 371, 3) := by decide +kernel
theorem dX12_draw_12 : decode cX12_draw 12 = .ok (.ladd, 1) := by decide +kernel
theorem dX12_draw_13 : decode cX12_draw 13 = .ok (.ldc2_w 373, 3) := by decide +kernel
theorem dX12_draw_16 : decode cX12_draw 16 = .ok (.lrem, 1) := by decide +kernel
theorem dX12_draw_17 : decode cX12_draw 17 = .ok (.putfield 365, 3) := by decide +kernel
theorem dX12_draw_20 : decode cX12_draw 20 = .ok (.aload_n 0, 1) := by decide +kernel
theorem dX12_draw_21 : decode cX12_draw 21 = .ok (.getfield 365, 3) := by decide +kernel
theorem dX12_draw_24 : decode cX12_draw 24 = .ok (.ldc2_w 375, 3) := by decide +kernel
theorem dX12_draw_27 : decode cX12_draw 27 = .ok (.ldiv, 1) := by decide +kernel
theorem dX12_draw_28 : decode cX12_draw 28 = .ok (.iload_n 1, 1) := by decide +kernel
theorem dX12_draw_29 : decode cX12_draw 29 = .ok (.i2l, 1) := by decide +kernel
theorem dX12_draw_30 : decode cX12_draw 30 = .ok (.lrem, 1) := by decide +kernel
theorem dX12_draw_31 : decode cX12_draw 31 = .ok (.l2i, 1) := by decide +kernel
theorem dX12_draw_32 : decode cX12_draw 32 = .ok (.ireturn, 1) := by decide +kernel
theorem dX12_drawsDeed_0 : decode cX12_drawsDeed 0 = .ok (.aload_n 0, 1) := by decide +kernel
theorem dX12_drawsDeed_1 : decode cX12_drawsDeed 1 = .ok (.iconst 4, 1) := by decide +kernel
theorem dX12_drawsDeed_2 : decode cX12_drawsDeed 2 = .ok (.invokevirtual 377, 3) := by decide +kernel
theorem dX12_drawsDeed_5 : decode cX12_drawsDeed 5 = .ok (.istore_n 1, 1) := by decide +kernel
theorem dX12_drawsDeed_6 : decode cX12_drawsDeed 6 = .ok (.iload_n 1, 1) := by decide +kernel
theorem dX12_drawsDeed_7 : decode cX12_drawsDeed 7 = .ok (.iconst 2, 1) := by decide +kernel
theorem dX12_drawsDeed_8 : decode cX12_drawsDeed 8 = .ok (.if_icmp .ge 76, 3) := by decide +kernel
theorem dX12_drawsDeed_11 : decode cX12_drawsDeed 11 = .ok (.aload_n 0, 1) := by decide +kernel
theorem dX12_drawsDeed_12 : decode cX12_drawsDeed 12 = .ok (.aload_n 0, 1) := by decide +kernel
theorem dX12_drawsDeed_13 : decode cX12_drawsDeed 13 = .ok (.invokevirtual 252, 3) := by decide +kernel
theorem dX12_drawsDeed_16 : decode cX12_drawsDeed 16 = .ok (.invokevirtual 377, 3) := by decide +kernel
theorem dX12_drawsDeed_19 : decode cX12_drawsDeed 19 = .ok (.istore_n 2, 1) := by decide +kernel
theorem dX12_drawsDeed_20 : decode cX12_drawsDeed 20 = .ok (.iload_n 1, 1) := by decide +kernel
theorem dX12_drawsDeed_21 : decode cX12_drawsDeed 21 = .ok (.iconst 1, 1) := by decide +kernel
theorem dX12_drawsDeed_22 : decode cX12_drawsDeed 22 = .ok (.if_icmp .ne 14, 3) := by decide +kernel
theorem dX12_drawsDeed_25 : decode cX12_drawsDeed 25 = .ok (.aload_n 0, 1) := by decide +kernel
theorem dX12_drawsDeed_26 : decode cX12_drawsDeed 26 = .ok (.bipush 9, 2) := by decide +kernel
theorem dX12_drawsDeed_28 : decode cX12_drawsDeed 28 = .ok (.invokevirtual 377, 3) := by decide +kernel
theorem dX12_drawsDeed_31 : decode cX12_drawsDeed 31 = .ok (.iconst 1, 1) := by decide +kernel
theorem dX12_drawsDeed_32 : decode cX12_drawsDeed 32 = .ok (.iadd, 1) := by decide +kernel
theorem dX12_drawsDeed_33 : decode cX12_drawsDeed 33 = .ok (.goto 4, 3) := by decide +kernel
theorem dX12_drawsDeed_36 : decode cX12_drawsDeed 36 = .ok (.iconst 0, 1) := by decide +kernel
theorem dX12_drawsDeed_37 : decode cX12_drawsDeed 37 = .ok (.istore_n 3, 1) := by decide +kernel
theorem dX12_drawsDeed_38 : decode cX12_drawsDeed 38 = .ok (.aload_n 0, 1) := by decide +kernel
theorem dX12_drawsDeed_39 : decode cX12_drawsDeed 39 = .ok (.sipush 924, 3) := by decide +kernel
theorem dX12_drawsDeed_42 : decode cX12_drawsDeed 42 = .ok (.iload_n 2, 1) := by decide +kernel
theorem dX12_drawsDeed_43 : decode cX12_drawsDeed 43 = .ok (.invokevirtual 268, 3) := by decide +kernel
theorem dX12_drawsDeed_46 : decode cX12_drawsDeed 46 = .ok (.ifCond .eq 18, 3) := by decide +kernel
theorem dX12_drawsDeed_49 : decode cX12_drawsDeed 49 = .ok (.iload_n 1, 1) := by decide +kernel
theorem dX12_drawsDeed_50 : decode cX12_drawsDeed 50 = .ok (.ifCond .ne 14, 3) := by decide +kernel
theorem dX12_drawsDeed_53 : decode cX12_drawsDeed 53 = .ok (.aload_n 0, 1) := by decide +kernel
theorem dX12_drawsDeed_54 : decode cX12_drawsDeed 54 = .ok (.sipush 924, 3) := by decide +kernel
theorem dX12_drawsDeed_57 : decode cX12_drawsDeed 57 = .ok (.iload_n 2, 1) := by decide +kernel
theorem dX12_drawsDeed_58 : decode cX12_drawsDeed 58 = .ok (.invokevirtual 317, 3) := by decide +kernel
theorem dX12_drawsDeed_61 : decode cX12_drawsDeed 61 = .ok (.goto 23, 3) := by decide +kernel
theorem dX12_drawsDeed_64 : decode cX12_drawsDeed 64 = .ok (.aload_n 0, 1) := by decide +kernel
theorem dX12_drawsDeed_65 : decode cX12_drawsDeed 65 = .ok (.sipush 924, 3) := by decide +kernel
theorem dX12_drawsDeed_68 : decode cX12_drawsDeed 68 = .ok (.iload_n 2, 1) := by decide +kernel
theorem dX12_drawsDeed_69 : decode cX12_drawsDeed 69 = .ok (.invokevirtual 268, 3) := by decide +kernel
theorem dX12_drawsDeed_72 : decode cX12_drawsDeed 72 = .ok (.ifCond .eq 12, 3) := by decide +kernel
theorem dX12_drawsDeed_75 : decode cX12_drawsDeed 75 = .ok (.aload_n 0, 1) := by decide +kernel
theorem dX12_drawsDeed_76 : decode cX12_drawsDeed 76 = .ok (.sipush 924, 3) := by decide +kernel
theorem dX12_drawsDeed_79 : decode cX12_drawsDeed 79 = .ok (.iload_n 2, 1) := by decide +kernel
theorem dX12_drawsDeed_80 : decode cX12_drawsDeed 80 = .ok (.iload_n 3, 1) := by decide +kernel
theorem dX12_drawsDeed_81 : decode cX12_drawsDeed 81 = .ok (.invokevirtual 323, 3) := by decide +kernel
theorem dX12_drawsDeed_84 : decode cX12_drawsDeed 84 = .ok (.return_, 1) := by decide +kernel
theorem dX12_winters_0 : decode cX12_winters 0 = .ok (.aload_n 0, 1) := by decide +kernel
theorem dX12_winters_1 : decode cX12_winters 1 = .ok (.iconst 0, 1) := by decide +kernel
theorem dX12_winters_2 : decode cX12_winters 2 = .ok (.putfield 1, 3) := by decide +kernel
theorem dX12_winters_5 : decode cX12_winters 5 = .ok (.iload_n 1, 1) := by decide +kernel
theorem dX12_winters_6 : decode cX12_winters 6 = .ok (.iconst 0, 1) := by decide +kernel
theorem dX12_winters_7 : decode cX12_winters 7 = .ok (.sipush 9999, 3) := by decide +kernel
theorem dX12_winters_10 : decode cX12_winters 10 = .ok (.invokestatic 308, 3) := by decide +kernel
theorem dX12_winters_13 : decode cX12_winters 13 = .ok (.ifCond .eq 22, 3) := by decide +kernel
theorem dX12_winters_16 : decode cX12_winters 16 = .ok (.iload_n 2, 1) := by decide +kernel
theorem dX12_winters_17 : decode cX12_winters 17 = .ok (.iconst 1, 1) := by decide +kernel
theorem dX12_winters_18 : decode cX12_winters 18 = .ok (.bipush 99, 2) := by decide +kernel
theorem dX12_winters_20 : decode cX12_winters 20 = .ok (.invokestatic 308, 3) := by decide +kernel
theorem dX12_winters_23 : decode cX12_winters 23 = .ok (.ifCond .eq 12, 3) := by decide +kernel
theorem dX12_winters_26 : decode cX12_winters 26 = .ok (.iload_n 3, 1) := by decide +kernel
theorem dX12_winters_27 : decode cX12_winters 27 = .ok (.iconst 0, 1) := by decide +kernel
theorem dX12_winters_28 : decode cX12_winters 28 = .ok (.iconst 2, 1) := by decide +kernel
theorem dX12_winters_29 : decode cX12_winters 29 = .ok (.invokestatic 308, 3) := by decide +kernel
theorem dX12_winters_32 : decode cX12_winters 32 = .ok (.ifCond .ne 5, 3) := by decide +kernel
theorem dX12_winters_35 : decode cX12_winters 35 = .ok (.iconst (-1), 1) := by decide +kernel
theorem dX12_winters_36 : decode cX12_winters 36 = .ok (.ireturn, 1) := by decide +kernel
theorem dX12_winters_37 : decode cX12_winters 37 = .ok (.aload_n 0, 1) := by decide +kernel
theorem dX12_winters_38 : decode cX12_winters 38 = .ok (.iconst 0, 1) := by decide +kernel
theorem dX12_winters_39 : decode cX12_winters 39 = .ok (.sipush 924, 3) := by decide +kernel
theorem dX12_winters_42 : decode cX12_winters 42 = .ok (.bipush 23, 2) := by decide +kernel
theorem dX12_winters_44 : decode cX12_winters 44 = .ok (.invokevirtual 264, 3) := by decide +kernel
theorem dX12_winters_47 : decode cX12_winters 47 = .ok (.aload_n 0, 1) := by decide +kernel
theorem dX12_winters_48 : decode cX12_winters 48 = .ok (.iload_n 1, 1) := by decide +kernel
theorem dX12_winters_49 : decode cX12_winters 49 = .ok (.i2l, 1) := by decide +kernel
theorem dX12_winters_50 : decode cX12_winters 50 = .ok (.putfield 365, 3) := by decide +kernel
theorem dX12_winters_53 : decode cX12_winters 53 = .ok (.iconst 0, 1) := by decide +kernel
theorem dX12_winters_54 : decode cX12_winters 54 = .ok (.istore 4, 2) := by decide +kernel
theorem dX12_winters_56 : decode cX12_winters 56 = .ok (.iconst 0, 1) := by decide +kernel
theorem dX12_winters_57 : decode cX12_winters 57 = .ok (.istore 5, 2) := by decide +kernel
theorem dX12_winters_59 : decode cX12_winters 59 = .ok (.iload 5, 2) := by decide +kernel
theorem dX12_winters_61 : decode cX12_winters 61 = .ok (.iload_n 2, 1) := by decide +kernel
theorem dX12_winters_62 : decode cX12_winters 62 = .ok (.if_icmp .ge 35, 3) := by decide +kernel
theorem dX12_winters_65 : decode cX12_winters 65 = .ok (.aload_n 0, 1) := by decide +kernel
theorem dX12_winters_66 : decode cX12_winters 66 = .ok (.invokevirtual 252, 3) := by decide +kernel
theorem dX12_winters_69 : decode cX12_winters 69 = .ok (.ifCond .le 7, 3) := by decide +kernel
theorem dX12_winters_72 : decode cX12_winters 72 = .ok (.aload_n 0, 1) := by decide +kernel
theorem dX12_winters_73 : decode cX12_winters 73 = .ok (.invokevirtual 380, 3) := by decide +kernel
theorem dX12_winters_76 : decode cX12_winters 76 = .ok (.iload 4, 2) := by decide +kernel
theorem dX12_winters_78 : decode cX12_winters 78 = .ok (.aload_n 0, 1) := by decide +kernel
theorem dX12_winters_79 : decode cX12_winters 79 = .ok (.sipush 924, 3) := by decide +kernel
theorem dX12_winters_82 : decode cX12_winters 82 = .ok (.invokevirtual 315, 3) := by decide +kernel
theorem dX12_winters_85 : decode cX12_winters 85 = .ok (.invokestatic 344, 3) := by decide +kernel
theorem dX12_winters_88 : decode cX12_winters 88 = .ok (.iadd, 1) := by decide +kernel
theorem dX12_winters_89 : decode cX12_winters 89 = .ok (.istore 4, 2) := by decide +kernel
theorem dX12_winters_91 : decode cX12_winters 91 = .ok (.iinc 5 1, 3) := by decide +kernel
theorem dX12_winters_94 : decode cX12_winters 94 = .ok (.goto (-35), 3) := by decide +kernel
theorem dX12_winters_97 : decode cX12_winters 97 = .ok (.iload_n 3, 1) := by decide +kernel
theorem dX12_winters_98 : decode cX12_winters 98 = .ok (.ifCond .ne 8, 3) := by decide +kernel
theorem dX12_winters_101 : decode cX12_winters 101 = .ok (.iload 4, 2) := by decide +kernel
theorem dX12_winters_103 : decode cX12_winters 103 = .ok (.goto 28, 3) := by decide +kernel
theorem dX12_winters_106 : decode cX12_winters 106 = .ok (.iload_n 3, 1) := by decide +kernel
theorem dX12_winters_107 : decode cX12_winters 107 = .ok (.iconst 1, 1) := by decide +kernel
theorem dX12_winters_108 : decode cX12_winters 108 = .ok (.if_icmp .ne 16, 3) := by decide +kernel
theorem dX12_winters_111 : decode cX12_winters 111 = .ok (.aload_n 0, 1) := by decide +kernel
theorem dX12_winters_112 : decode cX12_winters 112 = .ok (.sipush 924, 3) := by decide +kernel
theorem dX12_winters_115 : decode cX12_winters 115 = .ok (.invokevirtual 284, 3) := by decide +kernel
theorem dX12_winters_118 : decode cX12_winters 118 = .ok (.invokestatic 344, 3) := by decide +kernel
theorem dX12_winters_121 : decode cX12_winters 121 = .ok (.goto 10, 3) := by decide +kernel
theorem dX12_winters_124 : decode cX12_winters 124 = .ok (.aload_n 0, 1) := by decide +kernel
theorem dX12_winters_125 : decode cX12_winters 125 = .ok (.sipush 924, 3) := by decide +kernel
theorem dX12_winters_128 : decode cX12_winters 128 = .ok (.invokevirtual 326, 3) := by decide +kernel
theorem dX12_winters_131 : decode cX12_winters 131 = .ok (.ireturn, 1) := by decide +kernel
theorem dX12_mark_0 : decode cX12_mark 0 = .ok (.aload_n 0, 1) := by decide +kernel
theorem dX12_mark_1 : decode cX12_mark 1 = .ok (.iconst 0, 1) := by decide +kernel
theorem dX12_mark_2 : decode cX12_mark 2 = .ok (.putfield 1, 3) := by decide +kernel
theorem dX12_mark_5 : decode cX12_mark 5 = .ok (.iload_n 1, 1) := by decide +kernel
theorem dX12_mark_6 : decode cX12_mark 6 = .ok (.iconst 0, 1) := by decide +kernel
theorem dX12_mark_7 : decode cX12_mark 7 = .ok (.iconst 3, 1) := by decide +kernel
theorem dX12_mark_8 : decode cX12_mark 8 = .ok (.invokestatic 308, 3) := by decide +kernel
theorem dX12_mark_11 : decode cX12_mark 11 = .ok (.ifCond .eq 16, 3) := by decide +kernel
theorem dX12_mark_14 : decode cX12_mark 14 = .ok (.iload_n 2, 1) := by decide +kernel
theorem dX12_mark_15 : decode cX12_mark 15 = .ok (.ifCond .eq 14, 3) := by decide +kernel
theorem dX12_mark_18 : decode cX12_mark 18 = .ok (.aload_n 0, 1) := by decide +kernel
theorem dX12_mark_19 : decode cX12_mark 19 = .ok (.getfield 110, 3) := by decide +kernel
theorem dX12_mark_22 : decode cX12_mark 22 = .ok (.iload_n 1, 1) := by decide +kernel
theorem dX12_mark_23 : decode cX12_mark 23 = .ok (.baload, 1) := by decide +kernel
theorem dX12_mark_24 : decode cX12_mark 24 = .ok (.ifCond .ne 5, 3) := by decide +kernel
theorem dX12_mark_27 : decode cX12_mark 27 = .ok (.iconst 0, 1) := by decide +kernel
theorem dX12_mark_28 : decode cX12_mark 28 = .ok (.ireturn, 1) := by decide +kernel
theorem dX12_mark_29 : decode cX12_mark 29 = .ok (.aload_n 0, 1) := by decide +kernel
theorem dX12_mark_30 : decode cX12_mark 30 = .ok (.getfield 110, 3) := by decide +kernel
theorem dX12_mark_33 : decode cX12_mark 33 = .ok (.iload_n 1, 1) := by decide +kernel
theorem dX12_mark_34 : decode cX12_mark 34 = .ok (.iconst 1, 1) := by decide +kernel
theorem dX12_mark_35 : decode cX12_mark 35 = .ok (.bastore, 1) := by decide +kernel
theorem dX12_mark_36 : decode cX12_mark 36 = .ok (.aload_n 0, 1) := by decide +kernel
theorem dX12_mark_37 : decode cX12_mark 37 = .ok (.iload_n 2, 1) := by decide +kernel
theorem dX12_mark_38 : decode cX12_mark 38 = .ok (.ifCond .eq 12, 3) := by decide +kernel
theorem dX12_mark_41 : decode cX12_mark 41 = .ok (.bipush 42, 2) := by decide +kernel
theorem dX12_mark_43 : decode cX12_mark 43 = .ok (.iconst 1, 1) := by decide +kernel
theorem dX12_mark_44 : decode cX12_mark 44 = .ok (.iload_n 1, 1) := by decide +kernel
theorem dX12_mark_45 : decode cX12_mark 45 = .ok (.iadd, 1) := by decide +kernel
theorem dX12_mark_46 : decode cX12_mark 46 = .ok (.imul, 1) := by decide +kernel
theorem dX12_mark_47 : decode cX12_mark 47 = .ok (.goto 4, 3) := by decide +kernel
theorem dX12_mark_50 : decode cX12_mark 50 = .ok (.iconst 0, 1) := by decide +kernel
theorem dX12_mark_51 : decode cX12_mark 51 = .ok (.iload_n 2, 1) := by decide +kernel
theorem dX12_mark_52 : decode cX12_mark 52 = .ok (.ifCond .eq 7, 3) := by decide +kernel
theorem dX12_mark_55 : decode cX12_mark 55 = .ok (.iconst 0, 1) := by decide +kernel
theorem dX12_mark_56 : decode cX12_mark 56 = .ok (.goto 9, 3) := by decide +kernel
theorem dX12_mark_59 : decode cX12_mark 59 = .ok (.bipush 42, 2) := by decide +kernel
theorem dX12_mark_61 : decode cX12_mark 61 = .ok (.iconst 1, 1) := by decide +kernel
theorem dX12_mark_62 : decode cX12_mark 62 = .ok (.iload_n 1, 1) := by decide +kernel
theorem dX12_mark_63 : decode cX12_mark 63 = .ok (.iadd, 1) := by decide +kernel
theorem dX12_mark_64 : decode cX12_mark 64 = .ok (.imul, 1) := by decide +kernel
theorem dX12_mark_65 : decode cX12_mark 65 = .ok (.bipush 42, 2) := by decide +kernel
theorem dX12_mark_67 : decode cX12_mark 67 = .ok (.invokevirtual 264, 3) := by decide +kernel
theorem dX12_mark_70 : decode cX12_mark 70 = .ok (.aload_n 0, 1) := by decide +kernel
theorem dX12_mark_71 : decode cX12_mark 71 = .ok (.iload_n 2, 1) := by decide +kernel
theorem dX12_mark_72 : decode cX12_mark 72 = .ok (.ifCond .eq 7, 3) := by decide +kernel
theorem dX12_mark_75 : decode cX12_mark 75 = .ok (.iconst 0, 1) := by decide +kernel
theorem dX12_mark_76 : decode cX12_mark 76 = .ok (.goto 7, 3) := by decide +kernel
theorem dX12_mark_79 : decode cX12_mark 79 = .ok (.aload_n 0, 1) := by decide +kernel
theorem dX12_mark_80 : decode cX12_mark 80 = .ok (.getfield 261, 3) := by decide +kernel
theorem dX12_mark_83 : decode cX12_mark 83 = .ok (.putfield 261, 3) := by decide +kernel
theorem dX12_mark_86 : decode cX12_mark 86 = .ok (.iconst 1, 1) := by decide +kernel
theorem dX12_mark_87 : decode cX12_mark 87 = .ok (.ireturn, 1) := by decide +kernel
theorem dX12_count_0 : decode cX12_count 0 = .ok (.aload_n 0, 1) := by decide +kernel
theorem dX12_count_1 : decode cX12_count 1 = .ok (.iconst 0, 1) := by decide +kernel
theorem dX12_count_2 : decode cX12_count 2 = .ok (.putfield 1, 3) := by decide +kernel
theorem dX12_count_5 : decode cX12_count 5 = .ok (.iload_n 1, 1) := by decide +kernel
theorem dX12_count_6 : decode cX12_count 6 = .ok (.tableswitch 174 0 11 #[62, 67, 74, 81, 87, 94, 100, 132, 149, 156, 164, 169], 62) := by decide +kernel
theorem dX12_count_68 : decode cX12_count 68 = .ok (.aload_n 0, 1) := by decide +kernel
theorem dX12_count_69 : decode cX12_count 69 = .ok (.invokevirtual 252, 3) := by decide +kernel
theorem dX12_count_72 : decode cX12_count 72 = .ok (.ireturn, 1) := by decide +kernel
theorem dX12_count_73 : decode cX12_count 73 = .ok (.aload_n 0, 1) := by decide +kernel
theorem dX12_count_74 : decode cX12_count 74 = .ok (.getfield 83, 3) := by decide +kernel
theorem dX12_count_77 : decode cX12_count 77 = .ok (.iconst 2, 1) := by decide +kernel
theorem dX12_count_78 : decode cX12_count 78 = .ok (.iaload, 1) := by decide +kernel
theorem dX12_count_79 : decode cX12_count 79 = .ok (.ireturn, 1) := by decide +kernel
theorem dX12_count_80 : decode cX12_count 80 = .ok (.aload_n 0, 1) := by decide +kernel
theorem dX12_count_81 : decode cX12_count 81 = .ok (.getfield 107, 3) := by decide +kernel
theorem dX12_count_84 : decode cX12_count 84 = .ok (.iconst 0, 1) := by decide +kernel
theorem dX12_count_85 : decode cX12_count 85 = .ok (.iaload, 1) := by decide +kernel
theorem dX12_count_86 : decode cX12_count 86 = .ok (.ireturn, 1) := by decide +kernel
theorem dX12_count_87 : decode cX12_count 87 = .ok (.aload_n 0, 1) := by decide +kernel
theorem dX12_count_88 : decode cX12_count 88 = .ok (.iconst 0, 1) := by decide +kernel
theorem dX12_count_89 : decode cX12_count 89 = .ok (.invokevirtual 299, 3) := by decide +kernel
theorem dX12_count_92 : decode cX12_count 92 = .ok (.ireturn, 1) := by decide +kernel
theorem dX12_count_93 : decode cX12_count 93 = .ok (.aload_n 0, 1) := by decide +kernel
theorem dX12_count_94 : decode cX12_count 94 = .ok (.getfield 107, 3) := by decide +kernel
theorem dX12_count_97 : decode cX12_count 97 = .ok (.iconst 1, 1) := by decide +kernel
theorem dX12_count_98 : decode cX12_count 98 = .ok (.iaload, 1) := by decide +kernel
theorem dX12_count_99 : decode cX12_count 99 = .ok (.ireturn, 1) := by decide +kernel
theorem dX12_count_100 : decode cX12_count 100 = .ok (.aload_n 0, 1) := by decide +kernel
theorem dX12_count_101 : decode cX12_count 101 = .ok (.iconst 0, 1) := by decide +kernel
theorem dX12_count_102 : decode cX12_count 102 = .ok (.invokevirtual 326, 3) := by decide +kernel
theorem dX12_count_105 : decode cX12_count 105 = .ok (.ireturn, 1) := by decide +kernel
theorem dX12_count_106 : decode cX12_count 106 = .ok (.iconst 0, 1) := by decide +kernel
theorem dX12_count_107 : decode cX12_count 107 = .ok (.istore_n 2, 1) := by decide +kernel
theorem dX12_count_108 : decode cX12_count 108 = .ok (.iconst 0, 1) := by decide +kernel
theorem dX12_count_109 : decode cX12_count 109 = .ok (.istore_n 3, 1) := by decide +kernel
theorem dX12_count_110 : decode cX12_count 110 = .ok (.iload_n 3, 1) := by decide +kernel
theorem dX12_count_111 : decode cX12_count 111 = .ok (.aload_n 0, 1) := by decide +kernel
theorem dX12_count_112 : decode cX12_count 112 = .ok (.invokevirtual 252, 3) := by decide +kernel
theorem dX12_count_115 : decode cX12_count 115 = .ok (.if_icmp .ge 21, 3) := by decide +kernel
theorem dX12_count_118 : decode cX12_count 118 = .ok (.iload_n 2, 1) := by decide +kernel
theorem dX12_count_119 : decode cX12_count 119 = .ok (.aload_n 0, 1) := by decide +kernel
theorem dX12_count_120 : decode cX12_count 120 = .ok (.getfield 107, 3) := by decide +kernel
theorem dX12_count_123 : decode cX12_count 123 = .ok (.bipush 16, 2) := by decide +kernel
theorem dX12_count_125 : decode cX12_count 125 = .ok (.iload_n 3, 1) := by decide +kernel
theorem dX12_count_126 : decode cX12_count 126 = .ok (.iadd, 1) := by decide +kernel
theorem dX12_count_127 : decode cX12_count 127 = .ok (.iaload, 1) := by decide +kernel
theorem dX12_count_128 : decode cX12_count 128 = .ok (.iadd, 1) := by decide +kernel
theorem dX12_count_129 : decode cX12_count 129 = .ok (.istore_n 2, 1) := by decide +kernel
theorem dX12_count_130 : decode cX12_count 130 = .ok (.iinc 3 1, 3) := by decide +kernel
theorem dX12_count_133 : decode cX12_count 133 = .ok (.goto (-23), 3) := by decide +kernel
theorem dX12_count_136 : decode cX12_count 136 = .ok (.iload_n 2, 1) := by decide +kernel
theorem dX12_count_137 : decode cX12_count 137 = .ok (.ireturn, 1) := by decide +kernel
theorem dX12_count_138 : decode cX12_count 138 = .ok (.iconst 1, 1) := by decide +kernel
theorem dX12_count_139 : decode cX12_count 139 = .ok (.aload_n 0, 1) := by decide +kernel
theorem dX12_count_140 : decode cX12_count 140 = .ok (.invokevirtual 252, 3) := by decide +kernel
theorem dX12_count_143 : decode cX12_count 143 = .ok (.ishl, 1) := by decide +kernel
theorem dX12_count_144 : decode cX12_count 144 = .ok (.iconst 1, 1) := by decide +kernel
theorem dX12_count_145 : decode cX12_count 145 = .ok (.isub, 1) := by decide +kernel
theorem dX12_count_146 : decode cX12_count 146 = .ok (.aload_n 0, 1) := by decide +kernel
theorem dX12_count_147 : decode cX12_count 147 = .ok (.iconst 1, 1) := by decide +kernel
theorem dX12_count_148 : decode cX12_count 148 = .ok (.invokevirtual 341, 3) := by decide +kernel
theorem dX12_count_151 : decode cX12_count 151 = .ok (.iconst (-1), 1) := by decide +kernel
theorem dX12_count_152 : decode cX12_count 152 = .ok (.ixor, 1) := by decide +kernel
theorem dX12_count_153 : decode cX12_count 153 = .ok (.iand, 1) := by decide +kernel
theorem dX12_count_154 : decode cX12_count 154 = .ok (.ireturn, 1) := by decide +kernel
theorem dX12_count_155 : decode cX12_count 155 = .ok (.aload_n 0, 1) := by decide +kernel
theorem dX12_count_156 : decode cX12_count 156 = .ok (.getfield 98, 3) := by decide +kernel
theorem dX12_count_159 : decode cX12_count 159 = .ok (.iconst 0, 1) := by decide +kernel
theorem dX12_count_160 : decode cX12_count 160 = .ok (.iaload, 1) := by decide +kernel
theorem dX12_count_161 : decode cX12_count 161 = .ok (.ireturn, 1) := by decide +kernel
theorem dX12_count_162 : decode cX12_count 162 = .ok (.aload_n 0, 1) := by decide +kernel
theorem dX12_count_163 : decode cX12_count 163 = .ok (.getfield 107, 3) := by decide +kernel
theorem dX12_count_166 : decode cX12_count 166 = .ok (.bipush 23, 2) := by decide +kernel
theorem dX12_count_168 : decode cX12_count 168 = .ok (.iaload, 1) := by decide +kernel
theorem dX12_count_169 : decode cX12_count 169 = .ok (.ireturn, 1) := by decide +kernel
theorem dX12_count_170 : decode cX12_count 170 = .ok (.aload_n 0, 1) := by decide +kernel
theorem dX12_count_171 : decode cX12_count 171 = .ok (.getfield 261, 3) := by decide +kernel
theorem dX12_count_174 : decode cX12_count 174 = .ok (.ireturn, 1) := by decide +kernel
theorem dX12_count_175 : decode cX12_count 175 = .ok (.aload_n 0, 1) := by decide +kernel
theorem dX12_count_176 : decode cX12_count 176 = .ok (.getfield 11, 3) := by decide +kernel
theorem dX12_count_179 : decode cX12_count 179 = .ok (.ireturn, 1) := by decide +kernel
theorem dX12_count_180 : decode cX12_count 180 = .ok (.iconst (-1), 1) := by decide +kernel
theorem dX12_count_181 : decode cX12_count 181 = .ok (.ireturn, 1) := by decide +kernel
theorem dJ6_bitCount_0f7a4_0 : decode cJ6_bitCount_0f7a4 0 = .ok (.iload_n 0, 1) := by decide +kernel
theorem dJ6_bitCount_0f7a4_1 : decode cJ6_bitCount_0f7a4 1 = .ok (.iload_n 0, 1) := by decide +kernel
theorem dJ6_bitCount_0f7a4_2 : decode cJ6_bitCount_0f7a4 2 = .ok (.iconst 1, 1) := by decide +kernel
theorem dJ6_bitCount_0f7a4_3 : decode cJ6_bitCount_0f7a4 3 = .ok (.iushr, 1) := by decide +kernel
theorem dJ6_bitCount_0f7a4_4 : decode cJ6_bitCount_0f7a4 4 = .ok (.ldc_w 265, 3) := by decide +kernel
theorem dJ6_bitCount_0f7a4_7 : decode cJ6_bitCount_0f7a4 7 = .ok (.iand, 1) := by decide +kernel
theorem dJ6_bitCount_0f7a4_8 : decode cJ6_bitCount_0f7a4 8 = .ok (.isub, 1) := by decide +kernel
theorem dJ6_bitCount_0f7a4_9 : decode cJ6_bitCount_0f7a4 9 = .ok (.istore_n 0, 1) := by decide +kernel
theorem dJ6_bitCount_0f7a4_10 : decode cJ6_bitCount_0f7a4 10 = .ok (.iload_n 0, 1) := by decide +kernel
theorem dJ6_bitCount_0f7a4_11 : decode cJ6_bitCount_0f7a4 11 = .ok (.ldc_w 266, 3) := by decide +kernel
theorem dJ6_bitCount_0f7a4_14 : decode cJ6_bitCount_0f7a4 14 = .ok (.iand, 1) := by decide +kernel
theorem dJ6_bitCount_0f7a4_15 : decode cJ6_bitCount_0f7a4 15 = .ok (.iload_n 0, 1) := by decide +kernel
theorem dJ6_bitCount_0f7a4_16 : decode cJ6_bitCount_0f7a4 16 = .ok (.iconst 2, 1) := by decide +kernel
theorem dJ6_bitCount_0f7a4_17 : decode cJ6_bitCount_0f7a4 17 = .ok (.iushr, 1) := by decide +kernel
theorem dJ6_bitCount_0f7a4_18 : decode cJ6_bitCount_0f7a4 18 = .ok (.ldc_w 266, 3) := by decide +kernel
theorem dJ6_bitCount_0f7a4_21 : decode cJ6_bitCount_0f7a4 21 = .ok (.iand, 1) := by decide +kernel
theorem dJ6_bitCount_0f7a4_22 : decode cJ6_bitCount_0f7a4 22 = .ok (.iadd, 1) := by decide +kernel
theorem dJ6_bitCount_0f7a4_23 : decode cJ6_bitCount_0f7a4 23 = .ok (.istore_n 0, 1) := by decide +kernel
theorem dJ6_bitCount_0f7a4_24 : decode cJ6_bitCount_0f7a4 24 = .ok (.iload_n 0, 1) := by decide +kernel
theorem dJ6_bitCount_0f7a4_25 : decode cJ6_bitCount_0f7a4 25 = .ok (.iload_n 0, 1) := by decide +kernel
theorem dJ6_bitCount_0f7a4_26 : decode cJ6_bitCount_0f7a4 26 = .ok (.iconst 4, 1) := by decide +kernel
theorem dJ6_bitCount_0f7a4_27 : decode cJ6_bitCount_0f7a4 27 = .ok (.iushr, 1) := by decide +kernel
theorem dJ6_bitCount_0f7a4_28 : decode cJ6_bitCount_0f7a4 28 = .ok (.iadd, 1) := by decide +kernel
theorem dJ6_bitCount_0f7a4_29 : decode cJ6_bitCount_0f7a4 29 = .ok (.ldc_w 267, 3) := by decide +kernel
theorem dJ6_bitCount_0f7a4_32 : decode cJ6_bitCount_0f7a4 32 = .ok (.iand, 1) := by decide +kernel
theorem dJ6_bitCount_0f7a4_33 : decode cJ6_bitCount_0f7a4 33 = .ok (.istore_n 0, 1) := by decide +kernel
theorem dJ6_bitCount_0f7a4_34 : decode cJ6_bitCount_0f7a4 34 = .ok (.iload_n 0, 1) := by decide +kernel
theorem dJ6_bitCount_0f7a4_35 : decode cJ6_bitCount_0f7a4 35 = .ok (.iload_n 0, 1) := by decide +kernel
theorem dJ6_bitCount_0f7a4_36 : decode cJ6_bitCount_0f7a4 36 = .ok (.bipush 8, 2) := by decide +kernel
theorem dJ6_bitCount_0f7a4_38 : decode cJ6_bitCount_0f7a4 38 = .ok (.iushr, 1) := by decide +kernel
theorem dJ6_bitCount_0f7a4_39 : decode cJ6_bitCount_0f7a4 39 = .ok (.iadd, 1) := by decide +kernel
theorem dJ6_bitCount_0f7a4_40 : decode cJ6_bitCount_0f7a4 40 = .ok (.istore_n 0, 1) := by decide +kernel
theorem dJ6_bitCount_0f7a4_41 : decode cJ6_bitCount_0f7a4 41 = .ok (.iload_n 0, 1) := by decide +kernel
theorem dJ6_bitCount_0f7a4_42 : decode cJ6_bitCount_0f7a4 42 = .ok (.iload_n 0, 1) := by decide +kernel
theorem dJ6_bitCount_0f7a4_43 : decode cJ6_bitCount_0f7a4 43 = .ok (.bipush 16, 2) := by decide +kernel
theorem dJ6_bitCount_0f7a4_45 : decode cJ6_bitCount_0f7a4 45 = .ok (.iushr, 1) := by decide +kernel
theorem dJ6_bitCount_0f7a4_46 : decode cJ6_bitCount_0f7a4 46 = .ok (.iadd, 1) := by decide +kernel
theorem dJ6_bitCount_0f7a4_47 : decode cJ6_bitCount_0f7a4 47 = .ok (.istore_n 0, 1) := by decide +kernel
theorem dJ6_bitCount_0f7a4_48 : decode cJ6_bitCount_0f7a4 48 = .ok (.iload_n 0, 1) := by decide +kernel
theorem dJ6_bitCount_0f7a4_49 : decode cJ6_bitCount_0f7a4 49 = .ok (.bipush 63, 2) := by decide +kernel
theorem dJ6_bitCount_0f7a4_51 : decode cJ6_bitCount_0f7a4 51 = .ok (.iand, 1) := by decide +kernel
theorem dJ6_bitCount_0f7a4_52 : decode cJ6_bitCount_0f7a4 52 = .ok (.ireturn, 1) := by decide +kernel
theorem dJ9_max_7cf53_0 : decode cJ9_max_7cf53 0 = .ok (.iload_n 0, 1) := by decide +kernel
theorem dJ9_max_7cf53_1 : decode cJ9_max_7cf53 1 = .ok (.iload_n 1, 1) := by decide +kernel
theorem dJ9_max_7cf53_2 : decode cJ9_max_7cf53 2 = .ok (.if_icmp .lt 7, 3) := by decide +kernel
theorem dJ9_max_7cf53_5 : decode cJ9_max_7cf53 5 = .ok (.iload_n 0, 1) := by decide +kernel
theorem dJ9_max_7cf53_6 : decode cJ9_max_7cf53 6 = .ok (.goto 4, 3) := by decide +kernel
theorem dJ9_max_7cf53_9 : decode cJ9_max_7cf53 9 = .ok (.iload_n 1, 1) := by decide +kernel
theorem dJ9_max_7cf53_10 : decode cJ9_max_7cf53 10 = .ok (.ireturn, 1) := by decide +kernel
theorem dJ9_min_7cf53_0 : decode cJ9_min_7cf53 0 = .ok (.iload_n 0, 1) := by decide +kernel
theorem dJ9_min_7cf53_1 : decode cJ9_min_7cf53 1 = .ok (.iload_n 1, 1) := by decide +kernel
theorem dJ9_min_7cf53_2 : decode cJ9_min_7cf53 2 = .ok (.if_icmp .gt 7, 3) := by decide +kernel
theorem dJ9_min_7cf53_5 : decode cJ9_min_7cf53 5 = .ok (.iload_n 0, 1) := by decide +kernel
theorem dJ9_min_7cf53_6 : decode cJ9_min_7cf53 6 = .ok (.goto 4, 3) := by decide +kernel
theorem dJ9_min_7cf53_9 : decode cJ9_min_7cf53 9 = .ok (.iload_n 1, 1) := by decide +kernel
theorem dJ9_min_7cf53_10 : decode cJ9_min_7cf53 10 = .ok (.ireturn, 1) := by decide +kernel
theorem dL_rests_0 : decode cL_rests 0 = .ok (.aload 5, 2) := by decide +kernel
theorem dL_rests_2 : decode cL_rests 2 = .ok (.iconst 0, 1) := by decide +kernel
theorem dL_rests_3 : decode cL_rests 3 = .ok (.aload_n 0, 1) := by decide +kernel
theorem dL_rests_4 : decode cL_rests 4 = .ok (.iload_n 1, 1) := by decide +kernel
theorem dL_rests_5 : decode cL_rests 5 = .ok (.iload_n 2, 1) := by decide +kernel
theorem dL_rests_6 : decode cL_rests 6 = .ok (.iload_n 3, 1) := by decide +kernel
theorem dL_rests_7 : decode cL_rests 7 = .ok (.iload 4, 2) := by decide +kernel
theorem dL_rests_9 : decode cL_rests 9 = .ok (.invokevirtual 7, 3) := by decide +kernel
theorem dL_rests_12 : decode cL_rests 12 = .ok (.i2l, 1) := by decide +kernel
theorem dL_rests_13 : decode cL_rests 13 = .ok (.lastore, 1) := by decide +kernel
theorem dL_rests_14 : decode cL_rests 14 = .ok (.goto 7, 3) := by decide +kernel
theorem dL_rests_17 : decode cL_rests 17 = .ok (.astore 6, 2) := by decide +kernel
theorem dL_rests_19 : decode cL_rests 19 = .ok (.iconst 1, 1) := by decide +kernel
theorem dL_rests_20 : decode cL_rests 20 = .ok (.ireturn, 1) := by decide +kernel
theorem dL_rests_21 : decode cL_rests 21 = .ok (.iconst 0, 1) := by decide +kernel
theorem dL_rests_22 : decode cL_rests 22 = .ok (.ireturn, 1) := by decide +kernel
theorem dL_law_0 : decode cL_law 0 = .ok (.new 8, 3) := by decide +kernel
theorem dL_law_3 : decode cL_law 3 = .ok (.dup, 1) := by decide +kernel
theorem dL_law_4 : decode cL_law 4 = .ok (.invokespecial 15, 3) := by decide +kernel
theorem dL_law_7 : decode cL_law 7 = .ok (.astore_n 1, 1) := by decide +kernel
theorem dL_law_8 : decode cL_law 8 = .ok (.new 16, 3) := by decide +kernel
theorem dL_law_11 : decode cL_law 11 = .ok (.dup, 1) := by decide +kernel
theorem dL_law_12 : decode cL_law 12 = .ok (.invokespecial 18, 3) := by decide +kernel
theorem dL_law_15 : decode cL_law 15 = .ok (.astore_n 2, 1) := by decide +kernel
theorem dL_law_16 : decode cL_law 16 = .ok (.iconst 1, 1) := by decide +kernel
theorem dL_law_17 : decode cL_law 17 = .ok (.newarray .long, 2) := by decide +kernel
theorem dL_law_19 : decode cL_law 19 = .ok (.astore_n 3, 1) := by decide +kernel
theorem dL_law_20 : decode cL_law 20 = .ok (.iconst 0, 1) := by decide +kernel
theorem dL_law_21 : decode cL_law 21 = .ok (.istore 4, 2) := by decide +kernel
theorem dL_law_23 : decode cL_law 23 = .ok (.iload 4, 2) := by decide +kernel
theorem dL_law_25 : decode cL_law 25 = .ok (.aload_n 0, 1) := by decide +kernel
theorem dL_law_26 : decode cL_law 26 = .ok (.arraylength, 1) := by decide +kernel
theorem dL_law_27 : decode cL_law 27 = .ok (.bipush 7, 2) := by decide +kernel
theorem dL_law_29 : decode cL_law 29 = .ok (.isub, 1) := by decide +kernel
theorem dL_law_30 : decode cL_law 30 = .ok (.if_icmp .gt 1358, 3) := by decide +kernel
theorem dL_law_33 : decode cL_law 33 = .ok (.aload_n 0, 1) := by decide +kernel
theorem dL_law_34 : decode cL_law 34 = .ok (.iload 4, 2) := by decide +kernel
theorem dL_law_36 : decode cL_law 36 = .ok (.iaload, 1) := by decide +kernel
theorem dL_law_37 : decode cL_law 37 = .ok (.bipush 63, 2) := by decide +kernel
theorem dL_law_39 : decode cL_law 39 = .ok (.iand, 1) := by decide +kernel
theorem dL_law_40 : decode cL_law 40 = .ok (.tableswitch 1342 0 40 #[180, 327, 340, 353, 390, 415, 428, 453, 490, 527, 540, 553, 578, 603, 616, 629, 642, 655, 680, 693, 718, 731, 756, 821, 834, 859, 908, 933, 958, 971, 984, 1009, 1034, 1059, 1072, 1097, 1110, 1123, 1215, 1264, 1317], 180) := by decide +kernel
theorem dL_law_220 : decode cL_law 220 = .ok (.aload_n 1, 1) := by decide +kernel
theorem dL_law_221 : decode cL_law 221 = .ok (.aload_n 0, 1) := by decide +kernel
theorem dL_law_222 : decode cL_law 222 = .ok (.iload 4, 2) := by decide +kernel
theorem dL_law_224 : decode cL_law 224 = .ok (.iconst 1, 1) := by decide +kernel
theorem dL_law_225 : decode cL_law 225 = .ok (.iadd, 1) := by decide +kernel
theorem dL_law_226 : decode cL_law 226 = .ok (.iaload, 1) := by decide +kernel
theorem dL_law_227 : decode cL_law 227 = .ok (.i2l, 1) := by decide +kernel
theorem dL_law_228 : decode cL_law 228 = .ok (.bipush 32, 2) := by decide +kernel
theorem dL_law_230 : decode cL_law 230 = .ok (.lshl, 1) := by decide +kernel
theorem dL_law_231 : decode cL_law 231 = .ok (.aload_n 0, 1) := by decide +kernel
theorem dL_law_232 : decode cL_law 232 = .ok (.iload 4, 2) := by decide +kernel
theorem dL_law_234 : decode cL_law 234 = .ok (.iconst 2, 1) := by decide +kernel
theorem dL_law_235 : decode cL_law 235 = .ok (.iadd, 1) := by decide +kernel
theorem dL_law_236 : decode cL_law 236 = .ok (.iaload, 1) := by decide +kernel
theorem dL_law_237 : decode cL_law 237 = .ok (.i2l, 1) := by decide +kernel
theorem dL_law_238 : decode cL_law 238 = .ok (.ldc2_w 19, 3) := by decide +kernel
theorem dL_law_241 : decode cL_law 241 = .ok (.land, 1) := by decide +kernel
theorem dL_law_242 : decode cL_law 242 = .ok (.lor, 1) := by decide +kernel
theorem dL_law_243 : decode cL_law 243 = .ok (.aload_n 0, 1) := by decide +kernel
theorem dL_law_244 : decode cL_law 244 = .ok (.iload 4, 2) := by decide +kernel
theorem dL_law_246 : decode cL_law 246 = .ok (.iconst 3, 1) := by decide +kernel
theorem dL_law_247 : decode cL_law 247 = .ok (.iadd, 1) := by decide +kernel
theorem dL_law_248 : decode cL_law 248 = .ok (.iaload, 1) := by decide +kernel
theorem dL_law_249 : decode cL_law 249 = .ok (.i2l, 1) := by decide +kernel
theorem dL_law_250 : decode cL_law 250 = .ok (.bipush 32, 2) := by decide +kernel
theorem dL_law_252 : decode cL_law 252 = .ok (.lshl, 1) := by decide +kernel
theorem dL_law_253 : decode cL_law 253 = .ok (.aload_n 0, 1) := by decide +kernel
theorem dL_law_254 : decode cL_law 254 = .ok (.iload 4, 2) := by decide +kernel
theorem dL_law_256 : decode cL_law 256 = .ok (.iconst 4, 1) := by decide +kernel
theorem dL_law_257 : decode cL_law 257 = .ok (.iadd, 1) := by decide +kernel
theorem dL_law_258 : decode cL_law 258 = .ok (.iaload, 1) := by decide +kernel
theorem dL_law_259 : decode cL_law 259 = .ok (.i2l, 1) := by decide +kernel
theorem dL_law_260 : decode cL_law 260 = .ok (.ldc2_w 19, 3) := by decide +kernel
theorem dL_law_263 : decode cL_law 263 = .ok (.land, 1) := by decide +kernel
theorem dL_law_264 : decode cL_law 264 = .ok (.lor, 1) := by decide +kernel
theorem dL_law_265 : decode cL_law 265 = .ok (.aload_n 0, 1) := by decide +kernel
theorem dL_law_266 : decode cL_law 266 = .ok (.iload 4, 2) := by decide +kernel
theorem dL_law_268 : decode cL_law 268 = .ok (.iconst 5, 1) := by decide +kernel
theorem dL_law_269 : decode cL_law 269 = .ok (.iadd, 1) := by decide +kernel
theorem dL_law_270 : decode cL_law 270 = .ok (.iaload, 1) := by decide +kernel
theorem dL_law_271 : decode cL_law 271 = .ok (.i2l, 1) := by decide +kernel
theorem dL_law_272 : decode cL_law 272 = .ok (.bipush 32, 2) := by decide +kernel
theorem dL_law_274 : decode cL_law 274 = .ok (.lshl, 1) := by decide +kernel
theorem dL_law_275 : decode cL_law 275 = .ok (.aload_n 0, 1) := by decide +kernel
theorem dL_law_276 : decode cL_law 276 = .ok (.iload 4, 2) := by decide +kernel
theorem dL_law_278 : decode cL_law 278 = .ok (.bipush 6, 2) := by decide +kernel
theorem dL_law_280 : decode cL_law 280 = .ok (.iadd, 1) := by decide +kernel
theorem dL_law_281 : decode cL_law 281 = .ok (.iaload, 1) := by decide +kernel
theorem dL_law_282 : decode cL_law 282 = .ok (.i2l, 1) := by decide +kernel
theorem dL_law_283 : decode cL_law 283 = .ok (.ldc2_w 19, 3) := by decide +kernel
theorem dL_law_286 : decode cL_law 286 = .ok (.land, 1) := by decide +kernel
theorem dL_law_287 : decode cL_law 287 = .ok (.lor, 1) := by decide +kernel
theorem dL_law_288 : decode cL_law 288 = .ok (.invokevirtual 21, 3) := by decide +kernel
theorem dL_law_291 : decode cL_law 291 = .ok (.aload_n 2, 1) := by decide +kernel
theorem dL_law_292 : decode cL_law 292 = .ok (.aload_n 0, 1) := by decide +kernel
theorem dL_law_293 : decode cL_law 293 = .ok (.iload 4, 2) := by decide +kernel
theorem dL_law_295 : decode cL_law 295 = .ok (.iconst 1, 1) := by decide +kernel
theorem dL_law_296 : decode cL_law 296 = .ok (.iadd, 1) := by decide +kernel
theorem dL_law_297 : decode cL_law 297 = .ok (.iaload, 1) := by decide +kernel
theorem dL_law_298 : decode cL_law 298 = .ok (.i2l, 1) := by decide +kernel
theorem dL_law_299 : decode cL_law 299 = .ok (.bipush 32, 2) := by decide +kernel
theorem dL_law_301 : decode cL_law 301 = .ok (.lshl, 1) := by decide +kernel
theorem dL_law_302 : decode cL_law 302 = .ok (.aload_n 0, 1) := by decide +kernel
theorem dL_law_303 : decode cL_law 303 = .ok (.iload 4, 2) := by decide +kernel
theorem dL_law_305 : decode cL_law 305 = .ok (.iconst 2, 1) := by decide +kernel
theorem dL_law_306 : decode cL_law 306 = .ok (.iadd, 1) := by decide +kernel
theorem dL_law_307 : decode cL_law 307 = .ok (.iaload, 1) := by decide +kernel
theorem dL_law_308 : decode cL_law 308 = .ok (.i2l, 1) := by decide +kernel
theorem dL_law_309 : decode cL_law 309 = .ok (.ldc2_w 19, 3) := by decide +kernel
theorem dL_law_312 : decode cL_law 312 = .ok (.land, 1) := by decide +kernel
theorem dL_law_313 : decode cL_law 313 = .ok (.lor, 1) := by decide +kernel
theorem dL_law_314 : decode cL_law 314 = .ok (.aload_n 0, 1) := by decide +kernel
theorem dL_law_315 : decode cL_law 315 = .ok (.iload 4, 2) := by decide +kernel
theorem dL_law_317 : decode cL_law 317 = .ok (.iconst 3, 1) := by decide +kernel
theorem dL_law_318 : decode cL_law 318 = .ok (.iadd, 1) := by decide +kernel
theorem dL_law_319 : decode cL_law 319 = .ok (.iaload, 1) := by decide +kernel
theorem dL_law_320 : decode cL_law 320 = .ok (.i2l, 1) := by decide +kernel
theorem dL_law_321 : decode cL_law 321 = .ok (.bipush 32, 2) := by decide +kernel
theorem dL_law_323 : decode cL_law 323 = .ok (.lshl, 1) := by decide +kernel
theorem dL_law_324 : decode cL_law 324 = .ok (.aload_n 0, 1) := by decide +kernel
theorem dL_law_325 : decode cL_law 325 = .ok (.iload 4, 2) := by decide +kernel
theorem dL_law_327 : decode cL_law 327 = .ok (.iconst 4, 1) := by decide +kernel
theorem dL_law_328 : decode cL_law 328 = .ok (.iadd, 1) := by decide +kernel
theorem dL_law_329 : decode cL_law 329 = .ok (.iaload, 1) := by decide +kernel
theorem dL_law_330 : decode cL_law 330 = .ok (.i2l, 1) := by decide +kernel
theorem dL_law_331 : decode cL_law 331 = .ok (.ldc2_w 19, 3) := by decide +kernel
theorem dL_law_334 : decode cL_law 334 = .ok (.land, 1) := by decide +kernel
theorem dL_law_335 : decode cL_law 335 = .ok (.lor, 1) := by decide +kernel
theorem dL_law_336 : decode cL_law 336 = .ok (.aload_n 0, 1) := by decide +kernel
theorem dL_law_337 : decode cL_law 337 = .ok (.iload 4, 2) := by decide +kernel
theorem dL_law_339 : decode cL_law 339 = .ok (.iconst 5, 1) := by decide +kernel
theorem dL_law_340 : decode cL_law 340 = .ok (.iadd, 1) := by decide +kernel
theorem dL_law_341 : decode cL_law 341 = .ok (.iaload, 1) := by decide +kernel
theorem dL_law_342 : decode cL_law 342 = .ok (.i2l, 1) := by decide +kernel
theorem dL_law_343 : decode cL_law 343 = .ok (.bipush 32, 2) := by decide +kernel
theorem dL_law_345 : decode cL_law 345 = .ok (.lshl, 1) := by decide +kernel
theorem dL_law_346 : decode cL_law 346 = .ok (.aload_n 0, 1) := by decide +kernel
theorem dL_law_347 : decode cL_law 347 = .ok (.iload 4, 2) := by decide +kernel
theorem dL_law_349 : decode cL_law 349 = .ok (.bipush 6, 2) := by decide +kernel
theorem dL_law_351 : decode cL_law 351 = .ok (.iadd, 1) := by decide +kernel
theorem dL_law_352 : decode cL_law 352 = .ok (.iaload, 1) := by decide +kernel
theorem dL_law_353 : decode cL_law 353 = .ok (.i2l, 1) := by decide +kernel
theorem dL_law_354 : decode cL_law 354 = .ok (.ldc2_w 19, 3) := by decide +kernel
theorem dL_law_357 : decode cL_law 357 = .ok (.land, 1) := by decide +kernel
theorem dL_law_358 : decode cL_law 358 = .ok (.lor, 1) := by decide +kernel
theorem dL_law_359 : decode cL_law 359 = .ok (.invokevirtual 25, 3) := by decide +kernel
theorem dL_law_362 : decode cL_law 362 = .ok (.if_icmp .eq 1020, 3) := by decide +kernel
theorem dL_law_365 : decode cL_law 365 = .ok (.iconst 0, 1) := by decide +kernel
theorem dL_law_366 : decode cL_law 366 = .ok (.ireturn, 1) := by decide +kernel
theorem dL_law_367 : decode cL_law 367 = .ok (.aload_n 1, 1) := by decide +kernel
theorem dL_law_368 : decode cL_law 368 = .ok (.invokevirtual 26, 3) := by decide +kernel
theorem dL_law_371 : decode cL_law 371 = .ok (.aload_n 2, 1) := by decide +kernel
theorem dL_law_372 : decode cL_law 372 = .ok (.invokevirtual 30, 3) := by decide +kernel
theorem dL_law_375 : decode cL_law 375 = .ok (.if_icmp .eq 1007, 3) := by decide +kernel
theorem dL_law_378 : decode cL_law 378 = .ok (.iconst 0, 1) := by decide +kernel
theorem dL_law_379 : decode cL_law 379 = .ok (.ireturn, 1) := by decide +kernel
theorem dL_law_380 : decode cL_law 380 = .ok (.aload_n 1, 1) := by decide +kernel
theorem dL_law_381 : decode cL_law 381 = .ok (.invokevirtual 31, 3) := by decide +kernel
theorem dL_law_384 : decode cL_law 384 = .ok (.aload_n 2, 1) := by decide +kernel
theorem dL_law_385 : decode cL_law 385 = .ok (.invokevirtual 34, 3) := by decide +kernel
theorem dL_law_388 : decode cL_law 388 = .ok (.if_icmp .eq 994, 3) := by decide +kernel
theorem dL_law_391 : decode cL_law 391 = .ok (.iconst 0, 1) := by decide +kernel
theorem dL_law_392 : decode cL_law 392 = .ok (.ireturn, 1) := by decide +kernel
theorem dL_law_393 : decode cL_law 393 = .ok (.aload_n 1, 1) := by decide +kernel
theorem dL_law_394 : decode cL_law 394 = .ok (.aload_n 0, 1) := by decide +kernel
theorem dL_law_395 : decode cL_law 395 = .ok (.iload 4, 2) := by decide +kernel
theorem dL_law_397 : decode cL_law 397 = .ok (.iconst 1, 1) := by decide +kernel
theorem dL_law_398 : decode cL_law 398 = .ok (.iadd, 1) := by decide +kernel
theorem dL_law_399 : decode cL_law 399 = .ok (.iaload, 1) := by decide +kernel
theorem dL_law_400 : decode cL_law 400 = .ok (.aload_n 0, 1) := by decide +kernel
theorem dL_law_401 : decode cL_law 401 = .ok (.iload 4, 2) := by decide +kernel
theorem dL_law_403 : decode cL_law 403 = .ok (.iconst 2, 1) := by decide +kernel
theorem dL_law_404 : decode cL_law 404 = .ok (.iadd, 1) := by decide +kernel
theorem dL_law_405 : decode cL_law 405 = .ok (.iaload, 1) := by decide +kernel
theorem dL_law_406 : decode cL_law 406 = .ok (.invokevirtual 35, 3) := by decide +kernel
theorem dL_law_409 : decode cL_law 409 = .ok (.aload_n 2, 1) := by decide +kernel
theorem dL_law_410 : decode cL_law 410 = .ok (.aload_n 0, 1) := by decide +kernel
theorem dL_law_411 : decode cL_law 411 = .ok (.iload 4, 2) := by decide +kernel
theorem dL_law_413 : decode cL_law 413 = .ok (.iconst 1, 1) := by decide +kernel
theorem dL_law_414 : decode cL_law 414 = .ok (.iadd, 1) := by decide +kernel
theorem dL_law_415 : decode cL_law 415 = .ok (.iaload, 1) := by decide +kernel
theorem dL_law_416 : decode cL_law 416 = .ok (.aload_n 0, 1) := by decide +kernel
theorem dL_law_417 : decode cL_law 417 = .ok (.iload 4, 2) := by decide +kernel
theorem dL_law_419 : decode cL_law 419 = .ok (.iconst 2, 1) := by decide +kernel
theorem dL_law_420 : decode cL_law 420 = .ok (.iadd, 1) := by decide +kernel
theorem dL_law_421 : decode cL_law 421 = .ok (.iaload, 1) := by decide +kernel
theorem dL_law_422 : decode cL_law 422 = .ok (.invokevirtual 39, 3) := by decide +kernel
theorem dL_law_425 : decode cL_law 425 = .ok (.if_icmp .eq 957, 3) := by decide +kernel
theorem dL_law_428 : decode cL_law 428 = .ok (.iconst 0, 1) := by decide +kernel
theorem dL_law_429 : decode cL_law 429 = .ok (.ireturn, 1) := by decide +kernel
theorem dL_law_430 : decode cL_law 430 = .ok (.aload_n 1, 1) := by decide +kernel
theorem dL_law_431 : decode cL_law 431 = .ok (.aload_n 0, 1) := by decide +kernel
theorem dL_law_432 : decode cL_law 432 = .ok (.iload 4, 2) := by decide +kernel
theorem dL_law_434 : decode cL_law 434 = .ok (.iconst 1, 1) := by decide +kernel
theorem dL_law_435 : decode cL_law 435 = .ok (.iadd, 1) := by decide +kernel
theorem dL_law_436 : decode cL_law 436 = .ok (.iaload, 1) := by decide +kernel
theorem dL_law_437 : decode cL_law 437 = .ok (.invokevirtual 40, 3) := by decide +kernel
theorem dL_law_440 : decode cL_law 440 = .ok (.aload_n 2, 1) := by decide +kernel
theorem dL_law_441 : decode cL_law 441 = .ok (.aload_n 0, 1) := by decide +kernel
theorem dL_law_442 : decode cL_law 442 = .ok (.iload 4, 2) := by decide +kernel
theorem dL_law_444 : decode cL_law 444 = .ok (.iconst 1, 1) := by decide +kernel
theorem dL_law_445 : decode cL_law 445 = .ok (.iadd, 1) := by decide +kernel
theorem dL_law_446 : decode cL_law 446 = .ok (.iaload, 1) := by decide +kernel
theorem dL_law_447 : decode cL_law 447 = .ok (.invokevirtual 44, 3) := by decide +kernel
theorem dL_law_450 : decode cL_law 450 = .ok (.if_icmp .eq 932, 3) := by decide +kernel
theorem dL_law_453 : decode cL_law 453 = .ok (.iconst 0, 1) := by decide +kernel
theorem dL_law_454 : decode cL_law 454 = .ok (.ireturn, 1) := by decide +kernel
theorem dL_law_455 : decode cL_law 455 = .ok (.aload_n 1, 1) := by decide +kernel
theorem dL_law_456 : decode cL_law 456 = .ok (.invokevirtual 45, 3) := by decide +kernel
theorem dL_law_459 : decode cL_law 459 = .ok (.aload_n 2, 1) := by decide +kernel
theorem dL_law_460 : decode cL_law 460 = .ok (.invokevirtual 48, 3) := by decide +kernel
theorem dL_law_463 : decode cL_law 463 = .ok (.if_icmp .eq 919, 3) := by decide +kernel
theorem dL_law_466 : decode cL_law 466 = .ok (.iconst 0, 1) := by decide +kernel
theorem dL_law_467 : decode cL_law 467 = .ok (.ireturn, 1) := by decide +kernel
theorem dL_law_468 : decode cL_law 468 = .ok (.aload_n 1, 1) := by decide +kernel
theorem dL_law_469 : decode cL_law 469 = .ok (.aload_n 0, 1) := by decide +kernel
theorem dL_law_470 : decode cL_law 470 = .ok (.iload 4, 2) := by decide +kernel
theorem dL_law_472 : decode cL_law 472 = .ok (.iconst 1, 1) := by decide +kernel
theorem dL_law_473 : decode cL_law 473 = .ok (.iadd, 1) := by decide +kernel
theorem dL_law_474 : decode cL_law 474 = .ok (.iaload, 1) := by decide +kernel
theorem dL_law_475 : decode cL_law 475 = .ok (.invokevirtual 49, 3) := by decide +kernel
theorem dL_law_478 : decode cL_law 478 = .ok (.aload_n 2, 1) := by decide +kernel
theorem dL_law_479 : decode cL_law 479 = .ok (.aload_n 0, 1) := by decide +kernel
theorem dL_law_480 : decode cL_law 480 = .ok (.iload 4, 2) := by decide +kernel
theorem dL_law_482 : decode cL_law 482 = .ok (.iconst 1, 1) := by decide +kernel
theorem dL_law_483 : decode cL_law 483 = .ok (.iadd, 1) := by decide +kernel
theorem dL_law_484 : decode cL_law 484 = .ok (.iaload, 1) := by decide +kernel
theorem dL_law_485 : decode cL_law 485 = .ok (.invokevirtual 52, 3) := by decide +kernel
theorem dL_law_488 : decode cL_law 488 = .ok (.if_icmp .eq 894, 3) := by decide +kernel
theorem dL_law_491 : decode cL_law 491 = .ok (.iconst 0, 1) := by decide +kernel
theorem dL_law_492 : decode cL_law 492 = .ok (.ireturn, 1) := by decide +kernel
theorem dL_law_493 : decode cL_law 493 = .ok (.aload_n 1, 1) := by decide +kernel
theorem dL_law_494 : decode cL_law 494 = .ok (.aload_n 0, 1) := by decide +kernel
theorem dL_law_495 : decode cL_law 495 = .ok (.iload 4, 2) := by decide +kernel
theorem dL_law_497 : decode cL_law 497 = .ok (.iconst 1, 1) := by decide +kernel
theorem dL_law_498 : decode cL_law 498 = .ok (.iadd, 1) := by decide +kernel
theorem dL_law_499 : decode cL_law 499 = .ok (.iaload, 1) := by decide +kernel
theorem dL_law_500 : decode cL_law 500 = .ok (.aload_n 0, 1) := by decide +kernel
theorem dL_law_501 : decode cL_law 501 = .ok (.iload 4, 2) := by decide +kernel
theorem dL_law_503 : decode cL_law 503 = .ok (.iconst 2, 1) := by decide +kernel
theorem dL_law_504 : decode cL_law 504 = .ok (.iadd, 1) := by decide +kernel
theorem dL_law_505 : decode cL_law 505 = .ok (.iaload, 1) := by decide +kernel
theorem dL_law_506 : decode cL_law 506 = .ok (.invokevirtual 53, 3) := by decide +kernel
theorem dL_law_509 : decode cL_law 509 = .ok (.aload_n 2, 1) := by decide +kernel
theorem dL_law_510 : decode cL_law 510 = .ok (.aload_n 0, 1) := by decide +kernel
theorem dL_law_511 : decode cL_law 511 = .ok (.iload 4, 2) := by decide +kernel
theorem dL_law_513 : decode cL_law 513 = .ok (.iconst 1, 1) := by decide +kernel
theorem dL_law_514 : decode cL_law 514 = .ok (.iadd, 1) := by decide +kernel
theorem dL_law_515 : decode cL_law 515 = .ok (.iaload, 1) := by decide +kernel
theorem dL_law_516 : decode cL_law 516 = .ok (.aload_n 0, 1) := by decide +kernel
theorem dL_law_517 : decode cL_law 517 = .ok (.iload 4, 2) := by decide +kernel
theorem dL_law_519 : decode cL_law 519 = .ok (.iconst 2, 1) := by decide +kernel
theorem dL_law_520 : decode cL_law 520 = .ok (.iadd, 1) := by decide +kernel
theorem dL_law_521 : decode cL_law 521 = .ok (.iaload, 1) := by decide +kernel
theorem dL_law_522 : decode cL_law 522 = .ok (.invokevirtual 57, 3) := by decide +kernel
theorem dL_law_525 : decode cL_law 525 = .ok (.if_icmp .eq 857, 3) := by decide +kernel
theorem dL_law_528 : decode cL_law 528 = .ok (.iconst 0, 1) := by decide +kernel
theorem dL_law_529 : decode cL_law 529 = .ok (.ireturn, 1) := by decide +kernel
theorem dL_law_530 : decode cL_law 530 = .ok (.aload_n 1, 1) := by decide +kernel
theorem dL_law_531 : decode cL_law 531 = .ok (.aload_n 0, 1) := by decide +kernel
theorem dL_law_532 : decode cL_law 532 = .ok (.iload 4, 2) := by decide +kernel
theorem dL_law_534 : decode cL_law 534 = .ok (.iconst 1, 1) := by decide +kernel
theorem dL_law_535 : decode cL_law 535 = .ok (.iadd, 1) := by decide +kernel
theorem dL_law_536 : decode cL_law 536 = .ok (.iaload, 1) := by decide +kernel
theorem dL_law_537 : decode cL_law 537 = .ok (.aload_n 0, 1) := by decide +kernel
theorem dL_law_538 : decode cL_law 538 = .ok (.iload 4, 2) := by decide +kernel
theorem dL_law_540 : decode cL_law 540 = .ok (.iconst 2, 1) := by decide +kernel
theorem dL_law_541 : decode cL_law 541 = .ok (.iadd, 1) := by decide +kernel
theorem dL_law_542 : decode cL_law 542 = .ok (.iaload, 1) := by decide +kernel
theorem dL_law_543 : decode cL_law 543 = .ok (.invokevirtual 58, 3) := by decide +kernel
theorem dL_law_546 : decode cL_law 546 = .ok (.aload_n 2, 1) := by decide +kernel
theorem dL_law_547 : decode cL_law 547 = .ok (.aload_n 0, 1) := by decide +kernel
theorem dL_law_548 : decode cL_law 548 = .ok (.iload 4, 2) := by decide +kernel
theorem dL_law_550 : decode cL_law 550 = .ok (.iconst 1, 1) := by decide +kernel
theorem dL_law_551 : decode cL_law 551 = .ok (.iadd, 1) := by decide +kernel
theorem dL_law_552 : decode cL_law 552 = .ok (.iaload, 1) := by decide +kernel
theorem dL_law_553 : decode cL_law 553 = .ok (.aload_n 0, 1) := by decide +kernel
theorem dL_law_554 : decode cL_law 554 = .ok (.iload 4, 2) := by decide +kernel
theorem dL_law_556 : decode cL_law 556 = .ok (.iconst 2, 1) := by decide +kernel
theorem dL_law_557 : decode cL_law 557 = .ok (.iadd, 1) := by decide +kernel
theorem dL_law_558 : decode cL_law 558 = .ok (.iaload, 1) := by decide +kernel
theorem dL_law_559 : decode cL_law 559 = .ok (.invokevirtual 61, 3) := by decide +kernel
theorem dL_law_562 : decode cL_law 562 = .ok (.if_icmp .eq 820, 3) := by decide +kernel
theorem dL_law_565 : decode cL_law 565 = .ok (.iconst 0, 1) := by decide +kernel
theorem dL_law_566 : decode cL_law 566 = .ok (.ireturn, 1) := by decide +kernel
theorem dL_law_567 : decode cL_law 567 = .ok (.aload_n 1, 1) := by decide +kernel
theorem dL_law_568 : decode cL_law 568 = .ok (.invokevirtual 62, 3) := by decide +kernel
theorem dL_law_571 : decode cL_law 571 = .ok (.aload_n 2, 1) := by decide +kernel
theorem dL_law_572 : decode cL_law 572 = .ok (.invokevirtual 66, 3) := by decide +kernel
theorem dL_law_575 : decode cL_law 575 = .ok (.if_icmp .eq 807, 3) := by decide +kernel
theorem dL_law_578 : decode cL_law 578 = .ok (.iconst 0, 1) := by decide +kernel
theorem dL_law_579 : decode cL_law 579 = .ok (.ireturn, 1) := by decide +kernel
theorem dL_law_580 : decode cL_law 580 = .ok (.aload_n 1, 1) := by decide +kernel
theorem dL_law_581 : decode cL_law 581 = .ok (.invokevirtual 67, 3) := by decide +kernel
theorem dL_law_584 : decode cL_law 584 = .ok (.aload_n 2, 1) := by decide +kernel
theorem dL_law_585 : decode cL_law 585 = .ok (.invokevirtual 70, 3) := by decide +kernel
theorem dL_law_588 : decode cL_law 588 = .ok (.if_icmp .eq 794, 3) := by decide +kernel
theorem dL_law_591 : decode cL_law 591 = .ok (.iconst 0, 1) := by decide +kernel
theorem dL_law_592 : decode cL_law 592 = .ok (.ireturn, 1) := by decide +kernel
theorem dL_law_593 : decode cL_law 593 = .ok (.aload_n 1, 1) := by decide +kernel
theorem dL_law_594 : decode cL_law 594 = .ok (.aload_n 0, 1) := by decide +kernel
theorem dL_law_595 : decode cL_law 595 = .ok (.iload 4, 2) := by decide +kernel
theorem dL_law_597 : decode cL_law 597 = .ok (.iconst 1, 1) := by decide +kernel
theorem dL_law_598 : decode cL_law 598 = .ok (.iadd, 1) := by decide +kernel
theorem dL_law_599 : decode cL_law 599 = .ok (.iaload, 1) := by decide +kernel
theorem dL_law_600 : decode cL_law 600 = .ok (.invokevirtual 71, 3) := by decide +kernel
theorem dL_law_603 : decode cL_law 603 = .ok (.aload_n 2, 1) := by decide +kernel
theorem dL_law_604 : decode cL_law 604 = .ok (.aload_n 0, 1) := by decide +kernel
theorem dL_law_605 : decode cL_law 605 = .ok (.iload 4, 2) := by decide +kernel
theorem dL_law_607 : decode cL_law 607 = .ok (.iconst 1, 1) := by decide +kernel
theorem dL_law_608 : decode cL_law 608 = .ok (.iadd, 1) := by decide +kernel
theorem dL_law_609 : decode cL_law 609 = .ok (.iaload, 1) := by decide +kernel
theorem dL_law_610 : decode cL_law 610 = .ok (.invokevirtual 74, 3) := by decide +kernel
theorem dL_law_613 : decode cL_law 613 = .ok (.if_icmp .eq 769, 3) := by decide +kernel
theorem dL_law_616 : decode cL_law 616 = .ok (.iconst 0, 1) := by decide +kernel
theorem dL_law_617 : decode cL_law 617 = .ok (.ireturn, 1) := by decide +kernel
theorem dL_law_618 : decode cL_law 618 = .ok (.aload_n 1, 1) := by decide +kernel
theorem dL_law_619 : decode cL_law 619 = .ok (.aload_n 0, 1) := by decide +kernel
theorem dL_law_620 : decode cL_law 620 = .ok (.iload 4, 2) := by decide +kernel
theorem dL_law_622 : decode cL_law 622 = .ok (.iconst 1, 1) := by decide +kernel
theorem dL_law_623 : decode cL_law 623 = .ok (.iadd, 1) := by decide +kernel
theorem dL_law_624 : decode cL_law 624 = .ok (.iaload, 1) := by decide +kernel
theorem dL_law_625 : decode cL_law 625 = .ok (.invokevirtual 75, 3) := by decide +kernel
theorem dL_law_628 : decode cL_law 628 = .ok (.aload_n 2, 1) := by decide +kernel
theorem dL_law_629 : decode cL_law 629 = .ok (.aload_n 0, 1) := by decide +kernel
theorem dL_law_630 : decode cL_law 630 = .ok (.iload 4, 2) := by decide +kernel
theorem dL_law_632 : decode cL_law 632 = .ok (.iconst 1, 1) := by decide +kernel
theorem dL_law_633 : decode cL_law 633 = .ok (.iadd, 1) := by decide +kernel
theorem dL_law_634 : decode cL_law 634 = .ok (.iaload, 1) := by decide +kernel
theorem dL_law_635 : decode cL_law 635 = .ok (.invokevirtual 78, 3) := by decide +kernel
theorem dL_law_638 : decode cL_law 638 = .ok (.if_icmp .eq 744, 3) := by decide +kernel
theorem dL_law_641 : decode cL_law 641 = .ok (.iconst 0, 1) := by decide +kernel
theorem dL_law_642 : decode cL_law 642 = .ok (.ireturn, 1) := by decide +kernel
theorem dL_law_643 : decode cL_law 643 = .ok (.aload_n 1, 1) := by decide +kernel
theorem dL_law_644 : decode cL_law 644 = .ok (.invokevirtual 79, 3) := by decide +kernel
theorem dL_law_647 : decode cL_law 647 = .ok (.aload_n 2, 1) := by decide +kernel
theorem dL_law_648 : decode cL_law 648 = .ok (.invokevirtual 82, 3) := by decide +kernel
theorem dL_law_651 : decode cL_law 651 = .ok (.if_icmp .eq 731, 3) := by decide +kernel
theorem dL_law_654 : decode cL_law 654 = .ok (.iconst 0, 1) := by decide +kernel
theorem dL_law_655 : decode cL_law 655 = .ok (.ireturn, 1) := by decide +kernel
theorem dL_law_656 : decode cL_law 656 = .ok (.aload_n 1, 1) := by decide +kernel
theorem dL_law_657 : decode cL_law 657 = .ok (.invokevirtual 83, 3) := by decide +kernel
theorem dL_law_660 : decode cL_law 660 = .ok (.aload_n 2, 1) := by decide +kernel
theorem dL_law_661 : decode cL_law 661 = .ok (.invokevirtual 86, 3) := by decide +kernel
theorem dL_law_664 : decode cL_law 664 = .ok (.if_icmp .eq 718, 3) := by decide +kernel
theorem dL_law_667 : decode cL_law 667 = .ok (.iconst 0, 1) := by decide +kernel
theorem dL_law_668 : decode cL_law 668 = .ok (.ireturn, 1) := by decide +kernel
theorem dL_law_669 : decode cL_law 669 = .ok (.aload_n 1, 1) := by decide +kernel
theorem dL_law_670 : decode cL_law 670 = .ok (.invokevirtual 87, 3) := by decide +kernel
theorem dL_law_673 : decode cL_law 673 = .ok (.aload_n 2, 1) := by decide +kernel
theorem dL_law_674 : decode cL_law 674 = .ok (.invokevirtual 90, 3) := by decide +kernel
theorem dL_law_677 : decode cL_law 677 = .ok (.if_icmp .eq 705, 3) := by decide +kernel
theorem dL_law_680 : decode cL_law 680 = .ok (.iconst 0, 1) := by decide +kernel
theorem dL_law_681 : decode cL_law 681 = .ok (.ireturn, 1) := by decide +kernel
theorem dL_law_682 : decode cL_law 682 = .ok (.aload_n 1, 1) := by decide +kernel
theorem dL_law_683 : decode cL_law 683 = .ok (.invokevirtual 91, 3) := by decide +kernel
theorem dL_law_686 : decode cL_law 686 = .ok (.aload_n 2, 1) := by decide +kernel
theorem dL_law_687 : decode cL_law 687 = .ok (.invokevirtual 94, 3) := by decide +kernel
theorem dL_law_690 : decode cL_law 690 = .ok (.if_icmp .eq 692, 3) := by decide +kernel
theorem dL_law_693 : decode cL_law 693 = .ok (.iconst 0, 1) := by decide +kernel
theorem dL_law_694 : decode cL_law 694 = .ok (.ireturn, 1) := by decide +kernel
theorem dL_law_695 : decode cL_law 695 = .ok (.aload_n 1, 1) := by decide +kernel
theorem dL_law_696 : decode cL_law 696 = .ok (.aload_n 0, 1) := by decide +kernel
theorem dL_law_697 : decode cL_law 697 = .ok (.iload 4, 2) := by decide +kernel
theorem dL_law_699 : decode cL_law 699 = .ok (.iconst 1, 1) := by decide +kernel
theorem dL_law_700 : decode cL_law 700 = .ok (.iadd, 1) := by decide +kernel
theorem dL_law_701 : decode cL_law 701 = .ok (.iaload, 1) := by decide +kernel
theorem dL_law_702 : decode cL_law 702 = .ok (.invokevirtual 95, 3) := by decide +kernel
theorem dL_law_705 : decode cL_law 705 = .ok (.aload_n 2, 1) := by decide +kernel
theorem dL_law_706 : decode cL_law 706 = .ok (.aload_n 0, 1) := by decide +kernel
theorem dL_law_707 : decode cL_law 707 = .ok (.iload 4, 2) := by decide +kernel
theorem dL_law_709 : decode cL_law 709 = .ok (.iconst 1, 1) := by decide +kernel
theorem dL_law_710 : decode cL_law 710 = .ok (.iadd, 1) := by decide +kernel
theorem dL_law_711 : decode cL_law 711 = .ok (.iaload, 1) := by decide +kernel
theorem dL_law_712 : decode cL_law 712 = .ok (.invokevirtual 98, 3) := by decide +kernel
theorem dL_law_715 : decode cL_law 715 = .ok (.if_icmp .eq 667, 3) := by decide +kernel
theorem dL_law_718 : decode cL_law 718 = .ok (.iconst 0, 1) := by decide +kernel
theorem dL_law_719 : decode cL_law 719 = .ok (.ireturn, 1) := by decide +kernel
theorem dL_law_720 : decode cL_law 720 = .ok (.aload_n 1, 1) := by decide +kernel
theorem dL_law_721 : decode cL_law 721 = .ok (.invokevirtual 99, 3) := by decide +kernel
theorem dL_law_724 : decode cL_law 724 = .ok (.aload_n 2, 1) := by decide +kernel
theorem dL_law_725 : decode cL_law 725 = .ok (.invokevirtual 102, 3) := by decide +kernel
theorem dL_law_728 : decode cL_law 728 = .ok (.if_icmp .eq 654, 3) := by decide +kernel
theorem dL_law_731 : decode cL_law 731 = .ok (.iconst 0, 1) := by decide +kernel
theorem dL_law_732 : decode cL_law 732 = .ok (.ireturn, 1) := by decide +kernel
theorem dL_law_733 : decode cL_law 733 = .ok (.aload_n 1, 1) := by decide +kernel
theorem dL_law_734 : decode cL_law 734 = .ok (.aload_n 0, 1) := by decide +kernel
theorem dL_law_735 : decode cL_law 735 = .ok (.iload 4, 2) := by decide +kernel
theorem dL_law_737 : decode cL_law 737 = .ok (.iconst 1, 1) := by decide +kernel
theorem dL_law_738 : decode cL_law 738 = .ok (.iadd, 1) := by decide +kernel
theorem dL_law_739 : decode cL_law 739 = .ok (.iaload, 1) := by decide +kernel
theorem dL_law_740 : decode cL_law 740 = .ok (.invokevirtual 103, 3) := by decide +kernel
theorem dL_law_743 : decode cL_law 743 = .ok (.aload_n 2, 1) := by decide +kernel
theorem dL_law_744 : decode cL_law 744 = .ok (.aload_n 0, 1) := by decide +kernel
theorem dL_law_745 : decode cL_law 745 = .ok (.iload 4, 2) := by decide +kernel
theorem dL_law_747 : decode cL_law 747 = .ok (.iconst 1, 1) := by decide +kernel
theorem dL_law_748 : decode cL_law 748 = .ok (.iadd, 1) := by decide +kernel
theorem dL_law_749 : decode cL_law 749 = .ok (.iaload, 1) := by decide +kernel
theorem dL_law_750 : decode cL_law 750 = .ok (.invokevirtual 106, 3) := by decide +kernel
theorem dL_law_753 : decode cL_law 753 = .ok (.if_icmp .eq 629, 3) := by decide +kernel
theorem dL_law_756 : decode cL_law 756 = .ok (.iconst 0, 1) := by decide +kernel
theorem dL_law_757 : decode cL_law 757 = .ok (.ireturn, 1) := by decide +kernel
theorem dL_law_758 : decode cL_law 758 = .ok (.aload_n 1, 1) := by decide +kernel
theorem dL_law_759 : decode cL_law 759 = .ok (.invokevirtual 107, 3) := by decide +kernel
theorem dL_law_762 : decode cL_law 762 = .ok (.aload_n 2, 1) := by decide +kernel
theorem dL_law_763 : decode cL_law 763 = .ok (.invokevirtual 110, 3) := by decide +kernel
theorem dL_law_766 : decode cL_law 766 = .ok (.if_icmp .eq 616, 3) := by decide +kernel
theorem dL_law_769 : decode cL_law 769 = .ok (.iconst 0, 1) := by decide +kernel
theorem dL_law_770 : decode cL_law 770 = .ok (.ireturn, 1) := by decide +kernel
theorem dL_law_771 : decode cL_law 771 = .ok (.aload_n 1, 1) := by decide +kernel
theorem dL_law_772 : decode cL_law 772 = .ok (.aload_n 0, 1) := by decide +kernel
theorem dL_law_773 : decode cL_law 773 = .ok (.iload 4, 2) := by decide +kernel
theorem dL_law_775 : decode cL_law 775 = .ok (.iconst 1, 1) := by decide +kernel
theorem dL_law_776 : decode cL_law 776 = .ok (.iadd, 1) := by decide +kernel
theorem dL_law_777 : decode cL_law 777 = .ok (.iaload, 1) := by decide +kernel
theorem dL_law_778 : decode cL_law 778 = .ok (.invokevirtual 111, 3) := by decide +kernel
theorem dL_law_781 : decode cL_law 781 = .ok (.aload_n 2, 1) := by decide +kernel
theorem dL_law_782 : decode cL_law 782 = .ok (.aload_n 0, 1) := by decide +kernel
theorem dL_law_783 : decode cL_law 783 = .ok (.iload 4, 2) := by decide +kernel
theorem dL_law_785 : decode cL_law 785 = .ok (.iconst 1, 1) := by decide +kernel
theorem dL_law_786 : decode cL_law 786 = .ok (.iadd, 1) := by decide +kernel
theorem dL_law_787 : decode cL_law 787 = .ok (.iaload, 1) := by decide +kernel
theorem dL_law_788 : decode cL_law 788 = .ok (.invokevirtual 114, 3) := by decide +kernel
theorem dL_law_791 : decode cL_law 791 = .ok (.if_icmp .eq 591, 3) := by decide +kernel
theorem dL_law_794 : decode cL_law 794 = .ok (.iconst 0, 1) := by decide +kernel
theorem dL_law_795 : decode cL_law 795 = .ok (.ireturn, 1) := by decide +kernel
theorem dL_law_796 : decode cL_law 796 = .ok (.aload_n 1, 1) := by decide +kernel
theorem dL_law_797 : decode cL_law 797 = .ok (.aload_n 0, 1) := by decide +kernel
theorem dL_law_798 : decode cL_law 798 = .ok (.iload 4, 2) := by decide +kernel
theorem dL_law_800 : decode cL_law 800 = .ok (.iconst 1, 1) := by decide +kernel
theorem dL_law_801 : decode cL_law 801 = .ok (.iadd, 1) := by decide +kernel
theorem dL_law_802 : decode cL_law 802 = .ok (.iaload, 1) := by decide +kernel
theorem dL_law_803 : decode cL_law 803 = .ok (.aload_n 0, 1) := by decide +kernel
theorem dL_law_804 : decode cL_law 804 = .ok (.iload 4, 2) := by decide +kernel
theorem dL_law_806 : decode cL_law 806 = .ok (.iconst 2, 1) := by decide +kernel
theorem dL_law_807 : decode cL_law 807 = .ok (.iadd, 1) := by decide +kernel
theorem dL_law_808 : decode cL_law 808 = .ok (.iaload, 1) := by decide +kernel
theorem dL_law_809 : decode cL_law 809 = .ok (.aload_n 0, 1) := by decide +kernel
theorem dL_law_810 : decode cL_law 810 = .ok (.iload 4, 2) := by decide +kernel
theorem dL_law_812 : decode cL_law 812 = .ok (.iconst 3, 1) := by decide +kernel
theorem dL_law_813 : decode cL_law 813 = .ok (.iadd, 1) := by decide +kernel
theorem dL_law_814 : decode cL_law 814 = .ok (.iaload, 1) := by decide +kernel
theorem dL_law_815 : decode cL_law 815 = .ok (.ifCond .eq 7, 3) := by decide +kernel
theorem dL_law_818 : decode cL_law 818 = .ok (.iconst 1, 1) := by decide +kernel
theorem dL_law_819 : decode cL_law 819 = .ok (.goto 4, 3) := by decide +kernel
theorem dL_law_822 : decode cL_law 822 = .ok (.iconst 0, 1) := by decide +kernel
theorem dL_law_823 : decode cL_law 823 = .ok (.invokevirtual 115, 3) := by decide +kernel
theorem dL_law_826 : decode cL_law 826 = .ok (.aload_n 2, 1) := by decide +kernel
theorem dL_law_827 : decode cL_law 827 = .ok (.aload_n 0, 1) := by decide +kernel
theorem dL_law_828 : decode cL_law 828 = .ok (.iload 4, 2) := by decide +kernel
theorem dL_law_830 : decode cL_law 830 = .ok (.iconst 1, 1) := by decide +kernel
theorem dL_law_831 : decode cL_law 831 = .ok (.iadd, 1) := by decide +kernel
theorem dL_law_832 : decode cL_law 832 = .ok (.iaload, 1) := by decide +kernel
theorem dL_law_833 : decode cL_law 833 = .ok (.aload_n 0, 1) := by decide +kernel
theorem dL_law_834 : decode cL_law 834 = .ok (.iload 4, 2) := by decide +kernel
theorem dL_law_836 : decode cL_law 836 = .ok (.iconst 2, 1) := by decide +kernel
theorem dL_law_837 : decode cL_law 837 = .ok (.iadd, 1) := by decide +kernel
theorem dL_law_838 : decode cL_law 838 = .ok (.iaload, 1) := by decide +kernel
theorem dL_law_839 : decode cL_law 839 = .ok (.aload_n 0, 1) := by decide +kernel
theorem dL_law_840 : decode cL_law 840 = .ok (.iload 4, 2) := by decide +kernel
theorem dL_law_842 : decode cL_law 842 = .ok (.iconst 3, 1) := by decide +kernel
theorem dL_law_843 : decode cL_law 843 = .ok (.iadd, 1) := by decide +kernel
theorem dL_law_844 : decode cL_law 844 = .ok (.iaload, 1) := by decide +kernel
theorem dL_law_845 : decode cL_law 845 = .ok (.ifCond .eq 7, 3) := by decide +kernel
theorem dL_law_848 : decode cL_law 848 = .ok (.iconst 1, 1) := by decide +kernel
theorem dL_law_849 : decode cL_law 849 = .ok (.goto 4, 3) := by decide +kernel
theorem dL_law_852 : decode cL_law 852 = .ok (.iconst 0, 1) := by decide +kernel
theorem dL_law_853 : decode cL_law 853 = .ok (.invokevirtual 119, 3) := by decide +kernel
theorem dL_law_856 : decode cL_law 856 = .ok (.if_icmp .eq 526, 3) := by decide +kernel
theorem dL_law_859 : decode cL_law 859 = .ok (.iconst 0, 1) := by decide +kernel
theorem dL_law_860 : decode cL_law 860 = .ok (.ireturn, 1) := by decide +kernel
theorem dL_law_861 : decode cL_law 861 = .ok (.aload_n 1, 1) := by decide +kernel
theorem dL_law_862 : decode cL_law 862 = .ok (.invokevirtual 120, 3) := by decide +kernel
theorem dL_law_865 : decode cL_law 865 = .ok (.aload_n 2, 1) := by decide +kernel
theorem dL_law_866 : decode cL_law 866 = .ok (.invokevirtual 123, 3) := by decide +kernel
theorem dL_law_869 : decode cL_law 869 = .ok (.if_icmp .eq 513, 3) := by decide +kernel
theorem dL_law_872 : decode cL_law 872 = .ok (.iconst 0, 1) := by decide +kernel
theorem dL_law_873 : decode cL_law 873 = .ok (.ireturn, 1) := by decide +kernel
theorem dL_law_874 : decode cL_law 874 = .ok (.aload_n 1, 1) := by decide +kernel
theorem dL_law_875 : decode cL_law 875 = .ok (.aload_n 0, 1) := by decide +kernel
theorem dL_law_876 : decode cL_law 876 = .ok (.iload 4, 2) := by decide +kernel
theorem dL_law_878 : decode cL_law 878 = .ok (.iconst 1, 1) := by decide +kernel
theorem dL_law_879 : decode cL_law 879 = .ok (.iadd, 1) := by decide +kernel
theorem dL_law_880 : decode cL_law 880 = .ok (.iaload, 1) := by decide +kernel
theorem dL_law_881 : decode cL_law 881 = .ok (.invokevirtual 124, 3) := by decide +kernel
theorem dL_law_884 : decode cL_law 884 = .ok (.aload_n 2, 1) := by decide +kernel
theorem dL_law_885 : decode cL_law 885 = .ok (.aload_n 0, 1) := by decide +kernel
theorem dL_law_886 : decode cL_law 886 = .ok (.iload 4, 2) := by decide +kernel
theorem dL_law_888 : decode cL_law 888 = .ok (.iconst 1, 1) := by decide +kernel
theorem dL_law_889 : decode cL_law 889 = .ok (.iadd, 1) := by decide +kernel
theorem dL_law_890 : decode cL_law 890 = .ok (.iaload, 1) := by decide +kernel
theorem dL_law_891 : decode cL_law 891 = .ok (.invokevirtual 127, 3) := by decide +kernel
theorem dL_law_894 : decode cL_law 894 = .ok (.if_icmp .eq 488, 3) := by decide +kernel
theorem dL_law_897 : decode cL_law 897 = .ok (.iconst 0, 1) := by decide +kernel
theorem dL_law_898 : decode cL_law 898 = .ok (.ireturn, 1) := by decide +kernel
theorem dL_law_899 : decode cL_law 899 = .ok (.aload_n 1, 1) := by decide +kernel
theorem dL_law_900 : decode cL_law 900 = .ok (.aload_n 0, 1) := by decide +kernel
theorem dL_law_901 : decode cL_law 901 = .ok (.iload 4, 2) := by decide +kernel
theorem dL_law_903 : decode cL_law 903 = .ok (.iconst 1, 1) := by decide +kernel
theorem dL_law_904 : decode cL_law 904 = .ok (.iadd, 1) := by decide +kernel
theorem dL_law_905 : decode cL_law 905 = .ok (.iaload, 1) := by decide +kernel
theorem dL_law_906 : decode cL_law 906 = .ok (.aload_n 0, 1) := by decide +kernel
theorem dL_law_907 : decode cL_law 907 = .ok (.iload 4, 2) := by decide +kernel
theorem dL_law_909 : decode cL_law 909 = .ok (.iconst 2, 1) := by decide +kernel
theorem dL_law_910 : decode cL_law 910 = .ok (.iadd, 1) := by decide +kernel
theorem dL_law_911 : decode cL_law 911 = .ok (.iaload, 1) := by decide +kernel
theorem dL_law_912 : decode cL_law 912 = .ok (.aload_n 0, 1) := by decide +kernel
theorem dL_law_913 : decode cL_law 913 = .ok (.iload 4, 2) := by decide +kernel
theorem dL_law_915 : decode cL_law 915 = .ok (.iconst 3, 1) := by decide +kernel
theorem dL_law_916 : decode cL_law 916 = .ok (.iadd, 1) := by decide +kernel
theorem dL_law_917 : decode cL_law 917 = .ok (.iaload, 1) := by decide +kernel
theorem dL_law_918 : decode cL_law 918 = .ok (.invokevirtual 128, 3) := by decide +kernel
theorem dL_law_921 : decode cL_law 921 = .ok (.aload_n 2, 1) := by decide +kernel
theorem dL_law_922 : decode cL_law 922 = .ok (.aload_n 0, 1) := by decide +kernel
theorem dL_law_923 : decode cL_law 923 = .ok (.iload 4, 2) := by decide +kernel
theorem dL_law_925 : decode cL_law 925 = .ok (.iconst 1, 1) := by decide +kernel
theorem dL_law_926 : decode cL_law 926 = .ok (.iadd, 1) := by decide +kernel
theorem dL_law_927 : decode cL_law 927 = .ok (.iaload, 1) := by decide +kernel
theorem dL_law_928 : decode cL_law 928 = .ok (.aload_n 0, 1) := by decide +kernel
theorem dL_law_929 : decode cL_law 929 = .ok (.iload 4, 2) := by decide +kernel
theorem dL_law_931 : decode cL_law 931 = .ok (.iconst 2, 1) := by decide +kernel
theorem dL_law_932 : decode cL_law 932 = .ok (.iadd, 1) := by decide +kernel
theorem dL_law_933 : decode cL_law 933 = .ok (.iaload, 1) := by decide +kernel
theorem dL_law_934 : decode cL_law 934 = .ok (.aload_n 0, 1) := by decide +kernel
theorem dL_law_935 : decode cL_law 935 = .ok (.iload 4, 2) := by decide +kernel
theorem dL_law_937 : decode cL_law 937 = .ok (.iconst 3, 1) := by decide +kernel
theorem dL_law_938 : decode cL_law 938 = .ok (.iadd, 1) := by decide +kernel
theorem dL_law_939 : decode cL_law 939 = .ok (.iaload, 1) := by decide +kernel
theorem dL_law_940 : decode cL_law 940 = .ok (.invokevirtual 132, 3) := by decide +kernel
theorem dL_law_943 : decode cL_law 943 = .ok (.if_icmp .eq 439, 3) := by decide +kernel
theorem dL_law_946 : decode cL_law 946 = .ok (.iconst 0, 1) := by decide +kernel
theorem dL_law_947 : decode cL_law 947 = .ok (.ireturn, 1) := by decide +kernel
theorem dL_law_948 : decode cL_law 948 = .ok (.aload_n 1, 1) := by decide +kernel
theorem dL_law_949 : decode cL_law 949 = .ok (.aload_n 0, 1) := by decide +kernel
theorem dL_law_950 : decode cL_law 950 = .ok (.iload 4, 2) := by decide +kernel
theorem dL_law_952 : decode cL_law 952 = .ok (.iconst 1, 1) := by decide +kernel
theorem dL_law_953 : decode cL_law 953 = .ok (.iadd, 1) := by decide +kernel
theorem dL_law_954 : decode cL_law 954 = .ok (.iaload, 1) := by decide +kernel
theorem dL_law_955 : decode cL_law 955 = .ok (.invokevirtual 133, 3) := by decide +kernel
theorem dL_law_958 : decode cL_law 958 = .ok (.aload_n 2, 1) := by decide +kernel
theorem dL_law_959 : decode cL_law 959 = .ok (.aload_n 0, 1) := by decide +kernel
theorem dL_law_960 : decode cL_law 960 = .ok (.iload 4, 2) := by decide +kernel
theorem dL_law_962 : decode cL_law 962 = .ok (.iconst 1, 1) := by decide +kernel
theorem dL_law_963 : decode cL_law 963 = .ok (.iadd, 1) := by decide +kernel
theorem dL_law_964 : decode cL_law 964 = .ok (.iaload, 1) := by decide +kernel
theorem dL_law_965 : decode cL_law 965 = .ok (.invokevirtual 136, 3) := by decide +kernel
theorem dL_law_968 : decode cL_law 968 = .ok (.if_icmp .eq 414, 3) := by decide +kernel
theorem dL_law_971 : decode cL_law 971 = .ok (.iconst 0, 1) := by decide +kernel
theorem dL_law_972 : decode cL_law 972 = .ok (.ireturn, 1) := by decide +kernel
theorem dL_law_973 : decode cL_law 973 = .ok (.aload_n 1, 1) := by decide +kernel
theorem dL_law_974 : decode cL_law 974 = .ok (.aload_n 0, 1) := by decide +kernel
theorem dL_law_975 : decode cL_law 975 = .ok (.iload 4, 2) := by decide +kernel
theorem dL_law_977 : decode cL_law 977 = .ok (.iconst 1, 1) := by decide +kernel
theorem dL_law_978 : decode cL_law 978 = .ok (.iadd, 1) := by decide +kernel
theorem dL_law_979 : decode cL_law 979 = .ok (.iaload, 1) := by decide +kernel
theorem dL_law_980 : decode cL_law 980 = .ok (.invokevirtual 137, 3) := by decide +kernel
theorem dL_law_983 : decode cL_law 983 = .ok (.aload_n 2, 1) := by decide +kernel
theorem dL_law_984 : decode cL_law 984 = .ok (.aload_n 0, 1) := by decide +kernel
theorem dL_law_985 : decode cL_law 985 = .ok (.iload 4, 2) := by decide +kernel
theorem dL_law_987 : decode cL_law 987 = .ok (.iconst 1, 1) := by decide +kernel
theorem dL_law_988 : decode cL_law 988 = .ok (.iadd, 1) := by decide +kernel
theorem dL_law_989 : decode cL_law 989 = .ok (.iaload, 1) := by decide +kernel
theorem dL_law_990 : decode cL_law 990 = .ok (.invokevirtual 140, 3) := by decide +kernel
theorem dL_law_993 : decode cL_law 993 = .ok (.if_icmp .eq 389, 3) := by decide +kernel
theorem dL_law_996 : decode cL_law 996 = .ok (.iconst 0, 1) := by decide +kernel
theorem dL_law_997 : decode cL_law 997 = .ok (.ireturn, 1) := by decide +kernel
theorem dL_law_998 : decode cL_law 998 = .ok (.aload_n 1, 1) := by decide +kernel
theorem dL_law_999 : decode cL_law 999 = .ok (.invokevirtual 141, 3) := by decide +kernel
theorem dL_law_1002 : decode cL_law 1002 = .ok (.aload_n 2, 1) := by decide +kernel
theorem dL_law_1003 : decode cL_law 1003 = .ok (.invokevirtual 144, 3) := by decide +kernel
theorem dL_law_1006 : decode cL_law 1006 = .ok (.if_icmp .eq 376, 3) := by decide +kernel
theorem dL_law_1009 : decode cL_law 1009 = .ok (.iconst 0, 1) := by decide +kernel
theorem dL_law_1010 : decode cL_law 1010 = .ok (.ireturn, 1) := by decide +kernel
theorem dL_law_1011 : decode cL_law 1011 = .ok (.aload_n 1, 1) := by decide +kernel
theorem dL_law_1012 : decode cL_law 1012 = .ok (.invokevirtual 145, 3) := by decide +kernel
theorem dL_law_1015 : decode cL_law 1015 = .ok (.aload_n 2, 1) := by decide +kernel
theorem dL_law_1016 : decode cL_law 1016 = .ok (.invokevirtual 148, 3) := by decide +kernel
theorem dL_law_1019 : decode cL_law 1019 = .ok (.if_icmp .eq 363, 3) := by decide +kernel
theorem dL_law_1022 : decode cL_law 1022 = .ok (.iconst 0, 1) := by decide +kernel
theorem dL_law_1023 : decode cL_law 1023 = .ok (.ireturn, 1) := by decide +kernel
theorem dL_law_1024 : decode cL_law 1024 = .ok (.aload_n 1, 1) := by decide +kernel
theorem dL_law_1025 : decode cL_law 1025 = .ok (.aload_n 0, 1) := by decide +kernel
theorem dL_law_1026 : decode cL_law 1026 = .ok (.iload 4, 2) := by decide +kernel
theorem dL_law_1028 : decode cL_law 1028 = .ok (.iconst 1, 1) := by decide +kernel
theorem dL_law_1029 : decode cL_law 1029 = .ok (.iadd, 1) := by decide +kernel
theorem dL_law_1030 : decode cL_law 1030 = .ok (.iaload, 1) := by decide +kernel
theorem dL_law_1031 : decode cL_law 1031 = .ok (.invokevirtual 149, 3) := by decide +kernel
theorem dL_law_1034 : decode cL_law 1034 = .ok (.aload_n 2, 1) := by decide +kernel
theorem dL_law_1035 : decode cL_law 1035 = .ok (.aload_n 0, 1) := by decide +kernel
theorem dL_law_1036 : decode cL_law 1036 = .ok (.iload 4, 2) := by decide +kernel
theorem dL_law_1038 : decode cL_law 1038 = .ok (.iconst 1, 1) := by decide +kernel
theorem dL_law_1039 : decode cL_law 1039 = .ok (.iadd, 1) := by decide +kernel
theorem dL_law_1040 : decode cL_law 1040 = .ok (.iaload, 1) := by decide +kernel
theorem dL_law_1041 : decode cL_law 1041 = .ok (.invokevirtual 152, 3) := by decide +kernel
theorem dL_law_1044 : decode cL_law 1044 = .ok (.if_icmp .eq 338, 3) := by decide +kernel
theorem dL_law_1047 : decode cL_law 1047 = .ok (.iconst 0, 1) := by decide +kernel
theorem dL_law_1048 : decode cL_law 1048 = .ok (.ireturn, 1) := by decide +kernel
theorem dL_law_1049 : decode cL_law 1049 = .ok (.aload_n 1, 1) := by decide +kernel
theorem dL_law_1050 : decode cL_law 1050 = .ok (.aload_n 0, 1) := by decide +kernel
theorem dL_law_1051 : decode cL_law 1051 = .ok (.iload 4, 2) := by decide +kernel
theorem dL_law_1053 : decode cL_law 1053 = .ok (.iconst 1, 1) := by decide +kernel
theorem dL_law_1054 : decode cL_law 1054 = .ok (.iadd, 1) := by decide +kernel
theorem dL_law_1055 : decode cL_law 1055 = .ok (.iaload, 1) := by decide +kernel
theorem dL_law_1056 : decode cL_law 1056 = .ok (.invokevirtual 153, 3) := by decide +kernel
theorem dL_law_1059 : decode cL_law 1059 = .ok (.aload_n 2, 1) := by decide +kernel
theorem dL_law_1060 : decode cL_law 1060 = .ok (.aload_n 0, 1) := by decide +kernel
theorem dL_law_1061 : decode cL_law 1061 = .ok (.iload 4, 2) := by decide +kernel
theorem dL_law_1063 : decode cL_law 1063 = .ok (.iconst 1, 1) := by decide +kernel
theorem dL_law_1064 : decode cL_law 1064 = .ok (.iadd, 1) := by decide +kernel
theorem dL_law_1065 : decode cL_law 1065 = .ok (.iaload, 1) := by decide +kernel
theorem dL_law_1066 : decode cL_law 1066 = .ok (.invokevirtual 156, 3) := by decide +kernel
theorem dL_law_1069 : decode cL_law 1069 = .ok (.if_icmp .eq 313, 3) := by decide +kernel
theorem dL_law_1072 : decode cL_law 1072 = .ok (.iconst 0, 1) := by decide +kernel
theorem dL_law_1073 : decode cL_law 1073 = .ok (.ireturn, 1) := by decide +kernel
theorem dL_law_1074 : decode cL_law 1074 = .ok (.aload_n 1, 1) := by decide +kernel
theorem dL_law_1075 : decode cL_law 1075 = .ok (.aload_n 0, 1) := by decide +kernel
theorem dL_law_1076 : decode cL_law 1076 = .ok (.iload 4, 2) := by decide +kernel
theorem dL_law_1078 : decode cL_law 1078 = .ok (.iconst 1, 1) := by decide +kernel
theorem dL_law_1079 : decode cL_law 1079 = .ok (.iadd, 1) := by decide +kernel
theorem dL_law_1080 : decode cL_law 1080 = .ok (.iaload, 1) := by decide +kernel
theorem dL_law_1081 : decode cL_law 1081 = .ok (.invokevirtual 157, 3) := by decide +kernel
theorem dL_law_1084 : decode cL_law 1084 = .ok (.aload_n 2, 1) := by decide +kernel
theorem dL_law_1085 : decode cL_law 1085 = .ok (.aload_n 0, 1) := by decide +kernel
theorem dL_law_1086 : decode cL_law 1086 = .ok (.iload 4, 2) := by decide +kernel
theorem dL_law_1088 : decode cL_law 1088 = .ok (.iconst 1, 1) := by decide +kernel
theorem dL_law_1089 : decode cL_law 1089 = .ok (.iadd, 1) := by decide +kernel
theorem dL_law_1090 : decode cL_law 1090 = .ok (.iaload, 1) := by decide +kernel
theorem dL_law_1091 : decode cL_law 1091 = .ok (.invokevirtual 160, 3) := by decide +kernel
theorem dL_law_1094 : decode cL_law 1094 = .ok (.if_icmp .eq 288, 3) := by decide +kernel
theorem dL_law_1097 : decode cL_law 1097 = .ok (.iconst 0, 1) := by decide +kernel
theorem dL_law_1098 : decode cL_law 1098 = .ok (.ireturn, 1) := by decide +kernel
theorem dL_law_1099 : decode cL_law 1099 = .ok (.aload_n 1, 1) := by decide +kernel
theorem dL_law_1100 : decode cL_law 1100 = .ok (.invokevirtual 161, 3) := by decide +kernel
theorem dL_law_1103 : decode cL_law 1103 = .ok (.aload_n 2, 1) := by decide +kernel
theorem dL_law_1104 : decode cL_law 1104 = .ok (.invokevirtual 164, 3) := by decide +kernel
theorem dL_law_1107 : decode cL_law 1107 = .ok (.if_icmp .eq 275, 3) := by decide +kernel
theorem dL_law_1110 : decode cL_law 1110 = .ok (.iconst 0, 1) := by decide +kernel
theorem dL_law_1111 : decode cL_law 1111 = .ok (.ireturn, 1) := by decide +kernel
theorem dL_law_1112 : decode cL_law 1112 = .ok (.aload_n 1, 1) := by decide +kernel
theorem dL_law_1113 : decode cL_law 1113 = .ok (.aload_n 0, 1) := by decide +kernel
theorem dL_law_1114 : decode cL_law 1114 = .ok (.iload 4, 2) := by decide +kernel
theorem dL_law_1116 : decode cL_law 1116 = .ok (.iconst 1, 1) := by decide +kernel
theorem dL_law_1117 : decode cL_law 1117 = .ok (.iadd, 1) := by decide +kernel
theorem dL_law_1118 : decode cL_law 1118 = .ok (.iaload, 1) := by decide +kernel
theorem dL_law_1119 : decode cL_law 1119 = .ok (.invokevirtual 165, 3) := by decide +kernel
theorem dL_law_1122 : decode cL_law 1122 = .ok (.aload_n 2, 1) := by decide +kernel
theorem dL_law_1123 : decode cL_law 1123 = .ok (.aload_n 0, 1) := by decide +kernel
theorem dL_law_1124 : decode cL_law 1124 = .ok (.iload 4, 2) := by decide +kernel
theorem dL_law_1126 : decode cL_law 1126 = .ok (.iconst 1, 1) := by decide +kernel
theorem dL_law_1127 : decode cL_law 1127 = .ok (.iadd, 1) := by decide +kernel
theorem dL_law_1128 : decode cL_law 1128 = .ok (.iaload, 1) := by decide +kernel
theorem dL_law_1129 : decode cL_law 1129 = .ok (.invokevirtual 168, 3) := by decide +kernel
theorem dL_law_1132 : decode cL_law 1132 = .ok (.if_icmp .eq 250, 3) := by decide +kernel
theorem dL_law_1135 : decode cL_law 1135 = .ok (.iconst 0, 1) := by decide +kernel
theorem dL_law_1136 : decode cL_law 1136 = .ok (.ireturn, 1) := by decide +kernel
theorem dL_law_1137 : decode cL_law 1137 = .ok (.aload_n 1, 1) := by decide +kernel
theorem dL_law_1138 : decode cL_law 1138 = .ok (.invokevirtual 169, 3) := by decide +kernel
theorem dL_law_1141 : decode cL_law 1141 = .ok (.aload_n 2, 1) := by decide +kernel
theorem dL_law_1142 : decode cL_law 1142 = .ok (.invokevirtual 172, 3) := by decide +kernel
theorem dL_law_1145 : decode cL_law 1145 = .ok (.if_icmp .eq 237, 3) := by decide +kernel
theorem dL_law_1148 : decode cL_law 1148 = .ok (.iconst 0, 1) := by decide +kernel
theorem dL_law_1149 : decode cL_law 1149 = .ok (.ireturn, 1) := by decide +kernel
theorem dL_law_1150 : decode cL_law 1150 = .ok (.aload_n 1, 1) := by decide +kernel
theorem dL_law_1151 : decode cL_law 1151 = .ok (.invokevirtual 173, 3) := by decide +kernel
theorem dL_law_1154 : decode cL_law 1154 = .ok (.aload_n 2, 1) := by decide +kernel
theorem dL_law_1155 : decode cL_law 1155 = .ok (.invokevirtual 176, 3) := by decide +kernel
theorem dL_law_1158 : decode cL_law 1158 = .ok (.if_icmp .eq 224, 3) := by decide +kernel
theorem dL_law_1161 : decode cL_law 1161 = .ok (.iconst 0, 1) := by decide +kernel
theorem dL_law_1162 : decode cL_law 1162 = .ok (.ireturn, 1) := by decide +kernel
theorem dL_law_1163 : decode cL_law 1163 = .ok (.aload_n 1, 1) := by decide +kernel
theorem dL_law_1164 : decode cL_law 1164 = .ok (.aload_n 0, 1) := by decide +kernel
theorem dL_law_1165 : decode cL_law 1165 = .ok (.iload 4, 2) := by decide +kernel
theorem dL_law_1167 : decode cL_law 1167 = .ok (.iconst 1, 1) := by decide +kernel
theorem dL_law_1168 : decode cL_law 1168 = .ok (.iadd, 1) := by decide +kernel
theorem dL_law_1169 : decode cL_law 1169 = .ok (.iaload, 1) := by decide +kernel
theorem dL_law_1170 : decode cL_law 1170 = .ok (.aload_n 0, 1) := by decide +kernel
theorem dL_law_1171 : decode cL_law 1171 = .ok (.iload 4, 2) := by decide +kernel
theorem dL_law_1173 : decode cL_law 1173 = .ok (.iconst 2, 1) := by decide +kernel
theorem dL_law_1174 : decode cL_law 1174 = .ok (.iadd, 1) := by decide +kernel
theorem dL_law_1175 : decode cL_law 1175 = .ok (.iaload, 1) := by decide +kernel
theorem dL_law_1176 : decode cL_law 1176 = .ok (.aload_n 0, 1) := by decide +kernel
theorem dL_law_1177 : decode cL_law 1177 = .ok (.iload 4, 2) := by decide +kernel
theorem dL_law_1179 : decode cL_law 1179 = .ok (.iconst 3, 1) := by decide +kernel
theorem dL_law_1180 : decode cL_law 1180 = .ok (.iadd, 1) := by decide +kernel
theorem dL_law_1181 : decode cL_law 1181 = .ok (.iaload, 1) := by decide +kernel
theorem dL_law_1182 : decode cL_law 1182 = .ok (.aload_n 0, 1) := by decide +kernel
theorem dL_law_1183 : decode cL_law 1183 = .ok (.iload 4, 2) := by decide +kernel
theorem dL_law_1185 : decode cL_law 1185 = .ok (.iconst 4, 1) := by decide +kernel
theorem dL_law_1186 : decode cL_law 1186 = .ok (.iadd, 1) := by decide +kernel
theorem dL_law_1187 : decode cL_law 1187 = .ok (.iaload, 1) := by decide +kernel
theorem dL_law_1188 : decode cL_law 1188 = .ok (.aload_n 3, 1) := by decide +kernel
theorem dL_law_1189 : decode cL_law 1189 = .ok (.invokestatic 177, 3) := by decide +kernel
theorem dL_law_1192 : decode cL_law 1192 = .ok (.istore 5, 2) := by decide +kernel
theorem dL_law_1194 : decode cL_law 1194 = .ok (.aload_n 2, 1) := by decide +kernel
theorem dL_law_1195 : decode cL_law 1195 = .ok (.aload_n 0, 1) := by decide +kernel
theorem dL_law_1196 : decode cL_law 1196 = .ok (.iload 4, 2) := by decide +kernel
theorem dL_law_1198 : decode cL_law 1198 = .ok (.iconst 1, 1) := by decide +kernel
theorem dL_law_1199 : decode cL_law 1199 = .ok (.iadd, 1) := by decide +kernel
theorem dL_law_1200 : decode cL_law 1200 = .ok (.iaload, 1) := by decide +kernel
theorem dL_law_1201 : decode cL_law 1201 = .ok (.aload_n 0, 1) := by decide +kernel
theorem dL_law_1202 : decode cL_law 1202 = .ok (.iload 4, 2) := by decide +kernel
theorem dL_law_1204 : decode cL_law 1204 = .ok (.iconst 2, 1) := by decide +kernel
theorem dL_law_1205 : decode cL_law 1205 = .ok (.iadd, 1) := by decide +kernel
theorem dL_law_1206 : decode cL_law 1206 = .ok (.iaload, 1) := by decide +kernel
theorem dL_law_1207 : decode cL_law 1207 = .ok (.aload_n 0, 1) := by decide +kernel
theorem dL_law_1208 : decode cL_law 1208 = .ok (.iload 4, 2) := by decide +kernel
theorem dL_law_1210 : decode cL_law 1210 = .ok (.iconst 3, 1) := by decide +kernel
theorem dL_law_1211 : decode cL_law 1211 = .ok (.iadd, 1) := by decide +kernel
theorem dL_law_1212 : decode cL_law 1212 = .ok (.iaload, 1) := by decide +kernel
theorem dL_law_1213 : decode cL_law 1213 = .ok (.aload_n 0, 1) := by decide +kernel
theorem dL_law_1214 : decode cL_law 1214 = .ok (.iload 4, 2) := by decide +kernel
theorem dL_law_1216 : decode cL_law 1216 = .ok (.iconst 4, 1) := by decide +kernel
theorem dL_law_1217 : decode cL_law 1217 = .ok (.iadd, 1) := by decide +kernel
theorem dL_law_1218 : decode cL_law 1218 = .ok (.iaload, 1) := by decide +kernel
theorem dL_law_1219 : decode cL_law 1219 = .ok (.invokevirtual 182, 3) := by decide +kernel
theorem dL_law_1222 : decode cL_law 1222 = .ok (.istore 6, 2) := by decide +kernel
theorem dL_law_1224 : decode cL_law 1224 = .ok (.aload_n 2, 1) := by decide +kernel
theorem dL_law_1225 : decode cL_law 1225 = .ok (.invokevirtual 183, 3) := by decide +kernel
theorem dL_law_1228 : decode cL_law 1228 = .ok (.iload 5, 2) := by decide +kernel
theorem dL_law_1230 : decode cL_law 1230 = .ok (.if_icmp .eq 5, 3) := by decide +kernel
theorem dL_law_1233 : decode cL_law 1233 = .ok (.iconst 0, 1) := by decide +kernel
theorem dL_law_1234 : decode cL_law 1234 = .ok (.ireturn, 1) := by decide +kernel
theorem dL_law_1235 : decode cL_law 1235 = .ok (.iload 5, 2) := by decide +kernel
theorem dL_law_1237 : decode cL_law 1237 = .ok (.ifCond .ne 15, 3) := by decide +kernel
theorem dL_law_1240 : decode cL_law 1240 = .ok (.aload_n 3, 1) := by decide +kernel
theorem dL_law_1241 : decode cL_law 1241 = .ok (.iconst 0, 1) := by decide +kernel
theorem dL_law_1242 : decode cL_law 1242 = .ok (.laload, 1) := by decide +kernel
theorem dL_law_1243 : decode cL_law 1243 = .ok (.iload 6, 2) := by decide +kernel
theorem dL_law_1245 : decode cL_law 1245 = .ok (.i2l, 1) := by decide +kernel
theorem dL_law_1246 : decode cL_law 1246 = .ok (.lcmp, 1) := by decide +kernel
theorem dL_law_1247 : decode cL_law 1247 = .ok (.ifCond .eq 5, 3) := by decide +kernel
theorem dL_law_1250 : decode cL_law 1250 = .ok (.iconst 0, 1) := by decide +kernel
theorem dL_law_1251 : decode cL_law 1251 = .ok (.ireturn, 1) := by decide +kernel
theorem dL_law_1252 : decode cL_law 1252 = .ok (.goto 130, 3) := by decide +kernel
theorem dL_law_1255 : decode cL_law 1255 = .ok (.aload_n 1, 1) := by decide +kernel
theorem dL_law_1256 : decode cL_law 1256 = .ok (.aload_n 0, 1) := by decide +kernel
theorem dL_law_1257 : decode cL_law 1257 = .ok (.iload 4, 2) := by decide +kernel
theorem dL_law_1259 : decode cL_law 1259 = .ok (.iconst 1, 1) := by decide +kernel
theorem dL_law_1260 : decode cL_law 1260 = .ok (.iadd, 1) := by decide +kernel
theorem dL_law_1261 : decode cL_law 1261 = .ok (.iaload, 1) := by decide +kernel
theorem dL_law_1262 : decode cL_law 1262 = .ok (.aload_n 0, 1) := by decide +kernel
theorem dL_law_1263 : decode cL_law 1263 = .ok (.iload 4, 2) := by decide +kernel
theorem dL_law_1265 : decode cL_law 1265 = .ok (.iconst 2, 1) := by decide +kernel
theorem dL_law_1266 : decode cL_law 1266 = .ok (.iadd, 1) := by decide +kernel
theorem dL_law_1267 : decode cL_law 1267 = .ok (.iaload, 1) := by decide +kernel
theorem dL_law_1268 : decode cL_law 1268 = .ok (.aload_n 0, 1) := by decide +kernel
theorem dL_law_1269 : decode cL_law 1269 = .ok (.iload 4, 2) := by decide +kernel
theorem dL_law_1271 : decode cL_law 1271 = .ok (.iconst 3, 1) := by decide +kernel
theorem dL_law_1272 : decode cL_law 1272 = .ok (.iadd, 1) := by decide +kernel
theorem dL_law_1273 : decode cL_law 1273 = .ok (.iaload, 1) := by decide +kernel
theorem dL_law_1274 : decode cL_law 1274 = .ok (.invokevirtual 186, 3) := by decide +kernel
theorem dL_law_1277 : decode cL_law 1277 = .ok (.aload_n 2, 1) := by decide +kernel
theorem dL_law_1278 : decode cL_law 1278 = .ok (.aload_n 0, 1) := by decide +kernel
theorem dL_law_1279 : decode cL_law 1279 = .ok (.iload 4, 2) := by decide +kernel
theorem dL_law_1281 : decode cL_law 1281 = .ok (.iconst 1, 1) := by decide +kernel
theorem dL_law_1282 : decode cL_law 1282 = .ok (.iadd, 1) := by decide +kernel
theorem dL_law_1283 : decode cL_law 1283 = .ok (.iaload, 1) := by decide +kernel
theorem dL_law_1284 : decode cL_law 1284 = .ok (.aload_n 0, 1) := by decide +kernel
theorem dL_law_1285 : decode cL_law 1285 = .ok (.iload 4, 2) := by decide +kernel
theorem dL_law_1287 : decode cL_law 1287 = .ok (.iconst 2, 1) := by decide +kernel
theorem dL_law_1288 : decode cL_law 1288 = .ok (.iadd, 1) := by decide +kernel
theorem dL_law_1289 : decode cL_law 1289 = .ok (.iaload, 1) := by decide +kernel
theorem dL_law_1290 : decode cL_law 1290 = .ok (.aload_n 0, 1) := by decide +kernel
theorem dL_law_1291 : decode cL_law 1291 = .ok (.iload 4, 2) := by decide +kernel
theorem dL_law_1293 : decode cL_law 1293 = .ok (.iconst 3, 1) := by decide +kernel
theorem dL_law_1294 : decode cL_law 1294 = .ok (.iadd, 1) := by decide +kernel
theorem dL_law_1295 : decode cL_law 1295 = .ok (.iaload, 1) := by decide +kernel
theorem dL_law_1296 : decode cL_law 1296 = .ok (.invokevirtual 189, 3) := by decide +kernel
theorem dL_law_1299 : decode cL_law 1299 = .ok (.if_icmp .eq 83, 3) := by decide +kernel
theorem dL_law_1302 : decode cL_law 1302 = .ok (.iconst 0, 1) := by decide +kernel
theorem dL_law_1303 : decode cL_law 1303 = .ok (.ireturn, 1) := by decide +kernel
theorem dL_law_1304 : decode cL_law 1304 = .ok (.aload_n 1, 1) := by decide +kernel
theorem dL_law_1305 : decode cL_law 1305 = .ok (.aload_n 0, 1) := by decide +kernel
theorem dL_law_1306 : decode cL_law 1306 = .ok (.iload 4, 2) := by decide +kernel
theorem dL_law_1308 : decode cL_law 1308 = .ok (.iconst 1, 1) := by decide +kernel
theorem dL_law_1309 : decode cL_law 1309 = .ok (.iadd, 1) := by decide +kernel
theorem dL_law_1310 : decode cL_law 1310 = .ok (.iaload, 1) := by decide +kernel
theorem dL_law_1311 : decode cL_law 1311 = .ok (.aload_n 0, 1) := by decide +kernel
theorem dL_law_1312 : decode cL_law 1312 = .ok (.iload 4, 2) := by decide +kernel
theorem dL_law_1314 : decode cL_law 1314 = .ok (.iconst 2, 1) := by decide +kernel
theorem dL_law_1315 : decode cL_law 1315 = .ok (.iadd, 1) := by decide +kernel
theorem dL_law_1316 : decode cL_law 1316 = .ok (.iaload, 1) := by decide +kernel
theorem dL_law_1317 : decode cL_law 1317 = .ok (.ifCond .eq 7, 3) := by decide +kernel
theorem dL_law_1320 : decode cL_law 1320 = .ok (.iconst 1, 1) := by decide +kernel
theorem dL_law_1321 : decode cL_law 1321 = .ok (.goto 4, 3) := by decide +kernel
theorem dL_law_1324 : decode cL_law 1324 = .ok (.iconst 0, 1) := by decide +kernel
theorem dL_law_1325 : decode cL_law 1325 = .ok (.invokevirtual 190, 3) := by decide +kernel
theorem dL_law_1328 : decode cL_law 1328 = .ok (.aload_n 2, 1) := by decide +kernel
theorem dL_law_1329 : decode cL_law 1329 = .ok (.aload_n 0, 1) := by decide +kernel
theorem dL_law_1330 : decode cL_law 1330 = .ok (.iload 4, 2) := by decide +kernel
theorem dL_law_1332 : decode cL_law 1332 = .ok (.iconst 1, 1) := by decide +kernel
theorem dL_law_1333 : decode cL_law 1333 = .ok (.iadd, 1) := by decide +kernel
theorem dL_law_1334 : decode cL_law 1334 = .ok (.iaload, 1) := by decide +kernel
theorem dL_law_1335 : decode cL_law 1335 = .ok (.aload_n 0, 1) := by decide +kernel
theorem dL_law_1336 : decode cL_law 1336 = .ok (.iload 4, 2) := by decide +kernel
theorem dL_law_1338 : decode cL_law 1338 = .ok (.iconst 2, 1) := by decide +kernel
theorem dL_law_1339 : decode cL_law 1339 = .ok (.iadd, 1) := by decide +kernel
theorem dL_law_1340 : decode cL_law 1340 = .ok (.iaload, 1) := by decide +kernel
theorem dL_law_1341 : decode cL_law 1341 = .ok (.ifCond .eq 7, 3) := by decide +kernel
theorem dL_law_1344 : decode cL_law 1344 = .ok (.iconst 1, 1) := by decide +kernel
theorem dL_law_1345 : decode cL_law 1345 = .ok (.goto 4, 3) := by decide +kernel
theorem dL_law_1348 : decode cL_law 1348 = .ok (.iconst 0, 1) := by decide +kernel
theorem dL_law_1349 : decode cL_law 1349 = .ok (.invokevirtual 194, 3) := by decide +kernel
theorem dL_law_1352 : decode cL_law 1352 = .ok (.if_icmp .eq 30, 3) := by decide +kernel
theorem dL_law_1355 : decode cL_law 1355 = .ok (.iconst 0, 1) := by decide +kernel
theorem dL_law_1356 : decode cL_law 1356 = .ok (.ireturn, 1) := by decide +kernel
theorem dL_law_1357 : decode cL_law 1357 = .ok (.aload_n 1, 1) := by decide +kernel
theorem dL_law_1358 : decode cL_law 1358 = .ok (.aload_n 0, 1) := by decide +kernel
theorem dL_law_1359 : decode cL_law 1359 = .ok (.iload 4, 2) := by decide +kernel
theorem dL_law_1361 : decode cL_law 1361 = .ok (.iconst 1, 1) := by decide +kernel
theorem dL_law_1362 : decode cL_law 1362 = .ok (.iadd, 1) := by decide +kernel
theorem dL_law_1363 : decode cL_law 1363 = .ok (.iaload, 1) := by decide +kernel
theorem dL_law_1364 : decode cL_law 1364 = .ok (.invokevirtual 195, 3) := by decide +kernel
theorem dL_law_1367 : decode cL_law 1367 = .ok (.aload_n 2, 1) := by decide +kernel
theorem dL_law_1368 : decode cL_law 1368 = .ok (.aload_n 0, 1) := by decide +kernel
theorem dL_law_1369 : decode cL_law 1369 = .ok (.iload 4, 2) := by decide +kernel
theorem dL_law_1371 : decode cL_law 1371 = .ok (.iconst 1, 1) := by decide +kernel
theorem dL_law_1372 : decode cL_law 1372 = .ok (.iadd, 1) := by decide +kernel
theorem dL_law_1373 : decode cL_law 1373 = .ok (.iaload, 1) := by decide +kernel
theorem dL_law_1374 : decode cL_law 1374 = .ok (.invokevirtual 198, 3) := by decide +kernel
theorem dL_law_1377 : decode cL_law 1377 = .ok (.if_icmp .eq 5, 3) := by decide +kernel
theorem dL_law_1380 : decode cL_law 1380 = .ok (.iconst 0, 1) := by decide +kernel
theorem dL_law_1381 : decode cL_law 1381 = .ok (.ireturn, 1) := by decide +kernel
theorem dL_law_1382 : decode cL_law 1382 = .ok (.iinc 4 7, 3) := by decide +kernel
theorem dL_law_1385 : decode cL_law 1385 = .ok (.goto (-1362), 3) := by decide +kernel
theorem dL_law_1388 : decode cL_law 1388 = .ok (.iconst 1, 1) := by decide +kernel
theorem dL_law_1389 : decode cL_law 1389 = .ok (.ireturn, 1) := by decide +kernel
