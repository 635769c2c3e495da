theorem dX12_standsAsAlways_24 : decode cX12_standsAsAlways 24 = .ok (.getfield 83, 3) := by decide +kernel
theorem dX12_standsAsAlways_27 : decode cX12_standsAsAlways 27 = .ok (.iload_n 1, 1) := by decide +kernel
theorem dX12_standsAsAlways_28 : decode cX12_standsAsAlways 28 = .ok (.iconst 1, 1) := by decide +kernel
theorem dX12_standsAsAlways_29 : decode cX12_standsAsAlways 29 = .ok (.iadd, 1) := by decide +kernel
theorem dX12_standsAsAlways_30 : decode cX12_standsAsAlways 30 = .ok (.iconst 1, 1) := by decide +kernel
theorem dX12_standsAsAlways_31 : decode cX12_standsAsAlways 31 = .ok (.iastore, 1) := by decide +kernel
theorem dX12_standsAsAlways_32 : decode cX12_standsAsAlways 32 = .ok (.aload_n 0, 1) := by decide +kernel
theorem dX12_standsAsAlways_33 : decode cX12_standsAsAlways 33 = .ok (.getfield 83, 3) := by decide +kernel
theorem dX12_standsAsAlways_36 : decode cX12_standsAsAlways 36 = .ok (.iload_n 1, 1) := by decide +kernel
theorem dX12_standsAsAlways_37 : decode cX12_standsAsAlways 37 = .ok (.iconst 2, 1) := by decide +kernel
theorem dX12_standsAsAlways_38 : decode cX12_standsAsAlways 38 = .ok (.iadd, 1) := by decide +kernel
theorem dX12_standsAsAlways_39 : decode cX12_standsAsAlways 39 = .ok (.iconst 5, 1) := by decide +kernel
theorem dX12_standsAsAlways_40 : decode cX12_standsAsAlways 40 = .ok (.iastore, 1) := by decide +kernel
theorem dX12_standsAsAlways_41 : decode cX12_standsAsAlways 41 = .ok (.aload_n 0, 1) := by decide +kernel
theorem dX12_standsAsAlways_42 : decode cX12_standsAsAlways 42 = .ok (.getfield 83, 3) := by decide +kernel
theorem dX12_standsAsAlways_45 : decode cX12_standsAsAlways 45 = .ok (.iload_n 1, 1) := by decide +kernel
theorem dX12_standsAsAlways_46 : decode cX12_standsAsAlways 46 = .ok (.iconst 3, 1) := by decide +kernel
theorem dX12_standsAsAlways_47 : decode cX12_standsAsAlways 47 = .ok (.iadd, 1) := by decide +kernel
theorem dX12_standsAsAlways_48 : decode cX12_standsAsAlways 48 = .ok (.iconst (-1), 1) := by decide +kernel
theorem dX12_standsAsAlways_49 : decode cX12_standsAsAlways 49 = .ok (.iastore, 1) := by decide +kernel
theorem dX12_standsAsAlways_50 : decode cX12_standsAsAlways 50 = .ok (.return_, 1) := by decide +kernel
theorem dX12_takeNumber_0 : decode cX12_takeNumber 0 = .ok (.aload_n 0, 1) := by decide +kernel
theorem dX12_takeNumber_1 : decode cX12_takeNumber 1 = .ok (.getfield 153, 3) := by decide +kernel
theorem dX12_takeNumber_4 : decode cX12_takeNumber 4 = .ok (.ifCond .ne 24, 3) := by decide +kernel
theorem dX12_takeNumber_7 : decode cX12_takeNumber 7 = .ok (.aload_n 0, 1) := by decide +kernel
theorem dX12_takeNumber_8 : decode cX12_takeNumber 8 = .ok (.getfield 24, 3) := by decide +kernel
theorem dX12_takeNumber_11 : decode cX12_takeNumber 11 = .ok (.aload_n 0, 1) := by decide +kernel
theorem dX12_takeNumber_12 : decode cX12_takeNumber 12 = .ok (.getfield 150, 3) := by decide +kernel
theorem dX12_takeNumber_15 : decode cX12_takeNumber 15 = .ok (.iaload, 1) := by decide +kernel
theorem dX12_takeNumber_16 : decode cX12_takeNumber 16 = .ok (.iconst 2, 1) := by decide +kernel
theorem dX12_takeNumber_17 : decode cX12_takeNumber 17 = .ok (.if_icmp .eq 11, 3) := by decide +kernel
theorem dX12_takeNumber_20 : decode cX12_takeNumber 20 = .ok (.aload_n 0, 1) := by decide +kernel
theorem dX12_takeNumber_21 : decode cX12_takeNumber 21 = .ok (.iconst 1, 1) := by decide +kernel
theorem dX12_takeNumber_22 : decode cX12_takeNumber 22 = .ok (.invokevirtual 159, 3) := by decide +kernel
theorem dX12_takeNumber_25 : decode cX12_takeNumber 25 = .ok (.goto 45, 3) := by decide +kernel
theorem dX12_takeNumber_28 : decode cX12_takeNumber 28 = .ok (.aload_n 0, 1) := by decide +kernel
theorem dX12_takeNumber_29 : decode cX12_takeNumber 29 = .ok (.getfield 153, 3) := by decide +kernel
theorem dX12_takeNumber_32 : decode cX12_takeNumber 32 = .ok (.ifCond .ne 38, 3) := by decide +kernel
theorem dX12_takeNumber_35 : decode cX12_takeNumber 35 = .ok (.aload_n 0, 1) := by decide +kernel
theorem dX12_takeNumber_36 : decode cX12_takeNumber 36 = .ok (.getfield 30, 3) := by decide +kernel
theorem dX12_takeNumber_39 : decode cX12_takeNumber 39 = .ok (.aload_n 0, 1) := by decide +kernel
theorem dX12_takeNumber_40 : decode cX12_takeNumber 40 = .ok (.getfield 150, 3) := by decide +kernel
theorem dX12_takeNumber_43 : decode cX12_takeNumber 43 = .ok (.laload, 1) := by decide +kernel
theorem dX12_takeNumber_44 : decode cX12_takeNumber 44 = .ok (.iload_n 1, 1) := by decide +kernel
theorem dX12_takeNumber_45 : decode cX12_takeNumber 45 = .ok (.i2l, 1) := by decide +kernel
theorem dX12_takeNumber_46 : decode cX12_takeNumber 46 = .ok (.lcmp, 1) := by decide +kernel
theorem dX12_takeNumber_47 : decode cX12_takeNumber 47 = .ok (.ifCond .lt 18, 3) := by decide +kernel
theorem dX12_takeNumber_50 : decode cX12_takeNumber 50 = .ok (.aload_n 0, 1) := by decide +kernel
theorem dX12_takeNumber_51 : decode cX12_takeNumber 51 = .ok (.getfield 30, 3) := by decide +kernel
theorem dX12_takeNumber_54 : decode cX12_takeNumber 54 = .ok (.aload_n 0, 1) := by decide +kernel
theorem dX12_takeNumber_55 : decode cX12_takeNumber 55 = .ok (.getfield 150, 3) := by decide +kernel
theorem dX12_takeNumber_58 : decode cX12_takeNumber 58 = .ok (.laload, 1) := by decide +kernel
theorem dX12_takeNumber_59 : decode cX12_takeNumber 59 = .ok (.iload_n 2, 1) := by decide +kernel
theorem dX12_takeNumber_60 : decode cX12_takeNumber 60 = .ok (.i2l, 1) := by decide +kernel
theorem dX12_takeNumber_61 : decode cX12_takeNumber 61 = .ok (.lcmp, 1) := by decide +kernel
theorem dX12_takeNumber_62 : decode cX12_takeNumber 62 = .ok (.ifCond .le 8, 3) := by decide +kernel
theorem dX12_takeNumber_65 : decode cX12_takeNumber 65 = .ok (.aload_n 0, 1) := by decide +kernel
theorem dX12_takeNumber_66 : decode cX12_takeNumber 66 = .ok (.iconst 4, 1) := by decide +kernel
theorem dX12_takeNumber_67 : decode cX12_takeNumber 67 = .ok (.invokevirtual 159, 3) := by decide +kernel
theorem dX12_takeNumber_70 : decode cX12_takeNumber 70 = .ok (.aload_n 0, 1) := by decide +kernel
theorem dX12_takeNumber_71 : decode cX12_takeNumber 71 = .ok (.getfield 153, 3) := by decide +kernel
theorem dX12_takeNumber_74 : decode cX12_takeNumber 74 = .ok (.ifCond .le 5, 3) := by decide +kernel
theorem dX12_takeNumber_77 : decode cX12_takeNumber 77 = .ok (.iconst 0, 1) := by decide +kernel
theorem dX12_takeNumber_78 : decode cX12_takeNumber 78 = .ok (.ireturn, 1) := by decide +kernel
theorem dX12_takeNumber_79 : decode cX12_takeNumber 79 = .ok (.aload_n 0, 1) := by decide +kernel
theorem dX12_takeNumber_80 : decode cX12_takeNumber 80 = .ok (.dup, 1) := by decide +kernel
theorem dX12_takeNumber_81 : decode cX12_takeNumber 81 = .ok (.getfield 150, 3) := by decide +kernel
theorem dX12_takeNumber_84 : decode cX12_takeNumber 84 = .ok (.iconst 1, 1) := by decide +kernel
theorem dX12_takeNumber_85 : decode cX12_takeNumber 85 = .ok (.iadd, 1) := by decide +kernel
theorem dX12_takeNumber_86 : decode cX12_takeNumber 86 = .ok (.putfield 150, 3) := by decide +kernel
theorem dX12_takeNumber_89 : decode cX12_takeNumber 89 = .ok (.aload_n 0, 1) := by decide +kernel
theorem dX12_takeNumber_90 : decode cX12_takeNumber 90 = .ok (.getfield 30, 3) := by decide +kernel
theorem dX12_takeNumber_93 : decode cX12_takeNumber 93 = .ok (.aload_n 0, 1) := by decide +kernel
theorem dX12_takeNumber_94 : decode cX12_takeNumber 94 = .ok (.getfield 150, 3) := by decide +kernel
theorem dX12_takeNumber_97 : decode cX12_takeNumber 97 = .ok (.iconst 1, 1) := by decide +kernel
theorem dX12_takeNumber_98 : decode cX12_takeNumber 98 = .ok (.isub, 1) := by decide +kernel
theorem dX12_takeNumber_99 : decode cX12_takeNumber 99 = .ok (.laload, 1) := by decide +kernel
theorem dX12_takeNumber_100 : decode cX12_takeNumber 100 = .ok (.l2i, 1) := by decide +kernel
theorem dX12_takeNumber_101 : decode cX12_takeNumber 101 = .ok (.ireturn, 1) := by decide +kernel
theorem dX12_takeAfter_0 : decode cX12_takeAfter 0 = .ok (.aload_n 0, 1) := by decide +kernel
theorem dX12_takeAfter_1 : decode cX12_takeAfter 1 = .ok (.iload_n 1, 1) := by decide +kernel
theorem dX12_takeAfter_2 : decode cX12_takeAfter 2 = .ok (.invokevirtual 168, 3) := by decide +kernel
theorem dX12_takeAfter_5 : decode cX12_takeAfter 5 = .ok (.aload_n 0, 1) := by decide +kernel
theorem dX12_takeAfter_6 : decode cX12_takeAfter 6 = .ok (.iload_n 2, 1) := by decide +kernel
theorem dX12_takeAfter_7 : decode cX12_takeAfter 7 = .ok (.iload_n 3, 1) := by decide +kernel
theorem dX12_takeAfter_8 : decode cX12_takeAfter 8 = .ok (.invokevirtual 171, 3) := by decide +kernel
theorem dX12_takeAfter_11 : decode cX12_takeAfter 11 = .ok (.ireturn, 1) := by decide +kernel
theorem dX12_wordHere_0 : decode cX12_wordHere 0 = .ok (.iconst (-1), 1) := by decide +kernel
theorem dX12_wordHere_1 : decode cX12_wordHere 1 = .ok (.istore_n 3, 1) := by decide +kernel
theorem dX12_wordHere_2 : decode cX12_wordHere 2 = .ok (.iconst 0, 1) := by decide +kernel
theorem dX12_wordHere_3 : decode cX12_wordHere 3 = .ok (.istore 4, 2) := by decide +kernel
theorem dX12_wordHere_5 : decode cX12_wordHere 5 = .ok (.iload 4, 2) := by decide +kernel
theorem dX12_wordHere_7 : decode cX12_wordHere 7 = .ok (.iload_n 2, 1) := by decide +kernel
theorem dX12_wordHere_8 : decode cX12_wordHere 8 = .ok (.if_icmp .ge 27, 3) := by decide +kernel
theorem dX12_wordHere_11 : decode cX12_wordHere 11 = .ok (.aload_n 0, 1) := by decide +kernel
theorem dX12_wordHere_12 : decode cX12_wordHere 12 = .ok (.iload_n 1, 1) := by decide +kernel
theorem dX12_wordHere_13 : decode cX12_wordHere 13 = .ok (.iload 4, 2) := by decide +kernel
theorem dX12_wordHere_15 : decode cX12_wordHere 15 = .ok (.iadd, 1) := by decide +kernel
theorem dX12_wordHere_16 : decode cX12_wordHere 16 = .ok (.invokevirtual 162, 3) := by decide +kernel
theorem dX12_wordHere_19 : decode cX12_wordHere 19 = .ok (.ifCond .eq 8, 3) := by decide +kernel
theorem dX12_wordHere_22 : decode cX12_wordHere 22 = .ok (.iload 4, 2) := by decide +kernel
theorem dX12_wordHere_24 : decode cX12_wordHere 24 = .ok (.goto 4, 3) := by decide +kernel
theorem dX12_wordHere_27 : decode cX12_wordHere 27 = .ok (.iload_n 3, 1) := by decide +kernel
theorem dX12_wordHere_28 : decode cX12_wordHere 28 = .ok (.istore_n 3, 1) := by decide +kernel
theorem dX12_wordHere_29 : decode cX12_wordHere 29 = .ok (.iinc 4 1, 3) := by decide +kernel
theorem dX12_wordHere_32 : decode cX12_wordHere 32 = .ok (.goto (-27), 3) := by decide +kernel
theorem dX12_wordHere_35 : decode cX12_wordHere 35 = .ok (.iload_n 3, 1) := by decide +kernel
theorem dX12_wordHere_36 : decode cX12_wordHere 36 = .ok (.ireturn, 1) := by decide +kernel
theorem dX12_takeOne_0 : decode cX12_takeOne 0 = .ok (.aload_n 0, 1) := by decide +kernel
theorem dX12_takeOne_1 : decode cX12_takeOne 1 = .ok (.getfield 153, 3) := by decide +kernel
theorem dX12_takeOne_4 : decode cX12_takeOne 4 = .ok (.ifCond .le 7, 3) := by decide +kernel
theorem dX12_takeOne_7 : decode cX12_takeOne 7 = .ok (.iconst (-1), 1) := by decide +kernel
theorem dX12_takeOne_8 : decode cX12_takeOne 8 = .ok (.goto 9, 3) := by decide +kernel
theorem dX12_takeOne_11 : decode cX12_takeOne 11 = .ok (.aload_n 0, 1) := by decide +kernel
theorem dX12_takeOne_12 : decode cX12_takeOne 12 = .ok (.iload_n 1, 1) := by decide +kernel
theorem dX12_takeOne_13 : decode cX12_takeOne 13 = .ok (.iload_n 2, 1) := by decide +kernel
theorem dX12_takeOne_14 : decode cX12_takeOne 14 = .ok (.invokevirtual 175, 3) := by decide +kernel
theorem dX12_takeOne_17 : decode cX12_takeOne 17 = .ok (.istore_n 3, 1) := by decide +kernel
theorem dX12_takeOne_18 : decode cX12_takeOne 18 = .ok (.aload_n 0, 1) := by decide +kernel
theorem dX12_takeOne_19 : decode cX12_takeOne 19 = .ok (.getfield 153, 3) := by decide +kernel
theorem dX12_takeOne_22 : decode cX12_takeOne 22 = .ok (.ifCond .ne 12, 3) := by decide +kernel
theorem dX12_takeOne_25 : decode cX12_takeOne 25 = .ok (.iload_n 3, 1) := by decide +kernel
theorem dX12_takeOne_26 : decode cX12_takeOne 26 = .ok (.ifCond .ge 8, 3) := by decide +kernel
theorem dX12_takeOne_29 : decode cX12_takeOne 29 = .ok (.aload_n 0, 1) := by decide +kernel
theorem dX12_takeOne_30 : decode cX12_takeOne 30 = .ok (.iconst 1, 1) := by decide +kernel
theorem dX12_takeOne_31 : decode cX12_takeOne 31 = .ok (.invokevirtual 159, 3) := by decide +kernel
theorem dX12_takeOne_34 : decode cX12_takeOne 34 = .ok (.aload_n 0, 1) := by decide +kernel
theorem dX12_takeOne_35 : decode cX12_takeOne 35 = .ok (.dup, 1) := by decide +kernel
theorem dX12_takeOne_36 : decode cX12_takeOne 36 = .ok (.getfield 150, 3) := by decide +kernel
theorem dX12_takeOne_39 : decode cX12_takeOne 39 = .ok (.aload_n 0, 1) := by decide +kernel
theorem dX12_takeOne_40 : decode cX12_takeOne 40 = .ok (.getfield 153, 3) := by decide +kernel
theorem dX12_takeOne_43 : decode cX12_takeOne 43 = .ok (.ifCond .le 7, 3) := by decide +kernel
theorem dX12_takeOne_46 : decode cX12_takeOne 46 = .ok (.iconst 0, 1) := by decide +kernel
theorem dX12_takeOne_47 : decode cX12_takeOne 47 = .ok (.goto 4, 3) := by decide +kernel
theorem dX12_takeOne_50 : decode cX12_takeOne 50 = .ok (.iconst 1, 1) := by decide +kernel
theorem dX12_takeOne_51 : decode cX12_takeOne 51 = .ok (.iadd, 1) := by decide +kernel
theorem dX12_takeOne_52 : decode cX12_takeOne 52 = .ok (.putfield 150, 3) := by decide +kernel
theorem dX12_takeOne_55 : decode cX12_takeOne 55 = .ok (.aload_n 0, 1) := by decide +kernel
theorem dX12_takeOne_56 : decode cX12_takeOne 56 = .ok (.getfield 153, 3) := by decide +kernel
theorem dX12_takeOne_59 : decode cX12_takeOne 59 = .ok (.ifCond .le 7, 3) := by decide +kernel
theorem dX12_takeOne_62 : decode cX12_takeOne 62 = .ok (.iconst 0, 1) := by decide +kernel
theorem dX12_takeOne_63 : decode cX12_takeOne 63 = .ok (.goto 4, 3) := by decide +kernel
theorem dX12_takeOne_66 : decode cX12_takeOne 66 = .ok (.iload_n 3, 1) := by decide +kernel
theorem dX12_takeOne_67 : decode cX12_takeOne 67 = .ok (.ireturn, 1) := by decide +kernel
theorem dX12_isName_0 : decode cX12_isName 0 = .ok (.aload_n 0, 1) := by decide +kernel
theorem dX12_isName_1 : decode cX12_isName 1 = .ok (.getfield 153, 3) := by decide +kernel
theorem dX12_isName_4 : decode cX12_isName 4 = .ok (.ifCond .ne 30, 3) := by decide +kernel
theorem dX12_isName_7 : decode cX12_isName 7 = .ok (.aload_n 0, 1) := by decide +kernel
theorem dX12_isName_8 : decode cX12_isName 8 = .ok (.getfield 24, 3) := by decide +kernel
theorem dX12_isName_11 : decode cX12_isName 11 = .ok (.aload_n 0, 1) := by decide +kernel
theorem dX12_isName_12 : decode cX12_isName 12 = .ok (.getfield 150, 3) := by decide +kernel
theorem dX12_isName_15 : decode cX12_isName 15 = .ok (.iaload, 1) := by decide +kernel
theorem dX12_isName_16 : decode cX12_isName 16 = .ok (.iconst 1, 1) := by decide +kernel
theorem dX12_isName_17 : decode cX12_isName 17 = .ok (.if_icmp .ne 17, 3) := by decide +kernel
theorem dX12_isName_20 : decode cX12_isName 20 = .ok (.aload_n 0, 1) := by decide +kernel
theorem dX12_isName_21 : decode cX12_isName 21 = .ok (.iconst 0, 1) := by decide +kernel
theorem dX12_isName_22 : decode cX12_isName 22 = .ok (.bipush 19, 2) := by decide +kernel
theorem dX12_isName_24 : decode cX12_isName 24 = .ok (.invokevirtual 175, 3) := by decide +kernel
theorem dX12_isName_27 : decode cX12_isName 27 = .ok (.ifCond .ge 7, 3) := by decide +kernel
theorem dX12_isName_30 : decode cX12_isName 30 = .ok (.iconst 1, 1) := by decide +kernel
theorem dX12_isName_31 : decode cX12_isName 31 = .ok (.goto 4, 3) := by decide +kernel
theorem dX12_isName_34 : decode cX12_isName 34 = .ok (.iconst 0, 1) := by decide +kernel
theorem dX12_isName_35 : decode cX12_isName 35 = .ok (.ireturn, 1) := by decide +kernel
theorem dX12_nameAt_0 : decode cX12_nameAt 0 = .ok (.iconst 0, 1) := by decide +kernel
theorem dX12_nameAt_1 : decode cX12_nameAt 1 = .ok (.istore_n 2, 1) := by decide +kernel
theorem dX12_nameAt_2 : decode cX12_nameAt 2 = .ok (.iload_n 2, 1) := by decide +kernel
theorem dX12_nameAt_3 : decode cX12_nameAt 3 = .ok (.iload_n 1, 1) := by decide +kernel
theorem dX12_nameAt_4 : decode cX12_nameAt 4 = .ok (.ifCond .eq 10, 3) := by decide +kernel
theorem dX12_nameAt_7 : decode cX12_nameAt 7 = .ok (.aload_n 0, 1) := by decide +kernel
theorem dX12_nameAt_8 : decode cX12_nameAt 8 = .ok (.getfield 178, 3) := by decide +kernel
theorem dX12_nameAt_11 : decode cX12_nameAt 11 = .ok (.goto 7, 3) := by decide +kernel
theorem dX12_nameAt_14 : decode cX12_nameAt 14 = .ok (.aload_n 0, 1) := by decide +kernel
theorem dX12_nameAt_15 : decode cX12_nameAt 15 = .ok (.getfield 181, 3) := by decide +kernel
theorem dX12_nameAt_18 : decode cX12_nameAt 18 = .ok (.if_icmp .ge 43, 3) := by decide +kernel
theorem dX12_nameAt_21 : decode cX12_nameAt 21 = .ok (.iload_n 1, 1) := by decide +kernel
theorem dX12_nameAt_22 : decode cX12_nameAt 22 = .ok (.ifCond .eq 12, 3) := by decide +kernel
theorem dX12_nameAt_25 : decode cX12_nameAt 25 = .ok (.aload_n 0, 1) := by decide +kernel
theorem dX12_nameAt_26 : decode cX12_nameAt 26 = .ok (.getfield 95, 3) := by decide +kernel
theorem dX12_nameAt_29 : decode cX12_nameAt 29 = .ok (.iload_n 2, 1) := by decide +kernel
theorem dX12_nameAt_30 : decode cX12_nameAt 30 = .ok (.laload, 1) := by decide +kernel
theorem dX12_nameAt_31 : decode cX12_nameAt 31 = .ok (.goto 9, 3) := by decide +kernel
theorem dX12_nameAt_34 : decode cX12_nameAt 34 = .ok (.aload_n 0, 1) := by decide +kernel
theorem dX12_nameAt_35 : decode cX12_nameAt 35 = .ok (.getfield 92, 3) := by decide +kernel
theorem dX12_nameAt_38 : decode cX12_nameAt 38 = .ok (.iload_n 2, 1) := by decide +kernel
theorem dX12_nameAt_39 : decode cX12_nameAt 39 = .ok (.laload, 1) := by decide +kernel
theorem dX12_nameAt_40 : decode cX12_nameAt 40 = .ok (.aload_n 0, 1) := by decide +kernel
theorem dX12_nameAt_41 : decode cX12_nameAt 41 = .ok (.getfield 30, 3) := by decide +kernel
theorem dX12_nameAt_44 : decode cX12_nameAt 44 = .ok (.aload_n 0, 1) := by decide +kernel
theorem dX12_nameAt_45 : decode cX12_nameAt 45 = .ok (.getfield 150, 3) := by decide +kernel
theorem dX12_nameAt_48 : decode cX12_nameAt 48 = .ok (.laload, 1) := by decide +kernel
theorem dX12_nameAt_49 : decode cX12_nameAt 49 = .ok (.lcmp, 1) := by decide +kernel
theorem dX12_nameAt_50 : decode cX12_nameAt 50 = .ok (.ifCond .ne 5, 3) := by decide +kernel
theorem dX12_nameAt_53 : decode cX12_nameAt 53 = .ok (.iload_n 2, 1) := by decide +kernel
theorem dX12_nameAt_54 : decode cX12_nameAt 54 = .ok (.ireturn, 1) := by decide +kernel
theorem dX12_nameAt_55 : decode cX12_nameAt 55 = .ok (.iinc 2 1, 3) := by decide +kernel
theorem dX12_nameAt_58 : decode cX12_nameAt 58 = .ok (.goto (-56), 3) := by decide +kernel
theorem dX12_nameAt_61 : decode cX12_nameAt 61 = .ok (.iconst (-1), 1) := by decide +kernel
theorem dX12_nameAt_62 : decode cX12_nameAt 62 = .ok (.ireturn, 1) := by decide +kernel
theorem dX12_takeTold_0 : decode cX12_takeTold 0 = .ok (.aload_n 0, 1) := by decide +kernel
theorem dX12_takeTold_1 : decode cX12_takeTold 1 = .ok (.getfield 153, 3) := by decide +kernel
theorem dX12_takeTold_4 : decode cX12_takeTold 4 = .ok (.ifCond .ne 15, 3) := by decide +kernel
theorem dX12_takeTold_7 : decode cX12_takeTold 7 = .ok (.aload_n 0, 1) := by decide +kernel
theorem dX12_takeTold_8 : decode cX12_takeTold 8 = .ok (.invokevirtual 184, 3) := by decide +kernel
theorem dX12_takeTold_11 : decode cX12_takeTold 11 = .ok (.ifCond .ne 8, 3) := by decide +kernel
theorem dX12_takeTold_14 : decode cX12_takeTold 14 = .ok (.aload_n 0, 1) := by decide +kernel
theorem dX12_takeTold_15 : decode cX12_takeTold 15 = .ok (.iconst 1, 1) := by decide +kernel
theorem dX12_takeTold_16 : decode cX12_takeTold 16 = .ok (.invokevirtual 159, 3) := by decide +kernel
theorem dX12_takeTold_19 : decode cX12_takeTold 19 = .ok (.aload_n 0, 1) := by decide +kernel
theorem dX12_takeTold_20 : decode cX12_takeTold 20 = .ok (.getfield 153, 3) := by decide +kernel
theorem dX12_takeTold_23 : decode cX12_takeTold 23 = .ok (.ifCond .le 7, 3) := by decide +kernel
theorem dX12_takeTold_26 : decode cX12_takeTold 26 = .ok (.iconst (-1), 1) := by decide +kernel
theorem dX12_takeTold_27 : decode cX12_takeTold 27 = .ok (.goto 8, 3) := by decide +kernel
theorem dX12_takeTold_30 : decode cX12_takeTold 30 = .ok (.aload_n 0, 1) := by decide +kernel
theorem dX12_takeTold_31 : decode cX12_takeTold 31 = .ok (.iconst 0, 1) := by decide +kernel
theorem dX12_takeTold_32 : decode cX12_takeTold 32 = .ok (.invokevirtual 188, 3) := by decide +kernel
theorem dX12_takeTold_35 : decode cX12_takeTold 35 = .ok (.istore_n 1, 1) := by decide +kernel
theorem dX12_takeTold_36 : decode cX12_takeTold 36 = .ok (.aload_n 0, 1) := by decide +kernel
theorem dX12_takeTold_37 : decode cX12_takeTold 37 = .ok (.getfield 153, 3) := by decide +kernel
theorem dX12_takeTold_40 : decode cX12_takeTold 40 = .ok (.ifCond .ne 12, 3) := by decide +kernel
theorem dX12_takeTold_43 : decode cX12_takeTold 43 = .ok (.iload_n 1, 1) := by decide +kernel
theorem dX12_takeTold_44 : decode cX12_takeTold 44 = .ok (.ifCond .ge 8, 3) := by decide +kernel
theorem dX12_takeTold_47 : decode cX12_takeTold 47 = .ok (.aload_n 0, 1) := by decide +kernel
theorem dX12_takeTold_48 : decode cX12_takeTold 48 = .ok (.iconst 2, 1) := by decide +kernel
theorem dX12_takeTold_49 : decode cX12_takeTold 49 = .ok (.invokevirtual 159, 3) := by decide +kernel
theorem dX12_takeTold_52 : decode cX12_takeTold 52 = .ok (.aload_n 0, 1) := by decide +kernel
theorem dX12_takeTold_53 : decode cX12_takeTold 53 = .ok (.dup, 1) := by decide +kernel
theorem dX12_takeTold_54 : decode cX12_takeTold 54 = .ok (.getfield 150, 3) := by decide +kernel
theorem dX12_takeTold_57 : decode cX12_takeTold 57 = .ok (.aload_n 0, 1) := by decide +kernel
theorem dX12_takeTold_58 : decode cX12_takeTold 58 = .ok (.getfield 153, 3) := by decide +kernel
theorem dX12_takeTold_61 : decode cX12_takeTold 61 = .ok (.ifCond .le 7, 3) := by decide +kernel
theorem dX12_takeTold_64 : decode cX12_takeTold 64 = .ok (.iconst 0, 1) := by decide +kernel
theorem dX12_takeTold_65 : decode cX12_takeTold 65 = .ok (.goto 4, 3) := by decide +kernel
theorem dX12_takeTold_68 : decode cX12_takeTold 68 = .ok (.iconst 1, 1) := by decide +kernel
theorem dX12_takeTold_69 : decode cX12_takeTold 69 = .ok (.iadd, 1) := by decide +kernel
theorem dX12_takeTold_70 : decode cX12_takeTold 70 = .ok (.putfield 150, 3) := by decide +kernel
theorem dX12_takeTold_73 : decode cX12_takeTold 73 = .ok (.aload_n 0, 1) := by decide +kernel
theorem dX12_takeTold_74 : decode cX12_takeTold 74 = .ok (.getfield 153, 3) := by decide +kernel
theorem dX12_takeTold_77 : decode cX12_takeTold 77 = .ok (.ifCond .le 7, 3) := by decide +kernel
theorem dX12_takeTold_80 : decode cX12_takeTold 80 = .ok (.iconst 0, 1) := by decide +kernel
theorem dX12_takeTold_81 : decode cX12_takeTold 81 = .ok (.goto 4, 3) := by decide +kernel
theorem dX12_takeTold_84 : decode cX12_takeTold 84 = .ok (.iload_n 1, 1) := by decide +kernel
theorem dX12_takeTold_85 : decode cX12_takeTold 85 = .ok (.ireturn, 1) := by decide +kernel
theorem dX12_grate_0 : decode cX12_grate 0 = .ok (.aload_n 0, 1) := by decide +kernel
theorem dX12_grate_1 : decode cX12_grate 1 = .ok (.iconst 0, 1) := by decide +kernel
theorem dX12_grate_2 : decode cX12_grate 2 = .ok (.putfield 1, 3) := by decide +kernel
theorem dX12_grate_5 : decode cX12_grate 5 = .ok (.aload_n 0, 1) := by decide +kernel
theorem dX12_grate_6 : decode cX12_grate 6 = .ok (.invokevirtual 192, 3) := by decide +kernel
theorem dX12_grate_9 : decode cX12_grate 9 = .ok (.aload_n 0, 1) := by decide +kernel
theorem dX12_grate_10 : decode cX12_grate 10 = .ok (.iconst 0, 1) := by decide +kernel
theorem dX12_grate_11 : decode cX12_grate 11 = .ok (.putfield 195, 3) := by decide +kernel
theorem dX12_grate_14 : decode cX12_grate 14 = .ok (.aload_n 0, 1) := by decide +kernel
theorem dX12_grate_15 : decode cX12_grate 15 = .ok (.iconst 0, 1) := by decide +kernel
theorem dX12_grate_16 : decode cX12_grate 16 = .ok (.putfield 178, 3) := by decide +kernel
theorem dX12_grate_19 : decode cX12_grate 19 = .ok (.aload_n 0, 1) := by decide +kernel
theorem dX12_grate_20 : decode cX12_grate 20 = .ok (.iconst 0, 1) := by decide +kernel
theorem dX12_grate_21 : decode cX12_grate 21 = .ok (.putfield 198, 3) := by decide +kernel
theorem dX12_grate_24 : decode cX12_grate 24 = .ok (.aload_n 0, 1) := by decide +kernel
theorem dX12_grate_25 : decode cX12_grate 25 = .ok (.bipush 50, 2) := by decide +kernel
theorem dX12_grate_27 : decode cX12_grate 27 = .ok (.invokevirtual 120, 3) := by decide +kernel
theorem dX12_grate_30 : decode cX12_grate 30 = .ok (.aload_n 0, 1) := by decide +kernel
theorem dX12_grate_31 : decode cX12_grate 31 = .ok (.getfield 153, 3) := by decide +kernel
theorem dX12_grate_34 : decode cX12_grate 34 = .ok (.ifCond .ne 43, 3) := by decide +kernel
theorem dX12_grate_37 : decode cX12_grate 37 = .ok (.aload_n 0, 1) := by decide +kernel
theorem dX12_grate_38 : decode cX12_grate 38 = .ok (.getfield 24, 3) := by decide +kernel
theorem dX12_grate_41 : decode cX12_grate 41 = .ok (.aload_n 0, 1) := by decide +kernel
theorem dX12_grate_42 : decode cX12_grate 42 = .ok (.getfield 150, 3) := by decide +kernel
theorem dX12_grate_45 : decode cX12_grate 45 = .ok (.iaload, 1) := by decide +kernel
theorem dX12_grate_46 : decode cX12_grate 46 = .ok (.ifCond .eq 31, 3) := by decide +kernel
theorem dX12_grate_49 : decode cX12_grate 49 = .ok (.aload_n 0, 1) := by decide +kernel
theorem dX12_grate_50 : decode cX12_grate 50 = .ok (.iconst 0, 1) := by decide +kernel
theorem dX12_grate_51 : decode cX12_grate 51 = .ok (.invokevirtual 162, 3) := by decide +kernel
theorem dX12_grate_54 : decode cX12_grate 54 = .ok (.ifCond .eq 10, 3) := by decide +kernel
theorem dX12_grate_57 : decode cX12_grate 57 = .ok (.aload_n 0, 1) := by decide +kernel
theorem dX12_grate_58 : decode cX12_grate 58 = .ok (.invokevirtual 201, 3) := by decide +kernel
theorem dX12_grate_61 : decode cX12_grate 61 = .ok (.goto 7, 3) := by decide +kernel
theorem dX12_grate_64 : decode cX12_grate 64 = .ok (.aload_n 0, 1) := by decide +kernel
theorem dX12_grate_65 : decode cX12_grate 65 = .ok (.invokevirtual 204, 3) := by decide +kernel
theorem dX12_grate_68 : decode cX12_grate 68 = .ok (.aload_n 0, 1) := by decide +kernel
theorem dX12_grate_69 : decode cX12_grate 69 = .ok (.bipush 59, 2) := by decide +kernel
theorem dX12_grate_71 : decode cX12_grate 71 = .ok (.invokevirtual 207, 3) := by decide +kernel
theorem dX12_grate_74 : decode cX12_grate 74 = .ok (.goto (-44), 3) := by decide +kernel
theorem dX12_grate_77 : decode cX12_grate 77 = .ok (.aload_n 0, 1) := by decide +kernel
theorem dX12_grate_78 : decode cX12_grate 78 = .ok (.getfield 153, 3) := by decide +kernel
theorem dX12_grate_81 : decode cX12_grate 81 = .ok (.ifCond .le 8, 3) := by decide +kernel
theorem dX12_grate_84 : decode cX12_grate 84 = .ok (.aload_n 0, 1) := by decide +kernel
theorem dX12_grate_85 : decode cX12_grate 85 = .ok (.getfield 153, 3) := by decide +kernel
theorem dX12_grate_88 : decode cX12_grate 88 = .ok (.ireturn, 1) := by decide +kernel
theorem dX12_grate_89 : decode cX12_grate 89 = .ok (.iconst 0, 1) := by decide +kernel
theorem dX12_grate_90 : decode cX12_grate 90 = .ok (.istore_n 1, 1) := by decide +kernel
theorem dX12_grate_91 : decode cX12_grate 91 = .ok (.iload_n 1, 1) := by decide +kernel
theorem dX12_grate_92 : decode cX12_grate 92 = .ok (.bipush 50, 2) := by decide +kernel
theorem dX12_grate_94 : decode cX12_grate 94 = .ok (.if_icmp .ge 24, 3) := by decide +kernel
theorem dX12_grate_97 : decode cX12_grate 97 = .ok (.aload_n 0, 1) := by decide +kernel
theorem dX12_grate_98 : decode cX12_grate 98 = .ok (.getfield 83, 3) := by decide +kernel
theorem dX12_grate_101 : decode cX12_grate 101 = .ok (.iload_n 1, 1) := by decide +kernel
theorem dX12_grate_102 : decode cX12_grate 102 = .ok (.aload_n 0, 1) := by decide +kernel
theorem dX12_grate_103 : decode cX12_grate 103 = .ok (.getfield 83, 3) := by decide +kernel
theorem dX12_grate_106 : decode cX12_grate 106 = .ok (.bipush 50, 2) := by decide +kernel
theorem dX12_grate_108 : decode cX12_grate 108 = .ok (.iload_n 1, 1) := by decide +kernel
theorem dX12_grate_109 : decode cX12_grate 109 = .ok (.iadd, 1) := by decide +kernel
theorem dX12_grate_110 : decode cX12_grate 110 = .ok (.iaload, 1) := by decide +kernel
theorem dX12_grate_111 : decode cX12_grate 111 = .ok (.iastore, 1) := by decide +kernel
theorem dX12_grate_112 : decode cX12_grate 112 = .ok (.iinc 1 1, 3) := by decide +kernel
theorem dX12_grate_115 : decode cX12_grate 115 = .ok (.goto (-24), 3) := by decide +kernel
theorem dX12_grate_118 : decode cX12_grate 118 = .ok (.iconst 0, 1) := by decide +kernel
theorem dX12_grate_119 : decode cX12_grate 119 = .ok (.istore_n 1, 1) := by decide +kernel
theorem dX12_grate_120 : decode cX12_grate 120 = .ok (.iload_n 1, 1) := by decide +kernel
theorem dX12_grate_121 : decode cX12_grate 121 = .ok (.aload_n 0, 1) := by decide +kernel
theorem dX12_grate_122 : decode cX12_grate 122 = .ok (.getfield 195, 3) := by decide +kernel
theorem dX12_grate_125 : decode cX12_grate 125 = .ok (.if_icmp .ge 41, 3) := by decide +kernel
theorem dX12_grate_128 : decode cX12_grate 128 = .ok (.aload_n 0, 1) := by decide +kernel
theorem dX12_grate_129 : decode cX12_grate 129 = .ok (.getfield 86, 3) := by decide +kernel
theorem dX12_grate_132 : decode cX12_grate 132 = .ok (.iload_n 1, 1) := by decide +kernel
theorem dX12_grate_133 : decode cX12_grate 133 = .ok (.aload_n 0, 1) := by decide +kernel
theorem dX12_grate_134 : decode cX12_grate 134 = .ok (.getfield 86, 3) := by decide +kernel
theorem dX12_grate_137 : decode cX12_grate 137 = .ok (.sipush 1100, 3) := by decide +kernel
theorem dX12_grate_140 : decode cX12_grate 140 = .ok (.iload_n 1, 1) := by decide +kernel
theorem dX12_grate_141 : decode cX12_grate 141 = .ok (.iadd, 1) := by decide +kernel
theorem dX12_grate_142 : decode cX12_grate 142 = .ok (.iaload, 1) := by decide +kernel
theorem dX12_grate_143 : decode cX12_grate 143 = .ok (.iastore, 1) := by decide +kernel
theorem dX12_grate_144 : decode cX12_grate 144 = .ok (.aload_n 0, 1) := by decide +kernel
theorem dX12_grate_145 : decode cX12_grate 145 = .ok (.getfield 89, 3) := by decide +kernel
theorem dX12_grate_148 : decode cX12_grate 148 = .ok (.iload_n 1, 1) := by decide +kernel
theorem dX12_grate_149 : decode cX12_grate 149 = .ok (.aload_n 0, 1) := by decide +kernel
theorem dX12_grate_150 : decode cX12_grate 150 = .ok (.getfield 89, 3) := by decide +kernel
theorem dX12_grate_153 : decode cX12_grate 153 = .ok (.sipush 1100, 3) := by decide +kernel
theorem dX12_grate_156 : decode cX12_grate 156 = .ok (.iload_n 1, 1) := by decide +kernel
theorem dX12_grate_157 : decode cX12_grate 157 = .ok (.iadd, 1) := by decide +kernel
theorem dX12_grate_158 : decode cX12_grate 158 = .ok (.iaload, 1) := by decide +kernel
theorem dX12_grate_159 : decode cX12_grate 159 = .ok (.iastore, 1) := by decide +kernel
theorem dX12_grate_160 : decode cX12_grate 160 = .ok (.iinc 1 1, 3) := by decide +kernel
theorem dX12_grate_163 : decode cX12_grate 163 = .ok (.goto (-43), 3) := by decide +kernel
theorem dX12_grate_166 : decode cX12_grate 166 = .ok (.iconst 0, 1) := by decide +kernel
theorem dX12_grate_167 : decode cX12_grate 167 = .ok (.istore_n 1, 1) := by decide +kernel
theorem dX12_grate_168 : decode cX12_grate 168 = .ok (.iload_n 1, 1) := by decide +kernel
theorem dX12_grate_169 : decode cX12_grate 169 = .ok (.aload_n 0, 1) := by decide +kernel
theorem dX12_grate_170 : decode cX12_grate 170 = .ok (.getfield 178, 3) := by decide +kernel
theorem dX12_grate_173 : decode cX12_grate 173 = .ok (.if_icmp .ge 21, 3) := by decide +kernel
theorem dX12_grate_176 : decode cX12_grate 176 = .ok (.aload_n 0, 1) := by decide +kernel
theorem dX12_grate_177 : decode cX12_grate 177 = .ok (.getfield 92, 3) := by decide +kernel
theorem dX12_grate_180 : decode cX12_grate 180 = .ok (.iload_n 1, 1) := by decide +kernel
theorem dX12_grate_181 : decode cX12_grate 181 = .ok (.aload_n 0, 1) := by decide +kernel
theorem dX12_grate_182 : decode cX12_grate 182 = .ok (.getfield 95, 3) := by decide +kernel
theorem dX12_grate_185 : decode cX12_grate 185 = .ok (.iload_n 1, 1) := by decide +kernel
theorem dX12_grate_186 : decode cX12_grate 186 = .ok (.laload, 1) := by decide +kernel
theorem dX12_grate_187 : decode cX12_grate 187 = .ok (.lastore, 1) := by decide +kernel
theorem dX12_grate_188 : decode cX12_grate 188 = .ok (.iinc 1 1, 3) := by decide +kernel
theorem dX12_grate_191 : decode cX12_grate 191 = .ok (.goto (-23), 3) := by decide +kernel
theorem dX12_grate_194 : decode cX12_grate 194 = .ok (.aload_n 0, 1) := by decide +kernel
theorem dX12_grate_195 : decode cX12_grate 195 = .ok (.aload_n 0, 1) := by decide +kernel
theorem dX12_grate_196 : decode cX12_grate 196 = .ok (.getfield 178, 3) := by decide +kernel
theorem dX12_grate_199 : decode cX12_grate 199 = .ok (.putfield 181, 3) := by decide +kernel
theorem dX12_grate_202 : decode cX12_grate 202 = .ok (.aload_n 0, 1) := by decide +kernel
theorem dX12_grate_203 : decode cX12_grate 203 = .ok (.invokevirtual 124, 3) := by decide +kernel
theorem dX12_grate_206 : decode cX12_grate 206 = .ok (.iconst 0, 1) := by decide +kernel
theorem dX12_grate_207 : decode cX12_grate 207 = .ok (.ireturn, 1) := by decide +kernel
theorem dX12_takeCell_0 : decode cX12_takeCell 0 = .ok (.aload_n 0, 1) := by decide +kernel
theorem dX12_takeCell_1 : decode cX12_takeCell 1 = .ok (.iconst 1, 1) := by decide +kernel
theorem dX12_takeCell_2 : decode cX12_takeCell 2 = .ok (.iconst 0, 1) := by decide +kernel
theorem dX12_takeCell_3 : decode cX12_takeCell 3 = .ok (.bipush 11, 2) := by decide +kernel
theorem dX12_takeCell_5 : decode cX12_takeCell 5 = .ok (.invokevirtual 210, 3) := by decide +kernel
theorem dX12_takeCell_8 : decode cX12_takeCell 8 = .ok (.istore_n 1, 1) := by decide +kernel
theorem dX12_takeCell_9 : decode cX12_takeCell 9 = .ok (.iconst 0, 1) := by decide +kernel
theorem dX12_takeCell_10 : decode cX12_takeCell 10 = .ok (.istore_n 2, 1) := by decide +kernel
theorem dX12_takeCell_11 : decode cX12_takeCell 11 = .ok (.iconst 0, 1) := by decide +kernel
theorem dX12_takeCell_12 : decode cX12_takeCell 12 = .ok (.istore_n 3, 1) := by decide +kernel
theorem dX12_takeCell_13 : decode cX12_takeCell 13 = .ok (.iload_n 3, 1) := by decide +kernel
theorem dX12_takeCell_14 : decode cX12_takeCell 14 = .ok (.aload_n 0, 1) := by decide +kernel
theorem dX12_takeCell_15 : decode cX12_takeCell 15 = .ok (.getfield 178, 3) := by decide +kernel
theorem dX12_takeCell_18 : decode cX12_takeCell 18 = .ok (.if_icmp .ge 36, 3) := by decide +kernel
theorem dX12_takeCell_21 : decode cX12_takeCell 21 = .ok (.iload_n 2, 1) := by decide +kernel
theorem dX12_takeCell_22 : decode cX12_takeCell 22 = .ok (.ifCond .ne 20, 3) := by decide +kernel
theorem dX12_takeCell_25 : decode cX12_takeCell 25 = .ok (.aload_n 0, 1) := by decide +kernel
theorem dX12_takeCell_26 : decode cX12_takeCell 26 = .ok (.getfield 83, 3) := by decide +kernel
theorem dX12_takeCell_29 : decode cX12_takeCell 29 = .ok (.bipush 54, 2) := by decide +kernel
theorem dX12_takeCell_31 : decode cX12_takeCell 31 = .ok (.iconst 4, 1) := by decide +kernel
theorem dX12_takeCell_32 : decode cX12_takeCell 32 = .ok (.iload_n 3, 1) := by decide +kernel
theorem dX12_takeCell_33 : decode cX12_takeCell 33 = .ok (.imul, 1) := by decide +kernel
theorem dX12_takeCell_34 : decode cX12_takeCell 34 = .ok (.iadd, 1) := by decide +kernel
theorem dX12_takeCell_35 : decode cX12_takeCell 35 = .ok (.iconst 1, 1) := by decide +kernel
theorem dX12_takeCell_36 : decode cX12_takeCell 36 = .ok (.iadd, 1) := by decide +kernel
theorem dX12_takeCell_37 : decode cX12_takeCell 37 = .ok (.iaload, 1) := by decide +kernel
theorem dX12_takeCell_38 : decode cX12_takeCell 38 = .ok (.iload_n 1, 1) := by decide +kernel
theorem dX12_takeCell_39 : decode cX12_takeCell 39 = .ok (.if_icmp .ne 7, 3) := by decide +kernel
theorem dX12_takeCell_42 : decode cX12_takeCell 42 = .ok (.iconst 1, 1) := by decide +kernel
theorem dX12_takeCell_43 : decode cX12_takeCell 43 = .ok (.goto 4, 3) := by decide +kernel
theorem dX12_takeCell_46 : decode cX12_takeCell 46 = .ok (.iconst 0, 1) := by decide +kernel
theorem dX12_takeCell_47 : decode cX12_takeCell 47 = .ok (.istore_n 2, 1) := by decide +kernel
theorem dX12_takeCell_48 : decode cX12_takeCell 48 = .ok (.iinc 3 1, 3) := by decide +kernel
theorem dX12_takeCell_51 : decode cX12_takeCell 51 = .ok (.goto (-38), 3) := by decide +kernel
theorem dX12_takeCell_54 : decode cX12_takeCell 54 = .ok (.aload_n 0, 1) := by decide +kernel
theorem dX12_takeCell_55 : decode cX12_takeCell 55 = .ok (.getfield 153, 3) := by decide +kernel
theorem dX12_takeCell_58 : decode cX12_takeCell 58 = .ok (.ifCond .ne 22, 3) := by decide +kernel
theorem dX12_takeCell_61 : decode cX12_takeCell 61 = .ok (.iload_n 2, 1) := by decide +kernel
theorem dX12_takeCell_62 : decode cX12_takeCell 62 = .ok (.ifCond .eq 18, 3) := by decide +kernel
theorem dX12_takeCell_65 : decode cX12_takeCell 65 = .ok (.aload_n 0, 1) := by decide +kernel
theorem dX12_takeCell_66 : decode cX12_takeCell 66 = .ok (.dup, 1) := by decide +kernel
theorem dX12_takeCell_67 : decode cX12_takeCell 67 = .ok (.getfield 150, 3) := by decide +kernel
theorem dX12_takeCell_70 : decode cX12_takeCell 70 = .ok (.iconst 1, 1) := by decide +kernel
theorem dX12_takeCell_71 : decode cX12_takeCell 71 = .ok (.isub, 1) := by decide +kernel
theorem dX12_takeCell_72 : decode cX12_takeCell 72 = .ok (.putfield 150, 3) := by decide +kernel
theorem dX12_takeCell_75 : decode cX12_takeCell 75 = .ok (.aload_n 0, 1) := by decide +kernel
theorem dX12_takeCell_76 : decode cX12_takeCell 76 = .ok (.iconst 3, 1) := by decide +kernel
theorem dX12_takeCell_77 : decode cX12_takeCell 77 = .ok (.invokevirtual 159, 3) := by decide +kernel
theorem dX12_takeCell_80 : decode cX12_takeCell 80 = .ok (.iload_n 1, 1) := by decide +kernel
theorem dX12_takeCell_81 : decode cX12_takeCell 81 = .ok (.ireturn, 1) := by decide +kernel
theorem dX12_readEmber_0 : decode cX12_readEmber 0 = .ok (.aload_n 0, 1) := by decide +kernel
theorem dX12_readEmber_1 : decode cX12_readEmber 1 = .ok (.getfield 178, 3) := by decide +kernel
theorem dX12_readEmber_4 : decode cX12_readEmber 4 = .ok (.bipush 7, 2) := by decide +kernel
theorem dX12_readEmber_6 : decode cX12_readEmber 6 = .ok (.if_icmp .ne 9, 3) := by decide +kernel
theorem dX12_readEmber_9 : decode cX12_readEmber 9 = .ok (.aload_n 0, 1) := by decide +kernel
theorem dX12_readEmber_10 : decode cX12_readEmber 10 = .ok (.iconst 5, 1) := by decide +kernel
theorem dX12_readEmber_11 : decode cX12_readEmber 11 = .ok (.invokevirtual 159, 3) := by decide +kernel
theorem dX12_readEmber_14 : decode cX12_readEmber 14 = .ok (.return_, 1) := by decide +kernel
theorem dX12_readEmber_15 : decode cX12_readEmber 15 = .ok (.aload_n 0, 1) := by decide +kernel
theorem dX12_readEmber_16 : decode cX12_readEmber 16 = .ok (.dup, 1) := by decide +kernel
theorem dX12_readEmber_17 : decode cX12_readEmber 17 = .ok (.getfield 150, 3) := by decide +kernel
theorem dX12_readEmber_20 : decode cX12_readEmber 20 = .ok (.iconst 1, 1) := by decide +kernel
theorem dX12_readEmber_21 : decode cX12_readEmber 21 = .ok (.iadd, 1) := by decide +kernel
theorem dX12_readEmber_22 : decode cX12_readEmber 22 = .ok (.putfield 150, 3) := by decide +kernel
theorem dX12_readEmber_25 : decode cX12_readEmber 25 = .ok (.aload_n 0, 1) := by decide +kernel
theorem dX12_readEmber_26 : decode cX12_readEmber 26 = .ok (.invokevirtual 184, 3) := by decide +kernel
theorem dX12_readEmber_29 : decode cX12_readEmber 29 = .ok (.ifCond .ne 11, 3) := by decide +kernel
theorem dX12_readEmber_32 : decode cX12_readEmber 32 = .ok (.aload_n 0, 1) := by decide +kernel
theorem dX12_readEmber_33 : decode cX12_readEmber 33 = .ok (.iconst 1, 1) := by decide +kernel
theorem dX12_readEmber_34 : decode cX12_readEmber 34 = .ok (.invokevirtual 159, 3) := by decide +kernel
theorem dX12_readEmber_37 : decode cX12_readEmber 37 = .ok (.goto 16, 3) := by decide +kernel
theorem dX12_readEmber_40 : decode cX12_readEmber 40 = .ok (.aload_n 0, 1) := by decide +kernel
theorem dX12_readEmber_41 : decode cX12_readEmber 41 = .ok (.iconst 1, 1) := by decide +kernel
theorem dX12_readEmber_42 : decode cX12_readEmber 42 = .ok (.invokevirtual 188, 3) := by decide +kernel
theorem dX12_readEmber_45 : decode cX12_readEmber 45 = .ok (.ifCond .lt 8, 3) := by decide +kernel
theorem dX12_readEmber_48 : decode cX12_readEmber 48 = .ok (.aload_n 0, 1) := by decide +kernel
theorem dX12_readEmber_49 : decode cX12_readEmber 49 = .ok (.iconst 3, 1) := by decide +kernel
theorem dX12_readEmber_50 : decode cX12_readEmber 50 = .ok (.invokevirtual 159, 3) := by decide +kernel
theorem dX12_readEmber_53 : decode cX12_readEmber 53 = .ok (.aload_n 0, 1) := by decide +kernel
theorem dX12_readEmber_54 : decode cX12_readEmber 54 = .ok (.getfield 153, 3) := by decide +kernel
theorem dX12_readEmber_57 : decode cX12_readEmber 57 = .ok (.ifCond .le 4, 3) := by decide +kernel
theorem dX12_readEmber_60 : decode cX12_readEmber 60 = .ok (.return_, 1) := by decide +kernel
theorem dX12_readEmber_61 : decode cX12_readEmber 61 = .ok (.aload_n 0, 1) := by decide +kernel
theorem dX12_readEmber_62 : decode cX12_readEmber 62 = .ok (.getfield 30, 3) := by decide +kernel
theorem dX12_readEmber_65 : decode cX12_readEmber 65 = .ok (.aload_n 0, 1) := by decide +kernel
theorem dX12_readEmber_66 : decode cX12_readEmber 66 = .ok (.getfield 150, 3) := by decide +kernel
theorem dX12_readEmber_69 : decode cX12_readEmber 69 = .ok (.laload, 1) := by decide +kernel
theorem dX12_readEmber_70 : decode cX12_readEmber 70 = .ok (.lstore_n 1, 1) := by decide +kernel
theorem dX12_readEmber_71 : decode cX12_readEmber 71 = .ok (.aload_n 0, 1) := by decide +kernel
theorem dX12_readEmber_72 : decode cX12_readEmber 72 = .ok (.dup, 1) := by decide +kernel
theorem dX12_readEmber_73 : decode cX12_readEmber 73 = .ok (.getfield 150, 3) := by decide +kernel
theorem dX12_readEmber_76 : decode cX12_readEmber 76 = .ok (.iconst 1, 1) := by decide +kernel
theorem dX12_readEmber_77 : decode cX12_readEmber 77 = .ok (.iadd, 1) := by decide +kernel
theorem dX12_readEmber_78 : decode cX12_readEmber 78 = .ok (.putfield 150, 3) := by decide +kernel
theorem dX12_readEmber_81 : decode cX12_readEmber 81 = .ok (.aload_n 0, 1) := by decide +kernel
theorem dX12_readEmber_82 : decode cX12_readEmber 82 = .ok (.bipush 12, 2) := by decide +kernel
theorem dX12_readEmber_84 : decode cX12_readEmber 84 = .ok (.iconst 4, 1) := by decide +kernel
theorem dX12_readEmber_85 : decode cX12_readEmber 85 = .ok (.invokevirtual 214, 3) := by decide +kernel
theorem dX12_readEmber_88 : decode cX12_readEmber 88 = .ok (.istore_n 3, 1) := by decide +kernel
theorem dX12_readEmber_89 : decode cX12_readEmber 89 = .ok (.aload_n 0, 1) := by decide +kernel
theorem dX12_readEmber_90 : decode cX12_readEmber 90 = .ok (.invokevirtual 217, 3) := by decide +kernel
theorem dX12_readEmber_93 : decode cX12_readEmber 93 = .ok (.istore 4, 2) := by decide +kernel
theorem dX12_readEmber_95 : decode cX12_readEmber 95 = .ok (.aload_n 0, 1) := by decide +kernel
theorem dX12_readEmber_96 : decode cX12_readEmber 96 = .ok (.iconst 2, 1) := by decide +kernel
theorem dX12_readEmber_97 : decode cX12_readEmber 97 = .ok (.iconst 0, 1) := by decide +kernel
theorem dX12_readEmber_98 : decode cX12_readEmber 98 = .ok (.bipush 20, 2) := by decide +kernel
theorem dX12_readEmber_100 : decode cX12_readEmber 100 = .ok (.invokevirtual 210, 3) := by decide +kernel
theorem dX12_readEmber_103 : decode cX12_readEmber 103 = .ok (.istore 5, 2) := by decide +kernel
theorem dX12_readEmber_105 : decode cX12_readEmber 105 = .ok (.aload_n 0, 1) := by decide +kernel
theorem dX12_readEmber_106 : decode cX12_readEmber 106 = .ok (.iconst 3, 1) := by decide +kernel
theorem dX12_readEmber_107 : decode cX12_readEmber 107 = .ok (.iconst 1, 1) := by decide +kernel
theorem dX12_readEmber_108 : decode cX12_readEmber 108 = .ok (.bipush 20, 2) := by decide +kernel
theorem dX12_readEmber_110 : decode cX12_readEmber 110 = .ok (.invokevirtual 210, 3) := by decide +kernel
theorem dX12_readEmber_113 : decode cX12_readEmber 113 = .ok (.istore 6, 2) := by decide +kernel
theorem dX12_readEmber_115 : decode cX12_readEmber 115 = .ok (.aload_n 0, 1) := by decide +kernel
theorem dX12_readEmber_116 : decode cX12_readEmber 116 = .ok (.getfield 153, 3) := by decide +kernel
theorem dX12_readEmber_119 : decode cX12_readEmber 119 = .ok (.ifCond .ne 86, 3) := by decide +kernel
theorem dX12_readEmber_122 : decode cX12_readEmber 122 = .ok (.bipush 54, 2) := by decide +kernel
theorem dX12_readEmber_124 : decode cX12_readEmber 124 = .ok (.iconst 4, 1) := by decide +kernel
theorem dX12_readEmber_125 : decode cX12_readEmber 125 = .ok (.aload_n 0, 1) := by decide +kernel
theorem dX12_readEmber_126 : decode cX12_readEmber 126 = .ok (.getfield 178, 3) := by decide +kernel
theorem dX12_readEmber_129 : decode cX12_readEmber 129 = .ok (.imul, 1) := by decide +kernel
theorem dX12_readEmber_130 : decode cX12_readEmber 130 = .ok (.iadd, 1) := by decide +kernel
theorem dX12_readEmber_131 : decode cX12_readEmber 131 = .ok (.istore 7, 2) := by decide +kernel
theorem dX12_readEmber_133 : decode cX12_readEmber 133 = .ok (.aload_n 0, 1) := by decide +kernel
theorem dX12_readEmber_134 : decode cX12_readEmber 134 = .ok (.getfield 83, 3) := by decide +kernel
theorem dX12_readEmber_137 : decode cX12_readEmber 137 = .ok (.iload 7, 2) := by decide +kernel
theorem dX12_readEmber_139 : decode cX12_readEmber 139 = .ok (.iload_n 3, 1) := by decide +kernel
theorem dX12_readEmber_140 : decode cX12_readEmber 140 = .ok (.iastore, 1) := by decide +kernel
theorem dX12_readEmber_141 : decode cX12_readEmber 141 = .ok (.aload_n 0, 1) := by decide +kernel
theorem dX12_readEmber_142 : decode cX12_readEmber 142 = .ok (.getfield 83, 3) := by decide +kernel
theorem dX12_readEmber_145 : decode cX12_readEmber 145 = .ok (.iload 7, 2) := by decide +kernel
theorem dX12_readEmber_147 : decode cX12_readEmber 147 = .ok (.iconst 1, 1) := by decide +kernel
theorem dX12_readEmber_148 : decode cX12_readEmber 148 = .ok (.iadd, 1) := by decide +kernel
theorem dX12_readEmber_149 : decode cX12_readEmber 149 = .ok (.iload 4, 2) := by decide +kernel
theorem dX12_readEmber_151 : decode cX12_readEmber 151 = .ok (.iastore, 1) := by decide +kernel
theorem dX12_readEmber_152 : decode cX12_readEmber 152 = .ok (.aload_n 0, 1) := by decide +kernel
theorem dX12_readEmber_153 : decode cX12_readEmber 153 = .ok (.getfield 83, 3) := by decide +kernel
theorem dX12_readEmber_156 : decode cX12_readEmber 156 = .ok (.iload 7, 2) := by decide +kernel
theorem dX12_readEmber_158 : decode cX12_readEmber 158 = .ok (.iconst 2, 1) := by decide +kernel
theorem dX12_readEmber_159 : decode cX12_readEmber 159 = .ok (.iadd, 1) := by decide +kernel
theorem dX12_readEmber_160 : decode cX12_readEmber 160 = .ok (.iload 5, 2) := by decide +kernel
theorem dX12_readEmber_162 : decode cX12_readEmber 162 = .ok (.iastore, 1) := by decide +kernel
theorem dX12_readEmber_163 : decode cX12_readEmber 163 = .ok (.aload_n 0, 1) := by decide +kernel
theorem dX12_readEmber_164 : decode cX12_readEmber 164 = .ok (.getfield 83, 3) := by decide +kernel
theorem dX12_readEmber_167 : decode cX12_readEmber 167 = .ok (.iload 7, 2) := by decide +kernel
theorem dX12_readEmber_169 : decode cX12_readEmber 169 = .ok (.iconst 3, 1) := by decide +kernel
theorem dX12_readEmber_170 : decode cX12_readEmber 170 = .ok (.iadd, 1) := by decide +kernel
theorem dX12_readEmber_171 : decode cX12_readEmber 171 = .ok (.iload 6, 2) := by decide +kernel
theorem dX12_readEmber_173 : decode cX12_readEmber 173 = .ok (.iastore, 1) := by decide +kernel
theorem dX12_readEmber_174 : decode cX12_readEmber 174 = .ok (.aload_n 0, 1) := by decide +kernel
theorem dX12_readEmber_175 : decode cX12_readEmber 175 = .ok (.getfield 95, 3) := by decide +kernel
theorem dX12_readEmber_178 : decode cX12_readEmber 178 = .ok (.aload_n 0, 1) := by decide +kernel
theorem dX12_readEmber_179 : decode cX12_readEmber 179 = .ok (.getfield 178, 3) := by decide +kernel
theorem dX12_readEmber_182 : decode cX12_readEmber 182 = .ok (.lload_n 1, 1) := by decide +kernel
theorem dX12_readEmber_183 : decode cX12_readEmber 183 = .ok (.lastore, 1) := by decide +kernel
theorem dX12_readEmber_184 : decode cX12_readEmber 184 = .ok (.aload_n 0, 1) := by decide +kernel
theorem dX12_readEmber_185 : decode cX12_readEmber 185 = .ok (.dup, 1) := by decide +kernel
theorem dX12_readEmber_186 : decode cX12_readEmber 186 = .ok (.getfield 178, 3) := by decide +kernel
theorem dX12_readEmber_189 : decode cX12_readEmber 189 = .ok (.iconst 1, 1) := by decide +kernel
theorem dX12_readEmber_190 : decode cX12_readEmber 190 = .ok (.iadd, 1) := by decide +kernel
theorem dX12_readEmber_191 : decode cX12_readEmber 191 = .ok (.putfield 178, 3) := by decide +kernel
theorem dX12_readEmber_194 : decode cX12_readEmber 194 = .ok (.aload_n 0, 1) := by decide +kernel
theorem dX12_readEmber_195 : decode cX12_readEmber 195 = .ok (.getfield 83, 3) := by decide +kernel
theorem dX12_readEmber_198 : decode cX12_readEmber 198 = .ok (.bipush 50, 2) := by decide +kernel
theorem dX12_readEmber_200 : decode cX12_readEmber 200 = .ok (.aload_n 0, 1) := by decide +kernel
theorem dX12_readEmber_201 : decode cX12_readEmber 201 = .ok (.getfield 178, 3) := by decide +kernel
theorem dX12_readEmber_204 : decode cX12_readEmber 204 = .ok (.iastore, 1) := by decide +kernel
theorem dX12_readEmber_205 : decode cX12_readEmber 205 = .ok (.return_, 1) := by decide +kernel
theorem dX12_readOnce_0 : decode cX12_readOnce 0 = .ok (.aload_n 0, 1) := by decide +kernel
theorem dX12_readOnce_1 : decode cX12_readOnce 1 = .ok (.iconst 4, 1) := by decide +kernel
theorem dX12_readOnce_2 : decode cX12_readOnce 2 = .ok (.iconst 3, 1) := by decide +kernel
theorem dX12_readOnce_3 : decode cX12_readOnce 3 = .ok (.invokevirtual 175, 3) := by decide +kernel
theorem dX12_readOnce_6 : decode cX12_readOnce 6 = .ok (.istore_n 1, 1) := by decide +kernel
theorem dX12_readOnce_7 : decode cX12_readOnce 7 = .ok (.iload_n 1, 1) := by decide +kernel
theorem dX12_readOnce_8 : decode cX12_readOnce 8 = .ok (.ifCond .ge 11, 3) := by decide +kernel
theorem dX12_readOnce_11 : decode cX12_readOnce 11 = .ok (.aload_n 0, 1) := by decide +kernel
theorem dX12_readOnce_12 : decode cX12_readOnce 12 = .ok (.iconst 1, 1) := by decide +kernel
theorem dX12_readOnce_13 : decode cX12_readOnce 13 = .ok (.invokevirtual 159, 3) := by decide +kernel
theorem dX12_readOnce_16 : decode cX12_readOnce 16 = .ok (.goto 20, 3) := by decide +kernel
theorem dX12_readOnce_19 : decode cX12_readOnce 19 = .ok (.aload_n 0, 1) := by decide +kernel
theorem dX12_readOnce_20 : decode cX12_readOnce 20 = .ok (.getfield 198, 3) := by decide +kernel
theorem dX12_readOnce_23 : decode cX12_readOnce 23 = .ok (.iload_n 1, 1) := by decide +kernel
theorem dX12_readOnce_24 : decode cX12_readOnce 24 = .ok (.ishr, 1) := by decide +kernel
theorem dX12_readOnce_25 : decode cX12_readOnce 25 = .ok (.iconst 1, 1) := by decide +kernel
theorem dX12_readOnce_26 : decode cX12_readOnce 26 = .ok (.iand, 1) := by decide +kernel
theorem dX12_readOnce_27 : decode cX12_readOnce 27 = .ok (.iconst 1, 1) := by decide +kernel
theorem dX12_readOnce_28 : decode cX12_readOnce 28 = .ok (.if_icmp .ne 8, 3) := by decide +kernel
theorem dX12_readOnce_31 : decode cX12_readOnce 31 = .ok (.aload_n 0, 1) := by decide +kernel
theorem dX12_readOnce_32 : decode cX12_readOnce 32 = .ok (.iconst 3, 1) := by decide +kernel
theorem dX12_readOnce_33 : decode cX12_readOnce 33 = .ok (.invokevirtual 159, 3) := by decide +kernel
theorem dX12_readOnce_36 : decode cX12_readOnce 36 = .ok (.aload_n 0, 1) := by decide +kernel
theorem dX12_readOnce_37 : decode cX12_readOnce 37 = .ok (.getfield 153, 3) := by decide +kernel
theorem dX12_readOnce_40 : decode cX12_readOnce 40 = .ok (.ifCond .le 4, 3) := by decide +kernel
theorem dX12_readOnce_43 : decode cX12_readOnce 43 = .ok (.return_, 1) := by decide +kernel
theorem dX12_readOnce_44 : decode cX12_readOnce 44 = .ok (.aload_n 0, 1) := by decide +kernel
theorem dX12_readOnce_45 : decode cX12_readOnce 45 = .ok (.dup, 1) := by decide +kernel
theorem dX12_readOnce_46 : decode cX12_readOnce 46 = .ok (.getfield 198, 3) := by decide +kernel
theorem dX12_readOnce_49 : decode cX12_readOnce 49 = .ok (.iconst 1, 1) := by decide +kernel
theorem dX12_readOnce_50 : decode cX12_readOnce 50 = .ok (.iload_n 1, 1) := by decide +kernel
theorem dX12_readOnce_51 : decode cX12_readOnce 51 = .ok (.ishl, 1) := by decide +kernel
theorem dX12_readOnce_52 : decode cX12_readOnce 52 = .ok (.ior, 1) := by decide +kernel
theorem dX12_readOnce_53 : decode cX12_readOnce 53 = .ok (.putfield 198, 3) := by decide +kernel
theorem dX12_readOnce_56 : decode cX12_readOnce 56 = .ok (.aload_n 0, 1) := by decide +kernel
theorem dX12_readOnce_57 : decode cX12_readOnce 57 = .ok (.dup, 1) := by decide +kernel
theorem dX12_readOnce_58 : decode cX12_readOnce 58 = .ok (.getfield 150, 3) := by decide +kernel
theorem dX12_readOnce_61 : decode cX12_readOnce 61 = .ok (.iconst 1, 1) := by decide +kernel
theorem dX12_readOnce_62 : decode cX12_readOnce 62 = .ok (.iadd, 1) := by decide +kernel
theorem dX12_readOnce_63 : decode cX12_readOnce 63 = .ok (.putfield 150, 3) := by decide +kernel
theorem dX12_readOnce_66 : decode cX12_readOnce 66 = .ok (.iload_n 1, 1) := by decide +kernel
theorem dX12_readOnce_67 : decode cX12_readOnce 67 = .ok (.ifCond .ne 10, 3) := by decide +kernel
theorem dX12_readOnce_70 : decode cX12_readOnce 70 = .ok (.aload_n 0, 1) := by decide +kernel
theorem dX12_readOnce_71 : decode cX12_readOnce 71 = .ok (.invokevirtual 221, 3) := by decide +kernel
theorem dX12_readOnce_74 : decode cX12_readOnce 74 = .ok (.goto 47, 3) := by decide +kernel
theorem dX12_readOnce_77 : decode cX12_readOnce 77 = .ok (.iload_n 1, 1) := by decide +kernel
theorem dX12_readOnce_78 : decode cX12_readOnce 78 = .ok (.iconst 1, 1) := by decide +kernel
theorem dX12_readOnce_79 : decode cX12_readOnce 79 = .ok (.if_icmp .ne 20, 3) := by decide +kernel
theorem dX12_readOnce_82 : decode cX12_readOnce 82 = .ok (.aload_n 0, 1) := by decide +kernel
theorem dX12_readOnce_83 : decode cX12_readOnce 83 = .ok (.getfield 83, 3) := by decide +kernel
theorem dX12_readOnce_86 : decode cX12_readOnce 86 = .ok (.bipush 52, 2) := by decide +kernel
theorem dX12_readOnce_88 : decode cX12_readOnce 88 = .ok (.aload_n 0, 1) := by decide +kernel
theorem dX12_readOnce_89 : decode cX12_readOnce 89 = .ok (.iconst 1, 1) := by decide +kernel
theorem dX12_readOnce_90 : decode cX12_readOnce 90 = .ok (.bipush 20, 2) := by decide +kernel
theorem dX12_readOnce_92 : decode cX12_readOnce 92 = .ok (.invokevirtual 171, 3) := by decide +kernel
theorem dX12_readOnce_95 : decode cX12_readOnce 95 = .ok (.iastore, 1) := by decide +kernel
theorem dX12_readOnce_96 : decode cX12_readOnce 96 = .ok (.goto 25, 3) := by decide +kernel
theorem dX12_readOnce_99 : decode cX12_readOnce 99 = .ok (.aload_n 0, 1) := by decide +kernel
theorem dX12_readOnce_100 : decode cX12_readOnce 100 = .ok (.getfield 83, 3) := by decide +kernel
theorem dX12_readOnce_103 : decode cX12_readOnce 103 = .ok (.bipush 53, 2) := by decide +kernel
theorem dX12_readOnce_105 : decode cX12_readOnce 105 = .ok (.aload_n 0, 1) := by decide +kernel
theorem dX12_readOnce_106 : decode cX12_readOnce 106 = .ok (.getfield 195, 3) := by decide +kernel
theorem dX12_readOnce_109 : decode cX12_readOnce 109 = .ok (.iastore, 1) := by decide +kernel
theorem dX12_readOnce_110 : decode cX12_readOnce 110 = .ok (.aload_n 0, 1) := by decide +kernel
theorem dX12_readOnce_111 : decode cX12_readOnce 111 = .ok (.iconst 0, 1) := by decide +kernel
theorem dX12_readOnce_112 : decode cX12_readOnce 112 = .ok (.invokevirtual 224, 3) := by decide +kernel
theorem dX12_readOnce_115 : decode cX12_readOnce 115 = .ok (.aload_n 0, 1) := by decide +kernel
theorem dX12_readOnce_116 : decode cX12_readOnce 116 = .ok (.iconst 0, 1) := by decide +kernel
theorem dX12_readOnce_117 : decode cX12_readOnce 117 = .ok (.iconst 0, 1) := by decide +kernel
theorem dX12_readOnce_118 : decode cX12_readOnce 118 = .ok (.invokevirtual 227, 3) := by decide +kernel
theorem dX12_readOnce_121 : decode cX12_readOnce 121 = .ok (.return_, 1) := by decide +kernel
theorem dX12_readDraught_0 : decode cX12_readDraught 0 = .ok (.iconst 0, 1) := by decide +kernel
theorem dX12_readDraught_1 : decode cX12_readDraught 1 = .ok (.istore_n 1, 1) := by decide +kernel
theorem dX12_readDraught_2 : decode cX12_readDraught 2 = .ok (.aload_n 0, 1) := by decide +kernel
theorem dX12_readDraught_3 : decode cX12_readDraught 3 = .ok (.getfield 153, 3) := by decide +kernel
theorem dX12_readDraught_6 : decode cX12_readDraught 6 = .ok (.ifCond .ne 82, 3) := by decide +kernel
theorem dX12_readDraught_9 : decode cX12_readDraught 9 = .ok (.iload_n 1, 1) := by decide +kernel
theorem dX12_readDraught_10 : decode cX12_readDraught 10 = .ok (.ifCond .eq 16, 3) := by decide +kernel
theorem dX12_readDraught_13 : decode cX12_readDraught 13 = .ok (.aload_n 0, 1) := by decide +kernel
theorem dX12_readDraught_14 : decode cX12_readDraught 14 = .ok (.getfield 24, 3) := by decide +kernel
theorem dX12_readDraught_17 : decode cX12_readDraught 17 = .ok (.aload_n 0, 1) := by decide +kernel
theorem dX12_readDraught_18 : decode cX12_readDraught 18 = .ok (.getfield 150, 3) := by decide +kernel
theorem dX12_readDraught_21 : decode cX12_readDraught 21 = .ok (.iaload, 1) := by decide +kernel
theorem dX12_readDraught_22 : decode cX12_readDraught 22 = .ok (.iconst 2, 1) := by decide +kernel
theorem dX12_readDraught_23 : decode cX12_readDraught 23 = .ok (.if_icmp .ne 65, 3) := by decide +kernel
theorem dX12_readDraught_26 : decode cX12_readDraught 26 = .ok (.aload_n 0, 1) := by decide +kernel
theorem dX12_readDraught_27 : decode cX12_readDraught 27 = .ok (.iconst 0, 1) := by decide +kernel
theorem dX12_readDraught_28 : decode cX12_readDraught 28 = .ok (.bipush 9, 2) := by decide +kernel
theorem dX12_readDraught_30 : decode cX12_readDraught 30 = .ok (.invokevirtual 171, 3) := by decide +kernel
theorem dX12_readDraught_33 : decode cX12_readDraught 33 = .ok (.istore_n 2, 1) := by decide +kernel
theorem dX12_readDraught_34 : decode cX12_readDraught 34 = .ok (.aload_n 0, 1) := by decide +kernel
theorem dX12_readDraught_35 : decode cX12_readDraught 35 = .ok (.getfield 153, 3) := by decide +kernel
theorem dX12_readDraught_38 : decode cX12_readDraught 38 = .ok (.ifCond .ne 27, 3) := by decide +kernel
theorem dX12_readDraught_41 : decode cX12_readDraught 41 = .ok (.iload_n 1, 1) := by decide +kernel
theorem dX12_readDraught_42 : decode cX12_readDraught 42 = .ok (.bipush 12, 2) := by decide +kernel
theorem dX12_readDraught_44 : decode cX12_readDraught 44 = .ok (.if_icmp .ne 21, 3) := by decide +kernel
theorem dX12_readDraught_47 : decode cX12_readDraught 47 = .ok (.aload_n 0, 1) := by decide +kernel
theorem dX12_readDraught_48 : decode cX12_readDraught 48 = .ok (.dup, 1) := by decide +kernel
theorem dX12_readDraught_49 : decode cX12_readDraught 49 = .ok (.getfield 150, 3) := by decide +kernel
theorem dX12_readDraught_52 : decode cX12_readDraught 52 = .ok (.iconst 1, 1) := by decide +kernel
theorem dX12_readDraught_53 : decode cX12_readDraught 53 = .ok (.isub, 1) := by decide +kernel
theorem dX12_readDraught_54 : decode cX12_readDraught 54 = .ok (.putfield 150, 3) := by decide +kernel
theorem dX12_readDraught_57 : decode cX12_readDraught 57 = .ok (.aload_n 0, 1) := by decide +kernel
theorem dX12_readDraught_58 : decode cX12_readDraught 58 = .ok (.iconst 5, 1) := by decide +kernel
theorem dX12_readDraught_59 : decode cX12_readDraught 59 = .ok (.invokevirtual 159, 3) := by decide +kernel
theorem dX12_readDraught_62 : decode cX12_readDraught 62 = .ok (.goto 23, 3) := by decide +kernel
theorem dX12_readDraught_65 : decode cX12_readDraught 65 = .ok (.aload_n 0, 1) := by decide +kernel
theorem dX12_readDraught_66 : decode cX12_readDraught 66 = .ok (.getfield 153, 3) := by decide +kernel
theorem dX12_readDraught_69 : decode cX12_readDraught 69 = .ok (.ifCond .ne 16, 3) := by decide +kernel
theorem dX12_readDraught_72 : decode cX12_readDraught 72 = .ok (.aload_n 0, 1) := by decide +kernel
theorem dX12_readDraught_73 : decode cX12_readDraught 73 = .ok (.getfield 83, 3) := by decide +kernel
theorem dX12_readDraught_76 : decode cX12_readDraught 76 = .ok (.bipush 82, 2) := by decide +kernel
theorem dX12_readDraught_78 : decode cX12_readDraught 78 = .ok (.iload_n 1, 1) := by decide +kernel
theorem dX12_readDraught_79 : decode cX12_readDraught 79 = .ok (.iadd, 1) := by decide +kernel
theorem dX12_readDraught_80 : decode cX12_readDraught 80 = .ok (.iload_n 2, 1) := by decide +kernel
theorem dX12_readDraught_81 : decode cX12_readDraught 81 = .ok (.iastore, 1) := by decide +kernel
theorem dX12_readDraught_82 : decode cX12_readDraught 82 = .ok (.iinc 1 1, 3) := by decide +kernel
theorem dX12_readDraught_85 : decode cX12_readDraught 85 = .ok (.goto (-83), 3) := by decide +kernel
theorem dX12_readDraught_88 : decode cX12_readDraught 88 = .ok (.aload_n 0, 1) := by decide +kernel
theorem dX12_readDraught_89 : decode cX12_readDraught 89 = .ok (.getfield 83, 3) := by decide +kernel
theorem dX12_readDraught_92 : decode cX12_readDraught 92 = .ok (.bipush 51, 2) := by decide +kernel
theorem dX12_readDraught_94 : decode cX12_readDraught 94 = .ok (.iload_n 1, 1) := by decide +kernel
theorem dX12_readDraught_95 : decode cX12_readDraught 95 = .ok (.iastore, 1) := by decide +kernel
theorem dX12_readDraught_96 : decode cX12_readDraught 96 = .ok (.return_, 1) := by decide +kernel
theorem dX12_evening_0 : decode cX12_evening 0 = .ok (.aload_n 0, 1) := by decide +kernel
theorem dX12_evening_1 : decode cX12_evening 1 = .ok (.iconst 0, 1) := by decide +kernel
theorem dX12_evening_2 : decode cX12_evening 2 = .ok (.putfield 1, 3) := by decide +kernel
theorem dX12_evening_5 : decode cX12_evening 5 = .ok (.aload_n 0, 1) := by decide +kernel
theorem dX12_evening_6 : decode cX12_evening 6 = .ok (.invokevirtual 192, 3) := by decide +kernel
theorem dX12_evening_9 : decode cX12_evening 9 = .ok (.iconst 0, 1) := by decide +kernel
theorem dX12_evening_10 : decode cX12_evening 10 = .ok (.istore_n 1, 1) := by decide +kernel
theorem dX12_evening_11 : decode cX12_evening 11 = .ok (.aload_n 0, 1) := by decide +kernel
theorem dX12_evening_12 : decode cX12_evening 12 = .ok (.getfield 153, 3) := by decide +kernel
theorem dX12_evening_15 : decode cX12_evening 15 = .ok (.ifCond .ne 150, 3) := by decide +kernel
theorem dX12_evening_18 : decode cX12_evening 18 = .ok (.aload_n 0, 1) := by decide +kernel
theorem dX12_evening_19 : decode cX12_evening 19 = .ok (.getfield 24, 3) := by decide +kernel
theorem dX12_evening_22 : decode cX12_evening 22 = .ok (.aload_n 0, 1) := by decide +kernel
theorem dX12_evening_23 : decode cX12_evening 23 = .ok (.getfield 150, 3) := by decide +kernel
theorem dX12_evening_26 : decode cX12_evening 26 = .ok (.iaload, 1) := by decide +kernel
theorem dX12_evening_27 : decode cX12_evening 27 = .ok (.ifCond .eq 138, 3) := by decide +kernel
theorem dX12_evening_30 : decode cX12_evening 30 = .ok (.aload_n 0, 1) := by decide +kernel
theorem dX12_evening_31 : decode cX12_evening 31 = .ok (.bipush 7, 2) := by decide +kernel
theorem dX12_evening_33 : decode cX12_evening 33 = .ok (.iconst 5, 1) := by decide +kernel
theorem dX12_evening_34 : decode cX12_evening 34 = .ok (.invokevirtual 175, 3) := by decide +kernel
theorem dX12_evening_37 : decode cX12_evening 37 = .ok (.istore_n 2, 1) := by decide +kernel
theorem dX12_evening_38 : decode cX12_evening 38 = .ok (.iload_n 2, 1) := by decide +kernel
theorem dX12_evening_39 : decode cX12_evening 39 = .ok (.ifCond .ge 11, 3) := by decide +kernel
theorem dX12_evening_42 : decode cX12_evening 42 = .ok (.aload_n 0, 1) := by decide +kernel
theorem dX12_evening_43 : decode cX12_evening 43 = .ok (.iconst 1, 1) := by decide +kernel
theorem dX12_evening_44 : decode cX12_evening 44 = .ok (.invokevirtual 159, 3) := by decide +kernel
theorem dX12_evening_47 : decode cX12_evening 47 = .ok (.goto 109, 3) := by decide +kernel
theorem dX12_evening_50 : decode cX12_evening 50 = .ok (.iload_n 1, 1) := by decide +kernel
theorem dX12_evening_51 : decode cX12_evening 51 = .ok (.bipush 40, 2) := by decide +kernel
theorem dX12_evening_53 : decode cX12_evening 53 = .ok (.if_icmp .ne 11, 3) := by decide +kernel
theorem dX12_evening_56 : decode cX12_evening 56 = .ok (.aload_n 0, 1) := by decide +kernel
theorem dX12_evening_57 : decode cX12_evening 57 = .ok (.iconst 5, 1) := by decide +kernel
theorem dX12_evening_58 : decode cX12_evening 58 = .ok (.invokevirtual 159, 3) := by decide +kernel
theorem dX12_evening_61 : decode cX12_evening 61 = .ok (.goto 95, 3) := by decide +kernel
theorem dX12_evening_64 : decode cX12_evening 64 = .ok (.aload_n 0, 1) := by decide +kernel
theorem dX12_evening_65 : decode cX12_evening 65 = .ok (.dup, 1) := by decide +kernel
theorem dX12_evening_66 : decode cX12_evening 66 = .ok (.getfield 150, 3) := by decide +kernel
theorem dX12_evening_69 : decode cX12_evening 69 = .ok (.iconst 1, 1) := by decide +kernel
theorem dX12_evening_70 : decode cX12_evening 70 = .ok (.iadd, 1) := by decide +kernel
theorem dX12_evening_71 : decode cX12_evening 71 = .ok (.putfield 150, 3) := by decide +kernel
theorem dX12_evening_74 : decode cX12_evening 74 = .ok (.aload_n 0, 1) := by decide +kernel
theorem dX12_evening_75 : decode cX12_evening 75 = .ok (.getfield 98, 3) := by decide +kernel
theorem dX12_evening_78 : decode cX12_evening 78 = .ok (.bipush 125, 2) := by decide +kernel
theorem dX12_evening_80 : decode cX12_evening 80 = .ok (.iconst 3, 1) := by decide +kernel
theorem dX12_evening_81 : decode cX12_evening 81 = .ok (.iload_n 1, 1) := by decide +kernel
theorem dX12_evening_82 : decode cX12_evening 82 = .ok (.imul, 1) := by decide +kernel
theorem dX12_evening_83 : decode cX12_evening 83 = .ok (.iadd, 1) := by decide +kernel
theorem dX12_evening_84 : decode cX12_evening 84 = .ok (.iload_n 2, 1) := by decide +kernel
theorem dX12_evening_85 : decode cX12_evening 85 = .ok (.iastore, 1) := by decide +kernel
theorem dX12_evening_86 : decode cX12_evening 86 = .ok (.aload_n 0, 1) := by decide +kernel
theorem dX12_evening_87 : decode cX12_evening 87 = .ok (.getfield 98, 3) := by decide +kernel
theorem dX12_evening_90 : decode cX12_evening 90 = .ok (.bipush 126, 2) := by decide +kernel
theorem dX12_evening_92 : decode cX12_evening 92 = .ok (.iconst 3, 1) := by decide +kernel
theorem dX12_evening_93 : decode cX12_evening 93 = .ok (.iload_n 1, 1) := by decide +kernel
theorem dX12_evening_94 : decode cX12_evening 94 = .ok (.imul, 1) := by decide +kernel
theorem dX12_evening_95 : decode cX12_evening 95 = .ok (.iadd, 1) := by decide +kernel
theorem dX12_evening_96 : decode cX12_evening 96 = .ok (.iload_n 2, 1) := by decide +kernel
theorem dX12_evening_97 : decode cX12_evening 97 = .ok (.iconst 4, 1) := by decide +kernel
theorem dX12_evening_98 : decode cX12_evening 98 = .ok (.irem, 1) := by decide +kernel
theorem dX12_evening_99 : decode cX12_evening 99 = .ok (.ifCond .ne 7, 3) := by decide +kernel
theorem dX12_evening_102 : decode cX12_evening 102 = .ok (.iconst 0, 1) := by decide +kernel
theorem dX12_evening_103 : decode cX12_evening 103 = .ok (.goto 7, 3) := by decide +kernel
theorem dX12_evening_106 : decode cX12_evening 106 = .ok (.aload_n 0, 1) := by decide +kernel
theorem dX12_evening_107 : decode cX12_evening 107 = .ok (.invokevirtual 231, 3) := by decide +kernel
theorem dX12_evening_110 : decode cX12_evening 110 = .ok (.iastore, 1) := by decide +kernel
theorem dX12_evening_111 : decode cX12_evening 111 = .ok (.aload_n 0, 1) := by decide +kernel
theorem dX12_evening_112 : decode cX12_evening 112 = .ok (.getfield 98, 3) := by decide +kernel
theorem dX12_evening_115 : decode cX12_evening 115 = .ok (.bipush 127, 2) := by decide +kernel
theorem dX12_evening_117 : decode cX12_evening 117 = .ok (.iconst 3, 1) := by decide +kernel
theorem dX12_evening_118 : decode cX12_evening 118 = .ok (.iload_n 1, 1) := by decide +kernel
theorem dX12_evening_119 : decode cX12_evening 119 = .ok (.imul, 1) := by decide +kernel
theorem dX12_evening_120 : decode cX12_evening 120 = .ok (.iadd, 1) := by decide +kernel
theorem dX12_evening_121 : decode cX12_evening 121 = .ok (.iload_n 2, 1) := by decide +kernel
theorem dX12_evening_122 : decode cX12_evening 122 = .ok (.iconst 2, 1) := by decide +kernel
theorem dX12_evening_123 : decode cX12_evening 123 = .ok (.if_icmp .ne 13, 3) := by decide +kernel
theorem dX12_evening_126 : decode cX12_evening 126 = .ok (.aload_n 0, 1) := by decide +kernel
theorem dX12_evening_127 : decode cX12_evening 127 = .ok (.iconst 0, 1) := by decide +kernel
theorem dX12_evening_128 : decode cX12_evening 128 = .ok (.bipush 11, 2) := by decide +kernel
theorem dX12_evening_130 : decode cX12_evening 130 = .ok (.invokevirtual 171, 3) := by decide +kernel
theorem dX12_evening_133 : decode cX12_evening 133 = .ok (.goto 19, 3) := by decide +kernel
theorem dX12_evening_136 : decode cX12_evening 136 = .ok (.iload_n 2, 1) := by decide +kernel
theorem dX12_evening_137 : decode cX12_evening 137 = .ok (.iconst 3, 1) := by decide +kernel
theorem dX12_evening_138 : decode cX12_evening 138 = .ok (.if_icmp .ne 13, 3) := by decide +kernel
theorem dX12_evening_141 : decode cX12_evening 141 = .ok (.aload_n 0, 1) := by decide +kernel
theorem dX12_evening_142 : decode cX12_evening 142 = .ok (.iconst 1, 1) := by decide +kernel
theorem dX12_evening_143 : decode cX12_evening 143 = .ok (.bipush 9, 2) := by decide +kernel
theorem dX12_evening_145 : decode cX12_evening 145 = .ok (.invokevirtual 171, 3) := by decide +kernel
theorem dX12_evening_148 : decode cX12_evening 148 = .ok (.goto 4, 3) := by decide +kernel
theorem dX12_evening_151 : decode cX12_evening 151 = .ok (.iconst 0, 1) := by decide +kernel
theorem dX12_evening_152 : decode cX12_evening 152 = .ok (.iastore, 1) := by decide +kernel
theorem dX12_evening_153 : decode cX12_evening 153 = .ok (.iinc 1 1, 3) := by decide +kernel
theorem dX12_evening_156 : decode cX12_evening 156 = .ok (.aload_n 0, 1) := by decide +kernel
theorem dX12_evening_157 : decode cX12_evening 157 = .ok (.bipush 59, 2) := by decide +kernel
theorem dX12_evening_159 : decode cX12_evening 159 = .ok (.invokevirtual 207, 3) := by decide +kernel
theorem dX12_evening_162 : decode cX12_evening 162 = .ok (.goto (-151), 3) := by decide +kernel
theorem dX12_evening_165 : decode cX12_evening 165 = .ok (.aload_n 0, 1) := by decide +kernel
theorem dX12_evening_166 : decode cX12_evening 166 = .ok (.getfield 153, 3) := by decide +kernel
theorem dX12_evening_169 : decode cX12_evening 169 = .ok (.ifCond .le 8, 3) := by decide +kernel
theorem dX12_evening_172 : decode cX12_evening 172 = .ok (.aload_n 0, 1) := by decide +kernel
theorem dX12_evening_173 : decode cX12_evening 173 = .ok (.getfield 153, 3) := by decide +kernel
theorem dX12_evening_176 : decode cX12_evening 176 = .ok (.ireturn, 1) := by decide +kernel
theorem dX12_evening_177 : decode cX12_evening 177 = .ok (.aload_n 0, 1) := by decide +kernel
theorem dX12_evening_178 : decode cX12_evening 178 = .ok (.getfield 98, 3) := by decide +kernel
theorem dX12_evening_181 : decode cX12_evening 181 = .ok (.iconst 0, 1) := by decide +kernel
theorem dX12_evening_182 : decode cX12_evening 182 = .ok (.iload_n 1, 1) := by decide +kernel
theorem dX12_evening_183 : decode cX12_evening 183 = .ok (.iastore, 1) := by decide +kernel
theorem dX12_evening_184 : decode cX12_evening 184 = .ok (.iconst 0, 1) := by decide +kernel
theorem dX12_evening_185 : decode cX12_evening 185 = .ok (.istore_n 2, 1) := by decide +kernel
theorem dX12_evening_186 : decode cX12_evening 186 = .ok (.iload_n 2, 1) := by decide +kernel
theorem dX12_evening_187 : decode cX12_evening 187 = .ok (.iconst 3, 1) := by decide +kernel
theorem dX12_evening_188 : decode cX12_evening 188 = .ok (.iload_n 1, 1) := by decide +kernel
theorem dX12_evening_189 : decode cX12_evening 189 = .ok (.imul, 1) := by decide +kernel
theorem dX12_evening_190 : decode cX12_evening 190 = .ok (.if_icmp .ge 26, 3) := by decide +kernel
theorem dX12_evening_193 : decode cX12_evening 193 = .ok (.aload_n 0, 1) := by decide +kernel
theorem dX12_evening_194 : decode cX12_evening 194 = .ok (.getfield 98, 3) := by decide +kernel
theorem dX12_evening_197 : decode cX12_evening 197 = .ok (.iconst 1, 1) := by decide +kernel
theorem dX12_evening_198 : decode cX12_evening 198 = .ok (.iload_n 2, 1) := by decide +kernel
theorem dX12_evening_199 : decode cX12_evening 199 = .ok (.iadd, 1) := by decide +kernel
theorem dX12_evening_200 : decode cX12_evening 200 = .ok (.aload_n 0, 1) := by decide +kernel
theorem dX12_evening_201 : decode cX12_evening 201 = .ok (.getfield 98, 3) := by decide +kernel
theorem dX12_evening_204 : decode cX12_evening 204 = .ok (.bipush 125, 2) := by decide +kernel
theorem dX12_evening_206 : decode cX12_evening 206 = .ok (.iload_n 2, 1) := by decide +kernel
theorem dX12_evening_207 : decode cX12_evening 207 = .ok (.iadd, 1) := by decide +kernel
theorem dX12_evening_208 : decode cX12_evening 208 = .ok (.iaload, 1) := by decide +kernel
theorem dX12_evening_209 : decode cX12_evening 209 = .ok (.iastore, 1) := by decide +kernel
theorem dX12_evening_210 : decode cX12_evening 210 = .ok (.iinc 2 1, 3) := by decide +kernel
theorem dX12_evening_213 : decode cX12_evening 213 = .ok (.goto (-27), 3) := by decide +kernel
theorem dX12_evening_216 : decode cX12_evening 216 = .ok (.iconst 0, 1) := by decide +kernel
theorem dX12_evening_217 : decode cX12_evening 217 = .ok (.ireturn, 1) := by decide +kernel
theorem dX12_emit_0 : decode cX12_emit 0 = .ok (.aload_n 0, 1) := by decide +kernel
theorem dX12_emit_1 : decode cX12_emit 1 = .ok (.getfield 86, 3) := by decide +kernel
theorem dX12_emit_4 : decode cX12_emit 4 = .ok (.sipush 1100, 3) := by decide +kernel
theorem dX12_emit_7 : decode cX12_emit 7 = .ok (.aload_n 0, 1) := by decide +kernel
theorem dX12_emit_8 : decode cX12_emit 8 = .ok (.getfield 195, 3) := by decide +kernel
theorem dX12_emit_11 : decode cX12_emit 11 = .ok (.iadd, 1) := by decide +kernel
theorem dX12_emit_12 : decode cX12_emit 12 = .ok (.iload_n 1, 1) := by decide +kernel
theorem dX12_emit_13 : decode cX12_emit 13 = .ok (.iastore, 1) := by decide +kernel
theorem dX12_emit_14 : decode cX12_emit 14 = .ok (.aload_n 0, 1) := by decide +kernel
theorem dX12_emit_15 : decode cX12_emit 15 = .ok (.getfield 89, 3) := by decide +kernel
theorem dX12_emit_18 : decode cX12_emit 18 = .ok (.sipush 1100, 3) := by decide +kernel
theorem dX12_emit_21 : decode cX12_emit 21 = .ok (.aload_n 0, 1) := by decide +kernel
theorem dX12_emit_22 : decode cX12_emit 22 = .ok (.getfield 195, 3) := by decide +kernel
theorem dX12_emit_25 : decode cX12_emit 25 = .ok (.iadd, 1) := by decide +kernel
theorem dX12_emit_26 : decode cX12_emit 26 = .ok (.iload_n 2, 1) := by decide +kernel
theorem dX12_emit_27 : decode cX12_emit 27 = .ok (.iastore, 1) := by decide +kernel
theorem dX12_emit_28 : decode cX12_emit 28 = .ok (.aload_n 0, 1) := by decide +kernel
theorem dX12_emit_29 : decode cX12_emit 29 = .ok (.dup, 1) := by decide +kernel
theorem dX12_emit_30 : decode cX12_emit 30 = .ok (.getfield 195, 3) := by decide +kernel
theorem dX12_emit_33 : decode cX12_emit 33 = .ok (.iconst 1, 1) := by decide +kernel
theorem dX12_emit_34 : decode cX12_emit 34 = .ok (.iadd, 1) := by decide +kernel
theorem dX12_emit_35 : decode cX12_emit 35 = .ok (.putfield 195, 3) := by decide +kernel
theorem dX12_emit_38 : decode cX12_emit 38 = .ok (.return_, 1) := by decide +kernel
theorem dX12_whole_0 : decode cX12_whole 0 = .ok (.aload_n 0, 1) := by decide +kernel
theorem dX12_whole_1 : decode cX12_whole 1 = .ok (.iload_n 1, 1) := by decide +kernel
theorem dX12_whole_2 : decode cX12_whole 2 = .ok (.invokevirtual 234, 3) := by decide +kernel
theorem dX12_whole_5 : decode cX12_whole 5 = .ok (.aload_n 0, 1) := by decide +kernel
theorem dX12_whole_6 : decode cX12_whole 6 = .ok (.bipush 17, 2) := by decide +kernel
theorem dX12_whole_8 : decode cX12_whole 8 = .ok (.invokevirtual 162, 3) := by decide +kernel
theorem dX12_whole_11 : decode cX12_whole 11 = .ok (.ifCond .ne 12, 3) := by decide +kernel
theorem dX12_whole_14 : decode cX12_whole 14 = .ok (.aload_n 0, 1) := by decide +kernel
theorem dX12_whole_15 : decode cX12_whole 15 = .ok (.bipush 18, 2) := by decide +kernel
theorem dX12_whole_17 : decode cX12_whole 17 = .ok (.invokevirtual 162, 3) := by decide +kernel
theorem dX12_whole_20 : decode cX12_whole 20 = .ok (.ifCond .eq 44, 3) := by decide +kernel
theorem dX12_whole_23 : decode cX12_whole 23 = .ok (.aload_n 0, 1) := by decide +kernel
theorem dX12_whole_24 : decode cX12_whole 24 = .ok (.bipush 17, 2) := by decide +kernel
theorem dX12_whole_26 : decode cX12_whole 26 = .ok (.invokevirtual 162, 3) := by decide +kernel
theorem dX12_whole_29 : decode cX12_whole 29 = .ok (.istore_n 2, 1) := by decide +kernel
theorem dX12_whole_30 : decode cX12_whole 30 = .ok (.aload_n 0, 1) := by decide +kernel
theorem dX12_whole_31 : decode cX12_whole 31 = .ok (.dup, 1) := by decide +kernel
theorem dX12_whole_32 : decode cX12_whole 32 = .ok (.getfield 150, 3) := by decide +kernel
theorem dX12_whole_35 : decode cX12_whole 35 = .ok (.iconst 1, 1) := by decide +kernel
theorem dX12_whole_36 : decode cX12_whole 36 = .ok (.iadd, 1) := by decide +kernel
theorem dX12_whole_37 : decode cX12_whole 37 = .ok (.putfield 150, 3) := by decide +kernel
theorem dX12_whole_40 : decode cX12_whole 40 = .ok (.aload_n 0, 1) := by decide +kernel
theorem dX12_whole_41 : decode cX12_whole 41 = .ok (.iload_n 1, 1) := by decide +kernel
theorem dX12_whole_42 : decode cX12_whole 42 = .ok (.invokevirtual 234, 3) := by decide +kernel
theorem dX12_whole_45 : decode cX12_whole 45 = .ok (.aload_n 0, 1) := by decide +kernel
theorem dX12_whole_46 : decode cX12_whole 46 = .ok (.iload_n 2, 1) := by decide +kernel
theorem dX12_whole_47 : decode cX12_whole 47 = .ok (.ifCond .eq 8, 3) := by decide +kernel
theorem dX12_whole_50 : decode cX12_whole 50 = .ok (.bipush 9, 2) := by decide +kernel
theorem dX12_whole_52 : decode cX12_whole 52 = .ok (.goto 5, 3) := by decide +kernel
theorem dX12_whole_55 : decode cX12_whole 55 = .ok (.bipush 10, 2) := by decide +kernel
theorem dX12_whole_57 : decode cX12_whole 57 = .ok (.iconst 0, 1) := by decide +kernel
theorem dX12_whole_58 : decode cX12_whole 58 = .ok (.invokevirtual 227, 3) := by decide +kernel
theorem dX12_whole_61 : decode cX12_whole 61 = .ok (.goto (-56), 3) := by decide +kernel
theorem dX12_whole_64 : decode cX12_whole 64 = .ok (.return_, 1) := by decide +kernel
theorem dX12_test_0 : decode cX12_test 0 = .ok (.aload_n 0, 1) := by decide +kernel
theorem dX12_test_1 : decode cX12_test 1 = .ok (.iload_n 1, 1) := by decide +kernel
theorem dX12_test_2 : decode cX12_test 2 = .ok (.invokevirtual 237, 3) := by decide +kernel
theorem dX12_test_5 : decode cX12_test 5 = .ok (.aload_n 0, 1) := by decide +kernel
theorem dX12_test_6 : decode cX12_test 6 = .ok (.bipush 60, 2) := by decide +kernel
theorem dX12_test_8 : decode cX12_test 8 = .ok (.invokevirtual 156, 3) := by decide +kernel
theorem dX12_test_11 : decode cX12_test 11 = .ok (.istore_n 2, 1) := by decide +kernel
theorem dX12_test_12 : decode cX12_test 12 = .ok (.aload_n 0, 1) := by decide +kernel
theorem dX12_test_13 : decode cX12_test 13 = .ok (.bipush 60, 2) := by decide +kernel
theorem dX12_test_15 : decode cX12_test 15 = .ok (.invokevirtual 240, 3) := by decide +kernel
theorem dX12_test_18 : decode cX12_test 18 = .ok (.ifCond .ne 12, 3) := by decide +kernel
theorem dX12_test_21 : decode cX12_test 21 = .ok (.aload_n 0, 1) := by decide +kernel
theorem dX12_test_22 : decode cX12_test 22 = .ok (.bipush 61, 2) := by decide +kernel
theorem dX12_test_24 : decode cX12_test 24 = .ok (.invokevirtual 240, 3) := by decide +kernel
theorem dX12_test_27 : decode cX12_test 27 = .ok (.ifCond .eq 24, 3) := by decide +kernel
theorem dX12_test_30 : decode cX12_test 30 = .ok (.aload_n 0, 1) := by decide +kernel
theorem dX12_test_31 : decode cX12_test 31 = .ok (.iload_n 1, 1) := by decide +kernel
theorem dX12_test_32 : decode cX12_test 32 = .ok (.invokevirtual 237, 3) := by decide +kernel
theorem dX12_test_35 : decode cX12_test 35 = .ok (.aload_n 0, 1) := by decide +kernel
theorem dX12_test_36 : decode cX12_test 36 = .ok (.iload_n 2, 1) := by decide +kernel
theorem dX12_test_37 : decode cX12_test 37 = .ok (.ifCond .eq 8, 3) := by decide +kernel
theorem dX12_test_40 : decode cX12_test 40 = .ok (.bipush 7, 2) := by decide +kernel
theorem dX12_test_42 : decode cX12_test 42 = .ok (.goto 5, 3) := by decide +kernel
theorem dX12_test_45 : decode cX12_test 45 = .ok (.bipush 8, 2) := by decide +kernel
theorem dX12_test_47 : decode cX12_test 47 = .ok (.iconst 0, 1) := by decide +kernel
theorem dX12_test_48 : decode cX12_test 48 = .ok (.invokevirtual 227, 3) := by decide +kernel
theorem dX12_test_51 : decode cX12_test 51 = .ok (.return_, 1) := by decide +kernel
theorem dX12_sums_0 : decode cX12_sums 0 = .ok (.aload_n 0, 1) := by decide +kernel
theorem dX12_sums_1 : decode cX12_sums 1 = .ok (.iload_n 1, 1) := by decide +kernel
theorem dX12_sums_2 : decode cX12_sums 2 = .ok (.invokevirtual 243, 3) := by decide +kernel
theorem dX12_sums_5 : decode cX12_sums 5 = .ok (.aload_n 0, 1) := by decide +kernel
theorem dX12_sums_6 : decode cX12_sums 6 = .ok (.bipush 43, 2) := by decide +kernel
theorem dX12_sums_8 : decode cX12_sums 8 = .ok (.invokevirtual 156, 3) := by decide +kernel
theorem dX12_sums_11 : decode cX12_sums 11 = .ok (.ifCond .ne 12, 3) := by decide +kernel
theorem dX12_sums_14 : decode cX12_sums 14 = .ok (.aload_n 0, 1) := by decide +kernel
theorem dX12_sums_15 : decode cX12_sums 15 = .ok (.bipush 45, 2) := by decide +kernel
theorem dX12_sums_17 : decode cX12_sums 17 = .ok (.invokevirtual 156, 3) := by decide +kernel
theorem dX12_sums_20 : decode cX12_sums 20 = .ok (.ifCond .eq 42, 3) := by decide +kernel
theorem dX12_sums_23 : decode cX12_sums 23 = .ok (.aload_n 0, 1) := by decide +kernel
theorem dX12_sums_24 : decode cX12_sums 24 = .ok (.bipush 43, 2) := by decide +kernel
theorem dX12_sums_26 : decode cX12_sums 26 = .ok (.invokevirtual 156, 3) := by decide +kernel
theorem dX12_sums_29 : decode cX12_sums 29 = .ok (.istore_n 2, 1) := by decide +kernel
theorem dX12_sums_30 : decode cX12_sums 30 = .ok (.aload_n 0, 1) := by decide +kernel
theorem dX12_sums_31 : decode cX12_sums 31 = .ok (.dup, 1) := by decide +kernel
theorem dX12_sums_32 : decode cX12_sums 32 = .ok (.getfield 150, 3) := by decide +kernel
theorem dX12_sums_35 : decode cX12_sums 35 = .ok (.iconst 1, 1) := by decide +kernel
theorem dX12_sums_36 : decode cX12_sums 36 = .ok (.iadd, 1) := by decide +kernel
theorem dX12_sums_37 : decode cX12_sums 37 = .ok (.putfield 150, 3) := by decide +kernel
theorem dX12_sums_40 : decode cX12_sums 40 = .ok (.aload_n 0, 1) := by decide +kernel
theorem dX12_sums_41 : decode cX12_sums 41 = .ok (.iload_n 1, 1) := by decide +kernel
theorem dX12_sums_42 : decode cX12_sums 42 = .ok (.invokevirtual 243, 3) := by decide +kernel
theorem dX12_sums_45 : decode cX12_sums 45 = .ok (.aload_n 0, 1) := by decide +kernel
theorem dX12_sums_46 : decode cX12_sums 46 = .ok (.iload_n 2, 1) := by decide +kernel
theorem dX12_sums_47 : decode cX12_sums 47 = .ok (.ifCond .eq 7, 3) := by decide +kernel
theorem dX12_sums_50 : decode cX12_sums 50 = .ok (.iconst 4, 1) := by decide +kernel
theorem dX12_sums_51 : decode cX12_sums 51 = .ok (.goto 4, 3) := by decide +kernel
theorem dX12_sums_54 : decode cX12_sums 54 = .ok (.iconst 5, 1) := by decide +kernel
theorem dX12_sums_55 : decode cX12_sums 55 = .ok (.iconst 0, 1) := by decide +kernel
theorem dX12_sums_56 : decode cX12_sums 56 = .ok (.invokevirtual 227, 3) := by decide +kernel
theorem dX12_sums_59 : decode cX12_sums 59 = .ok (.goto (-54), 3) := by decide +kernel
theorem dX12_sums_62 : decode cX12_sums 62 = .ok (.return_, 1) := by decide +kernel
theorem dX12_products_0 : decode cX12_products 0 = .ok (.aload_n 0, 1) := by decide +kernel
theorem dX12_products_1 : decode cX12_products 1 = .ok (.iload_n 1, 1) := by decide +kernel
theorem dX12_products_2 : decode cX12_products 2 = .ok (.invokevirtual 246, 3) := by decide +kernel
theorem dX12_products_5 : decode cX12_products 5 = .ok (.aload_n 0, 1) := by decide +kernel
theorem dX12_products_6 : decode cX12_products 6 = .ok (.bipush 42, 2) := by decide +kernel
theorem dX12_products_8 : decode cX12_products 8 = .ok (.invokevirtual 240, 3) := by decide +kernel
theorem dX12_products_11 : decode cX12_products 11 = .ok (.ifCond .eq 18, 3) := by decide +kernel
theorem dX12_products_14 : decode cX12_products 14 = .ok (.aload_n 0, 1) := by decide +kernel
theorem dX12_products_15 : decode cX12_products 15 = .ok (.iload_n 1, 1) := by decide +kernel
theorem dX12_products_16 : decode cX12_products 16 = .ok (.invokevirtual 246, 3) := by decide +kernel
theorem dX12_products_19 : decode cX12_products 19 = .ok (.aload_n 0, 1) := by decide +kernel
theorem dX12_products_20 : decode cX12_products 20 = .ok (.bipush 6, 2) := by decide +kernel
theorem dX12_products_22 : decode cX12_products 22 = .ok (.iconst 0, 1) := by decide +kernel
theorem dX12_products_23 : decode cX12_products 23 = .ok (.invokevirtual 227, 3) := by decide +kernel
theorem dX12_products_26 : decode cX12_products 26 = .ok (.goto (-21), 3) := by decide +kernel
theorem dX12_products_29 : decode cX12_products 29 = .ok (.return_, 1) := by decide +kernel
theorem dX12_takePart_0 : decode cX12_takePart 0 = .ok (.aload_n 0, 1) := by decide +kernel
theorem dX12_takePart_1 : decode cX12_takePart 1 = .ok (.getfield 153, 3) := by decide +kernel
theorem dX12_takePart_4 : decode cX12_takePart 4 = .ok (.ifCond .le 4, 3) := by decide +kernel
theorem dX12_takePart_7 : decode cX12_takePart 7 = .ok (.return_, 1) := by decide +kernel
theorem dX12_takePart_8 : decode cX12_takePart 8 = .ok (.aload_n 0, 1) := by decide +kernel
theorem dX12_takePart_9 : decode cX12_takePart 9 = .ok (.getfield 24, 3) := by decide +kernel
theorem dX12_takePart_12 : decode cX12_takePart 12 = .ok (.aload_n 0, 1) := by decide +kernel
theorem dX12_takePart_13 : decode cX12_takePart 13 = .ok (.getfield 150, 3) := by decide +kernel
theorem dX12_takePart_16 : decode cX12_takePart 16 = .ok (.iaload, 1) := by decide +kernel
theorem dX12_takePart_17 : decode cX12_takePart 17 = .ok (.iconst 2, 1) := by decide +kernel
theorem dX12_takePart_18 : decode cX12_takePart 18 = .ok (.if_icmp .ne 7, 3) := by decide +kernel
theorem dX12_takePart_21 : decode cX12_takePart 21 = .ok (.iconst 1, 1) := by decide +kernel
theorem dX12_takePart_22 : decode cX12_takePart 22 = .ok (.goto 4, 3) := by decide +kernel
theorem dX12_takePart_25 : decode cX12_takePart 25 = .ok (.iconst 0, 1) := by decide +kernel
theorem dX12_takePart_26 : decode cX12_takePart 26 = .ok (.istore_n 2, 1) := by decide +kernel
theorem dX12_takePart_27 : decode cX12_takePart 27 = .ok (.aload_n 0, 1) := by decide +kernel
theorem dX12_takePart_28 : decode cX12_takePart 28 = .ok (.bipush 19, 2) := by decide +kernel
theorem dX12_takePart_30 : decode cX12_takePart 30 = .ok (.iconst 4, 1) := by decide +kernel
theorem dX12_takePart_31 : decode cX12_takePart 31 = .ok (.invokevirtual 175, 3) := by decide +kernel
theorem dX12_takePart_34 : decode cX12_takePart 34 = .ok (.istore_n 3, 1) := by decide +kernel
theorem dX12_takePart_35 : decode cX12_takePart 35 = .ok (.iload_n 3, 1) := by decide +kernel
theorem dX12_takePart_36 : decode cX12_takePart 36 = .ok (.ifCond .ge 33, 3) := by decide +kernel
theorem dX12_takePart_39 : decode cX12_takePart 39 = .ok (.iload_n 2, 1) := by decide +kernel
theorem dX12_takePart_40 : decode cX12_takePart 40 = .ok (.ifCond .ne 29, 3) := by decide +kernel
theorem dX12_takePart_43 : decode cX12_takePart 43 = .ok (.aload_n 0, 1) := by decide +kernel
theorem dX12_takePart_44 : decode cX12_takePart 44 = .ok (.bipush 40, 2) := by decide +kernel
theorem dX12_takePart_46 : decode cX12_takePart 46 = .ok (.invokevirtual 156, 3) := by decide +kernel
theorem dX12_takePart_49 : decode cX12_takePart 49 = .ok (.ifCond .ne 20, 3) := by decide +kernel
theorem dX12_takePart_52 : decode cX12_takePart 52 = .ok (.aload_n 0, 1) := by decide +kernel
theorem dX12_takePart_53 : decode cX12_takePart 53 = .ok (.bipush 16, 2) := by decide +kernel
theorem dX12_takePart_55 : decode cX12_takePart 55 = .ok (.invokevirtual 162, 3) := by decide +kernel
theorem dX12_takePart_58 : decode cX12_takePart 58 = .ok (.ifCond .ne 11, 3) := by decide +kernel
theorem dX12_takePart_61 : decode cX12_takePart 61 = .ok (.aload_n 0, 1) := by decide +kernel
theorem dX12_takePart_62 : decode cX12_takePart 62 = .ok (.iconst 1, 1) := by decide +kernel
theorem dX12_takePart_63 : decode cX12_takePart 63 = .ok (.invokevirtual 159, 3) := by decide +kernel
theorem dX12_takePart_66 : decode cX12_takePart 66 = .ok (.goto 13, 3) := by decide +kernel
theorem dX12_takePart_69 : decode cX12_takePart 69 = .ok (.iload_n 1, 1) := by decide +kernel
theorem dX12_takePart_70 : decode cX12_takePart 70 = .ok (.iconst 5, 1) := by decide +kernel
theorem dX12_takePart_71 : decode cX12_takePart 71 = .ok (.if_icmp .ne 8, 3) := by decide +kernel
theorem dX12_takePart_74 : decode cX12_takePart 74 = .ok (.aload_n 0, 1) := by decide +kernel
theorem dX12_takePart_75 : decode cX12_takePart 75 = .ok (.iconst 5, 1) := by decide +kernel
theorem dX12_takePart_76 : decode cX12_takePart 76 = .ok (.invokevirtual 159, 3) := by decide +kernel
theorem dX12_takePart_79 : decode cX12_takePart 79 = .ok (.aload_n 0, 1) := by decide +kernel
theorem dX12_takePart_80 : decode cX12_takePart 80 = .ok (.getfield 153, 3) := by decide +kernel
theorem dX12_takePart_83 : decode cX12_takePart 83 = .ok (.ifCond .le 4, 3) := by decide +kernel
theorem dX12_takePart_86 : decode cX12_takePart 86 = .ok (.return_, 1) := by decide +kernel
theorem dX12_takePart_87 : decode cX12_takePart 87 = .ok (.aload_n 0, 1) := by decide +kernel
theorem dX12_takePart_88 : decode cX12_takePart 88 = .ok (.bipush 16, 2) := by decide +kernel
theorem dX12_takePart_90 : decode cX12_takePart 90 = .ok (.invokevirtual 165, 3) := by decide +kernel
theorem dX12_takePart_93 : decode cX12_takePart 93 = .ok (.ifCond .eq 19, 3) := by decide +kernel
theorem dX12_takePart_96 : decode cX12_takePart 96 = .ok (.aload_n 0, 1) := by decide +kernel
theorem dX12_takePart_97 : decode cX12_takePart 97 = .ok (.iload_n 1, 1) := by decide +kernel
theorem dX12_takePart_98 : decode cX12_takePart 98 = .ok (.iconst 1, 1) := by decide +kernel
theorem dX12_takePart_99 : decode cX12_takePart 99 = .ok (.iadd, 1) := by decide +kernel
theorem dX12_takePart_100 : decode cX12_takePart 100 = .ok (.invokevirtual 246, 3) := by decide +kernel
theorem dX12_takePart_103 : decode cX12_takePart 103 = .ok (.aload_n 0, 1) := by decide +kernel
theorem dX12_takePart_104 : decode cX12_takePart 104 = .ok (.iconst 3, 1) := by decide +kernel
theorem dX12_takePart_105 : decode cX12_takePart 105 = .ok (.iconst 0, 1) := by decide +kernel
theorem dX12_takePart_106 : decode cX12_takePart 106 = .ok (.invokevirtual 227, 3) := by decide +kernel
theorem dX12_takePart_109 : decode cX12_takePart 109 = .ok (.goto 69, 3) := by decide +kernel
theorem dX12_takePart_112 : decode cX12_takePart 112 = .ok (.aload_n 0, 1) := by decide +kernel
theorem dX12_takePart_113 : decode cX12_takePart 113 = .ok (.bipush 40, 2) := by decide +kernel
theorem dX12_takePart_115 : decode cX12_takePart 115 = .ok (.invokevirtual 240, 3) := by decide +kernel
theorem dX12_takePart_118 : decode cX12_takePart 118 = .ok (.ifCond .eq 19, 3) := by decide +kernel
theorem dX12_takePart_121 : decode cX12_takePart 121 = .ok (.aload_n 0, 1) := by decide +kernel
theorem dX12_takePart_122 : decode cX12_takePart 122 = .ok (.iload_n 1, 1) := by decide +kernel
theorem dX12_takePart_123 : decode cX12_takePart 123 = .ok (.iconst 1, 1) := by decide +kernel
theorem dX12_takePart_124 : decode cX12_takePart 124 = .ok (.iadd, 1) := by decide +kernel
theorem dX12_takePart_125 : decode cX12_takePart 125 = .ok (.invokevirtual 224, 3) := by decide +kernel
theorem dX12_takePart_128 : decode cX12_takePart 128 = .ok (.aload_n 0, 1) := by decide +kernel
theorem dX12_takePart_129 : decode cX12_takePart 129 = .ok (.bipush 41, 2) := by decide +kernel
theorem dX12_takePart_131 : decode cX12_takePart 131 = .ok (.invokevirtual 207, 3) := by decide +kernel
theorem dX12_takePart_134 : decode cX12_takePart 134 = .ok (.goto 44, 3) := by decide +kernel
theorem dX12_takePart_137 : decode cX12_takePart 137 = .ok (.aload_n 0, 1) := by decide +kernel
theorem dX12_takePart_138 : decode cX12_takePart 138 = .ok (.iload_n 2, 1) := by decide +kernel
theorem dX12_takePart_139 : decode cX12_takePart 139 = .ok (.ifCond .eq 7, 3) := by decide +kernel
theorem dX12_takePart_142 : decode cX12_takePart 142 = .ok (.iconst 1, 1) := by decide +kernel
theorem dX12_takePart_143 : decode cX12_takePart 143 = .ok (.goto 4, 3) := by decide +kernel
theorem dX12_takePart_146 : decode cX12_takePart 146 = .ok (.iconst 2, 1) := by decide +kernel
theorem dX12_takePart_147 : decode cX12_takePart 147 = .ok (.iload_n 2, 1) := by decide +kernel
theorem dX12_takePart_148 : decode cX12_takePart 148 = .ok (.ifCond .eq 16, 3) := by decide +kernel
theorem dX12_takePart_151 : decode cX12_takePart 151 = .ok (.aload_n 0, 1) := by decide +kernel
theorem dX12_takePart_152 : decode cX12_takePart 152 = .ok (.getfield 30, 3) := by decide +kernel
theorem dX12_takePart_155 : decode cX12_takePart 155 = .ok (.aload_n 0, 1) := by decide +kernel
theorem dX12_takePart_156 : decode cX12_takePart 156 = .ok (.getfield 150, 3) := by decide +kernel
theorem dX12_takePart_159 : decode cX12_takePart 159 = .ok (.laload, 1) := by decide +kernel
theorem dX12_takePart_160 : decode cX12_takePart 160 = .ok (.l2i, 1) := by decide +kernel
theorem dX12_takePart_161 : decode cX12_takePart 161 = .ok (.goto 4, 3) := by decide +kernel
theorem dX12_takePart_164 : decode cX12_takePart 164 = .ok (.iload_n 3, 1) := by decide +kernel
theorem dX12_takePart_165 : decode cX12_takePart 165 = .ok (.invokevirtual 227, 3) := by decide +kernel
theorem dX12_takePart_168 : decode cX12_takePart 168 = .ok (.aload_n 0, 1) := by decide +kernel
theorem dX12_takePart_169 : decode cX12_takePart 169 = .ok (.dup, 1) := by decide +kernel
theorem dX12_takePart_170 : decode cX12_takePart 170 = .ok (.getfield 150, 3) := by decide +kernel
theorem dX12_takePart_173 : decode cX12_takePart 173 = .ok (.iconst 1, 1) := by decide +kernel
theorem dX12_takePart_174 : decode cX12_takePart 174 = .ok (.iadd, 1) := by decide +kernel
theorem dX12_takePart_175 : decode cX12_takePart 175 = .ok (.putfield 150, 3) := by decide +kernel
theorem dX12_takePart_178 : decode cX12_takePart 178 = .ok (.return_, 1) := by decide +kernel
theorem dX12_worthAt_0 : decode cX12_worthAt 0 = .ok (.iconst 0, 1) := by decide +kernel
theorem dX12_worthAt_1 : decode cX12_worthAt 1 = .ok (.istore_n 2, 1) := by decide +kernel
theorem dX12_worthAt_2 : decode cX12_worthAt 2 = .ok (.iload_n 1, 1) := by decide +kernel
theorem dX12_worthAt_3 : decode cX12_worthAt 3 = .ok (.istore_n 3, 1) := by decide +kernel
theorem dX12_worthAt_4 : decode cX12_worthAt 4 = .ok (.aload_n 0, 1) := by decide +kernel
theorem dX12_worthAt_5 : decode cX12_worthAt 5 = .ok (.getfield 86, 3) := by decide +kernel
theorem dX12_worthAt_8 : decode cX12_worthAt 8 = .ok (.iload_n 3, 1) := by decide +kernel
theorem dX12_worthAt_9 : decode cX12_worthAt 9 = .ok (.iaload, 1) := by decide +kernel
theorem dX12_worthAt_10 : decode cX12_worthAt 10 = .ok (.ifCond .eq 130, 3) := by decide +kernel
theorem dX12_worthAt_13 : decode cX12_worthAt 13 = .ok (.aload_n 0, 1) := by decide +kernel
theorem dX12_worthAt_14 : decode cX12_worthAt 14 = .ok (.getfield 86, 3) := by decide +kernel
theorem dX12_worthAt_17 : decode cX12_worthAt 17 = .ok (.iload_n 3, 1) := by decide +kernel
theorem dX12_worthAt_18 : decode cX12_worthAt 18 = .ok (.iaload, 1) := by decide +kernel
theorem dX12_worthAt_19 : decode cX12_worthAt 19 = .ok (.istore 4, 2) := by decide +kernel
theorem dX12_worthAt_21 : decode cX12_worthAt 21 = .ok (.iload 4, 2) := by decide +kernel
theorem dX12_worthAt_23 : decode cX12_worthAt 23 = .ok (.iconst 1, 1) := by decide +kernel
theorem dX12_worthAt_24 : decode cX12_worthAt 24 = .ok (.if_icmp .eq 9, 3) := by decide +kernel
theorem dX12_worthAt_27 : decode cX12_worthAt 27 = .ok (.iload 4, 2) := by decide +kernel
theorem dX12_worthAt_29 : decode cX12_worthAt 29 = .ok (.iconst 2, 1) := by decide +kernel
theorem dX12_worthAt_30 : decode cX12_worthAt 30 = .ok (.if_icmp .ne 41, 3) := by decide +kernel
theorem dX12_worthAt_33 : decode cX12_worthAt 33 = .ok (.aload_n 0, 1) := by decide +kernel
theorem dX12_worthAt_34 : decode cX12_worthAt 34 = .ok (.getfield 104, 3) := by decide +kernel
theorem dX12_worthAt_37 : decode cX12_worthAt 37 = .ok (.iload_n 2, 1) := by decide +kernel
theorem dX12_worthAt_38 : decode cX12_worthAt 38 = .ok (.iload 4, 2) := by decide +kernel
theorem dX12_worthAt_40 : decode cX12_worthAt 40 = .ok (.iconst 1, 1) := by decide +kernel
theorem dX12_worthAt_41 : decode cX12_worthAt 41 = .ok (.if_icmp .ne 12, 3) := by decide +kernel
theorem dX12_worthAt_44 : decode cX12_worthAt 44 = .ok (.aload_n 0, 1) := by decide +kernel
theorem dX12_worthAt_45 : decode cX12_worthAt 45 = .ok (.getfield 89, 3) := by decide +kernel
theorem dX12_worthAt_48 : decode cX12_worthAt 48 = .ok (.iload_n 3, 1) := by decide +kernel
theorem dX12_worthAt_49 : decode cX12_worthAt 49 = .ok (.iaload, 1) := by decide +kernel
theorem dX12_worthAt_50 : decode cX12_worthAt 50 = .ok (.goto 14, 3) := by decide +kernel
theorem dX12_worthAt_53 : decode cX12_worthAt 53 = .ok (.aload_n 0, 1) := by decide +kernel
theorem dX12_worthAt_54 : decode cX12_worthAt 54 = .ok (.getfield 101, 3) := by decide +kernel
theorem dX12_worthAt_57 : decode cX12_worthAt 57 = .ok (.aload_n 0, 1) := by decide +kernel
theorem dX12_worthAt_58 : decode cX12_worthAt 58 = .ok (.getfield 89, 3) := by decide +kernel
theorem dX12_worthAt_61 : decode cX12_worthAt 61 = .ok (.iload_n 3, 1) := by decide +kernel
theorem dX12_worthAt_62 : decode cX12_worthAt 62 = .ok (.iaload, 1) := by decide +kernel
theorem dX12_worthAt_63 : decode cX12_worthAt 63 = .ok (.iaload, 1) := by decide +kernel
theorem dX12_worthAt_64 : decode cX12_worthAt 64 = .ok (.iastore, 1) := by decide +kernel
theorem dX12_worthAt_65 : decode cX12_worthAt 65 = .ok (.iinc 2 1, 3) := by decide +kernel
theorem dX12_worthAt_68 : decode cX12_worthAt 68 = .ok (.goto 66, 3) := by decide +kernel
theorem dX12_worthAt_71 : decode cX12_worthAt 71 = .ok (.iload 4, 2) := by decide +kernel
theorem dX12_worthAt_73 : decode cX12_worthAt 73 = .ok (.iconst 3, 1) := by decide +kernel
theorem dX12_worthAt_74 : decode cX12_worthAt 74 = .ok (.if_icmp .ne 30, 3) := by decide +kernel
theorem dX12_worthAt_77 : decode cX12_worthAt 77 = .ok (.aload_n 0, 1) := by decide +kernel
theorem dX12_worthAt_78 : decode cX12_worthAt 78 = .ok (.getfield 104, 3) := by decide +kernel
theorem dX12_worthAt_81 : decode cX12_worthAt 81 = .ok (.iload_n 2, 1) := by decide +kernel
theorem dX12_worthAt_82 : decode cX12_worthAt 82 = .ok (.iconst 1, 1) := by decide +kernel
theorem dX12_worthAt_83 : decode cX12_worthAt 83 = .ok (.isub, 1) := by decide +kernel
theorem dX12_worthAt_84 : decode cX12_worthAt 84 = .ok (.aload_n 0, 1) := by decide +kernel
theorem dX12_worthAt_85 : decode cX12_worthAt 85 = .ok (.getfield 104, 3) := by decide +kernel
theorem dX12_worthAt_88 : decode cX12_worthAt 88 = .ok (.iload_n 2, 1) := by decide +kernel
theorem dX12_worthAt_89 : decode cX12_worthAt 89 = .ok (.iconst 1, 1) := by decide +kernel
theorem dX12_worthAt_90 : decode cX12_worthAt 90 = .ok (.isub, 1) := by decide +kernel
theorem dX12_worthAt_91 : decode cX12_worthAt 91 = .ok (.iaload, 1) := by decide +kernel
theorem dX12_worthAt_92 : decode cX12_worthAt 92 = .ok (.ifCond .ne 7, 3) := by decide +kernel
theorem dX12_worthAt_95 : decode cX12_worthAt 95 = .ok (.iconst 1, 1) := by decide +kernel
theorem dX12_worthAt_96 : decode cX12_worthAt 96 = .ok (.goto 4, 3) := by decide +kernel
theorem dX12_worthAt_99 : decode cX12_worthAt 99 = .ok (.iconst 0, 1) := by decide +kernel
theorem dX12_worthAt_100 : decode cX12_worthAt 100 = .ok (.iastore, 1) := by decide +kernel
theorem dX12_worthAt_101 : decode cX12_worthAt 101 = .ok (.goto 33, 3) := by decide +kernel
theorem dX12_worthAt_104 : decode cX12_worthAt 104 = .ok (.iinc 2 (-1), 3) := by decide +kernel
theorem dX12_worthAt_107 : decode cX12_worthAt 107 = .ok (.aload_n 0, 1) := by decide +kernel
theorem dX12_worthAt_108 : decode cX12_worthAt 108 = .ok (.getfield 104, 3) := by decide +kernel
theorem dX12_worthAt_111 : decode cX12_worthAt 111 = .ok (.iload_n 2, 1) := by decide +kernel
theorem dX12_worthAt_112 : decode cX12_worthAt 112 = .ok (.iconst 1, 1) := by decide +kernel
theorem dX12_worthAt_113 : decode cX12_worthAt 113 = .ok (.isub, 1) := by decide +kernel
theorem dX12_worthAt_114 : decode cX12_worthAt 114 = .ok (.iload 4, 2) := by decide +kernel
theorem dX12_worthAt_116 : decode cX12_worthAt 116 = .ok (.aload_n 0, 1) := by decide +kernel
theorem dX12_worthAt_117 : decode cX12_worthAt 117 = .ok (.getfield 104, 3) := by decide +kernel
theorem dX12_worthAt_120 : decode cX12_worthAt 120 = .ok (.iload_n 2, 1) := by decide +kernel
theorem dX12_worthAt_121 : decode cX12_worthAt 121 = .ok (.iconst 1, 1) := by decide +kernel
theorem dX12_worthAt_122 : decode cX12_worthAt 122 = .ok (.isub, 1) := by decide +kernel
theorem dX12_worthAt_123 : decode cX12_worthAt 123 = .ok (.iaload, 1) := by decide +kernel
theorem dX12_worthAt_124 : decode cX12_worthAt 124 = .ok (.aload_n 0, 1) := by decide +kernel
theorem dX12_worthAt_125 : decode cX12_worthAt 125 = .ok (.getfield 104, 3) := by decide +kernel
theorem dX12_worthAt_128 : decode cX12_worthAt 128 = .ok (.iload_n 2, 1) := by decide +kernel
theorem dX12_worthAt_129 : decode cX12_worthAt 129 = .ok (.iaload, 1) := by decide +kernel
theorem dX12_worthAt_130 : decode cX12_worthAt 130 = .ok (.invokestatic 249, 3) := by decide +kernel
theorem dX12_worthAt_133 : decode cX12_worthAt 133 = .ok (.iastore, 1) := by decide +kernel
theorem dX12_worthAt_134 : decode cX12_worthAt 134 = .ok (.iinc 3 1, 3) := by decide +kernel
theorem dX12_worthAt_137 : decode cX12_worthAt 137 = .ok (.goto (-133), 3) := by decide +kernel
theorem dX12_worthAt_140 : decode cX12_worthAt 140 = .ok (.aload_n 0, 1) := by decide +kernel
theorem dX12_worthAt_141 : decode cX12_worthAt 141 = .ok (.getfield 104, 3) := by decide +kernel
theorem dX12_worthAt_144 : decode cX12_worthAt 144 = .ok (.iconst 0, 1) := by decide +kernel
theorem dX12_worthAt_145 : decode cX12_worthAt 145 = .ok (.iaload, 1) := by decide +kernel
theorem dX12_worthAt_146 : decode cX12_worthAt 146 = .ok (.ireturn, 1) := by decide +kernel
theorem dX12_both_0 : decode cX12_both 0 = .ok (.iload_n 0, 1) := by decide +kernel
theorem dX12_both_1 : decode cX12_both 1 = .ok (.tableswitch 87 4 9 #[39, 43, 47, 51, 62, 73], 39) := by decide +kernel
theorem dX12_both_40 : decode cX12_both 40 = .ok (.iload_n 1, 1) := by decide +kernel
theorem dX12_both_41 : decode cX12_both 41 = .ok (.iload_n 2, 1) := by decide +kernel
theorem dX12_both_42 : decode cX12_both 42 = .ok (.iadd, 1) := by decide +kernel
theorem dX12_both_43 : decode cX12_both 43 = .ok (.ireturn, 1) := by decide +kernel
theorem dX12_both_44 : decode cX12_both 44 = .ok (.iload_n 1, 1) := by decide +kernel
theorem dX12_both_45 : decode cX12_both 45 = .ok (.iload_n 2, 1) := by decide +kernel
theorem dX12_both_46 : decode cX12_both 46 = .ok (.isub, 1) := by decide +kernel
theorem dX12_both_47 : decode cX12_both 47 = .ok (.ireturn, 1) := by decide +kernel
theorem dX12_both_48 : decode cX12_both 48 = .ok (.iload_n 1, 1) := by decide +kernel
theorem dX12_both_49 : decode cX12_both 49 = .ok (.iload_n 2, 1) := by decide +kernel
theorem dX12_both_50 : decode cX12_both 50 = .ok (.imul, 1) := by decide +kernel
theorem dX12_both_51 : decode cX12_both 51 = .ok (.ireturn, 1) := by decide +kernel
theorem dX12_both_52 : decode cX12_both 52 = .ok (.iload_n 1, 1) := by decide +kernel
theorem dX12_both_53 : decode cX12_both 53 = .ok (.iload_n 2, 1) := by decide +kernel
theorem dX12_both_54 : decode cX12_both 54 = .ok (.if_icmp .ge 7, 3) := by decide +kernel
theorem dX12_both_57 : decode cX12_both 57 = .ok (.iconst 1, 1) := by decide +kernel
theorem dX12_both_58 : decode cX12_both 58 = .ok (.goto 4, 3) := by decide +kernel
theorem dX12_both_61 : decode cX12_both 61 = .ok (.iconst 0, 1) := by decide +kernel
theorem dX12_both_62 : decode cX12_both 62 = .ok (.ireturn, 1) := by decide +kernel
theorem dX12_both_63 : decode cX12_both 63 = .ok (.iload_n 1, 1) := by decide +kernel
theorem dX12_both_64 : decode cX12_both 64 = .ok (.iload_n 2, 1) := by decide +kernel
theorem dX12_both_65 : decode cX12_both 65 = .ok (.if_icmp .ne 7, 3) := by decide +kernel
theorem dX12_both_68 : decode cX12_both 68 = .ok (.iconst 1, 1) := by decide +kernel
theorem dX12_both_69 : decode cX12_both 69 = .ok (.goto 4, 3) := by decide +kernel
theorem dX12_both_72 : decode cX12_both 72 = .ok (.iconst 0, 1) := by decide +kernel
theorem dX12_both_73 : decode cX12_both 73 = .ok (.ireturn, 1) := by decide +kernel
theorem dX12_both_74 : decode cX12_both 74 = .ok (.iload_n 1, 1) := by decide +kernel
theorem dX12_both_75 : decode cX12_both 75 = .ok (.ifCond .eq 11, 3) := by decide +kernel
theorem dX12_both_78 : decode cX12_both 78 = .ok (.iload_n 2, 1) := by decide +kernel
theorem dX12_both_79 : decode cX12_both 79 = .ok (.ifCond .eq 7, 3) := by decide +kernel
theorem dX12_both_82 : decode cX12_both 82 = .ok (.iconst 1, 1) := by decide +kernel
theorem dX12_both_83 : decode cX12_both 83 = .ok (.goto 4, 3) := by decide +kernel
theorem dX12_both_86 : decode cX12_both 86 = .ok (.iconst 0, 1) := by decide +kernel
theorem dX12_both_87 : decode cX12_both 87 = .ok (.ireturn, 1) := by decide +kernel
theorem dX12_both_88 : decode cX12_both 88 = .ok (.iload_n 1, 1) := by decide +kernel
theorem dX12_both_89 : decode cX12_both 89 = .ok (.ifCond .ne 7, 3) := by decide +kernel
theorem dX12_both_92 : decode cX12_both 92 = .ok (.iload_n 2, 1) := by decide +kernel
theorem dX12_both_93 : decode cX12_both 93 = .ok (.ifCond .eq 7, 3) := by decide +kernel
theorem dX12_both_96 : decode cX12_both 96 = .ok (.iconst 1, 1) := by decide +kernel
theorem dX12_both_97 : decode cX12_both 97 = .ok (.goto 4, 3) := by decide +kernel
theorem dX12_both_100 : decode cX12_both 100 = .ok (.iconst 0, 1) := by decide +kernel
theorem dX12_both_101 : decode cX12_both 101 = .ok (.ireturn, 1) := by decide +kernel
theorem dX12_copies_0 : decode cX12_copies 0 = .ok (.iconst 0, 1) := by decide +kernel
theorem dX12_copies_1 : decode cX12_copies 1 = .ok (.istore 4, 2) := by decide +kernel
theorem dX12_copies_3 : decode cX12_copies 3 = .ok (.iload 4, 2) := by decide +kernel
theorem dX12_copies_5 : decode cX12_copies 5 = .ok (.iload_n 3, 1) := by decide +kernel
theorem dX12_copies_6 : decode cX12_copies 6 = .ok (.if_icmp .ge 27, 3) := by decide +kernel
theorem dX12_copies_9 : decode cX12_copies 9 = .ok (.aload_n 0, 1) := by decide +kernel
theorem dX12_copies_10 : decode cX12_copies 10 = .ok (.getfield 107, 3) := by decide +kernel
theorem dX12_copies_13 : decode cX12_copies 13 = .ok (.iload_n 2, 1) := by decide +kernel
theorem dX12_copies_14 : decode cX12_copies 14 = .ok (.iload 4, 2) := by decide +kernel
theorem dX12_copies_16 : decode cX12_copies 16 = .ok (.iadd, 1) := by decide +kernel
theorem dX12_copies_17 : decode cX12_copies 17 = .ok (.aload_n 0, 1) := by decide +kernel
theorem dX12_copies_18 : decode cX12_copies 18 = .ok (.getfield 107, 3) := by decide +kernel
theorem dX12_copies_21 : decode cX12_copies 21 = .ok (.iload_n 1, 1) := by decide +kernel
theorem dX12_copies_22 : decode cX12_copies 22 = .ok (.iload 4, 2) := by decide +kernel
theorem dX12_copies_24 : decode cX12_copies 24 = .ok (.iadd, 1) := by decide +kernel
theorem dX12_copies_25 : decode cX12_copies 25 = .ok (.iaload, 1) := by decide +kernel
theorem dX12_copies_26 : decode cX12_copies 26 = .ok (.iastore, 1) := by decide +kernel
theorem dX12_copies_27 : decode cX12_copies 27 = .ok (.iinc 4 1, 3) := by decide +kernel
theorem dX12_copies_30 : decode cX12_copies 30 = .ok (.goto (-27), 3) := by decide +kernel
theorem dX12_copies_33 : decode cX12_copies 33 = .ok (.return_, 1) := by decide +kernel
theorem dX12_starts_0 : decode cX12_starts 0 = .ok (.iconst 0, 1) := by decide +kernel
theorem dX12_starts_1 : decode cX12_starts 1 = .ok (.istore_n 2, 1) := by decide +kernel
theorem dX12_starts_2 : decode cX12_starts 2 = .ok (.iload_n 2, 1) := by decide +kernel
theorem dX12_starts_3 : decode cX12_starts 3 = .ok (.bipush 23, 2) := by decide +kernel
theorem dX12_starts_5 : decode cX12_starts 5 = .ok (.if_icmp .ge 18, 3) := by decide +kernel
theorem dX12_starts_8 : decode cX12_starts 8 = .ok (.aload_n 0, 1) := by decide +kernel
theorem dX12_starts_9 : decode cX12_starts 9 = .ok (.getfield 107, 3) := by decide +kernel
theorem dX12_starts_12 : decode cX12_starts 12 = .ok (.iload_n 1, 1) := by decide +kernel
theorem dX12_starts_13 : decode cX12_starts 13 = .ok (.iload_n 2, 1) := by decide +kernel
theorem dX12_starts_14 : decode cX12_starts 14 = .ok (.iadd, 1) := by decide +kernel
theorem dX12_starts_15 : decode cX12_starts 15 = .ok (.iconst 0, 1) := by decide +kernel
theorem dX12_starts_16 : decode cX12_starts 16 = .ok (.iastore, 1) := by decide +kernel
theorem dX12_starts_17 : decode cX12_starts 17 = .ok (.iinc 2 1, 3) := by decide +kernel
theorem dX12_starts_20 : decode cX12_starts 20 = .ok (.goto (-18), 3) := by decide +kernel
theorem dX12_starts_23 : decode cX12_starts 23 = .ok (.iconst 0, 1) := by decide +kernel
theorem dX12_starts_24 : decode cX12_starts 24 = .ok (.istore_n 2, 1) := by decide +kernel
theorem dX12_starts_25 : decode cX12_starts 25 = .ok (.iload_n 2, 1) := by decide +kernel
theorem dX12_starts_26 : decode cX12_starts 26 = .ok (.bipush 7, 2) := by decide +kernel
theorem dX12_starts_28 : decode cX12_starts 28 = .ok (.if_icmp .ge 95, 3) := by decide +kernel
theorem dX12_starts_31 : decode cX12_starts 31 = .ok (.aload_n 0, 1) := by decide +kernel
theorem dX12_starts_32 : decode cX12_starts 32 = .ok (.getfield 107, 3) := by decide +kernel
theorem dX12_starts_35 : decode cX12_starts 35 = .ok (.iload_n 1, 1) := by decide +kernel
theorem dX12_starts_36 : decode cX12_starts 36 = .ok (.iconst 2, 1) := by decide +kernel
theorem dX12_starts_37 : decode cX12_starts 37 = .ok (.iadd, 1) := by decide +kernel
theorem dX12_starts_38 : decode cX12_starts 38 = .ok (.iload_n 2, 1) := by decide +kernel
theorem dX12_starts_39 : decode cX12_starts 39 = .ok (.iadd, 1) := by decide +kernel
theorem dX12_starts_40 : decode cX12_starts 40 = .ok (.iload_n 2, 1) := by decide +kernel
theorem dX12_starts_41 : decode cX12_starts 41 = .ok (.aload_n 0, 1) := by decide +kernel
theorem dX12_starts_42 : decode cX12_starts 42 = .ok (.invokevirtual 252, 3) := by decide +kernel
theorem dX12_starts_45 : decode cX12_starts 45 = .ok (.if_icmp .ge 12, 3) := by decide +kernel
theorem dX12_starts_48 : decode cX12_starts 48 = .ok (.aload_n 0, 1) := by decide +kernel
theorem dX12_starts_49 : decode cX12_starts 49 = .ok (.iload_n 2, 1) := by decide +kernel
theorem dX12_starts_50 : decode cX12_starts 50 = .ok (.iconst 1, 1) := by decide +kernel
theorem dX12_starts_51 : decode cX12_starts 51 = .ok (.invokevirtual 255, 3) := by decide +kernel
theorem dX12_starts_54 : decode cX12_starts 54 = .ok (.goto 4, 3) := by decide +kernel
theorem dX12_starts_57 : decode cX12_starts 57 = .ok (.iconst (-1), 1) := by decide +kernel
theorem dX12_starts_58 : decode cX12_starts 58 = .ok (.iastore, 1) := by decide +kernel
theorem dX12_starts_59 : decode cX12_starts 59 = .ok (.aload_n 0, 1) := by decide +kernel
theorem dX12_starts_60 : decode cX12_starts 60 = .ok (.getfield 107, 3) := by decide +kernel
theorem dX12_starts_63 : decode cX12_starts 63 = .ok (.iload_n 1, 1) := by decide +kernel
theorem dX12_starts_64 : decode cX12_starts 64 = .ok (.bipush 9, 2) := by decide +kernel
theorem dX12_starts_66 : decode cX12_starts 66 = .ok (.iadd, 1) := by decide +kernel
theorem dX12_starts_67 : decode cX12_starts 67 = .ok (.iload_n 2, 1) := by decide +kernel
theorem dX12_starts_68 : decode cX12_starts 68 = .ok (.iadd, 1) := by decide +kernel
theorem dX12_starts_69 : decode cX12_starts 69 = .ok (.iload_n 2, 1) := by decide +kernel
theorem dX12_starts_70 : decode cX12_starts 70 = .ok (.aload_n 0, 1) := by decide +kernel
theorem dX12_starts_71 : decode cX12_starts 71 = .ok (.invokevirtual 252, 3) := by decide +kernel
theorem dX12_starts_74 : decode cX12_starts 74 = .ok (.if_icmp .ge 12, 3) := by decide +kernel
theorem dX12_starts_77 : decode cX12_starts 77 = .ok (.aload_n 0, 1) := by decide +kernel
theorem dX12_starts_78 : decode cX12_starts 78 = .ok (.iload_n 2, 1) := by decide +kernel
theorem dX12_starts_79 : decode cX12_starts 79 = .ok (.iconst 2, 1) := by decide +kernel
theorem dX12_starts_80 : decode cX12_starts 80 = .ok (.invokevirtual 255, 3) := by decide +kernel
theorem dX12_starts_83 : decode cX12_starts 83 = .ok (.goto 4, 3) := by decide +kernel
theorem dX12_starts_86 : decode cX12_starts 86 = .ok (.iconst 0, 1) := by decide +kernel
theorem dX12_starts_87 : decode cX12_starts 87 = .ok (.iastore, 1) := by decide +kernel
theorem dX12_starts_88 : decode cX12_starts 88 = .ok (.aload_n 0, 1) := by decide +kernel
theorem dX12_starts_89 : decode cX12_starts 89 = .ok (.getfield 107, 3) := by decide +kernel
theorem dX12_starts_92 : decode cX12_starts 92 = .ok (.iload_n 1, 1) := by decide +kernel
theorem dX12_starts_93 : decode cX12_starts 93 = .ok (.bipush 16, 2) := by decide +kernel
theorem dX12_starts_95 : decode cX12_starts 95 = .ok (.iadd, 1) := by decide +kernel
theorem dX12_starts_96 : decode cX12_starts 96 = .ok (.iload_n 2, 1) := by decide +kernel
theorem dX12_starts_97 : decode cX12_starts 97 = .ok (.iadd, 1) := by decide +kernel
theorem dX12_starts_98 : decode cX12_starts 98 = .ok (.iload_n 2, 1) := by decide +kernel
theorem dX12_starts_99 : decode cX12_starts 99 = .ok (.aload_n 0, 1) := by decide +kernel
theorem dX12_starts_100 : decode cX12_starts 100 = .ok (.invokevirtual 252, 3) := by decide +kernel
theorem dX12_starts_103 : decode cX12_starts 103 = .ok (.if_icmp .ge 12, 3) := by decide +kernel
theorem dX12_starts_106 : decode cX12_starts 106 = .ok (.aload_n 0, 1) := by decide +kernel
theorem dX12_starts_107 : decode cX12_starts 107 = .ok (.iload_n 2, 1) := by decide +kernel
theorem dX12_starts_108 : decode cX12_starts 108 = .ok (.iconst 3, 1) := by decide +kernel
theorem dX12_starts_109 : decode cX12_starts 109 = .ok (.invokevirtual 255, 3) := by decide +kernel
theorem dX12_starts_112 : decode cX12_starts 112 = .ok (.goto 4, 3) := by decide +kernel
theorem dX12_starts_115 : decode cX12_starts 115 = .ok (.iconst 0, 1) := by decide +kernel
theorem dX12_starts_116 : decode cX12_starts 116 = .ok (.iastore, 1) := by decide +kernel
theorem dX12_starts_117 : decode cX12_starts 117 = .ok (.iinc 2 1, 3) := by decide +kernel
theorem dX12_starts_120 : decode cX12_starts 120 = .ok (.goto (-95), 3) := by decide +kernel
theorem dX12_starts_123 : decode cX12_starts 123 = .ok (.return_, 1) := by decide +kernel
theorem dX12_begins_0 : decode cX12_begins 0 = .ok (.aload_n 0, 1) := by decide +kernel
theorem dX12_begins_1 : decode cX12_begins 1 = .ok (.iconst 0, 1) := by decide +kernel
theorem dX12_begins_2 : decode cX12_begins 2 = .ok (.invokevirtual 258, 3) := by decide +kernel
theorem dX12_begins_5 : decode cX12_begins 5 = .ok (.aload_n 0, 1) := by decide +kernel
theorem dX12_begins_6 : decode cX12_begins 6 = .ok (.getfield 107, 3) := by decide +kernel
theorem dX12_begins_9 : decode cX12_begins 9 = .ok (.bipush 23, 2) := by decide +kernel
theorem dX12_begins_11 : decode cX12_begins 11 = .ok (.iconst 0, 1) := by decide +kernel
theorem dX12_begins_12 : decode cX12_begins 12 = .ok (.iastore, 1) := by decide +kernel
theorem dX12_begins_13 : decode cX12_begins 13 = .ok (.aload_n 0, 1) := by decide +kernel
theorem dX12_begins_14 : decode cX12_begins 14 = .ok (.getfield 98, 3) := by decide +kernel
theorem dX12_begins_17 : decode cX12_begins 17 = .ok (.iconst 0, 1) := by decide +kernel
theorem dX12_begins_18 : decode cX12_begins 18 = .ok (.iconst 0, 1) := by decide +kernel
theorem dX12_begins_19 : decode cX12_begins 19 = .ok (.iastore, 1) := by decide +kernel
theorem dX12_begins_20 : decode cX12_begins 20 = .ok (.aload_n 0, 1) := by decide +kernel
theorem dX12_begins_21 : decode cX12_begins 21 = .ok (.iconst 0, 1) := by decide +kernel
theorem dX12_begins_22 : decode cX12_begins 22 = .ok (.putfield 261, 3) := by decide +kernel
theorem dX12_begins_25 : decode cX12_begins 25 = .ok (.iconst 0, 1) := by decide +kernel
theorem dX12_begins_26 : decode cX12_begins 26 = .ok (.istore_n 1, 1) := by decide +kernel
theorem dX12_begins_27 : decode cX12_begins 27 = .ok (.iload_n 1, 1) := by decide +kernel
theorem dX12_begins_28 : decode cX12_begins 28 = .ok (.iconst 4, 1) := by decide +kernel
theorem dX12_begins_29 : decode cX12_begins 29 = .ok (.if_icmp .ge 16, 3) := by decide +kernel
theorem dX12_begins_32 : decode cX12_begins 32 = .ok (.aload_n 0, 1) := by decide +kernel
theorem dX12_begins_33 : decode cX12_begins 33 = .ok (.getfield 110, 3) := by decide +kernel
theorem dX12_begins_36 : decode cX12_begins 36 = .ok (.iload_n 1, 1) := by decide +kernel
theorem dX12_begins_37 : decode cX12_begins 37 = .ok (.iconst 0, 1) := by decide +kernel
theorem dX12_begins_38 : decode cX12_begins 38 = .ok (.bastore, 1) := by decide +kernel
theorem dX12_begins_39 : decode cX12_begins 39 = .ok (.iinc 1 1, 3) := by decide +kernel
theorem dX12_begins_42 : decode cX12_begins 42 = .ok (.goto (-15), 3) := by decide +kernel
theorem dX12_begins_45 : decode cX12_begins 45 = .ok (.return_, 1) := by decide +kernel
theorem dX12_keeps_0 : decode cX12_keeps 0 = .ok (.aload_n 0, 1) := by decide +kernel
theorem dX12_keeps_1 : decode cX12_keeps 1 = .ok (.getfield 261, 3) := by decide +kernel
theorem dX12_keeps_4 : decode cX12_keeps 4 = .ok (.bipush 16, 2) := by decide +kernel
theorem dX12_keeps_6 : decode cX12_keeps 6 = .ok (.if_icmp .ne 47, 3) := by decide +kernel
theorem dX12_keeps_9 : decode cX12_keeps 9 = .ok (.iconst 1, 1) := by decide +kernel
theorem dX12_keeps_10 : decode cX12_keeps 10 = .ok (.istore_n 1, 1) := by decide +kernel
theorem dX12_keeps_11 : decode cX12_keeps 11 = .ok (.iload_n 1, 1) := by decide +kernel
theorem dX12_keeps_12 : decode cX12_keeps 12 = .ok (.bipush 16, 2) := by decide +kernel
theorem dX12_keeps_14 : decode cX12_keeps 14 = .ok (.if_icmp .ge 29, 3) := by decide +kernel
theorem dX12_keeps_17 : decode cX12_keeps 17 = .ok (.aload_n 0, 1) := by decide +kernel
theorem dX12_keeps_18 : decode cX12_keeps 18 = .ok (.bipush 42, 2) := by decide +kernel
theorem dX12_keeps_20 : decode cX12_keeps 20 = .ok (.iconst 5, 1) := by decide +kernel
theorem dX12_keeps_21 : decode cX12_keeps 21 = .ok (.iload_n 1, 1) := by decide +kernel
theorem dX12_keeps_22 : decode cX12_keeps 22 = .ok (.iadd, 1) := by decide +kernel
theorem dX12_keeps_23 : decode cX12_keeps 23 = .ok (.imul, 1) := by decide +kernel
theorem dX12_keeps_24 : decode cX12_keeps 24 = .ok (.bipush 42, 2) := by decide +kernel
theorem dX12_keeps_26 : decode cX12_keeps 26 = .ok (.iconst 5, 1) := by decide +kernel
theorem dX12_keeps_27 : decode cX12_keeps 27 = .ok (.iload_n 1, 1) := by decide +kernel
theorem dX12_keeps_28 : decode cX12_keeps 28 = .ok (.iadd, 1) := by decide +kernel
theorem dX12_keeps_29 : decode cX12_keeps 29 = .ok (.iconst 1, 1) := by decide +kernel
theorem dX12_keeps_30 : decode cX12_keeps 30 = .ok (.isub, 1) := by decide +kernel
theorem dX12_keeps_31 : decode cX12_keeps 31 = .ok (.imul, 1) := by decide +kernel
theorem dX12_keeps_32 : decode cX12_keeps 32 = .ok (.bipush 23, 2) := by decide +kernel
theorem dX12_keeps_34 : decode cX12_keeps 34 = .ok (.invokevirtual 264, 3) := by decide +kernel
theorem dX12_keeps_37 : decode cX12_keeps 37 = .ok (.iinc 1 1, 3) := by decide +kernel
theorem dX12_keeps_40 : decode cX12_keeps 40 = .ok (.goto (-29), 3) := by decide +kernel
theorem dX12_keeps_43 : decode cX12_keeps 43 = .ok (.aload_n 0, 1) := by decide +kernel
theorem dX12_keeps_44 : decode cX12_keeps 44 = .ok (.dup, 1) := by decide +kernel
theorem dX12_keeps_45 : decode cX12_keeps 45 = .ok (.getfield 261, 3) := by decide +kernel
theorem dX12_keeps_48 : decode cX12_keeps 48 = .ok (.iconst 1, 1) := by decide +kernel
theorem dX12_keeps_49 : decode cX12_keeps 49 = .ok (.isub, 1) := by decide +kernel
theorem dX12_keeps_50 : decode cX12_keeps 50 = .ok (.putfield 261, 3) := by decide +kernel
theorem dX12_keeps_53 : decode cX12_keeps 53 = .ok (.aload_n 0, 1) := by decide +kernel
theorem dX12_keeps_54 : decode cX12_keeps 54 = .ok (.iconst 0, 1) := by decide +kernel
theorem dX12_keeps_55 : decode cX12_keeps 55 = .ok (.bipush 42, 2) := by decide +kernel
theorem dX12_keeps_57 : decode cX12_keeps 57 = .ok (.iconst 5, 1) := by decide +kernel
theorem dX12_keeps_58 : decode cX12_keeps 58 = .ok (.aload_n 0, 1) := by decide +kernel
theorem dX12_keeps_59 : decode cX12_keeps 59 = .ok (.getfield 261, 3) := by decide +kernel
theorem dX12_keeps_62 : decode cX12_keeps 62 = .ok (.iadd, 1) := by decide +kernel
theorem dX12_keeps_63 : decode cX12_keeps 63 = .ok (.imul, 1) := by decide +kernel
theorem dX12_keeps_64 : decode cX12_keeps 64 = .ok (.bipush 23, 2) := by decide +kernel
theorem dX12_keeps_66 : decode cX12_keeps 66 = .ok (.invokevirtual 264, 3) := by decide +kernel
theorem dX12_keeps_69 : decode cX12_keeps 69 = .ok (.aload_n 0, 1) := by decide +kernel
theorem dX12_keeps_70 : decode cX12_keeps 70 = .ok (.dup, 1) := by decide +kernel
theorem dX12_keeps_71 : decode cX12_keeps 71 = .ok (.getfield 261, 3) := by decide +kernel
theorem dX12_keeps_74 : decode cX12_keeps 74 = .ok (.iconst 1, 1) := by decide +kernel
theorem dX12_keeps_75 : decode cX12_keeps 75 = .ok (.iadd, 1) := by decide +kernel
theorem dX12_keeps_76 : decode cX12_keeps 76 = .ok (.putfield 261, 3) := by decide +kernel
theorem dX12_keeps_79 : decode cX12_keeps 79 = .ok (.return_, 1) := by decide +kernel
theorem dX12_embers_0 : decode cX12_embers 0 = .ok (.aload_n 0, 1) := by decide +kernel
theorem dX12_embers_1 : decode cX12_embers 1 = .ok (.getfield 83, 3) := by decide +kernel
theorem dX12_embers_4 : decode cX12_embers 4 = .ok (.iconst 0, 1) := by decide +kernel
theorem dX12_embers_5 : decode cX12_embers 5 = .ok (.iaload, 1) := by decide +kernel
theorem dX12_embers_6 : decode cX12_embers 6 = .ok (.ireturn, 1) := by decide +kernel
theorem dX12_emberOf_0 : decode cX12_emberOf 0 = .ok (.aload_n 0, 1) := by decide +kernel
theorem dX12_emberOf_1 : decode cX12_emberOf 1 = .ok (.getfield 83, 3) := by decide +kernel
theorem dX12_emberOf_4 : decode cX12_emberOf 4 = .ok (.iconst 4, 1) := by decide +kernel
theorem dX12_emberOf_5 : decode cX12_emberOf 5 = .ok (.iconst 4, 1) := by decide +kernel
theorem dX12_emberOf_6 : decode cX12_emberOf 6 = .ok (.iload_n 1, 1) := by decide +kernel
theorem dX12_emberOf_7 : decode cX12_emberOf 7 = .ok (.imul, 1) := by decide +kernel
theorem dX12_emberOf_8 : decode cX12_emberOf 8 = .ok (.iadd, 1) := by decide +kernel
theorem dX12_emberOf_9 : decode cX12_emberOf 9 = .ok (.iload_n 2, 1) := by decide +kernel
theorem dX12_emberOf_10 : decode cX12_emberOf 10 = .ok (.iadd, 1) := by decide +kernel
theorem dX12_emberOf_11 : decode cX12_emberOf 11 = .ok (.iaload, 1) := by decide +kernel
theorem dX12_emberOf_12 : decode cX12_emberOf 12 = .ok (.ireturn, 1) := by decide +kernel
theorem dX12_isEmber_0 : decode cX12_isEmber 0 = .ok (.iload_n 1, 1) := by decide +kernel
theorem dX12_isEmber_1 : decode cX12_isEmber 1 = .ok (.ifCond .lt 15, 3) := by decide +kernel
theorem dX12_isEmber_4 : decode cX12_isEmber 4 = .ok (.iload_n 1, 1) := by decide +kernel
theorem dX12_isEmber_5 : decode cX12_isEmber 5 = .ok (.aload_n 0, 1) := by decide +kernel
theorem dX12_isEmber_6 : decode cX12_isEmber 6 = .ok (.invokevirtual 252, 3) := by decide +kernel
theorem dX12_isEmber_9 : decode cX12_isEmber 9 = .ok (.if_icmp .ge 7, 3) := by decide +kernel
theorem dX12_isEmber_12 : decode cX12_isEmber 12 = .ok (.iconst 1, 1) := by decide +kernel
theorem dX12_isEmber_13 : decode cX12_isEmber 13 = .ok (.goto 4, 3) := by decide +kernel
theorem dX12_isEmber_16 : decode cX12_isEmber 16 = .ok (.iconst 0, 1) := by decide +kernel
theorem dX12_isEmber_17 : decode cX12_isEmber 17 = .ok (.ireturn, 1) := by decide +kernel
theorem dX12_isThere_0 : decode cX12_isThere 0 = .ok (.aload_n 0, 1) := by decide +kernel
theorem dX12_isThere_1 : decode cX12_isThere 1 = .ok (.getfield 107, 3) := by decide +kernel
theorem dX12_isThere_4 : decode cX12_isThere 4 = .ok (.iload_n 1, 1) := by decide +kernel
theorem dX12_isThere_5 : decode cX12_isThere 5 = .ok (.iconst 2, 1) := by decide +kernel
theorem dX12_isThere_6 : decode cX12_isThere 6 = .ok (.iadd, 1) := by decide +kernel
theorem dX12_isThere_7 : decode cX12_isThere 7 = .ok (.iload_n 2, 1) := by decide +kernel
theorem dX12_isThere_8 : decode cX12_isThere 8 = .ok (.iadd, 1) := by decide +kernel
theorem dX12_isThere_9 : decode cX12_isThere 9 = .ok (.iaload, 1) := by decide +kernel
theorem dX12_isThere_10 : decode cX12_isThere 10 = .ok (.ifCond .lt 7, 3) := by decide +kernel
theorem dX12_isThere_13 : decode cX12_isThere 13 = .ok (.iconst 1, 1) := by decide +kernel
theorem dX12_isThere_14 : decode cX12_isThere 14 = .ok (.goto 4, 3) := by decide +kernel
theorem dX12_isThere_17 : decode cX12_isThere 17 = .ok (.iconst 0, 1) := by decide +kernel
theorem dX12_isThere_18 : decode cX12_isThere 18 = .ok (.ireturn, 1) := by decide +kernel
theorem dX12_isAlight_0 : decode cX12_isAlight 0 = .ok (.aload_n 0, 1) := by decide +kernel
theorem dX12_isAlight_1 : decode cX12_isAlight 1 = .ok (.iload_n 1, 1) := by decide +kernel
theorem dX12_isAlight_2 : decode cX12_isAlight 2 = .ok (.iload_n 2, 1) := by decide +kernel
theorem dX12_isAlight_3 : decode cX12_isAlight 3 = .ok (.invokevirtual 268, 3) := by decide +kernel
theorem dX12_isAlight_6 : decode cX12_isAlight 6 = .ok (.ifCond .eq 37, 3) := by decide +kernel
theorem dX12_isAlight_9 : decode cX12_isAlight 9 = .ok (.aload_n 0, 1) := by decide +kernel
theorem dX12_isAlight_10 : decode cX12_isAlight 10 = .ok (.iload_n 2, 1) := by decide +kernel
theorem dX12_isAlight_11 : decode cX12_isAlight 11 = .ok (.iconst 0, 1) := by decide +kernel
theorem dX12_isAlight_12 : decode cX12_isAlight 12 = .ok (.invokevirtual 255, 3) := by decide +kernel
theorem dX12_isAlight_15 : decode cX12_isAlight 15 = .ok (.iconst 3, 1) := by decide +kernel
theorem dX12_isAlight_16 : decode cX12_isAlight 16 = .ok (.if_icmp .eq 27, 3) := by decide +kernel
theorem dX12_isAlight_19 : decode cX12_isAlight 19 = .ok (.aload_n 0, 1) := by decide +kernel
theorem dX12_isAlight_20 : decode cX12_isAlight 20 = .ok (.getfield 107, 3) := by decide +kernel
theorem dX12_isAlight_23 : decode cX12_isAlight 23 = .ok (.iload_n 1, 1) := by decide +kernel
theorem dX12_isAlight_24 : decode cX12_isAlight 24 = .ok (.bipush 9, 2) := by decide +kernel
theorem dX12_isAlight_26 : decode cX12_isAlight 26 = .ok (.iadd, 1) := by decide +kernel
theorem dX12_isAlight_27 : decode cX12_isAlight 27 = .ok (.iload_n 2, 1) := by decide +kernel
theorem dX12_isAlight_28 : decode cX12_isAlight 28 = .ok (.iadd, 1) := by decide +kernel
theorem dX12_isAlight_29 : decode cX12_isAlight 29 = .ok (.iaload, 1) := by decide +kernel
theorem dX12_isAlight_30 : decode cX12_isAlight 30 = .ok (.aload_n 0, 1) := by decide +kernel
theorem dX12_isAlight_31 : decode cX12_isAlight 31 = .ok (.getfield 83, 3) := by decide +kernel
theorem dX12_isAlight_34 : decode cX12_isAlight 34 = .ok (.iconst 2, 1) := by decide +kernel
theorem dX12_isAlight_35 : decode cX12_isAlight 35 = .ok (.iaload, 1) := by decide +kernel
theorem dX12_isAlight_36 : decode cX12_isAlight 36 = .ok (.if_icmp .lt 7, 3) := by decide +kernel
theorem dX12_isAlight_39 : decode cX12_isAlight 39 = .ok (.iconst 1, 1) := by decide +kernel
theorem dX12_isAlight_40 : decode cX12_isAlight 40 = .ok (.goto 4, 3) := by decide +kernel
theorem dX12_isAlight_43 : decode cX12_isAlight 43 = .ok (.iconst 0, 1) := by decide +kernel
theorem dX12_isAlight_44 : decode cX12_isAlight 44 = .ok (.ireturn, 1) := by decide +kernel
theorem dX12_alightNow_0 : decode cX12_alightNow 0 = .ok (.iconst 0, 1) := by decide +kernel
theorem dX12_alightNow_1 : decode cX12_alightNow 1 = .ok (.istore_n 2, 1) := by decide +kernel
theorem dX12_alightNow_2 : decode cX12_alightNow 2 = .ok (.iconst 0, 1) := by decide +kernel
theorem dX12_alightNow_3 : decode cX12_alightNow 3 = .ok (.istore_n 3, 1) := by decide +kernel
theorem dX12_alightNow_4 : decode cX12_alightNow 4 = .ok (.iload_n 3, 1) := by decide +kernel
theorem dX12_alightNow_5 : decode cX12_alightNow 5 = .ok (.aload_n 0, 1) := by decide +kernel
theorem dX12_alightNow_6 : decode cX12_alightNow 6 = .ok (.invokevirtual 252, 3) := by decide +kernel
theorem dX12_alightNow_9 : decode cX12_alightNow 9 = .ok (.if_icmp .ge 28, 3) := by decide +kernel
theorem dX12_alightNow_12 : decode cX12_alightNow 12 = .ok (.iload_n 2, 1) := by decide +kernel
theorem dX12_alightNow_13 : decode cX12_alightNow 13 = .ok (.aload_n 0, 1) := by decide +kernel
theorem dX12_alightNow_14 : decode cX12_alightNow 14 = .ok (.iload_n 1, 1) := by decide +kernel
theorem dX12_alightNow_15 : decode cX12_alightNow 15 = .ok (.iload_n 3, 1) := by decide +kernel
theorem dX12_alightNow_16 : decode cX12_alightNow 16 = .ok (.invokevirtual 272, 3) := by decide +kernel
theorem dX12_alightNow_19 : decode cX12_alightNow 19 = .ok (.ifCond .eq 9, 3) := by decide +kernel
theorem dX12_alightNow_22 : decode cX12_alightNow 22 = .ok (.iconst 1, 1) := by decide +kernel
theorem dX12_alightNow_23 : decode cX12_alightNow 23 = .ok (.iload_n 3, 1) := by decide +kernel
theorem dX12_alightNow_24 : decode cX12_alightNow 24 = .ok (.ishl, 1) := by decide +kernel
theorem dX12_alightNow_25 : decode cX12_alightNow 25 = .ok (.goto 4, 3) := by decide +kernel
theorem dX12_alightNow_28 : decode cX12_alightNow 28 = .ok (.iconst 0, 1) := by decide +kernel
theorem dX12_alightNow_29 : decode cX12_alightNow 29 = .ok (.ior, 1) := by decide +kernel
theorem dX12_alightNow_30 : decode cX12_alightNow 30 = .ok (.istore_n 2, 1) := by decide +kernel
theorem dX12_alightNow_31 : decode cX12_alightNow 31 = .ok (.iinc 3 1, 3) := by decide +kernel
theorem dX12_alightNow_34 : decode cX12_alightNow 34 = .ok (.goto (-30), 3) := by decide +kernel
theorem dX12_alightNow_37 : decode cX12_alightNow 37 = .ok (.iload_n 2, 1) := by decide +kernel
theorem dX12_alightNow_38 : decode cX12_alightNow 38 = .ok (.ireturn, 1) := by decide +kernel
theorem dX12_lyingIn_0 : decode cX12_lyingIn 0 = .ok (.iconst (-1), 1) := by decide +kernel
theorem dX12_lyingIn_1 : decode cX12_lyingIn 1 = .ok (.istore_n 3, 1) := by decide +kernel
theorem dX12_lyingIn_2 : decode cX12_lyingIn 2 = .ok (.iconst 0, 1) := by decide +kernel
theorem dX12_lyingIn_3 : decode cX12_lyingIn 3 = .ok (.istore 4, 2) := by decide +kernel
theorem dX12_lyingIn_5 : decode cX12_lyingIn 5 = .ok (.iload 4, 2) := by decide +kernel
theorem dX12_lyingIn_7 : decode cX12_lyingIn 7 = .ok (.aload_n 0, 1) := by decide +kernel
theorem dX12_lyingIn_8 : decode cX12_lyingIn 8 = .ok (.invokevirtual 252, 3) := by decide +kernel
theorem dX12_lyingIn_11 : decode cX12_lyingIn 11 = .ok (.if_icmp .ge 31, 3) := by decide +kernel
theorem dX12_lyingIn_14 : decode cX12_lyingIn 14 = .ok (.aload_n 0, 1) := by decide +kernel
theorem dX12_lyingIn_15 : decode cX12_lyingIn 15 = .ok (.getfield 107, 3) := by decide +kernel
theorem dX12_lyingIn_18 : decode cX12_lyingIn 18 = .ok (.iload_n 1, 1) := by decide +kernel
theorem dX12_lyingIn_19 : decode cX12_lyingIn 19 = .ok (.iconst 2, 1) := by decide +kernel
theorem dX12_lyingIn_20 : decode cX12_lyingIn 20 = .ok (.iadd, 1) := by decide +kernel
theorem dX12_lyingIn_21 : decode cX12_lyingIn 21 = .ok (.iload 4, 2) := by decide +kernel
theorem dX12_lyingIn_23 : decode cX12_lyingIn 23 = .ok (.iadd, 1) := by decide +kernel
theorem dX12_lyingIn_24 : decode cX12_lyingIn 24 = .ok (.iaload, 1) := by decide +kernel
theorem dX12_lyingIn_25 : decode cX12_lyingIn 25 = .ok (.iload_n 2, 1) := by decide +kernel
theorem dX12_lyingIn_26 : decode cX12_lyingIn 26 = .ok (.if_icmp .ne 8, 3) := by decide +kernel
theorem dX12_lyingIn_29 : decode cX12_lyingIn 29 = .ok (.iload 4, 2) := by decide +kernel
theorem dX12_lyingIn_31 : decode cX12_lyingIn 31 = .ok (.goto 4, 3) := by decide +kernel
theorem dX12_lyingIn_34 : decode cX12_lyingIn 34 = .ok (.iload_n 3, 1) := by decide +kernel
theorem dX12_lyingIn_35 : decode cX12_lyingIn 35 = .ok (.istore_n 3, 1) := by decide +kernel
theorem dX12_lyingIn_36 : decode cX12_lyingIn 36 = .ok (.iinc 4 1, 3) := by decide +kernel
theorem dX12_lyingIn_39 : decode cX12_lyingIn 39 = .ok (.goto (-34), 3) := by decide +kernel
theorem dX12_lyingIn_42 : decode cX12_lyingIn 42 = .ok (.iload_n 3, 1) := by decide +kernel
theorem dX12_lyingIn_43 : decode cX12_lyingIn 43 = .ok (.ireturn, 1) := by decide +kernel
theorem dX12_doTouch_0 : decode cX12_doTouch 0 = .ok (.iload_n 0, 1) := by decide +kernel
theorem dX12_doTouch_1 : decode cX12_doTouch 1 = .ok (.iload_n 1, 1) := by decide +kernel
theorem dX12_doTouch_2 : decode cX12_doTouch 2 = .ok (.if_icmp .ge 9, 3) := by decide +kernel
theorem dX12_doTouch_5 : decode cX12_doTouch 5 = .ok (.iload_n 1, 1) := by decide +kernel
theorem dX12_doTouch_6 : decode cX12_doTouch 6 = .ok (.iload_n 0, 1) := by decide +kernel
theorem dX12_doTouch_7 : decode cX12_doTouch 7 = .ok (.isub, 1) := by decide +kernel
theorem dX12_doTouch_8 : decode cX12_doTouch 8 = .ok (.goto 6, 3) := by decide +kernel
theorem dX12_doTouch_11 : decode cX12_doTouch 11 = .ok (.iload_n 0, 1) := by decide +kernel
theorem dX12_doTouch_12 : decode cX12_doTouch 12 = .ok (.iload_n 1, 1) := by decide +kernel
theorem dX12_doTouch_13 : decode cX12_doTouch 13 = .ok (.isub, 1) := by decide +kernel
theorem dX12_doTouch_14 : decode cX12_doTouch 14 = .ok (.istore_n 2, 1) := by decide +kernel
theorem dX12_doTouch_15 : decode cX12_doTouch 15 = .ok (.iload_n 2, 1) := by decide +kernel
theorem dX12_doTouch_16 : decode cX12_doTouch 16 = .ok (.iconst 4, 1) := by decide +kernel
theorem dX12_doTouch_17 : decode cX12_doTouch 17 = .ok (.if_icmp .eq 17, 3) := by decide +kernel
theorem dX12_doTouch_20 : decode cX12_doTouch 20 = .ok (.iload_n 2, 1) := by decide +kernel
theorem dX12_doTouch_21 : decode cX12_doTouch 21 = .ok (.iconst 1, 1) := by decide +kernel
theorem dX12_doTouch_22 : decode cX12_doTouch 22 = .ok (.if_icmp .ne 16, 3) := by decide +kernel
theorem dX12_doTouch_25 : decode cX12_doTouch 25 = .ok (.iload_n 0, 1) := by decide +kernel
theorem dX12_doTouch_26 : decode cX12_doTouch 26 = .ok (.iconst 4, 1) := by decide +kernel
theorem dX12_doTouch_27 : decode cX12_doTouch 27 = .ok (.idiv, 1) := by decide +kernel
theorem dX12_doTouch_28 : decode cX12_doTouch 28 = .ok (.iload_n 1, 1) := by decide +kernel
theorem dX12_doTouch_29 : decode cX12_doTouch 29 = .ok (.iconst 4, 1) := by decide +kernel
theorem dX12_doTouch_30 : decode cX12_doTouch 30 = .ok (.idiv, 1) := by decide +kernel
theorem dX12_doTouch_31 : decode cX12_doTouch 31 = .ok (.if_icmp .ne 7, 3) := by decide +kernel
theorem dX12_doTouch_34 : decode cX12_doTouch 34 = .ok (.iconst 1, 1) := by decide +kernel
theorem dX12_doTouch_35 : decode cX12_doTouch 35 = .ok (.goto 4, 3) := by decide +kernel
theorem dX12_doTouch_38 : decode cX12_doTouch 38 = .ok (.iconst 0, 1) := by decide +kernel
theorem dX12_doTouch_39 : decode cX12_doTouch 39 = .ok (.ireturn, 1) := by decide +kernel
theorem dX12_touchOf_0 : decode cX12_touchOf 0 = .ok (.iconst 0, 1) := by decide +kernel
theorem dX12_touchOf_1 : decode cX12_touchOf 1 = .ok (.istore_n 3, 1) := by decide +kernel
theorem dX12_touchOf_2 : decode cX12_touchOf 2 = .ok (.iconst 0, 1) := by decide +kernel
theorem dX12_touchOf_3 : decode cX12_touchOf 3 = .ok (.istore 4, 2) := by decide +kernel
theorem dX12_touchOf_5 : decode cX12_touchOf 5 = .ok (.iload 4, 2) := by decide +kernel
theorem dX12_touchOf_7 : decode cX12_touchOf 7 = .ok (.aload_n 0, 1) := by decide +kernel
theorem dX12_touchOf_8 : decode cX12_touchOf 8 = .ok (.invokevirtual 252, 3) := by decide +kernel
theorem dX12_touchOf_11 : decode cX12_touchOf 11 = .ok (.if_icmp .ge 72, 3) := by decide +kernel
theorem dX12_touchOf_14 : decode cX12_touchOf 14 = .ok (.aload_n 0, 1) := by decide +kernel
theorem dX12_touchOf_15 : decode cX12_touchOf 15 = .ok (.iload_n 1, 1) := by decide +kernel
theorem dX12_touchOf_16 : decode cX12_touchOf 16 = .ok (.iload_n 2, 1) := by decide +kernel
theorem dX12_touchOf_17 : decode cX12_touchOf 17 = .ok (.invokevirtual 268, 3) := by decide +kernel
theorem dX12_touchOf_20 : decode cX12_touchOf 20 = .ok (.ifCond .eq 63, 3) := by decide +kernel
theorem dX12_touchOf_23 : decode cX12_touchOf 23 = .ok (.iload_n 3, 1) := by decide +kernel
theorem dX12_touchOf_24 : decode cX12_touchOf 24 = .ok (.iload 4, 2) := by decide +kernel
theorem dX12_touchOf_26 : decode cX12_touchOf 26 = .ok (.iload_n 2, 1) := by decide +kernel
theorem dX12_touchOf_27 : decode cX12_touchOf 27 = .ok (.if_icmp .eq 47, 3) := by decide +kernel
theorem dX12_touchOf_30 : decode cX12_touchOf 30 = .ok (.aload_n 0, 1) := by decide +kernel
theorem dX12_touchOf_31 : decode cX12_touchOf 31 = .ok (.iload_n 1, 1) := by decide +kernel
theorem dX12_touchOf_32 : decode cX12_touchOf 32 = .ok (.iload 4, 2) := by decide +kernel
theorem dX12_touchOf_34 : decode cX12_touchOf 34 = .ok (.invokevirtual 268, 3) := by decide +kernel
theorem dX12_touchOf_37 : decode cX12_touchOf 37 = .ok (.ifCond .eq 37, 3) := by decide +kernel
theorem dX12_touchOf_40 : decode cX12_touchOf 40 = .ok (.aload_n 0, 1) := by decide +kernel
theorem dX12_touchOf_41 : decode cX12_touchOf 41 = .ok (.getfield 107, 3) := by decide +kernel
theorem dX12_touchOf_44 : decode cX12_touchOf 44 = .ok (.iload_n 1, 1) := by decide +kernel
theorem dX12_touchOf_45 : decode cX12_touchOf 45 = .ok (.iconst 2, 1) := by decide +kernel
theorem dX12_touchOf_46 : decode cX12_touchOf 46 = .ok (.iadd, 1) := by decide +kernel
theorem dX12_touchOf_47 : decode cX12_touchOf 47 = .ok (.iload_n 2, 1) := by decide +kernel
theorem dX12_touchOf_48 : decode cX12_touchOf 48 = .ok (.iadd, 1) := by decide +kernel
theorem dX12_touchOf_49 : decode cX12_touchOf 49 = .ok (.iaload, 1) := by decide +kernel
theorem dX12_touchOf_50 : decode cX12_touchOf 50 = .ok (.aload_n 0, 1) := by decide +kernel
theorem dX12_touchOf_51 : decode cX12_touchOf 51 = .ok (.getfield 107, 3) := by decide +kernel
theorem dX12_touchOf_54 : decode cX12_touchOf 54 = .ok (.iload_n 1, 1) := by decide +kernel
theorem dX12_touchOf_55 : decode cX12_touchOf 55 = .ok (.iconst 2, 1) := by decide +kernel
theorem dX12_touchOf_56 : decode cX12_touchOf 56 = .ok (.iadd, 1) := by decide +kernel
theorem dX12_touchOf_57 : decode cX12_touchOf 57 = .ok (.iload 4, 2) := by decide +kernel
theorem dX12_touchOf_59 : decode cX12_touchOf 59 = .ok (.iadd, 1) := by decide +kernel
theorem dX12_touchOf_60 : decode cX12_touchOf 60 = .ok (.iaload, 1) := by decide +kernel
theorem dX12_touchOf_61 : decode cX12_touchOf 61 = .ok (.invokestatic 275, 3) := by decide +kernel
theorem dX12_touchOf_64 : decode cX12_touchOf 64 = .ok (.ifCond .eq 10, 3) := by decide +kernel
theorem dX12_touchOf_67 : decode cX12_touchOf 67 = .ok (.iconst 1, 1) := by decide +kernel
theorem dX12_touchOf_68 : decode cX12_touchOf 68 = .ok (.iload 4, 2) := by decide +kernel
theorem dX12_touchOf_70 : decode cX12_touchOf 70 = .ok (.ishl, 1) := by decide +kernel
theorem dX12_touchOf_71 : decode cX12_touchOf 71 = .ok (.goto 4, 3) := by decide +kernel
theorem dX12_touchOf_74 : decode cX12_touchOf 74 = .ok (.iconst 0, 1) := by decide +kernel
theorem dX12_touchOf_75 : decode cX12_touchOf 75 = .ok (.ior, 1) := by decide +kernel
theorem dX12_touchOf_76 : decode cX12_touchOf 76 = .ok (.istore_n 3, 1) := by decide +kernel
theorem dX12_touchOf_77 : decode cX12_touchOf 77 = .ok (.iinc 4 1, 3) := by decide +kernel
theorem dX12_touchOf_80 : decode cX12_touchOf 80 = .ok (.goto (-75), 3) := by decide +kernel
theorem dX12_touchOf_83 : decode cX12_touchOf 83 = .ok (.iload_n 3, 1) := by decide +kernel
theorem dX12_touchOf_84 : decode cX12_touchOf 84 = .ok (.ireturn, 1) := by decide +kernel
theorem dX12_nearOf_0 : decode cX12_nearOf 0 = .ok (.aload_n 0, 1) := by decide +kernel
theorem dX12_nearOf_1 : decode cX12_nearOf 1 = .ok (.iload_n 1, 1) := by decide +kernel
theorem dX12_nearOf_2 : decode cX12_nearOf 2 = .ok (.iload_n 2, 1) := by decide +kernel
theorem dX12_nearOf_3 : decode cX12_nearOf 3 = .ok (.invokevirtual 278, 3) := by decide +kernel
theorem dX12_nearOf_6 : decode cX12_nearOf 6 = .ok (.istore_n 3, 1) := by decide +kernel
theorem dX12_nearOf_7 : decode cX12_nearOf 7 = .ok (.iconst 0, 1) := by decide +kernel
theorem dX12_nearOf_8 : decode cX12_nearOf 8 = .ok (.istore 4, 2) := by decide +kernel
theorem dX12_nearOf_10 : decode cX12_nearOf 10 = .ok (.iconst 0, 1) := by decide +kernel
theorem dX12_nearOf_11 : decode cX12_nearOf 11 = .ok (.istore 5, 2) := by decide +kernel
theorem dX12_nearOf_13 : decode cX12_nearOf 13 = .ok (.iload 5, 2) := by decide +kernel
theorem dX12_nearOf_15 : decode cX12_nearOf 15 = .ok (.aload_n 0, 1) := by decide +kernel
theorem dX12_nearOf_16 : decode cX12_nearOf 16 = .ok (.invokevirtual 252, 3) := by decide +kernel
theorem dX12_nearOf_19 : decode cX12_nearOf 19 = .ok (.if_icmp .ge 71, 3) := by decide +kernel
theorem dX12_nearOf_22 : decode cX12_nearOf 22 = .ok (.iload_n 3, 1) := by decide +kernel
theorem dX12_nearOf_23 : decode cX12_nearOf 23 = .ok (.iload 5, 2) := by decide +kernel
theorem dX12_nearOf_25 : decode cX12_nearOf 25 = .ok (.ishr, 1) := by decide +kernel
theorem dX12_nearOf_26 : decode cX12_nearOf 26 = .ok (.iconst 1, 1) := by decide +kernel
theorem dX12_nearOf_27 : decode cX12_nearOf 27 = .ok (.iand, 1) := by decide +kernel
theorem dX12_nearOf_28 : decode cX12_nearOf 28 = .ok (.iconst 1, 1) := by decide +kernel
theorem dX12_nearOf_29 : decode cX12_nearOf 29 = .ok (.if_icmp .ne 7, 3) := by decide +kernel
theorem dX12_nearOf_32 : decode cX12_nearOf 32 = .ok (.iconst 1, 1) := by decide +kernel
theorem dX12_nearOf_33 : decode cX12_nearOf 33 = .ok (.goto 4, 3) := by decide +kernel
theorem dX12_nearOf_36 : decode cX12_nearOf 36 = .ok (.iconst 0, 1) := by decide +kernel
theorem dX12_nearOf_37 : decode cX12_nearOf 37 = .ok (.istore 6, 2) := by decide +kernel
theorem dX12_nearOf_39 : decode cX12_nearOf 39 = .ok (.iload 4, 2) := by decide +kernel
theorem dX12_nearOf_41 : decode cX12_nearOf 41 = .ok (.iload 6, 2) := by decide +kernel
theorem dX12_nearOf_43 : decode cX12_nearOf 43 = .ok (.ifCond .eq 17, 3) := by decide +kernel
theorem dX12_nearOf_46 : decode cX12_nearOf 46 = .ok (.aload_n 0, 1) := by decide +kernel
theorem dX12_nearOf_47 : decode cX12_nearOf 47 = .ok (.iload_n 1, 1) := by decide +kernel
theorem dX12_nearOf_48 : decode cX12_nearOf 48 = .ok (.iload 5, 2) := by decide +kernel
theorem dX12_nearOf_50 : decode cX12_nearOf 50 = .ok (.invokevirtual 272, 3) := by decide +kernel
theorem dX12_nearOf_53 : decode cX12_nearOf 53 = .ok (.ifCond .eq 7, 3) := by decide +kernel
theorem dX12_nearOf_56 : decode cX12_nearOf 56 = .ok (.iconst 1, 1) := by decide +kernel
theorem dX12_nearOf_57 : decode cX12_nearOf 57 = .ok (.goto 24, 3) := by decide +kernel
theorem dX12_nearOf_60 : decode cX12_nearOf 60 = .ok (.iload 6, 2) := by decide +kernel
theorem dX12_nearOf_62 : decode cX12_nearOf 62 = .ok (.ifCond .eq 18, 3) := by decide +kernel
theorem dX12_nearOf_65 : decode cX12_nearOf 65 = .ok (.aload_n 0, 1) := by decide +kernel
theorem dX12_nearOf_66 : decode cX12_nearOf 66 = .ok (.iload 5, 2) := by decide +kernel
theorem dX12_nearOf_68 : decode cX12_nearOf 68 = .ok (.iconst 0, 1) := by decide +kernel
theorem dX12_nearOf_69 : decode cX12_nearOf 69 = .ok (.invokevirtual 255, 3) := by decide +kernel
theorem dX12_nearOf_72 : decode cX12_nearOf 72 = .ok (.iconst 2, 1) := by decide +kernel
theorem dX12_nearOf_73 : decode cX12_nearOf 73 = .ok (.if_icmp .ne 7, 3) := by decide +kernel
theorem dX12_nearOf_76 : decode cX12_nearOf 76 = .ok (.iconst (-1), 1) := by decide +kernel
theorem dX12_nearOf_77 : decode cX12_nearOf 77 = .ok (.goto 4, 3) := by decide +kernel
theorem dX12_nearOf_80 : decode cX12_nearOf 80 = .ok (.iconst 0, 1) := by decide +kernel
theorem dX12_nearOf_81 : decode cX12_nearOf 81 = .ok (.iadd, 1) := by decide +kernel
theorem dX12_nearOf_82 : decode cX12_nearOf 82 = .ok (.istore 4, 2) := by decide +kernel
theorem dX12_nearOf_84 : decode cX12_nearOf 84 = .ok (.iinc 5 1, 3) := by decide +kernel
theorem dX12_nearOf_87 : decode cX12_nearOf 87 = .ok (.goto (-74), 3) := by decide +kernel
theorem dX12_nearOf_90 : decode cX12_nearOf 90 = .ok (.iload 4, 2) := by decide +kernel
theorem dX12_nearOf_92 : decode cX12_nearOf 92 = .ok (.ifCond .ge 7, 3) := by decide +kernel
theorem dX12_nearOf_95 : decode cX12_nearOf 95 = .ok (.iconst 0, 1) := by decide +kernel
theorem dX12_nearOf_96 : decode cX12_nearOf 96 = .ok (.goto 5, 3) := by decide +kernel
theorem dX12_nearOf_99 : decode cX12_nearOf 99 = .ok (.iload 4, 2) := by decide +kernel
theorem dX12_nearOf_101 : decode cX12_nearOf 101 = .ok (.ireturn, 1) := by decide +kernel
theorem dX12_bits_0 : decode cX12_bits 0 = .ok (.iconst 0, 1) := by decide +kernel
theorem dX12_bits_1 : decode cX12_bits 1 = .ok (.istore_n 1, 1) := by decide +kernel
theorem dX12_bits_2 : decode cX12_bits 2 = .ok (.iconst 0, 1) := by decide +kernel
theorem dX12_bits_3 : decode cX12_bits 3 = .ok (.istore_n 2, 1) := by decide +kernel
theorem dX12_bits_4 : decode cX12_bits 4 = .ok (.iload_n 2, 1) := by decide +kernel
theorem dX12_bits_5 : decode cX12_bits 5 = .ok (.bipush 30, 2) := by decide +kernel
theorem dX12_bits_7 : decode cX12_bits 7 = .ok (.if_icmp .ge 17, 3) := by decide +kernel
theorem dX12_bits_10 : decode cX12_bits 10 = .ok (.iload_n 1, 1) := by decide +kernel
theorem dX12_bits_11 : decode cX12_bits 11 = .ok (.iload_n 0, 1) := by decide +kernel
theorem dX12_bits_12 : decode cX12_bits 12 = .ok (.iload_n 2, 1) := by decide +kernel
theorem dX12_bits_13 : decode cX12_bits 13 = .ok (.ishr, 1) := by decide +kernel
theorem dX12_bits_14 : decode cX12_bits 14 = .ok (.iconst 1, 1) := by decide +kernel
theorem dX12_bits_15 : decode cX12_bits 15 = .ok (.iand, 1) := by decide +kernel
theorem dX12_bits_16 : decode cX12_bits 16 = .ok (.iadd, 1) := by decide +kernel
theorem dX12_bits_17 : decode cX12_bits 17 = .ok (.istore_n 1, 1) := by decide +kernel
theorem dX12_bits_18 : decode cX12_bits 18 = .ok (.iinc 2 1, 3) := by decide +kernel
theorem dX12_bits_21 : decode cX12_bits 21 = .ok (.goto (-17), 3) := by decide +kernel
theorem dX12_bits_24 : decode cX12_bits 24 = .ok (.iload_n 1, 1) := by decide +kernel
theorem dX12_bits_25 : decode cX12_bits 25 = .ok (.ireturn, 1) := by decide +kernel
theorem dX12_falls_0 : decode cX12_falls 0 = .ok (.iload_n 2, 1) := by decide +kernel
theorem dX12_falls_1 : decode cX12_falls 1 = .ok (.iconst 4, 1) := by decide +kernel
theorem dX12_falls_2 : decode cX12_falls 2 = .ok (.if_icmp .ge 7, 3) := by decide +kernel
theorem dX12_falls_5 : decode cX12_falls 5 = .ok (.iconst (-1), 1) := by decide +kernel
theorem dX12_falls_6 : decode cX12_falls 6 = .ok (.goto 9, 3) := by decide +kernel
theorem dX12_falls_9 : decode cX12_falls 9 = .ok (.aload_n 0, 1) := by decide +kernel
theorem dX12_falls_10 : decode cX12_falls 10 = .ok (.iload_n 1, 1) := by decide +kernel
theorem dX12_falls_11 : decode cX12_falls 11 = .ok (.iload_n 2, 1) := by decide +kernel
theorem dX12_falls_12 : decode cX12_falls 12 = .ok (.invokevirtual 281, 3) := by decide +kernel
theorem dX12_falls_15 : decode cX12_falls 15 = .ok (.istore_n 3, 1) := by decide +kernel
theorem dX12_falls_16 : decode cX12_falls 16 = .ok (.iload_n 3, 1) := by decide +kernel
theorem dX12_falls_17 : decode cX12_falls 17 = .ok (.ifCond .lt 27, 3) := by decide +kernel
theorem dX12_falls_20 : decode cX12_falls 20 = .ok (.aload_n 0, 1) := by decide +kernel
theorem dX12_falls_21 : decode cX12_falls 21 = .ok (.iload_n 1, 1) := by decide +kernel
theorem dX12_falls_22 : decode cX12_falls 22 = .ok (.iload_n 2, 1) := by decide +kernel
theorem dX12_falls_23 : decode cX12_falls 23 = .ok (.iconst 4, 1) := by decide +kernel
theorem dX12_falls_24 : decode cX12_falls 24 = .ok (.isub, 1) := by decide +kernel
theorem dX12_falls_25 : decode cX12_falls 25 = .ok (.invokevirtual 281, 3) := by decide +kernel
theorem dX12_falls_28 : decode cX12_falls 28 = .ok (.ifCond .ge 16, 3) := by decide +kernel
theorem dX12_falls_31 : decode cX12_falls 31 = .ok (.aload_n 0, 1) := by decide +kernel
theorem dX12_falls_32 : decode cX12_falls 32 = .ok (.getfield 107, 3) := by decide +kernel
theorem dX12_falls_35 : decode cX12_falls 35 = .ok (.iload_n 1, 1) := by decide +kernel
theorem dX12_falls_36 : decode cX12_falls 36 = .ok (.iconst 2, 1) := by decide +kernel
theorem dX12_falls_37 : decode cX12_falls 37 = .ok (.iadd, 1) := by decide +kernel
theorem dX12_falls_38 : decode cX12_falls 38 = .ok (.iload_n 3, 1) := by decide +kernel
theorem dX12_falls_39 : decode cX12_falls 39 = .ok (.iadd, 1) := by decide +kernel
theorem dX12_falls_40 : decode cX12_falls 40 = .ok (.iload_n 2, 1) := by decide +kernel
theorem dX12_falls_41 : decode cX12_falls 41 = .ok (.iconst 4, 1) := by decide +kernel
theorem dX12_falls_42 : decode cX12_falls 42 = .ok (.isub, 1) := by decide +kernel
theorem dX12_falls_43 : decode cX12_falls 43 = .ok (.iastore, 1) := by decide +kernel
theorem dX12_falls_44 : decode cX12_falls 44 = .ok (.return_, 1) := by decide +kernel
theorem dX12_vanishes_0 : decode cX12_vanishes 0 = .ok (.aload_n 0, 1) := by decide +kernel
theorem dX12_vanishes_1 : decode cX12_vanishes 1 = .ok (.getfield 107, 3) := by decide +kernel
theorem dX12_vanishes_4 : decode cX12_vanishes 4 = .ok (.iload_n 1, 1) := by decide +kernel
theorem dX12_vanishes_5 : decode cX12_vanishes 5 = .ok (.iconst 2, 1) := by decide +kernel
theorem dX12_vanishes_6 : decode cX12_vanishes 6 = .ok (.iadd, 1) := by decide +kernel
theorem dX12_vanishes_7 : decode cX12_vanishes 7 = .ok (.iload_n 2, 1) := by decide +kernel
theorem dX12_vanishes_8 : decode cX12_vanishes 8 = .ok (.iadd, 1) := by decide +kernel
theorem dX12_vanishes_9 : decode cX12_vanishes 9 = .ok (.iconst (-1), 1) := by decide +kernel
theorem dX12_vanishes_10 : decode cX12_vanishes 10 = .ok (.iastore, 1) := by decide +kernel
theorem dX12_vanishes_11 : decode cX12_vanishes 11 = .ok (.aload_n 0, 1) := by decide +kernel
theorem dX12_vanishes_12 : decode cX12_vanishes 12 = .ok (.getfield 107, 3) := by decide +kernel
theorem dX12_vanishes_15 : decode cX12_vanishes 15 = .ok (.iload_n 1, 1) := by decide +kernel
theorem dX12_vanishes_16 : decode cX12_vanishes 16 = .ok (.bipush 9, 2) := by decide +kernel
theorem dX12_vanishes_18 : decode cX12_vanishes 18 = .ok (.iadd, 1) := by decide +kernel
theorem dX12_vanishes_19 : decode cX12_vanishes 19 = .ok (.iload_n 2, 1) := by decide +kernel
theorem dX12_vanishes_20 : decode cX12_vanishes 20 = .ok (.iadd, 1) := by decide +kernel
theorem dX12_vanishes_21 : decode cX12_vanishes 21 = .ok (.iconst 0, 1) := by decide +kernel
theorem dX12_vanishes_22 : decode cX12_vanishes 22 = .ok (.iastore, 1) := by decide +kernel
theorem dX12_vanishes_23 : decode cX12_vanishes 23 = .ok (.aload_n 0, 1) := by decide +kernel
theorem dX12_vanishes_24 : decode cX12_vanishes 24 = .ok (.getfield 107, 3) := by decide +kernel
theorem dX12_vanishes_27 : decode cX12_vanishes 27 = .ok (.iload_n 1, 1) := by decide +kernel
theorem dX12_vanishes_28 : decode cX12_vanishes 28 = .ok (.bipush 16, 2) := by decide +kernel
theorem dX12_vanishes_30 : decode cX12_vanishes 30 = .ok (.iadd, 1) := by decide +kernel
theorem dX12_vanishes_31 : decode cX12_vanishes 31 = .ok (.iload_n 2, 1) := by decide +kernel
theorem dX12_vanishes_32 : decode cX12_vanishes 32 = .ok (.iadd, 1) := by decide +kernel
theorem dX12_vanishes_33 : decode cX12_vanishes 33 = .ok (.iconst 0, 1) := by decide +kernel
theorem dX12_vanishes_34 : decode cX12_vanishes 34 = .ok (.iastore, 1) := by decide +kernel
theorem dX12_vanishes_35 : decode cX12_vanishes 35 = .ok (.return_, 1) := by decide +kernel
theorem dX12_draughtOf_0 : decode cX12_draughtOf 0 = .ok (.aload_n 0, 1) := by decide +kernel
theorem dX12_draughtOf_1 : decode cX12_draughtOf 1 = .ok (.getfield 83, 3) := by decide +kernel
theorem dX12_draughtOf_4 : decode cX12_draughtOf 4 = .ok (.bipush 32, 2) := by decide +kernel
theorem dX12_draughtOf_6 : decode cX12_draughtOf 6 = .ok (.aload_n 0, 1) := by decide +kernel
theorem dX12_draughtOf_7 : decode cX12_draughtOf 7 = .ok (.getfield 107, 3) := by decide +kernel
theorem dX12_draughtOf_10 : decode cX12_draughtOf 10 = .ok (.iload_n 1, 1) := by decide +kernel
theorem dX12_draughtOf_11 : decode cX12_draughtOf 11 = .ok (.iconst 0, 1) := by decide +kernel
theorem dX12_draughtOf_12 : decode cX12_draughtOf 12 = .ok (.iadd, 1) := by decide +kernel
theorem dX12_draughtOf_13 : decode cX12_draughtOf 13 = .ok (.iaload, 1) := by decide +kernel
theorem dX12_draughtOf_14 : decode cX12_draughtOf 14 = .ok (.aload_n 0, 1) := by decide +kernel
theorem dX12_draughtOf_15 : decode cX12_draughtOf 15 = .ok (.getfield 83, 3) := by decide +kernel
theorem dX12_draughtOf_18 : decode cX12_draughtOf 18 = .ok (.iconst 1, 1) := by decide +kernel
theorem dX12_draughtOf_19 : decode cX12_draughtOf 19 = .ok (.iaload, 1) := by decide +kernel
theorem dX12_draughtOf_20 : decode cX12_draughtOf 20 = .ok (.irem, 1) := by decide +kernel
theorem dX12_draughtOf_21 : decode cX12_draughtOf 21 = .ok (.iadd, 1) := by decide +kernel
theorem dX12_draughtOf_22 : decode cX12_draughtOf 22 = .ok (.iaload, 1) := by decide +kernel
theorem dX12_draughtOf_23 : decode cX12_draughtOf 23 = .ok (.ireturn, 1) := by decide +kernel
theorem dX12_passes_0 : decode cX12_passes 0 = .ok (.aload_n 0, 1) := by decide +kernel
theorem dX12_passes_1 : decode cX12_passes 1 = .ok (.iload_n 1, 1) := by decide +kernel
theorem dX12_passes_2 : decode cX12_passes 2 = .ok (.invokevirtual 284, 3) := by decide +kernel
theorem dX12_passes_5 : decode cX12_passes 5 = .ok (.istore_n 3, 1) := by decide +kernel
theorem dX12_passes_6 : decode cX12_passes 6 = .ok (.iconst 0, 1) := by decide +kernel
theorem dX12_passes_7 : decode cX12_passes 7 = .ok (.istore 4, 2) := by decide +kernel
theorem dX12_passes_9 : decode cX12_passes 9 = .ok (.iload 4, 2) := by decide +kernel
theorem dX12_passes_11 : decode cX12_passes 11 = .ok (.aload_n 0, 1) := by decide +kernel
theorem dX12_passes_12 : decode cX12_passes 12 = .ok (.invokevirtual 252, 3) := by decide +kernel
theorem dX12_passes_15 : decode cX12_passes 15 = .ok (.if_icmp .ge 159, 3) := by decide +kernel
theorem dX12_passes_18 : decode cX12_passes 18 = .ok (.aload_n 0, 1) := by decide +kernel
theorem dX12_passes_19 : decode cX12_passes 19 = .ok (.getfield 101, 3) := by decide +kernel
theorem dX12_passes_22 : decode cX12_passes 22 = .ok (.iconst 0, 1) := by decide +kernel
theorem dX12_passes_23 : decode cX12_passes 23 = .ok (.aload_n 0, 1) := by decide +kernel
theorem dX12_passes_24 : decode cX12_passes 24 = .ok (.getfield 107, 3) := by decide +kernel
theorem dX12_passes_27 : decode cX12_passes 27 = .ok (.iload_n 1, 1) := by decide +kernel
theorem dX12_passes_28 : decode cX12_passes 28 = .ok (.bipush 9, 2) := by decide +kernel
theorem dX12_passes_30 : decode cX12_passes 30 = .ok (.iadd, 1) := by decide +kernel
theorem dX12_passes_31 : decode cX12_passes 31 = .ok (.iload 4, 2) := by decide +kernel
theorem dX12_passes_33 : decode cX12_passes 33 = .ok (.iadd, 1) := by decide +kernel
theorem dX12_passes_34 : decode cX12_passes 34 = .ok (.iaload, 1) := by decide +kernel
theorem dX12_passes_35 : decode cX12_passes 35 = .ok (.iastore, 1) := by decide +kernel
theorem dX12_passes_36 : decode cX12_passes 36 = .ok (.aload_n 0, 1) := by decide +kernel
theorem dX12_passes_37 : decode cX12_passes 37 = .ok (.getfield 101, 3) := by decide +kernel
theorem dX12_passes_40 : decode cX12_passes 40 = .ok (.iconst 1, 1) := by decide +kernel
theorem dX12_passes_41 : decode cX12_passes 41 = .ok (.aload_n 0, 1) := by decide +kernel
theorem dX12_passes_42 : decode cX12_passes 42 = .ok (.iload_n 1, 1) := by decide +kernel
theorem dX12_passes_43 : decode cX12_passes 43 = .ok (.iload 4, 2) := by decide +kernel
theorem dX12_passes_45 : decode cX12_passes 45 = .ok (.invokevirtual 287, 3) := by decide +kernel
theorem dX12_passes_48 : decode cX12_passes 48 = .ok (.iastore, 1) := by decide +kernel
theorem dX12_passes_49 : decode cX12_passes 49 = .ok (.aload_n 0, 1) := by decide +kernel
theorem dX12_passes_50 : decode cX12_passes 50 = .ok (.getfield 101, 3) := by decide +kernel
theorem dX12_passes_53 : decode cX12_passes 53 = .ok (.iconst 2, 1) := by decide +kernel
theorem dX12_passes_54 : decode cX12_passes 54 = .ok (.aload_n 0, 1) := by decide +kernel
theorem dX12_passes_55 : decode cX12_passes 55 = .ok (.getfield 107, 3) := by decide +kernel
theorem dX12_passes_58 : decode cX12_passes 58 = .ok (.iload_n 1, 1) := by decide +kernel
theorem dX12_passes_59 : decode cX12_passes 59 = .ok (.iconst 1, 1) := by decide +kernel
theorem dX12_passes_60 : decode cX12_passes 60 = .ok (.iadd, 1) := by decide +kernel
theorem dX12_passes_61 : decode cX12_passes 61 = .ok (.iaload, 1) := by decide +kernel
theorem dX12_passes_62 : decode cX12_passes 62 = .ok (.iconst 1, 1) := by decide +kernel
theorem dX12_passes_63 : decode cX12_passes 63 = .ok (.if_icmp .ne 7, 3) := by decide +kernel
theorem dX12_passes_66 : decode cX12_passes 66 = .ok (.iconst 0, 1) := by decide +kernel
theorem dX12_passes_67 : decode cX12_passes 67 = .ok (.goto 4, 3) := by decide +kernel
theorem dX12_passes_70 : decode cX12_passes 70 = .ok (.iload_n 2, 1) := by decide +kernel
theorem dX12_passes_71 : decode cX12_passes 71 = .ok (.iastore, 1) := by decide +kernel
theorem dX12_passes_72 : decode cX12_passes 72 = .ok (.aload_n 0, 1) := by decide +kernel
theorem dX12_passes_73 : decode cX12_passes 73 = .ok (.getfield 101, 3) := by decide +kernel
theorem dX12_passes_76 : decode cX12_passes 76 = .ok (.iconst 3, 1) := by decide +kernel
theorem dX12_passes_77 : decode cX12_passes 77 = .ok (.aload_n 0, 1) := by decide +kernel
theorem dX12_passes_78 : decode cX12_passes 78 = .ok (.getfield 107, 3) := by decide +kernel
theorem dX12_passes_81 : decode cX12_passes 81 = .ok (.iload_n 1, 1) := by decide +kernel
theorem dX12_passes_82 : decode cX12_passes 82 = .ok (.bipush 16, 2) := by decide +kernel
theorem dX12_passes_84 : decode cX12_passes 84 = .ok (.iadd, 1) := by decide +kernel
theorem dX12_passes_85 : decode cX12_passes 85 = .ok (.iload 4, 2) := by decide +kernel
theorem dX12_passes_87 : decode cX12_passes 87 = .ok (.iadd, 1) := by decide +kernel
theorem dX12_passes_88 : decode cX12_passes 88 = .ok (.iaload, 1) := by decide +kernel
theorem dX12_passes_89 : decode cX12_passes 89 = .ok (.iastore, 1) := by decide +kernel
theorem dX12_passes_90 : decode cX12_passes 90 = .ok (.aload_n 0, 1) := by decide +kernel
theorem dX12_passes_91 : decode cX12_passes 91 = .ok (.getfield 83, 3) := by decide +kernel
theorem dX12_passes_94 : decode cX12_passes 94 = .ok (.iconst 3, 1) := by decide +kernel
theorem dX12_passes_95 : decode cX12_passes 95 = .ok (.iaload, 1) := by decide +kernel
theorem dX12_passes_96 : decode cX12_passes 96 = .ok (.ifCond .ge 30, 3) := by decide +kernel
theorem dX12_passes_99 : decode cX12_passes 99 = .ok (.aload_n 0, 1) := by decide +kernel
theorem dX12_passes_100 : decode cX12_passes 100 = .ok (.getfield 101, 3) := by decide +kernel
theorem dX12_passes_103 : decode cX12_passes 103 = .ok (.iconst 0, 1) := by decide +kernel
theorem dX12_passes_104 : decode cX12_passes 104 = .ok (.iaload, 1) := by decide +kernel
theorem dX12_passes_105 : decode cX12_passes 105 = .ok (.aload_n 0, 1) := by decide +kernel
theorem dX12_passes_106 : decode cX12_passes 106 = .ok (.getfield 101, 3) := by decide +kernel
theorem dX12_passes_109 : decode cX12_passes 109 = .ok (.iconst 1, 1) := by decide +kernel
theorem dX12_passes_110 : decode cX12_passes 110 = .ok (.iaload, 1) := by decide +kernel
theorem dX12_passes_111 : decode cX12_passes 111 = .ok (.iconst 2, 1) := by decide +kernel
theorem dX12_passes_112 : decode cX12_passes 112 = .ok (.imul, 1) := by decide +kernel
theorem dX12_passes_113 : decode cX12_passes 113 = .ok (.iadd, 1) := by decide +kernel
theorem dX12_passes_114 : decode cX12_passes 114 = .ok (.aload_n 0, 1) := by decide +kernel
theorem dX12_passes_115 : decode cX12_passes 115 = .ok (.getfield 101, 3) := by decide +kernel
theorem dX12_passes_118 : decode cX12_passes 118 = .ok (.iconst 2, 1) := by decide +kernel
theorem dX12_passes_119 : decode cX12_passes 119 = .ok (.iaload, 1) := by decide +kernel
theorem dX12_passes_120 : decode cX12_passes 120 = .ok (.iadd, 1) := by decide +kernel
theorem dX12_passes_121 : decode cX12_passes 121 = .ok (.iconst 3, 1) := by decide +kernel
theorem dX12_passes_122 : decode cX12_passes 122 = .ok (.isub, 1) := by decide +kernel
theorem dX12_passes_123 : decode cX12_passes 123 = .ok (.goto 13, 3) := by decide +kernel
theorem dX12_passes_126 : decode cX12_passes 126 = .ok (.aload_n 0, 1) := by decide +kernel
theorem dX12_passes_127 : decode cX12_passes 127 = .ok (.aload_n 0, 1) := by decide +kernel
theorem dX12_passes_128 : decode cX12_passes 128 = .ok (.getfield 83, 3) := by decide +kernel
theorem dX12_passes_131 : decode cX12_passes 131 = .ok (.iconst 3, 1) := by decide +kernel
theorem dX12_passes_132 : decode cX12_passes 132 = .ok (.iaload, 1) := by decide +kernel
theorem dX12_passes_133 : decode cX12_passes 133 = .ok (.invokevirtual 290, 3) := by decide +kernel
theorem dX12_passes_136 : decode cX12_passes 136 = .ok (.istore 5, 2) := by decide +kernel
theorem dX12_passes_138 : decode cX12_passes 138 = .ok (.aload_n 0, 1) := by decide +kernel
theorem dX12_passes_139 : decode cX12_passes 139 = .ok (.getfield 114, 3) := by decide +kernel
theorem dX12_passes_142 : decode cX12_passes 142 = .ok (.iload 4, 2) := by decide +kernel
theorem dX12_passes_144 : decode cX12_passes 144 = .ok (.iload 5, 2) := by decide +kernel
theorem dX12_passes_146 : decode cX12_passes 146 = .ok (.ifCond .ge 7, 3) := by decide +kernel
theorem dX12_passes_149 : decode cX12_passes 149 = .ok (.iconst 0, 1) := by decide +kernel
theorem dX12_passes_150 : decode cX12_passes 150 = .ok (.goto 17, 3) := by decide +kernel
theorem dX12_passes_153 : decode cX12_passes 153 = .ok (.iload 5, 2) := by decide +kernel
theorem dX12_passes_155 : decode cX12_passes 155 = .ok (.bipush 20, 2) := by decide +kernel
theorem dX12_passes_157 : decode cX12_passes 157 = .ok (.if_icmp .le 8, 3) := by decide +kernel
theorem dX12_passes_160 : decode cX12_passes 160 = .ok (.bipush 20, 2) := by decide +kernel
theorem dX12_passes_162 : decode cX12_passes 162 = .ok (.goto 5, 3) := by decide +kernel
theorem dX12_passes_165 : decode cX12_passes 165 = .ok (.iload 5, 2) := by decide +kernel
theorem dX12_passes_167 : decode cX12_passes 167 = .ok (.iastore, 1) := by decide +kernel
theorem dX12_passes_168 : decode cX12_passes 168 = .ok (.iinc 4 1, 3) := by decide +kernel
theorem dX12_passes_171 : decode cX12_passes 171 = .ok (.goto (-162), 3) := by decide +kernel
theorem dX12_passes_174 : decode cX12_passes 174 = .ok (.iconst 0, 1) := by decide +kernel
theorem dX12_passes_175 : decode cX12_passes 175 = .ok (.istore 4, 2) := by decide +kernel
theorem dX12_passes_177 : decode cX12_passes 177 = .ok (.iconst 0, 1) := by decide +kernel
theorem dX12_passes_178 : decode cX12_passes 178 = .ok (.istore 5, 2) := by decide +kernel
theorem dX12_passes_180 : decode cX12_passes 180 = .ok (.iload 5, 2) := by decide +kernel
theorem dX12_passes_182 : decode cX12_passes 182 = .ok (.aload_n 0, 1) := by decide +kernel
theorem dX12_passes_183 : decode cX12_passes 183 = .ok (.invokevirtual 252, 3) := by decide +kernel
theorem dX12_passes_186 : decode cX12_passes 186 = .ok (.if_icmp .ge 113, 3) := by decide +kernel
theorem dX12_passes_189 : decode cX12_passes 189 = .ok (.aload_n 0, 1) := by decide +kernel
theorem dX12_passes_190 : decode cX12_passes 190 = .ok (.iload_n 1, 1) := by decide +kernel
theorem dX12_passes_191 : decode cX12_passes 191 = .ok (.iload 5, 2) := by decide +kernel
theorem dX12_passes_193 : decode cX12_passes 193 = .ok (.invokevirtual 268, 3) := by decide +kernel
theorem dX12_passes_196 : decode cX12_passes 196 = .ok (.ifCond .eq 97, 3) := by decide +kernel
theorem dX12_passes_199 : decode cX12_passes 199 = .ok (.aload_n 0, 1) := by decide +kernel
theorem dX12_passes_200 : decode cX12_passes 200 = .ok (.getfield 107, 3) := by decide +kernel
theorem dX12_passes_203 : decode cX12_passes 203 = .ok (.iload_n 1, 1) := by decide +kernel
theorem dX12_passes_204 : decode cX12_passes 204 = .ok (.bipush 9, 2) := by decide +kernel
theorem dX12_passes_206 : decode cX12_passes 206 = .ok (.iadd, 1) := by decide +kernel
theorem dX12_passes_207 : decode cX12_passes 207 = .ok (.iload 5, 2) := by decide +kernel
theorem dX12_passes_209 : decode cX12_passes 209 = .ok (.iadd, 1) := by decide +kernel
theorem dX12_passes_210 : decode cX12_passes 210 = .ok (.aload_n 0, 1) := by decide +kernel
theorem dX12_passes_211 : decode cX12_passes 211 = .ok (.getfield 114, 3) := by decide +kernel
theorem dX12_passes_214 : decode cX12_passes 214 = .ok (.iload 5, 2) := by decide +kernel
theorem dX12_passes_216 : decode cX12_passes 216 = .ok (.iaload, 1) := by decide +kernel
theorem dX12_passes_217 : decode cX12_passes 217 = .ok (.iastore, 1) := by decide +kernel
theorem dX12_passes_218 : decode cX12_passes 218 = .ok (.aload_n 0, 1) := by decide +kernel
theorem dX12_passes_219 : decode cX12_passes 219 = .ok (.getfield 107, 3) := by decide +kernel
theorem dX12_passes_222 : decode cX12_passes 222 = .ok (.iload_n 1, 1) := by decide +kernel
theorem dX12_passes_223 : decode cX12_passes 223 = .ok (.bipush 16, 2) := by decide +kernel
theorem dX12_passes_225 : decode cX12_passes 225 = .ok (.iadd, 1) := by decide +kernel
theorem dX12_passes_226 : decode cX12_passes 226 = .ok (.iload 5, 2) := by decide +kernel
theorem dX12_passes_228 : decode cX12_passes 228 = .ok (.iadd, 1) := by decide +kernel
theorem dX12_passes_229 : decode cX12_passes 229 = .ok (.dup2, 1) := by decide +kernel
theorem dX12_passes_230 : decode cX12_passes 230 = .ok (.iaload, 1) := by decide +kernel
theorem dX12_passes_231 : decode cX12_passes 231 = .ok (.iload_n 3, 1) := by decide +kernel
theorem dX12_passes_232 : decode cX12_passes 232 = .ok (.iload 5, 2) := by decide +kernel
theorem dX12_passes_234 : decode cX12_passes 234 = .ok (.ishr, 1) := by decide +kernel
theorem dX12_passes_235 : decode cX12_passes 235 = .ok (.iconst 1, 1) := by decide +kernel
theorem dX12_passes_236 : decode cX12_passes 236 = .ok (.iand, 1) := by decide +kernel
theorem dX12_passes_237 : decode cX12_passes 237 = .ok (.ifCond .ne 7, 3) := by decide +kernel
theorem dX12_passes_240 : decode cX12_passes 240 = .ok (.iconst 0, 1) := by decide +kernel
theorem dX12_passes_241 : decode cX12_passes 241 = .ok (.goto 19, 3) := by decide +kernel
theorem dX12_passes_244 : decode cX12_passes 244 = .ok (.aload_n 0, 1) := by decide +kernel
theorem dX12_passes_245 : decode cX12_passes 245 = .ok (.iload 5, 2) := by decide +kernel
theorem dX12_passes_247 : decode cX12_passes 247 = .ok (.iconst 0, 1) := by decide +kernel
theorem dX12_passes_248 : decode cX12_passes 248 = .ok (.invokevirtual 255, 3) := by decide +kernel
theorem dX12_passes_251 : decode cX12_passes 251 = .ok (.iconst 1, 1) := by decide +kernel
theorem dX12_passes_252 : decode cX12_passes 252 = .ok (.if_icmp .ne 7, 3) := by decide +kernel
theorem dX12_passes_255 : decode cX12_passes 255 = .ok (.iconst 2, 1) := by decide +kernel
theorem dX12_passes_256 : decode cX12_passes 256 = .ok (.goto 4, 3) := by decide +kernel
theorem dX12_passes_259 : decode cX12_passes 259 = .ok (.iconst 1, 1) := by decide +kernel
theorem dX12_passes_260 : decode cX12_passes 260 = .ok (.isub, 1) := by decide +kernel
theorem dX12_passes_261 : decode cX12_passes 261 = .ok (.iastore, 1) := by decide +kernel
theorem dX12_passes_262 : decode cX12_passes 262 = .ok (.aload_n 0, 1) := by decide +kernel
theorem dX12_passes_263 : decode cX12_passes 263 = .ok (.getfield 107, 3) := by decide +kernel
theorem dX12_passes_266 : decode cX12_passes 266 = .ok (.iload_n 1, 1) := by decide +kernel
theorem dX12_passes_267 : decode cX12_passes 267 = .ok (.bipush 16, 2) := by decide +kernel
theorem dX12_passes_269 : decode cX12_passes 269 = .ok (.iadd, 1) := by decide +kernel
theorem dX12_passes_270 : decode cX12_passes 270 = .ok (.iload 5, 2) := by decide +kernel
theorem dX12_passes_272 : decode cX12_passes 272 = .ok (.iadd, 1) := by decide +kernel
theorem dX12_passes_273 : decode cX12_passes 273 = .ok (.iaload, 1) := by decide +kernel
theorem dX12_passes_274 : decode cX12_passes 274 = .ok (.ifCond .gt 19, 3) := by decide +kernel
theorem dX12_passes_277 : decode cX12_passes 277 = .ok (.aload_n 0, 1) := by decide +kernel
theorem dX12_passes_278 : decode cX12_passes 278 = .ok (.iload_n 1, 1) := by decide +kernel
theorem dX12_passes_279 : decode cX12_passes 279 = .ok (.iload 5, 2) := by decide +kernel
theorem dX12_passes_281 : decode cX12_passes 281 = .ok (.invokevirtual 293, 3) := by decide +kernel
theorem dX12_passes_284 : decode cX12_passes 284 = .ok (.iload 4, 2) := by decide +kernel
theorem dX12_passes_286 : decode cX12_passes 286 = .ok (.iconst 1, 1) := by decide +kernel
theorem dX12_passes_287 : decode cX12_passes 287 = .ok (.iload 5, 2) := by decide +kernel
theorem dX12_passes_289 : decode cX12_passes 289 = .ok (.ishl, 1) := by decide +kernel
theorem dX12_passes_290 : decode cX12_passes 290 = .ok (.ior, 1) := by decide +kernel
theorem dX12_passes_291 : decode cX12_passes 291 = .ok (.istore 4, 2) := by decide +kernel
theorem dX12_passes_293 : decode cX12_passes 293 = .ok (.iinc 5 1, 3) := by decide +kernel
theorem dX12_passes_296 : decode cX12_passes 296 = .ok (.goto (-116), 3) := by decide +kernel
theorem dX12_passes_299 : decode cX12_passes 299 = .ok (.iconst 4, 1) := by decide +kernel
theorem dX12_passes_300 : decode cX12_passes 300 = .ok (.istore 5, 2) := by decide +kernel
theorem dX12_passes_302 : decode cX12_passes 302 = .ok (.iload 5, 2) := by decide +kernel
theorem dX12_passes_304 : decode cX12_passes 304 = .ok (.bipush 12, 2) := by decide +kernel
theorem dX12_passes_306 : decode cX12_passes 306 = .ok (.if_icmp .ge 16, 3) := by decide +kernel
theorem dX12_passes_309 : decode cX12_passes 309 = .ok (.aload_n 0, 1) := by decide +kernel
theorem dX12_passes_310 : decode cX12_passes 310 = .ok (.iload_n 1, 1) := by decide +kernel
theorem dX12_passes_311 : decode cX12_passes 311 = .ok (.iload 5, 2) := by decide +kernel
theorem dX12_passes_313 : decode cX12_passes 313 = .ok (.invokevirtual 296, 3) := by decide +kernel
theorem dX12_passes_316 : decode cX12_passes 316 = .ok (.iinc 5 1, 3) := by decide +kernel
theorem dX12_passes_319 : decode cX12_passes 319 = .ok (.goto (-17), 3) := by decide +kernel
theorem dX12_passes_322 : decode cX12_passes 322 = .ok (.aload_n 0, 1) := by decide +kernel
theorem dX12_passes_323 : decode cX12_passes 323 = .ok (.getfield 107, 3) := by decide +kernel
theorem dX12_passes_326 : decode cX12_passes 326 = .ok (.iload_n 1, 1) := by decide +kernel
theorem dX12_passes_327 : decode cX12_passes 327 = .ok (.iconst 0, 1) := by decide +kernel
theorem dX12_passes_328 : decode cX12_passes 328 = .ok (.iadd, 1) := by decide +kernel
theorem dX12_passes_329 : decode cX12_passes 329 = .ok (.dup2, 1) := by decide +kernel
theorem dX12_passes_330 : decode cX12_passes 330 = .ok (.iaload, 1) := by decide +kernel
theorem dX12_passes_331 : decode cX12_passes 331 = .ok (.iconst 1, 1) := by decide +kernel
theorem dX12_passes_332 : decode cX12_passes 332 = .ok (.iadd, 1) := by decide +kernel
theorem dX12_passes_333 : decode cX12_passes 333 = .ok (.iastore, 1) := by decide +kernel
theorem dX12_passes_334 : decode cX12_passes 334 = .ok (.iload 4, 2) := by decide +kernel
theorem dX12_passes_336 : decode cX12_passes 336 = .ok (.ireturn, 1) := by decide +kernel
theorem dX12_passes__0 : decode cX12_passes_ 0 = .ok (.aload_n 0, 1) := by decide +kernel
theorem dX12_passes__1 : decode cX12_passes_ 1 = .ok (.iload_n 1, 1) := by decide +kernel
theorem dX12_passes__2 : decode cX12_passes_ 2 = .ok (.aload_n 0, 1) := by decide +kernel
theorem dX12_passes__3 : decode cX12_passes_ 3 = .ok (.iload_n 1, 1) := by decide +kernel
theorem dX12_passes__4 : decode cX12_passes_ 4 = .ok (.invokevirtual 299, 3) := by decide +kernel
theorem dX12_passes__7 : decode cX12_passes_ 7 = .ok (.invokevirtual 302, 3) := by decide +kernel
theorem dX12_passes__10 : decode cX12_passes_ 10 = .ok (.ireturn, 1) := by decide +kernel
theorem dX12_heatOfAll_0 : decode cX12_heatOfAll 0 = .ok (.iconst 0, 1) := by decide +kernel
theorem dX12_heatOfAll_1 : decode cX12_heatOfAll 1 = .ok (.istore_n 2, 1) := by decide +kernel
theorem dX12_heatOfAll_2 : decode cX12_heatOfAll 2 = .ok (.iconst 0, 1) := by decide +kernel
theorem dX12_heatOfAll_3 : decode cX12_heatOfAll 3 = .ok (.istore_n 3, 1) := by decide +kernel
theorem dX12_heatOfAll_4 : decode cX12_heatOfAll 4 = .ok (.iload_n 3, 1) := by decide +kernel
theorem dX12_heatOfAll_5 : decode cX12_heatOfAll 5 = .ok (.aload_n 0, 1) := by decide +kernel
theorem dX12_heatOfAll_6 : decode cX12_heatOfAll 6 = .ok (.invokevirtual 252, 3) := by decide +kernel
theorem dX12_heatOfAll_9 : decode cX12_heatOfAll 9 = .ok (.if_icmp .ge 23, 3) := by decide +kernel
theorem dX12_heatOfAll_12 : decode cX12_heatOfAll 12 = .ok (.iload_n 2, 1) := by decide +kernel
theorem dX12_heatOfAll_13 : decode cX12_heatOfAll 13 = .ok (.aload_n 0, 1) := by decide +kernel
theorem dX12_heatOfAll_14 : decode cX12_heatOfAll 14 = .ok (.getfield 107, 3) := by decide +kernel
theorem dX12_heatOfAll_17 : decode cX12_heatOfAll 17 = .ok (.iload_n 1, 1) := by decide +kernel
theorem dX12_heatOfAll_18 : decode cX12_heatOfAll 18 = .ok (.bipush 9, 2) := by decide +kernel
theorem dX12_heatOfAll_20 : decode cX12_heatOfAll 20 = .ok (.iadd, 1) := by decide +kernel
theorem dX12_heatOfAll_21 : decode cX12_heatOfAll 21 = .ok (.iload_n 3, 1) := by decide +kernel
theorem dX12_heatOfAll_22 : decode cX12_heatOfAll 22 = .ok (.iadd, 1) := by decide +kernel
theorem dX12_heatOfAll_23 : decode cX12_heatOfAll 23 = .ok (.iaload, 1) := by decide +kernel
theorem dX12_heatOfAll_24 : decode cX12_heatOfAll 24 = .ok (.iadd, 1) := by decide +kernel
theorem dX12_heatOfAll_25 : decode cX12_heatOfAll 25 = .ok (.istore_n 2, 1) := by decide +kernel
theorem dX12_heatOfAll_26 : decode cX12_heatOfAll 26 = .ok (.iinc 3 1, 3) := by decide +kernel
theorem dX12_heatOfAll_29 : decode cX12_heatOfAll 29 = .ok (.goto (-25), 3) := by decide +kernel
theorem dX12_heatOfAll_32 : decode cX12_heatOfAll 32 = .ok (.iload_n 2, 1) := by decide +kernel
theorem dX12_heatOfAll_33 : decode cX12_heatOfAll 33 = .ok (.ireturn, 1) := by decide +kernel
theorem dX12_pokes_0 : decode cX12_pokes 0 = .ok (.aload_n 0, 1) := by decide +kernel
theorem dX12_pokes_1 : decode cX12_pokes 1 = .ok (.getfield 107, 3) := by decide +kernel
theorem dX12_pokes_4 : decode cX12_pokes 4 = .ok (.iload_n 1, 1) := by decide +kernel
theorem dX12_pokes_5 : decode cX12_pokes 5 = .ok (.bipush 9, 2) := by decide +kernel
theorem dX12_pokes_7 : decode cX12_pokes 7 = .ok (.iadd, 1) := by decide +kernel
theorem dX12_pokes_8 : decode cX12_pokes 8 = .ok (.iload_n 2, 1) := by decide +kernel
theorem dX12_pokes_9 : decode cX12_pokes 9 = .ok (.iadd, 1) := by decide +kernel
theorem dX12_pokes_10 : decode cX12_pokes 10 = .ok (.aload_n 0, 1) := by decide +kernel
theorem dX12_pokes_11 : decode cX12_pokes 11 = .ok (.getfield 107, 3) := by decide +kernel
theorem dX12_pokes_14 : decode cX12_pokes 14 = .ok (.iload_n 1, 1) := by decide +kernel
theorem dX12_pokes_15 : decode cX12_pokes 15 = .ok (.bipush 9, 2) := by decide +kernel
theorem dX12_pokes_17 : decode cX12_pokes 17 = .ok (.iadd, 1) := by decide +kernel
theorem dX12_pokes_18 : decode cX12_pokes 18 = .ok (.iload_n 2, 1) := by decide +kernel
theorem dX12_pokes_19 : decode cX12_pokes 19 = .ok (.iadd, 1) := by decide +kernel
theorem dX12_pokes_20 : decode cX12_pokes 20 = .ok (.iaload, 1) := by decide +kernel
theorem dX12_pokes_21 : decode cX12_pokes 21 = .ok (.iconst 3, 1) := by decide +kernel
theorem dX12_pokes_22 : decode cX12_pokes 22 = .ok (.iadd, 1) := by decide +kernel
theorem dX12_pokes_23 : decode cX12_pokes 23 = .ok (.bipush 20, 2) := by decide +kernel
theorem dX12_pokes_25 : decode cX12_pokes 25 = .ok (.if_icmp .le 8, 3) := by decide +kernel
theorem dX12_pokes_28 : decode cX12_pokes 28 = .ok (.bipush 20, 2) := by decide +kernel
theorem dX12_pokes_30 : decode cX12_pokes 30 = .ok (.goto 16, 3) := by decide +kernel
theorem dX12_pokes_33 : decode cX12_pokes 33 = .ok (.aload_n 0, 1) := by decide +kernel
theorem dX12_pokes_34 : decode cX12_pokes 34 = .ok (.getfield 107, 3) := by decide +kernel
theorem dX12_pokes_37 : decode cX12_pokes 37 = .ok (.iload_n 1, 1) := by decide +kernel
theorem dX12_pokes_38 : decode cX12_pokes 38 = .ok (.bipush 9, 2) := by decide +kernel
theorem dX12_pokes_40 : decode cX12_pokes 40 = .ok (.iadd, 1) := by decide +kernel
theorem dX12_pokes_41 : decode cX12_pokes 41 = .ok (.iload_n 2, 1) := by decide +kernel
theorem dX12_pokes_42 : decode cX12_pokes 42 = .ok (.iadd, 1) := by decide +kernel
theorem dX12_pokes_43 : decode cX12_pokes 43 = .ok (.iaload, 1) := by decide +kernel
theorem dX12_pokes_44 : decode cX12_pokes 44 = .ok (.iconst 3, 1) := by decide +kernel
theorem dX12_pokes_45 : decode cX12_pokes 45 = .ok (.iadd, 1) := by decide +kernel
theorem dX12_pokes_46 : decode cX12_pokes 46 = .ok (.iastore, 1) := by decide +kernel
theorem dX12_pokes_47 : decode cX12_pokes 47 = .ok (.aload_n 0, 1) := by decide +kernel
theorem dX12_pokes_48 : decode cX12_pokes 48 = .ok (.iload_n 1, 1) := by decide +kernel
theorem dX12_pokes_49 : decode cX12_pokes 49 = .ok (.aload_n 0, 1) := by decide +kernel
theorem dX12_pokes_50 : decode cX12_pokes 50 = .ok (.getfield 107, 3) := by decide +kernel
theorem dX12_pokes_53 : decode cX12_pokes 53 = .ok (.iload_n 1, 1) := by decide +kernel
theorem dX12_pokes_54 : decode cX12_pokes 54 = .ok (.iconst 2, 1) := by decide +kernel
theorem dX12_pokes_55 : decode cX12_pokes 55 = .ok (.iadd, 1) := by decide +kernel
theorem dX12_pokes_56 : decode cX12_pokes 56 = .ok (.iload_n 2, 1) := by decide +kernel
theorem dX12_pokes_57 : decode cX12_pokes 57 = .ok (.iadd, 1) := by decide +kernel
theorem dX12_pokes_58 : decode cX12_pokes 58 = .ok (.iaload, 1) := by decide +kernel
theorem dX12_pokes_59 : decode cX12_pokes 59 = .ok (.invokevirtual 296, 3) := by decide +kernel
theorem dX12_pokes_62 : decode cX12_pokes 62 = .ok (.return_, 1) := by decide +kernel
theorem dX12_feeds_0 : decode cX12_feeds 0 = .ok (.aload_n 0, 1) := by decide +kernel
theorem dX12_feeds_1 : decode cX12_feeds 1 = .ok (.getfield 107, 3) := by decide +kernel
theorem dX12_feeds_4 : decode cX12_feeds 4 = .ok (.iload_n 1, 1) := by decide +kernel
theorem dX12_feeds_5 : decode cX12_feeds 5 = .ok (.bipush 16, 2) := by decide +kernel
theorem dX12_feeds_7 : decode cX12_feeds 7 = .ok (.iadd, 1) := by decide +kernel
theorem dX12_feeds_8 : decode cX12_feeds 8 = .ok (.iload_n 2, 1) := by decide +kernel
theorem dX12_feeds_9 : decode cX12_feeds 9 = .ok (.iadd, 1) := by decide +kernel
theorem dX12_feeds_10 : decode cX12_feeds 10 = .ok (.aload_n 0, 1) := by decide +kernel
theorem dX12_feeds_11 : decode cX12_feeds 11 = .ok (.getfield 107, 3) := by decide +kernel
theorem dX12_feeds_14 : decode cX12_feeds 14 = .ok (.iload_n 1, 1) := by decide +kernel
theorem dX12_feeds_15 : decode cX12_feeds 15 = .ok (.bipush 16, 2) := by decide +kernel
theorem dX12_feeds_17 : decode cX12_feeds 17 = .ok (.iadd, 1) := by decide +kernel
theorem dX12_feeds_18 : decode cX12_feeds 18 = .ok (.iload_n 2, 1) := by decide +kernel
theorem dX12_feeds_19 : decode cX12_feeds 19 = .ok (.iadd, 1) := by decide +kernel
theorem dX12_feeds_20 : decode cX12_feeds 20 = .ok (.iaload, 1) := by decide +kernel
theorem dX12_feeds_21 : decode cX12_feeds 21 = .ok (.iload_n 3, 1) := by decide +kernel
theorem dX12_feeds_22 : decode cX12_feeds 22 = .ok (.iadd, 1) := by decide +kernel
theorem dX12_feeds_23 : decode cX12_feeds 23 = .ok (.bipush 20, 2) := by decide +kernel
theorem dX12_feeds_25 : decode cX12_feeds 25 = .ok (.if_icmp .le 8, 3) := by decide +kernel
theorem dX12_feeds_28 : decode cX12_feeds 28 = .ok (.bipush 20, 2) := by decide +kernel
theorem dX12_feeds_30 : decode cX12_feeds 30 = .ok (.goto 16, 3) := by decide +kernel
theorem dX12_feeds_33 : decode cX12_feeds 33 = .ok (.aload_n 0, 1) := by decide +kernel
theorem dX12_feeds_34 : decode cX12_feeds 34 = .ok (.getfield 107, 3) := by decide +kernel
theorem dX12_feeds_37 : decode cX12_feeds 37 = .ok (.iload_n 1, 1) := by decide +kernel
theorem dX12_feeds_38 : decode cX12_feeds 38 = .ok (.bipush 16, 2) := by decide +kernel
theorem dX12_feeds_40 : decode cX12_feeds 40 = .ok (.iadd, 1) := by decide +kernel
theorem dX12_feeds_41 : decode cX12_feeds 41 = .ok (.iload_n 2, 1) := by decide +kernel
theorem dX12_feeds_42 : decode cX12_feeds 42 = .ok (.iadd, 1) := by decide +kernel
theorem dX12_feeds_43 : decode cX12_feeds 43 = .ok (.iaload, 1) := by decide +kernel
theorem dX12_feeds_44 : decode cX12_feeds 44 = .ok (.iload_n 3, 1) := by decide +kernel
theorem dX12_feeds_45 : decode cX12_feeds 45 = .ok (.iadd, 1) := by decide +kernel
theorem dX12_feeds_46 : decode cX12_feeds 46 = .ok (.iastore, 1) := by decide +kernel
theorem dX12_feeds_47 : decode cX12_feeds 47 = .ok (.return_, 1) := by decide +kernel
theorem dX12_ember_0 : decode cX12_ember 0 = .ok (.aload_n 0, 1) := by decide +kernel
theorem dX12_ember_1 : decode cX12_ember 1 = .ok (.iconst 0, 1) := by decide +kernel
theorem dX12_ember_2 : decode cX12_ember 2 = .ok (.putfield 1, 3) := by decide +kernel
theorem dX12_ember_5 : decode cX12_ember 5 = .ok (.aload_n 0, 1) := by decide +kernel
theorem dX12_ember_6 : decode cX12_ember 6 = .ok (.iload_n 1, 1) := by decide +kernel
theorem dX12_ember_7 : decode cX12_ember 7 = .ok (.invokevirtual 305, 3) := by decide +kernel
theorem dX12_ember_10 : decode cX12_ember 10 = .ok (.ifCond .eq 12, 3) := by decide +kernel
theorem dX12_ember_13 : decode cX12_ember 13 = .ok (.iload_n 2, 1) := by decide +kernel
theorem dX12_ember_14 : decode cX12_ember 14 = .ok (.iconst 0, 1) := by decide +kernel
theorem dX12_ember_15 : decode cX12_ember 15 = .ok (.iconst 4, 1) := by decide +kernel
theorem dX12_ember_16 : decode cX12_ember 16 = .ok (.invokestatic 308, 3) := by decide +kernel
theorem dX12_ember_19 : decode cX12_ember 19 = .ok (.ifCond .ne 6, 3) := by decide +kernel
theorem dX12_ember_22 : decode cX12_ember 22 = .ok (.bipush (-2), 2) := by decide +kernel
theorem dX12_ember_24 : decode cX12_ember 24 = .ok (.ireturn, 1) := by decide +kernel
theorem dX12_ember_25 : decode cX12_ember 25 = .ok (.iload_n 2, 1) := by decide +kernel
theorem dX12_ember_26 : decode cX12_ember 26 = .ok (.tableswitch 66 0 3 #[30, 37, 46, 56], 30) := by decide +kernel
theorem dX12_ember_56 : decode cX12_ember 56 = .ok (.aload_n 0, 1) := by decide +kernel
theorem dX12_ember_57 : decode cX12_ember 57 = .ok (.iload_n 1, 1) := by decide +kernel
theorem dX12_ember_58 : decode cX12_ember 58 = .ok (.iconst 0, 1) := by decide +kernel
theorem dX12_ember_59 : decode cX12_ember 59 = .ok (.invokevirtual 255, 3) := by decide +kernel
theorem dX12_ember_62 : decode cX12_ember 62 = .ok (.ireturn, 1) := by decide +kernel
theorem dX12_ember_63 : decode cX12_ember 63 = .ok (.aload_n 0, 1) := by decide +kernel
theorem dX12_ember_64 : decode cX12_ember 64 = .ok (.getfield 107, 3) := by decide +kernel
theorem dX12_ember_67 : decode cX12_ember 67 = .ok (.iconst 2, 1) := by decide +kernel
theorem dX12_ember_68 : decode cX12_ember 68 = .ok (.iload_n 1, 1) := by decide +kernel
theorem dX12_ember_69 : decode cX12_ember 69 = .ok (.iadd, 1) := by decide +kernel
theorem dX12_ember_70 : decode cX12_ember 70 = .ok (.iaload, 1) := by decide +kernel
theorem dX12_ember_71 : decode cX12_ember 71 = .ok (.ireturn, 1) := by decide +kernel
theorem dX12_ember_72 : decode cX12_ember 72 = .ok (.aload_n 0, 1) := by decide +kernel
theorem dX12_ember_73 : decode cX12_ember 73 = .ok (.getfield 107, 3) := by decide +kernel
theorem dX12_ember_76 : decode cX12_ember 76 = .ok (.bipush 9, 2) := by decide +kernel
theorem dX12_ember_78 : decode cX12_ember 78 = .ok (.iload_n 1, 1) := by decide +kernel
theorem dX12_ember_79 : decode cX12_ember 79 = .ok (.iadd, 1) := by decide +kernel
theorem dX12_ember_80 : decode cX12_ember 80 = .ok (.iaload, 1) := by decide +kernel
theorem dX12_ember_81 : decode cX12_ember 81 = .ok (.ireturn, 1) := by decide +kernel
theorem dX12_ember_82 : decode cX12_ember 82 = .ok (.aload_n 0, 1) := by decide +kernel
theorem dX12_ember_83 : decode cX12_ember 83 = .ok (.getfield 107, 3) := by decide +kernel
theorem dX12_ember_86 : decode cX12_ember 86 = .ok (.bipush 16, 2) := by decide +kernel
theorem dX12_ember_88 : decode cX12_ember 88 = .ok (.iload_n 1, 1) := by decide +kernel
theorem dX12_ember_89 : decode cX12_ember 89 = .ok (.iadd, 1) := by decide +kernel
theorem dX12_ember_90 : decode cX12_ember 90 = .ok (.iaload, 1) := by decide +kernel
theorem dX12_ember_91 : decode cX12_ember 91 = .ok (.ireturn, 1) := by decide +kernel
theorem dX12_ember_92 : decode cX12_ember 92 = .ok (.aload_n 0, 1) := by decide +kernel
theorem dX12_ember_93 : decode cX12_ember 93 = .ok (.iconst 0, 1) := by decide +kernel
theorem dX12_ember_94 : decode cX12_ember 94 = .ok (.iload_n 1, 1) := by decide +kernel
theorem dX12_ember_95 : decode cX12_ember 95 = .ok (.invokevirtual 272, 3) := by decide +kernel
theorem dX12_ember_98 : decode cX12_ember 98 = .ok (.ifCond .eq 7, 3) := by decide +kernel
theorem dX12_ember_101 : decode cX12_ember 101 = .ok (.iconst 1, 1) := by decide +kernel
theorem dX12_ember_102 : decode cX12_ember 102 = .ok (.goto 4, 3) := by decide +kernel
theorem dX12_ember_105 : decode cX12_ember 105 = .ok (.iconst 0, 1) := by decide +kernel
theorem dX12_ember_106 : decode cX12_ember 106 = .ok (.ireturn, 1) := by decide +kernel
theorem dX12_cell_0 : decode cX12_cell 0 = .ok (.aload_n 0, 1) := by decide +kernel
theorem dX12_cell_1 : decode cX12_cell 1 = .ok (.iconst 0, 1) := by decide +kernel
theorem dX12_cell_2 : decode cX12_cell 2 = .ok (.putfield 1, 3) := by decide +kernel
theorem dX12_cell_5 : decode cX12_cell 5 = .ok (.iload_n 1, 1) := by decide +kernel
theorem dX12_cell_6 : decode cX12_cell 6 = .ok (.iconst 0, 1) := by decide +kernel
theorem dX12_cell_7 : decode cX12_cell 7 = .ok (.bipush 11, 2) := by decide +kernel
theorem dX12_cell_9 : decode cX12_cell 9 = .ok (.invokestatic 308, 3) := by decide +kernel
theorem dX12_cell_12 : decode cX12_cell 12 = .ok (.ifCond .eq 12, 3) := by decide +kernel
theorem dX12_cell_15 : decode cX12_cell 15 = .ok (.aload_n 0, 1) := by decide +kernel
theorem dX12_cell_16 : decode cX12_cell 16 = .ok (.iconst 0, 1) := by decide +kernel
theorem dX12_cell_17 : decode cX12_cell 17 = .ok (.iload_n 1, 1) := by decide +kernel
theorem dX12_cell_18 : decode cX12_cell 18 = .ok (.invokevirtual 281, 3) := by decide +kernel
theorem dX12_cell_21 : decode cX12_cell 21 = .ok (.goto 4, 3) := by decide +kernel
theorem dX12_cell_24 : decode cX12_cell 24 = .ok (.iconst (-1), 1) := by decide +kernel
theorem dX12_cell_25 : decode cX12_cell 25 = .ok (.ireturn, 1) := by decide +kernel
theorem dX12_hour_0 : decode cX12_hour 0 = .ok (.aload_n 0, 1) := by decide +kernel
theorem dX12_hour_1 : decode cX12_hour 1 = .ok (.iconst 0, 1) := by decide +kernel
theorem dX12_hour_2 : decode cX12_hour 2 = .ok (.putfield 1, 3) := by decide +kernel
theorem dX12_hour_5 : decode cX12_hour 5 = .ok (.aload_n 0, 1) := by decide +kernel
theorem dX12_hour_6 : decode cX12_hour 6 = .ok (.invokevirtual 312, 3) := by decide +kernel
theorem dX12_hour_9 : decode cX12_hour 9 = .ok (.aload_n 0, 1) := by decide +kernel
theorem dX12_hour_10 : decode cX12_hour 10 = .ok (.iconst 0, 1) := by decide +kernel
theorem dX12_hour_11 : decode cX12_hour 11 = .ok (.invokevirtual 315, 3) := by decide +kernel
theorem dX12_hour_14 : decode cX12_hour 14 = .ok (.ireturn, 1) := by decide +kernel
theorem dX12_poke_0 : decode cX12_poke 0 = .ok (.aload_n 0, 1) := by decide +kernel
theorem dX12_poke_1 : decode cX12_poke 1 = .ok (.iconst 0, 1) := by decide +kernel
theorem dX12_poke_2 : decode cX12_poke 2 = .ok (.putfield 1, 3) := by decide +kernel
theorem dX12_poke_5 : decode cX12_poke 5 = .ok (.aload_n 0, 1) := by decide +kernel
theorem dX12_poke_6 : decode cX12_poke 6 = .ok (.iload_n 1, 1) := by decide +kernel
theorem dX12_poke_7 : decode cX12_poke 7 = .ok (.invokevirtual 305, 3) := by decide +kernel
theorem dX12_poke_10 : decode cX12_poke 10 = .ok (.ifCond .eq 12, 3) := by decide +kernel
theorem dX12_poke_13 : decode cX12_poke 13 = .ok (.aload_n 0, 1) := by decide +kernel
theorem dX12_poke_14 : decode cX12_poke 14 = .ok (.iconst 0, 1) := by decide +kernel
theorem dX12_poke_15 : decode cX12_poke 15 = .ok (.iload_n 1, 1) := by decide +kernel
theorem dX12_poke_16 : decode cX12_poke 16 = .ok (.invokevirtual 268, 3) := by decide +kernel
theorem dX12_poke_19 : decode cX12_poke 19 = .ok (.ifCond .ne 5, 3) := by decide +kernel
theorem dX12_poke_22 : decode cX12_poke 22 = .ok (.iconst (-1), 1) := by decide +kernel
theorem dX12_poke_23 : decode cX12_poke 23 = .ok (.ireturn, 1) := by decide +kernel
theorem dX12_poke_24 : decode cX12_poke 24 = .ok (.aload_n 0, 1) := by decide +kernel
theorem dX12_poke_25 : decode cX12_poke 25 = .ok (.invokevirtual 312, 3) := by decide +kernel
theorem dX12_poke_28 : decode cX12_poke 28 = .ok (.aload_n 0, 1) := by decide +kernel
theorem dX12_poke_29 : decode cX12_poke 29 = .ok (.iconst 0, 1) := by decide +kernel
theorem dX12_poke_30 : decode cX12_poke 30 = .ok (.iload_n 1, 1) := by decide +kernel
theorem dX12_poke_31 : decode cX12_poke 31 = .ok (.invokevirtual 317, 3) := by decide +kernel
theorem dX12_poke_34 : decode cX12_poke 34 = .ok (.aload_n 0, 1) := by decide +kernel
theorem dX12_poke_35 : decode cX12_poke 35 = .ok (.getfield 107, 3) := by decide +kernel
theorem dX12_poke_38 : decode cX12_poke 38 = .ok (.iconst 2, 1) := by decide +kernel
theorem dX12_poke_39 : decode cX12_poke 39 = .ok (.iload_n 1, 1) := by decide +kernel
theorem dX12_poke_40 : decode cX12_poke 40 = .ok (.iadd, 1) := by decide +kernel
theorem dX12_poke_41 : decode cX12_poke 41 = .ok (.iaload, 1) := by decide +kernel
theorem dX12_poke_42 : decode cX12_poke 42 = .ok (.ireturn, 1) := by decide +kernel
theorem dX12_mayCarry_0 : decode cX12_mayCarry 0 = .ok (.aload_n 0, 1) := by decide +kernel
theorem dX12_mayCarry_1 : decode cX12_mayCarry 1 = .ok (.iload_n 1, 1) := by decide +kernel
theorem dX12_mayCarry_2 : decode cX12_mayCarry 2 = .ok (.iload_n 2, 1) := by decide +kernel
theorem dX12_mayCarry_3 : decode cX12_mayCarry 3 = .ok (.invokevirtual 268, 3) := by decide +kernel
theorem dX12_mayCarry_6 : decode cX12_mayCarry 6 = .ok (.ifCond .eq 16, 3) := by decide +kernel
theorem dX12_mayCarry_9 : decode cX12_mayCarry 9 = .ok (.aload_n 0, 1) := by decide +kernel
theorem dX12_mayCarry_10 : decode cX12_mayCarry 10 = .ok (.iload_n 1, 1) := by decide +kernel
theorem dX12_mayCarry_11 : decode cX12_mayCarry 11 = .ok (.iload_n 3, 1) := by decide +kernel
theorem dX12_mayCarry_12 : decode cX12_mayCarry 12 = .ok (.invokevirtual 281, 3) := by decide +kernel
theorem dX12_mayCarry_15 : decode cX12_mayCarry 15 = .ok (.ifCond .ge 7, 3) := by decide +kernel
theorem dX12_mayCarry_18 : decode cX12_mayCarry 18 = .ok (.iconst 1, 1) := by decide +kernel
theorem dX12_mayCarry_19 : decode cX12_mayCarry 19 = .ok (.goto 4, 3) := by decide +kernel
theorem dX12_mayCarry_22 : decode cX12_mayCarry 22 = .ok (.iconst 0, 1) := by decide +kernel
theorem dX12_mayCarry_23 : decode cX12_mayCarry 23 = .ok (.ireturn, 1) := by decide +kernel
theorem dX12_tongs_0 : decode cX12_tongs 0 = .ok (.aload_n 0, 1) := by decide +kernel
theorem dX12_tongs_1 : decode cX12_tongs 1 = .ok (.iconst 0, 1) := by decide +kernel
theorem dX12_tongs_2 : decode cX12_tongs 2 = .ok (.putfield 1, 3) := by decide +kernel
theorem dX12_tongs_5 : decode cX12_tongs 5 = .ok (.aload_n 0, 1) := by decide +kernel
theorem dX12_tongs_6 : decode cX12_tongs 6 = .ok (.iload_n 1, 1) := by decide +kernel
theorem dX12_tongs_7 : decode cX12_tongs 7 = .ok (.invokevirtual 305, 3) := by decide +kernel
theorem dX12_tongs_10 : decode cX12_tongs 10 = .ok (.ifCond .eq 23, 3) := by decide +kernel
theorem dX12_tongs_13 : decode cX12_tongs 13 = .ok (.iload_n 2, 1) := by decide +kernel
theorem dX12_tongs_14 : decode cX12_tongs 14 = .ok (.iconst 0, 1) := by decide +kernel
theorem dX12_tongs_15 : decode cX12_tongs 15 = .ok (.bipush 11, 2) := by decide +kernel
theorem dX12_tongs_17 : decode cX12_tongs 17 = .ok (.invokestatic 308, 3) := by decide +kernel
theorem dX12_tongs_20 : decode cX12_tongs 20 = .ok (.ifCond .eq 13, 3) := by decide +kernel
theorem dX12_tongs_23 : decode cX12_tongs 23 = .ok (.aload_n 0, 1) := by decide +kernel
theorem dX12_tongs_24 : decode cX12_tongs 24 = .ok (.iconst 0, 1) := by decide +kernel
theorem dX12_tongs_25 : decode cX12_tongs 25 = .ok (.iload_n 1, 1) := by decide +kernel
theorem dX12_tongs_26 : decode cX12_tongs 26 = .ok (.iload_n 2, 1) := by decide +kernel
theorem dX12_tongs_27 : decode cX12_tongs 27 = .ok (.invokevirtual 320, 3) := by decide +kernel
theorem dX12_tongs_30 : decode cX12_tongs 30 = .ok (.ifCond .ne 5, 3) := by decide +kernel
theorem dX12_tongs_33 : decode cX12_tongs 33 = .ok (.iconst 0, 1) := by decide +kernel
theorem dX12_tongs_34 : decode cX12_tongs 34 = .ok (.ireturn, 1) := by decide +kernel
theorem dX12_tongs_35 : decode cX12_tongs 35 = .ok (.aload_n 0, 1) := by decide +kernel
theorem dX12_tongs_36 : decode cX12_tongs 36 = .ok (.invokevirtual 312, 3) := by decide +kernel
theorem dX12_tongs_39 : decode cX12_tongs 39 = .ok (.aload_n 0, 1) := by decide +kernel
theorem dX12_tongs_40 : decode cX12_tongs 40 = .ok (.getfield 107, 3) := by decide +kernel
theorem dX12_tongs_43 : decode cX12_tongs 43 = .ok (.iconst 2, 1) := by decide +kernel
theorem dX12_tongs_44 : decode cX12_tongs 44 = .ok (.iload_n 1, 1) := by decide +kernel
theorem dX12_tongs_45 : decode cX12_tongs 45 = .ok (.iadd, 1) := by decide +kernel
theorem dX12_tongs_46 : decode cX12_tongs 46 = .ok (.iload_n 2, 1) := by decide +kernel
theorem dX12_tongs_47 : decode cX12_tongs 47 = .ok (.iastore, 1) := by decide +kernel
theorem dX12_tongs_48 : decode cX12_tongs 48 = .ok (.iconst 1, 1) := by decide +kernel
theorem dX12_tongs_49 : decode cX12_tongs 49 = .ok (.ireturn, 1) := by decide +kernel
theorem dX12_fuel_0 : decode cX12_fuel 0 = .ok (.aload_n 0, 1) := by decide +kernel
theorem dX12_fuel_1 : decode cX12_fuel 1 = .ok (.iconst 0, 1) := by decide +kernel
theorem dX12_fuel_2 : decode cX12_fuel 2 = .ok (.putfield 1, 3) := by decide +kernel
theorem dX12_fuel_5 : decode cX12_fuel 5 = .ok (.aload_n 0, 1) := by decide +kernel
theorem dX12_fuel_6 : decode cX12_fuel 6 = .ok (.iload_n 1, 1) := by decide +kernel
theorem dX12_fuel_7 : decode cX12_fuel 7 = .ok (.invokevirtual 305, 3) := by decide +kernel
theorem dX12_fuel_10 : decode cX12_fuel 10 = .ok (.ifCond .eq 22, 3) := by decide +kernel
theorem dX12_fuel_13 : decode cX12_fuel 13 = .ok (.iload_n 2, 1) := by decide +kernel
theorem dX12_fuel_14 : decode cX12_fuel 14 = .ok (.iconst 1, 1) := by decide +kernel
theorem dX12_fuel_15 : decode cX12_fuel 15 = .ok (.bipush 9, 2) := by decide +kernel
theorem dX12_fuel_17 : decode cX12_fuel 17 = .ok (.invokestatic 308, 3) := by decide +kernel
theorem dX12_fuel_20 : decode cX12_fuel 20 = .ok (.ifCond .eq 12, 3) := by decide +kernel
theorem dX12_fuel_23 : decode cX12_fuel 23 = .ok (.aload_n 0, 1) := by decide +kernel
theorem dX12_fuel_24 : decode cX12_fuel 24 = .ok (.iconst 0, 1) := by decide +kernel
theorem dX12_fuel_25 : decode cX12_fuel 25 = .ok (.iload_n 1, 1) := by decide +kernel
theorem dX12_fuel_26 : decode cX12_fuel 26 = .ok (.invokevirtual 268, 3) := by decide +kernel
theorem dX12_fuel_29 : decode cX12_fuel 29 = .ok (.ifCond .ne 5, 3) := by decide +kernel
theorem dX12_fuel_32 : decode cX12_fuel 32 = .ok (.iconst (-1), 1) := by decide +kernel
theorem dX12_fuel_33 : decode cX12_fuel 33 = .ok (.ireturn, 1) := by decide +kernel
theorem dX12_fuel_34 : decode cX12_fuel 34 = .ok (.aload_n 0, 1) := by decide +kernel
theorem dX12_fuel_35 : decode cX12_fuel 35 = .ok (.invokevirtual 312, 3) := by decide +kernel
theorem dX12_fuel_38 : decode cX12_fuel 38 = .ok (.aload_n 0, 1) := by decide +kernel
theorem dX12_fuel_39 : decode cX12_fuel 39 = .ok (.iconst 0, 1) := by decide +kernel
theorem dX12_fuel_40 : decode cX12_fuel 40 = .ok (.iload_n 1, 1) := by decide +kernel
theorem dX12_fuel_41 : decode cX12_fuel 41 = .ok (.iload_n 2, 1) := by decide +kernel
theorem dX12_fuel_42 : decode cX12_fuel 42 = .ok (.invokevirtual 323, 3) := by decide +kernel
theorem dX12_fuel_45 : decode cX12_fuel 45 = .ok (.aload_n 0, 1) := by decide +kernel
theorem dX12_fuel_46 : decode cX12_fuel 46 = .ok (.getfield 107, 3) := by decide +kernel
theorem dX12_fuel_49 : decode cX12_fuel 49 = .ok (.bipush 16, 2) := by decide +kernel
theorem dX12_fuel_51 : decode cX12_fuel 51 = .ok (.iload_n 1, 1) := by decide +kernel
theorem dX12_fuel_52 : decode cX12_fuel 52 = .ok (.iadd, 1) := by decide +kernel
theorem dX12_fuel_53 : decode cX12_fuel 53 = .ok (.iaload, 1) := by decide +kernel
theorem dX12_fuel_54 : decode cX12_fuel 54 = .ok (.ireturn, 1) := by decide +kernel
theorem dX12_bank_0 : decode cX12_bank 0 = .ok (.aload_n 0, 1) := by decide +kernel
theorem dX12_bank_1 : decode cX12_bank 1 = .ok (.iconst 0, 1) := by decide +kernel
theorem dX12_bank_2 : decode cX12_bank 2 = .ok (.putfield 1, 3) := by decide +kernel
theorem dX12_bank_5 : decode cX12_bank 5 = .ok (.aload_n 0, 1) := by decide +kernel
theorem dX12_bank_6 : decode cX12_bank 6 = .ok (.invokevirtual 312, 3) := by decide +kernel
theorem dX12_bank_9 : decode cX12_bank 9 = .ok (.aload_n 0, 1) := by decide +kernel
theorem dX12_bank_10 : decode cX12_bank 10 = .ok (.getfield 107, 3) := by decide +kernel
theorem dX12_bank_13 : decode cX12_bank 13 = .ok (.iconst 1, 1) := by decide +kernel
theorem dX12_bank_14 : decode cX12_bank 14 = .ok (.iconst 1, 1) := by decide +kernel
theorem dX12_bank_15 : decode cX12_bank 15 = .ok (.aload_n 0, 1) := by decide +kernel
theorem dX12_bank_16 : decode cX12_bank 16 = .ok (.getfield 107, 3) := by decide +kernel
theorem dX12_bank_19 : decode cX12_bank 19 = .ok (.iconst 1, 1) := by decide +kernel
theorem dX12_bank_20 : decode cX12_bank 20 = .ok (.iaload, 1) := by decide +kernel
theorem dX12_bank_21 : decode cX12_bank 21 = .ok (.isub, 1) := by decide +kernel
theorem dX12_bank_22 : decode cX12_bank 22 = .ok (.iastore, 1) := by decide +kernel
theorem dX12_bank_23 : decode cX12_bank 23 = .ok (.aload_n 0, 1) := by decide +kernel
theorem dX12_bank_24 : decode cX12_bank 24 = .ok (.getfield 107, 3) := by decide +kernel
theorem dX12_bank_27 : decode cX12_bank 27 = .ok (.iconst 1, 1) := by decide +kernel
theorem dX12_bank_28 : decode cX12_bank 28 = .ok (.iaload, 1) := by decide +kernel
theorem dX12_bank_29 : decode cX12_bank 29 = .ok (.iconst 1, 1) := by decide +kernel
theorem dX12_bank_30 : decode cX12_bank 30 = .ok (.if_icmp .ne 7, 3) := by decide +kernel
theorem dX12_bank_33 : decode cX12_bank 33 = .ok (.iconst 1, 1) := by decide +kernel
theorem dX12_bank_34 : decode cX12_bank 34 = .ok (.goto 4, 3) := by decide +kernel
theorem dX12_bank_37 : decode cX12_bank 37 = .ok (.iconst 0, 1) := by decide +kernel
theorem dX12_bank_38 : decode cX12_bank 38 = .ok (.ireturn, 1) := by decide +kernel
theorem dX12_undo_0 : decode cX12_undo 0 = .ok (.aload_n 0, 1) := by decide +kernel
theorem dX12_undo_1 : decode cX12_undo 1 = .ok (.iconst 0, 1) := by decide +kernel
theorem dX12_undo_2 : decode cX12_undo 2 = .ok (.putfield 1, 3) := by decide +kernel
theorem dX12_undo_5 : decode cX12_undo 5 = .ok (.aload_n 0, 1) := by decide +kernel
theorem dX12_undo_6 : decode cX12_undo 6 = .ok (.getfield 261, 3) := by decide +kernel
theorem dX12_undo_9 : decode cX12_undo 9 = .ok (.ifCond .ne 5, 3) := by decide +kernel
theorem dX12_undo_12 : decode cX12_undo 12 = .ok (.iconst 0, 1) := by decide +kernel
theorem dX12_undo_13 : decode cX12_undo 13 = .ok (.ireturn, 1) := by decide +kernel
theorem dX12_undo_14 : decode cX12_undo 14 = .ok (.aload_n 0, 1) := by decide +kernel
theorem dX12_undo_15 : decode cX12_undo 15 = .ok (.dup, 1) := by decide +kernel
theorem dX12_undo_16 : decode cX12_undo 16 = .ok (.getfield 261, 3) := by decide +kernel
theorem dX12_undo_19 : decode cX12_undo 19 = .ok (.iconst 1, 1) := by decide +kernel
theorem dX12_undo_20 : decode cX12_undo 20 = .ok (.isub, 1) := by decide +kernel
theorem dX12_undo_21 : decode cX12_undo 21 = .ok (.putfield 261, 3) := by decide +kernel
theorem dX12_undo_24 : decode cX12_undo 24 = .ok (.aload_n 0, 1) := by decide +kernel
theorem dX12_undo_25 : decode cX12_undo 25 = .ok (.bipush 42, 2) := by decide +kernel
theorem dX12_undo_27 : decode cX12_undo 27 = .ok (.iconst 5, 1) := by decide +kernel
theorem dX12_undo_28 : decode cX12_undo 28 = .ok (.aload_n 0, 1) := by decide +kernel
theorem dX12_undo_29 : decode cX12_undo 29 = .ok (.getfield 261, 3) := by decide +kernel
theorem dX12_undo_32 : decode cX12_undo 32 = .ok (.iadd, 1) := by decide +kernel
theorem dX12_undo_33 : decode cX12_undo 33 = .ok (.imul, 1) := by decide +kernel
theorem dX12_undo_34 : decode cX12_undo 34 = .ok (.iconst 0, 1) := by decide +kernel
theorem dX12_undo_35 : decode cX12_undo 35 = .ok (.bipush 23, 2) := by decide +kernel
theorem dX12_undo_37 : decode cX12_undo 37 = .ok (.invokevirtual 264, 3) := by decide +kernel
theorem dX12_undo_40 : decode cX12_undo 40 = .ok (.iconst 1, 1) := by decide +kernel
theorem dX12_undo_41 : decode cX12_undo 41 = .ok (.ireturn, 1) := by decide +kernel
theorem dX12_judged_0 : decode cX12_judged 0 = .ok (.aload_n 0, 1) := by decide +kernel
theorem dX12_judged_1 : decode cX12_judged 1 = .ok (.iconst 0, 1) := by decide +kernel
theorem dX12_judged_2 : decode cX12_judged 2 = .ok (.putfield 1, 3) := by decide +kernel
theorem dX12_judged_5 : decode cX12_judged 5 = .ok (.iload_n 1, 1) := by decide +kernel
theorem dX12_judged_6 : decode cX12_judged 6 = .ok (.iconst 0, 1) := by decide +kernel
theorem dX12_judged_7 : decode cX12_judged 7 = .ok (.iconst 2, 1) := by decide +kernel
theorem dX12_judged_8 : decode cX12_judged 8 = .ok (.invokestatic 308, 3) := by decide +kernel
theorem dX12_judged_11 : decode cX12_judged 11 = .ok (.ifCond .ne 6, 3) := by decide +kernel
theorem dX12_judged_14 : decode cX12_judged 14 = .ok (.bipush (-2), 2) := by decide +kernel
theorem dX12_judged_16 : decode cX12_judged 16 = .ok (.ireturn, 1) := by decide +kernel
theorem dX12_judged_17 : decode cX12_judged 17 = .ok (.aload_n 0, 1) := by decide +kernel
theorem dX12_judged_18 : decode cX12_judged 18 = .ok (.sipush 882, 3) := by decide +kernel
theorem dX12_judged_21 : decode cX12_judged 21 = .ok (.invokevirtual 258, 3) := by decide +kernel
theorem dX12_judged_24 : decode cX12_judged 24 = .ok (.iconst (-1), 1) := by decide +kernel
theorem dX12_judged_25 : decode cX12_judged 25 = .ok (.istore_n 2, 1) := by decide +kernel
theorem dX12_judged_26 : decode cX12_judged 26 = .ok (.iconst (-1), 1) := by decide +kernel
theorem dX12_judged_27 : decode cX12_judged 27 = .ok (.istore_n 3, 1) := by decide +kernel
theorem dX12_judged_28 : decode cX12_judged 28 = .ok (.iconst 0, 1) := by decide +kernel
theorem dX12_judged_29 : decode cX12_judged 29 = .ok (.istore 4, 2) := by decide +kernel
theorem dX12_judged_31 : decode cX12_judged 31 = .ok (.iload 4, 2) := by decide +kernel
theorem dX12_judged_33 : decode cX12_judged 33 = .ok (.aload_n 0, 1) := by decide +kernel
theorem dX12_judged_34 : decode cX12_judged 34 = .ok (.getfield 98, 3) := by decide +kernel
theorem dX12_judged_37 : decode cX12_judged 37 = .ok (.iconst 0, 1) := by decide +kernel
theorem dX12_judged_38 : decode cX12_judged 38 = .ok (.iaload, 1) := by decide +kernel
theorem dX12_judged_39 : decode cX12_judged 39 = .ok (.if_icmp .ge 232, 3) := by decide +kernel
theorem dX12_judged_42 : decode cX12_judged 42 = .ok (.aload_n 0, 1) := by decide +kernel
theorem dX12_judged_43 : decode cX12_judged 43 = .ok (.getfield 98, 3) := by decide +kernel
theorem dX12_judged_46 : decode cX12_judged 46 = .ok (.iconst 1, 1) := by decide +kernel
theorem dX12_judged_47 : decode cX12_judged 47 = .ok (.iconst 3, 1) := by decide +kernel
theorem dX12_judged_48 : decode cX12_judged 48 = .ok (.iload 4, 2) := by decide +kernel
theorem dX12_judged_50 : decode cX12_judged 50 = .ok (.imul, 1) := by decide +kernel
theorem dX12_judged_51 : decode cX12_judged 51 = .ok (.iadd, 1) := by decide +kernel
theorem dX12_judged_52 : decode cX12_judged 52 = .ok (.iaload, 1) := by decide +kernel
theorem dX12_judged_53 : decode cX12_judged 53 = .ok (.istore 5, 2) := by decide +kernel
theorem dX12_judged_55 : decode cX12_judged 55 = .ok (.aload_n 0, 1) := by decide +kernel
theorem dX12_judged_56 : decode cX12_judged 56 = .ok (.getfield 98, 3) := by decide +kernel
theorem dX12_judged_59 : decode cX12_judged 59 = .ok (.iconst 2, 1) := by decide +kernel
theorem dX12_judged_60 : decode cX12_judged 60 = .ok (.iconst 3, 1) := by decide +kernel
theorem dX12_judged_61 : decode cX12_judged 61 = .ok (.iload 4, 2) := by decide +kernel
theorem dX12_judged_63 : decode cX12_judged 63 = .ok (.imul, 1) := by decide +kernel
theorem dX12_judged_64 : decode cX12_judged 64 = .ok (.iadd, 1) := by decide +kernel
theorem dX12_judged_65 : decode cX12_judged 65 = .ok (.iaload, 1) := by decide +kernel
theorem dX12_judged_66 : decode cX12_judged 66 = .ok (.istore 6, 2) := by decide +kernel
theorem dX12_judged_68 : decode cX12_judged 68 = .ok (.aload_n 0, 1) := by decide +kernel
theorem dX12_judged_69 : decode cX12_judged 69 = .ok (.getfield 98, 3) := by decide +kernel
theorem dX12_judged_72 : decode cX12_judged 72 = .ok (.iconst 3, 1) := by decide +kernel
theorem dX12_judged_73 : decode cX12_judged 73 = .ok (.iconst 3, 1) := by decide +kernel
theorem dX12_judged_74 : decode cX12_judged 74 = .ok (.iload 4, 2) := by decide +kernel
theorem dX12_judged_76 : decode cX12_judged 76 = .ok (.imul, 1) := by decide +kernel
theorem dX12_judged_77 : decode cX12_judged 77 = .ok (.iadd, 1) := by decide +kernel
theorem dX12_judged_78 : decode cX12_judged 78 = .ok (.iaload, 1) := by decide +kernel
theorem dX12_judged_79 : decode cX12_judged 79 = .ok (.istore 7, 2) := by decide +kernel
theorem dX12_judged_81 : decode cX12_judged 81 = .ok (.iload 5, 2) := by decide +kernel
theorem dX12_judged_83 : decode cX12_judged 83 = .ok (.iconst 4, 1) := by decide +kernel
theorem dX12_judged_84 : decode cX12_judged 84 = .ok (.irem, 1) := by decide +kernel
theorem dX12_judged_85 : decode cX12_judged 85 = .ok (.ifCond .eq 35, 3) := by decide +kernel
theorem dX12_judged_88 : decode cX12_judged 88 = .ok (.aload_n 0, 1) := by decide +kernel
theorem dX12_judged_89 : decode cX12_judged 89 = .ok (.sipush 882, 3) := by decide +kernel
theorem dX12_judged_92 : decode cX12_judged 92 = .ok (.iload 6, 2) := by decide +kernel
theorem dX12_judged_94 : decode cX12_judged 94 = .ok (.invokevirtual 268, 3) := by decide +kernel
theorem dX12_judged_97 : decode cX12_judged 97 = .ok (.ifCond .eq 27, 3) := by decide +kernel
theorem dX12_judged_100 : decode cX12_judged 100 = .ok (.iload 5, 2) := by decide +kernel
theorem dX12_judged_102 : decode cX12_judged 102 = .ok (.iconst 2, 1) := by decide +kernel
theorem dX12_judged_103 : decode cX12_judged 103 = .ok (.if_icmp .ne 17, 3) := by decide +kernel
theorem dX12_judged_106 : decode cX12_judged 106 = .ok (.aload_n 0, 1) := by decide +kernel
theorem dX12_judged_107 : decode cX12_judged 107 = .ok (.sipush 882, 3) := by decide +kernel
theorem dX12_judged_110 : decode cX12_judged 110 = .ok (.iload 6, 2) := by decide +kernel
theorem dX12_judged_112 : decode cX12_judged 112 = .ok (.iload 7, 2) := by decide +kernel
theorem dX12_judged_114 : decode cX12_judged 114 = .ok (.invokevirtual 320, 3) := by decide +kernel
theorem dX12_judged_117 : decode cX12_judged 117 = .ok (.ifCond .eq 7, 3) := by decide +kernel
theorem dX12_judged_120 : decode cX12_judged 120 = .ok (.iconst 1, 1) := by decide +kernel
theorem dX12_judged_121 : decode cX12_judged 121 = .ok (.goto 4, 3) := by decide +kernel
theorem dX12_judged_124 : decode cX12_judged 124 = .ok (.iconst 0, 1) := by decide +kernel
theorem dX12_judged_125 : decode cX12_judged 125 = .ok (.istore 8, 2) := by decide +kernel
theorem dX12_judged_127 : decode cX12_judged 127 = .ok (.iload 8, 2) := by decide +kernel
theorem dX12_judged_129 : decode cX12_judged 129 = .ok (.ifCond .ne 12, 3) := by decide +kernel
theorem dX12_judged_132 : decode cX12_judged 132 = .ok (.iload_n 2, 1) := by decide +kernel
theorem dX12_judged_133 : decode cX12_judged 133 = .ok (.ifCond .ge 8, 3) := by decide +kernel
theorem dX12_judged_136 : decode cX12_judged 136 = .ok (.iload 4, 2) := by decide +kernel
theorem dX12_judged_138 : decode cX12_judged 138 = .ok (.goto 4, 3) := by decide +kernel
theorem dX12_judged_141 : decode cX12_judged 141 = .ok (.iload_n 2, 1) := by decide +kernel
theorem dX12_judged_142 : decode cX12_judged 142 = .ok (.istore_n 2, 1) := by decide +kernel
theorem dX12_judged_143 : decode cX12_judged 143 = .ok (.iload 5, 2) := by decide +kernel
theorem dX12_judged_145 : decode cX12_judged 145 = .ok (.ifCond .ne 27, 3) := by decide +kernel
theorem dX12_judged_148 : decode cX12_judged 148 = .ok (.aload_n 0, 1) := by decide +kernel
theorem dX12_judged_149 : decode cX12_judged 149 = .ok (.sipush 882, 3) := by decide +kernel
theorem dX12_judged_152 : decode cX12_judged 152 = .ok (.invokevirtual 315, 3) := by decide +kernel
theorem dX12_judged_155 : decode cX12_judged 155 = .ok (.ifCond .eq 12, 3) := by decide +kernel
theorem dX12_judged_158 : decode cX12_judged 158 = .ok (.iload_n 3, 1) := by decide +kernel
theorem dX12_judged_159 : decode cX12_judged 159 = .ok (.ifCond .ge 8, 3) := by decide +kernel
theorem dX12_judged_162 : decode cX12_judged 162 = .ok (.iload 4, 2) := by decide +kernel
theorem dX12_judged_164 : decode cX12_judged 164 = .ok (.goto 4, 3) := by decide +kernel
theorem dX12_judged_167 : decode cX12_judged 167 = .ok (.iload_n 3, 1) := by decide +kernel
theorem dX12_judged_168 : decode cX12_judged 168 = .ok (.istore_n 3, 1) := by decide +kernel
theorem dX12_judged_169 : decode cX12_judged 169 = .ok (.goto 96, 3) := by decide +kernel
theorem dX12_judged_172 : decode cX12_judged 172 = .ok (.iload 5, 2) := by decide +kernel
theorem dX12_judged_174 : decode cX12_judged 174 = .ok (.iconst 4, 1) := by decide +kernel
theorem dX12_judged_175 : decode cX12_judged 175 = .ok (.if_icmp .ne 24, 3) := by decide +kernel
theorem dX12_judged_178 : decode cX12_judged 178 = .ok (.aload_n 0, 1) := by decide +kernel
theorem dX12_judged_179 : decode cX12_judged 179 = .ok (.getfield 107, 3) := by decide +kernel
theorem dX12_judged_182 : decode cX12_judged 182 = .ok (.sipush 883, 3) := by decide +kernel
theorem dX12_judged_185 : decode cX12_judged 185 = .ok (.iconst 1, 1) := by decide +kernel
theorem dX12_judged_186 : decode cX12_judged 186 = .ok (.aload_n 0, 1) := by decide +kernel
theorem dX12_judged_187 : decode cX12_judged 187 = .ok (.getfield 107, 3) := by decide +kernel
theorem dX12_judged_190 : decode cX12_judged 190 = .ok (.sipush 883, 3) := by decide +kernel
theorem dX12_judged_193 : decode cX12_judged 193 = .ok (.iaload, 1) := by decide +kernel
theorem dX12_judged_194 : decode cX12_judged 194 = .ok (.isub, 1) := by decide +kernel
theorem dX12_judged_195 : decode cX12_judged 195 = .ok (.iastore, 1) := by decide +kernel
theorem dX12_judged_196 : decode cX12_judged 196 = .ok (.goto 69, 3) := by decide +kernel
theorem dX12_judged_199 : decode cX12_judged 199 = .ok (.iload 8, 2) := by decide +kernel
theorem dX12_judged_201 : decode cX12_judged 201 = .ok (.ifCond .eq 21, 3) := by decide +kernel
theorem dX12_judged_204 : decode cX12_judged 204 = .ok (.iload 5, 2) := by decide +kernel
theorem dX12_judged_206 : decode cX12_judged 206 = .ok (.iconst 1, 1) := by decide +kernel
theorem dX12_judged_207 : decode cX12_judged 207 = .ok (.if_icmp .ne 15, 3) := by decide +kernel
theorem dX12_judged_210 : decode cX12_judged 210 = .ok (.aload_n 0, 1) := by decide +kernel
theorem dX12_judged_211 : decode cX12_judged 211 = .ok (.sipush 882, 3) := by decide +kernel
theorem dX12_judged_214 : decode cX12_judged 214 = .ok (.iload 6, 2) := by decide +kernel
theorem dX12_judged_216 : decode cX12_judged 216 = .ok (.invokevirtual 317, 3) := by decide +kernel
theorem dX12_judged_219 : decode cX12_judged 219 = .ok (.goto 46, 3) := by decide +kernel
theorem dX12_judged_222 : decode cX12_judged 222 = .ok (.iload 8, 2) := by decide +kernel
theorem dX12_judged_224 : decode cX12_judged 224 = .ok (.ifCond .eq 25, 3) := by decide +kernel
theorem dX12_judged_227 : decode cX12_judged 227 = .ok (.iload 5, 2) := by decide +kernel
theorem dX12_judged_229 : decode cX12_judged 229 = .ok (.iconst 2, 1) := by decide +kernel
theorem dX12_judged_230 : decode cX12_judged 230 = .ok (.if_icmp .ne 19, 3) := by decide +kernel
theorem dX12_judged_233 : decode cX12_judged 233 = .ok (.aload_n 0, 1) := by decide +kernel
theorem dX12_judged_234 : decode cX12_judged 234 = .ok (.getfield 107, 3) := by decide +kernel
theorem dX12_judged_237 : decode cX12_judged 237 = .ok (.sipush 884, 3) := by decide +kernel
theorem dX12_judged_240 : decode cX12_judged 240 = .ok (.iload 6, 2) := by decide +kernel
theorem dX12_judged_242 : decode cX12_judged 242 = .ok (.iadd, 1) := by decide +kernel
theorem dX12_judged_243 : decode cX12_judged 243 = .ok (.iload 7, 2) := by decide +kernel
theorem dX12_judged_245 : decode cX12_judged 245 = .ok (.iastore, 1) := by decide +kernel
theorem dX12_judged_246 : decode cX12_judged 246 = .ok (.goto 19, 3) := by decide +kernel
theorem dX12_judged_249 : decode cX12_judged 249 = .ok (.iload 8, 2) := by decide +kernel
theorem dX12_judged_251 : decode cX12_judged 251 = .ok (.ifCond .eq 14, 3) := by decide +kernel
theorem dX12_judged_254 : decode cX12_judged 254 = .ok (.aload_n 0, 1) := by decide +kernel
theorem dX12_judged_255 : decode cX12_judged 255 = .ok (.sipush 882, 3) := by decide +kernel
theorem dX12_judged_258 : decode cX12_judged 258 = .ok (.iload 6, 2) := by decide +kernel
theorem dX12_judged_260 : decode cX12_judged 260 = .ok (.iload 7, 2) := by decide +kernel
theorem dX12_judged_262 : decode cX12_judged 262 = .ok (.invokevirtual 323, 3) := by decide +kernel
theorem dX12_judged_265 : decode cX12_judged 265 = .ok (.iinc 4 1, 3) := by decide +kernel
theorem dX12_judged_268 : decode cX12_judged 268 = .ok (.goto (-237), 3) := by decide +kernel
theorem dX12_judged_271 : decode cX12_judged 271 = .ok (.iload_n 1, 1) := by decide +kernel
theorem dX12_judged_272 : decode cX12_judged 272 = .ok (.ifCond .ne 7, 3) := by decide +kernel
theorem dX12_judged_275 : decode cX12_judged 275 = .ok (.iload_n 2, 1) := by decide +kernel
theorem dX12_judged_276 : decode cX12_judged 276 = .ok (.goto 19, 3) := by decide +kernel
theorem dX12_judged_279 : decode cX12_judged 279 = .ok (.iload_n 1, 1) := by decide +kernel
theorem dX12_judged_280 : decode cX12_judged 280 = .ok (.iconst 1, 1) := by decide +kernel
theorem dX12_judged_281 : decode cX12_judged 281 = .ok (.if_icmp .ne 7, 3) := by decide +kernel
theorem dX12_judged_284 : decode cX12_judged 284 = .ok (.iload_n 3, 1) := by decide +kernel
theorem dX12_judged_285 : decode cX12_judged 285 = .ok (.goto 10, 3) := by decide +kernel
theorem dX12_judged_288 : decode cX12_judged 288 = .ok (.aload_n 0, 1) := by decide +kernel
theorem dX12_judged_289 : decode cX12_judged 289 = .ok (.sipush 882, 3) := by decide +kernel
theorem dX12_judged_292 : decode cX12_judged 292 = .ok (.invokevirtual 326, 3) := by decide +kernel
theorem dX12_judged_295 : decode cX12_judged 295 = .ok (.ireturn, 1) := by decide +kernel
theorem dX12_triesNow_0 : decode cX12_triesNow 0 = .ok (.aload_n 0, 1) := by decide +kernel
theorem dX12_triesNow_1 : decode cX12_triesNow 1 = .ok (.iconst 0, 1) := by decide +kernel
theorem dX12_triesNow_2 : decode cX12_triesNow 2 = .ok (.sipush 882, 3) := by decide +kernel
theorem dX12_triesNow_5 : decode cX12_triesNow 5 = .ok (.bipush 23, 2) := by decide +kernel
theorem dX12_triesNow_7 : decode cX12_triesNow 7 = .ok (.invokevirtual 264, 3) := by decide +kernel
theorem dX12_triesNow_10 : decode cX12_triesNow 10 = .ok (.return_, 1) := by decide +kernel
theorem dX12_outOf_0 : decode cX12_outOf 0 = .ok (.aload_n 0, 1) := by decide +kernel
theorem dX12_outOf_1 : decode cX12_outOf 1 = .ok (.invokevirtual 329, 3) := by decide +kernel
theorem dX12_outOf_4 : decode cX12_outOf 4 = .ok (.iconst (-1), 1) := by decide +kernel
theorem dX12_outOf_5 : decode cX12_outOf 5 = .ok (.istore_n 2, 1) := by decide +kernel
theorem dX12_outOf_6 : decode cX12_outOf 6 = .ok (.iconst 0, 1) := by decide +kernel
theorem dX12_outOf_7 : decode cX12_outOf 7 = .ok (.istore_n 3, 1) := by decide +kernel
theorem dX12_outOf_8 : decode cX12_outOf 8 = .ok (.iload_n 3, 1) := by decide +kernel
theorem dX12_outOf_9 : decode cX12_outOf 9 = .ok (.bipush 40, 2) := by decide +kernel
theorem dX12_outOf_11 : decode cX12_outOf 11 = .ok (.if_icmp .gt 34, 3) := by decide +kernel
theorem dX12_outOf_14 : decode cX12_outOf 14 = .ok (.aload_n 0, 1) := by decide +kernel
theorem dX12_outOf_15 : decode cX12_outOf 15 = .ok (.sipush 882, 3) := by decide +kernel
theorem dX12_outOf_18 : decode cX12_outOf 18 = .ok (.iload_n 1, 1) := by decide +kernel
theorem dX12_outOf_19 : decode cX12_outOf 19 = .ok (.invokevirtual 272, 3) := by decide +kernel
theorem dX12_outOf_22 : decode cX12_outOf 22 = .ok (.ifCond .eq 7, 3) := by decide +kernel
theorem dX12_outOf_25 : decode cX12_outOf 25 = .ok (.iload_n 3, 1) := by decide +kernel
theorem dX12_outOf_26 : decode cX12_outOf 26 = .ok (.goto 4, 3) := by decide +kernel
theorem dX12_outOf_29 : decode cX12_outOf 29 = .ok (.iload_n 2, 1) := by decide +kernel
theorem dX12_outOf_30 : decode cX12_outOf 30 = .ok (.istore_n 2, 1) := by decide +kernel
theorem dX12_outOf_31 : decode cX12_outOf 31 = .ok (.aload_n 0, 1) := by decide +kernel
theorem dX12_outOf_32 : decode cX12_outOf 32 = .ok (.sipush 882, 3) := by decide +kernel
theorem dX12_outOf_35 : decode cX12_outOf 35 = .ok (.invokevirtual 315, 3) := by decide +kernel
theorem dX12_outOf_38 : decode cX12_outOf 38 = .ok (.pop, 1) := by decide +kernel
theorem dX12_outOf_39 : decode cX12_outOf 39 = .ok (.iinc 3 1, 3) := by decide +kernel
theorem dX12_outOf_42 : decode cX12_outOf 42 = .ok (.goto (-34), 3) := by decide +kernel
theorem dX12_outOf_45 : decode cX12_outOf 45 = .ok (.iload_n 2, 1) := by decide +kernel
theorem dX12_outOf_46 : decode cX12_outOf 46 = .ok (.ifCond .lt 9, 3) := by decide +kernel
theorem dX12_outOf_49 : decode cX12_outOf 49 = .ok (.iload_n 2, 1) := by decide +kernel
theorem dX12_outOf_50 : decode cX12_outOf 50 = .ok (.bipush 40, 2) := by decide +kernel
theorem dX12_outOf_52 : decode cX12_outOf 52 = .ok (.if_icmp .ne 7, 3) := by decide +kernel
theorem dX12_outOf_55 : decode cX12_outOf 55 = .ok (.iconst (-1), 1) := by decide +kernel
theorem dX12_outOf_56 : decode cX12_outOf 56 = .ok (.goto 6, 3) := by decide +kernel
theorem dX12_outOf_59 : decode cX12_outOf 59 = .ok (.iload_n 2, 1) := by decide +kernel
theorem dX12_outOf_60 : decode cX12_outOf 60 = .ok (.iconst 1, 1) := by decide +kernel
theorem dX12_outOf_61 : decode cX12_outOf 61 = .ok (.iadd, 1) := by decide +kernel
theorem dX12_outOf_62 : decode cX12_outOf 62 = .ok (.ireturn, 1) := by decide +kernel
theorem dX12_out_0 : decode cX12_out 0 = .ok (.aload_n 0, 1) := by decide +kernel
theorem dX12_out_1 : decode cX12_out 1 = .ok (.iconst 0, 1) := by decide +kernel
theorem dX12_out_2 : decode cX12_out 2 = .ok (.putfield 1, 3) := by decide +kernel
theorem dX12_out_5 : decode cX12_out 5 = .ok (.aload_n 0, 1) := by decide +kernel
theorem dX12_out_6 : decode cX12_out 6 = .ok (.iload_n 1, 1) := by decide +kernel
theorem dX12_out_7 : decode cX12_out 7 = .ok (.invokevirtual 305, 3) := by decide +kernel
theorem dX12_out_10 : decode cX12_out 10 = .ok (.ifCond .eq 11, 3) := by decide +kernel
theorem dX12_out_13 : decode cX12_out 13 = .ok (.aload_n 0, 1) := by decide +kernel
theorem dX12_out_14 : decode cX12_out 14 = .ok (.iload_n 1, 1) := by decide +kernel
theorem dX12_out_15 : decode cX12_out 15 = .ok (.invokevirtual 332, 3) := by decide +kernel
theorem dX12_out_18 : decode cX12_out 18 = .ok (.goto 4, 3) := by decide +kernel
theorem dX12_out_21 : decode cX12_out 21 = .ok (.iconst (-1), 1) := by decide +kernel
theorem dX12_out_22 : decode cX12_out 22 = .ok (.ireturn, 1) := by decide +kernel
theorem dX12_last_0 : decode cX12_last 0 = .ok (.aload_n 0, 1) := by decide +kernel
theorem dX12_last_1 : decode cX12_last 1 = .ok (.iconst 0, 1) := by decide +kernel
theorem dX12_last_2 : decode cX12_last 2 = .ok (.putfield 1, 3) := by decide +kernel
theorem dX12_last_5 : decode cX12_last 5 = .ok (.iconst (-1), 1) := by decide +kernel
theorem dX12_last_6 : decode cX12_last 6 = .ok (.istore_n 1, 1) := by decide +kernel
theorem dX12_last_7 : decode cX12_last 7 = .ok (.iconst (-1), 1) := by decide +kernel
theorem dX12_last_8 : decode cX12_last 8 = .ok (.istore_n 2, 1) := by decide +kernel
theorem dX12_last_9 : decode cX12_last 9 = .ok (.iconst 0, 1) := by decide +kernel
theorem dX12_last_10 : decode cX12_last 10 = .ok (.istore_n 3, 1) := by decide +kernel
theorem dX12_last_11 : decode cX12_last 11 = .ok (.iload_n 3, 1) := by decide +kernel
theorem dX12_last_12 : decode cX12_last 12 = .ok (.aload_n 0, 1) := by decide +kernel
theorem dX12_last_13 : decode cX12_last 13 = .ok (.invokevirtual 252, 3) := by decide +kernel
theorem dX12_last_16 : decode cX12_last 16 = .ok (.if_icmp .ge 41, 3) := by decide +kernel
theorem dX12_last_19 : decode cX12_last 19 = .ok (.aload_n 0, 1) := by decide +kernel
theorem dX12_last_20 : decode cX12_last 20 = .ok (.iload_n 3, 1) := by decide +kernel
theorem dX12_last_21 : decode cX12_last 21 = .ok (.invokevirtual 332, 3) := by decide +kernel
theorem dX12_last_24 : decode cX12_last 24 = .ok (.istore 4, 2) := by decide +kernel
theorem dX12_last_26 : decode cX12_last 26 = .ok (.iload 4, 2) := by decide +kernel
theorem dX12_last_28 : decode cX12_last 28 = .ok (.iload_n 2, 1) := by decide +kernel
theorem dX12_last_29 : decode cX12_last 29 = .ok (.if_icmp .le 7, 3) := by decide +kernel
theorem dX12_last_32 : decode cX12_last 32 = .ok (.iload_n 3, 1) := by decide +kernel
theorem dX12_last_33 : decode cX12_last 33 = .ok (.goto 4, 3) := by decide +kernel
theorem dX12_last_36 : decode cX12_last 36 = .ok (.iload_n 1, 1) := by decide +kernel
theorem dX12_last_37 : decode cX12_last 37 = .ok (.istore_n 1, 1) := by decide +kernel
theorem dX12_last_38 : decode cX12_last 38 = .ok (.iload 4, 2) := by decide +kernel
theorem dX12_last_40 : decode cX12_last 40 = .ok (.iload_n 2, 1) := by decide +kernel
theorem dX12_last_41 : decode cX12_last 41 = .ok (.if_icmp .le 8, 3) := by decide +kernel
theorem dX12_last_44 : decode cX12_last 44 = .ok (.iload 4, 2) := by decide +kernel
theorem dX12_last_46 : decode cX12_last 46 = .ok (.goto 4, 3) := by decide +kernel
theorem dX12_last_49 : decode cX12_last 49 = .ok (.iload_n 2, 1) := by decide +kernel
theorem dX12_last_50 : decode cX12_last 50 = .ok (.istore_n 2, 1) := by decide +kernel
theorem dX12_last_51 : decode cX12_last 51 = .ok (.iinc 3 1, 3) := by decide +kernel
theorem dX12_last_54 : decode cX12_last 54 = .ok (.goto (-43), 3) := by decide +kernel
theorem dX12_last_57 : decode cX12_last 57 = .ok (.iload_n 1, 1) := by decide +kernel
theorem dX12_last_58 : decode cX12_last 58 = .ok (.ireturn, 1) := by decide +kernel
theorem dX12_lastsFor_0 : decode cX12_lastsFor 0 = .ok (.iload_n 1, 1) := by decide +kernel
theorem dX12_lastsFor_1 : decode cX12_lastsFor 1 = .ok (.istore_n 2, 1) := by decide +kernel
theorem dX12_lastsFor_2 : decode cX12_lastsFor 2 = .ok (.iload_n 2, 1) := by decide +kernel
theorem dX12_lastsFor_3 : decode cX12_lastsFor 3 = .ok (.bipush 40, 2) := by decide +kernel
theorem dX12_lastsFor_5 : decode cX12_lastsFor 5 = .ok (.if_icmp .gt 29, 3) := by decide +kernel
theorem dX12_lastsFor_8 : decode cX12_lastsFor 8 = .ok (.aload_n 0, 1) := by decide +kernel
theorem dX12_lastsFor_9 : decode cX12_lastsFor 9 = .ok (.sipush 882, 3) := by decide +kernel
theorem dX12_lastsFor_12 : decode cX12_lastsFor 12 = .ok (.invokevirtual 284, 3) := by decide +kernel
theorem dX12_lastsFor_15 : decode cX12_lastsFor 15 = .ok (.ifCond .ne 5, 3) := by decide +kernel
theorem dX12_lastsFor_18 : decode cX12_lastsFor 18 = .ok (.iload_n 2, 1) := by decide +kernel
theorem dX12_lastsFor_19 : decode cX12_lastsFor 19 = .ok (.ireturn, 1) := by decide +kernel
theorem dX12_lastsFor_20 : decode cX12_lastsFor 20 = .ok (.aload_n 0, 1) := by decide +kernel
theorem dX12_lastsFor_21 : decode cX12_lastsFor 21 = .ok (.sipush 882, 3) := by decide +kernel
theorem dX12_lastsFor_24 : decode cX12_lastsFor 24 = .ok (.invokevirtual 315, 3) := by decide +kernel
theorem dX12_lastsFor_27 : decode cX12_lastsFor 27 = .ok (.pop, 1) := by decide +kernel
theorem dX12_lastsFor_28 : decode cX12_lastsFor 28 = .ok (.iinc 2 1, 3) := by decide +kernel
theorem dX12_lastsFor_31 : decode cX12_lastsFor 31 = .ok (.goto (-29), 3) := by decide +kernel
theorem dX12_lastsFor_34 : decode cX12_lastsFor 34 = .ok (.bipush 41, 2) := by decide +kernel
theorem dX12_lastsFor_36 : decode cX12_lastsFor 36 = .ok (.ireturn, 1) := by decide +kernel
theorem dX12_lasts_0 : decode cX12_lasts 0 = .ok (.aload_n 0, 1) := by decide +kernel
theorem dX12_lasts_1 : decode cX12_lasts 1 = .ok (.iconst 0, 1) := by decide +kernel
theorem dX12_lasts_2 : decode cX12_lasts 2 = .ok (.putfield 1, 3) := by decide +kernel
theorem dX12_lasts_5 : decode cX12_lasts 5 = .ok (.aload_n 0, 1) := by decide +kernel
theorem dX12_lasts_6 : decode cX12_lasts 6 = .ok (.invokevirtual 329, 3) := by decide +kernel
theorem dX12_lasts_9 : decode cX12_lasts 9 = .ok (.aload_n 0, 1) := by decide +kernel
theorem dX12_lasts_10 : decode cX12_lasts 10 = .ok (.iconst 0, 1) := by decide +kernel
theorem dX12_lasts_11 : decode cX12_lasts 11 = .ok (.invokevirtual 335, 3) := by decide +kernel
theorem dX12_lasts_14 : decode cX12_lasts 14 = .ok (.istore_n 1, 1) := by decide +kernel
theorem dX12_lasts_15 : decode cX12_lasts 15 = .ok (.iload_n 1, 1) := by decide +kernel
theorem dX12_lasts_16 : decode cX12_lasts 16 = .ok (.bipush 40, 2) := by decide +kernel
theorem dX12_lasts_18 : decode cX12_lasts 18 = .ok (.if_icmp .le 7, 3) := by decide +kernel
theorem dX12_lasts_21 : decode cX12_lasts 21 = .ok (.iconst (-1), 1) := by decide +kernel
theorem dX12_lasts_22 : decode cX12_lasts 22 = .ok (.goto 4, 3) := by decide +kernel
theorem dX12_lasts_25 : decode cX12_lasts 25 = .ok (.iload_n 1, 1) := by decide +kernel
theorem dX12_lasts_26 : decode cX12_lasts 26 = .ok (.ireturn, 1) := by decide +kernel
theorem dX12_caught_0 : decode cX12_caught 0 = .ok (.aload_n 0, 1) := by decide +kernel
theorem dX12_caught_1 : decode cX12_caught 1 = .ok (.iconst 0, 1) := by decide +kernel
theorem dX12_caught_2 : decode cX12_caught 2 = .ok (.putfield 1, 3) := by decide +kernel
theorem dX12_caught_5 : decode cX12_caught 5 = .ok (.aload_n 0, 1) := by decide +kernel
theorem dX12_caught_6 : decode cX12_caught 6 = .ok (.invokevirtual 329, 3) := by decide +kernel
theorem dX12_caught_9 : decode cX12_caught 9 = .ok (.iconst 0, 1) := by decide +kernel
theorem dX12_caught_10 : decode cX12_caught 10 = .ok (.istore_n 2, 1) := by decide +kernel
theorem dX12_caught_11 : decode cX12_caught 11 = .ok (.iload_n 2, 1) := by decide +kernel
theorem dX12_caught_12 : decode cX12_caught 12 = .ok (.bipush 40, 2) := by decide +kernel
theorem dX12_caught_14 : decode cX12_caught 14 = .ok (.if_icmp .gt 38, 3) := by decide +kernel
theorem dX12_caught_17 : decode cX12_caught 17 = .ok (.aload_n 0, 1) := by decide +kernel
theorem dX12_caught_18 : decode cX12_caught 18 = .ok (.iload_n 1, 1) := by decide +kernel
theorem dX12_caught_19 : decode cX12_caught 19 = .ok (.invokevirtual 305, 3) := by decide +kernel
theorem dX12_caught_22 : decode cX12_caught 22 = .ok (.ifCond .eq 30, 3) := by decide +kernel
theorem dX12_caught_25 : decode cX12_caught 25 = .ok (.aload_n 0, 1) := by decide +kernel
theorem dX12_caught_26 : decode cX12_caught 26 = .ok (.sipush 882, 3) := by decide +kernel
theorem dX12_caught_29 : decode cX12_caught 29 = .ok (.iload_n 1, 1) := by decide +kernel
theorem dX12_caught_30 : decode cX12_caught 30 = .ok (.invokevirtual 272, 3) := by decide +kernel
theorem dX12_caught_33 : decode cX12_caught 33 = .ok (.ifCond .eq 5, 3) := by decide +kernel
theorem dX12_caught_36 : decode cX12_caught 36 = .ok (.iload_n 2, 1) := by decide +kernel
theorem dX12_caught_37 : decode cX12_caught 37 = .ok (.ireturn, 1) := by decide +kernel
theorem dX12_caught_38 : decode cX12_caught 38 = .ok (.aload_n 0, 1) := by decide +kernel
theorem dX12_caught_39 : decode cX12_caught 39 = .ok (.sipush 882, 3) := by decide +kernel
theorem dX12_caught_42 : decode cX12_caught 42 = .ok (.invokevirtual 315, 3) := by decide +kernel
theorem dX12_caught_45 : decode cX12_caught 45 = .ok (.pop, 1) := by decide +kernel
theorem dX12_caught_46 : decode cX12_caught 46 = .ok (.iinc 2 1, 3) := by decide +kernel
theorem dX12_caught_49 : decode cX12_caught 49 = .ok (.goto (-38), 3) := by decide +kernel
theorem dX12_caught_52 : decode cX12_caught 52 = .ok (.iconst (-1), 1) := by decide +kernel
theorem dX12_caught_53 : decode cX12_caught 53 = .ok (.ireturn, 1) := by decide +kernel
theorem dX12_ash_0 : decode cX12_ash 0 = .ok (.aload_n 0, 1) := by decide +kernel
theorem dX12_ash_1 : decode cX12_ash 1 = .ok (.iconst 0, 1) := by decide +kernel
theorem dX12_ash_2 : decode cX12_ash 2 = .ok (.putfield 1, 3) := by decide +kernel
theorem dX12_ash_5 : decode cX12_ash 5 = .ok (.iload_n 1, 1) := by decide +kernel
theorem dX12_ash_6 : decode cX12_ash 6 = .ok (.iconst 0, 1) := by decide +kernel
theorem dX12_ash_7 : decode cX12_ash 7 = .ok (.bipush 40, 2) := by decide +kernel
theorem dX12_ash_9 : decode cX12_ash 9 = .ok (.invokestatic 308, 3) := by decide +kernel
theorem dX12_ash_12 : decode cX12_ash 12 = .ok (.ifCond .ne 5, 3) := by decide +kernel
theorem dX12_ash_15 : decode cX12_ash 15 = .ok (.iconst (-1), 1) := by decide +kernel
theorem dX12_ash_16 : decode cX12_ash 16 = .ok (.ireturn, 1) := by decide +kernel
theorem dX12_ash_17 : decode cX12_ash 17 = .ok (.aload_n 0, 1) := by decide +kernel
theorem dX12_ash_18 : decode cX12_ash 18 = .ok (.invokevirtual 329, 3) := by decide +kernel
theorem dX12_ash_21 : decode cX12_ash 21 = .ok (.iconst 0, 1) := by decide +kernel
theorem dX12_ash_22 : decode cX12_ash 22 = .ok (.istore_n 2, 1) := by decide +kernel
theorem dX12_ash_23 : decode cX12_ash 23 = .ok (.iload_n 2, 1) := by decide +kernel
theorem dX12_ash_24 : decode cX12_ash 24 = .ok (.iload_n 1, 1) := by decide +kernel
theorem dX12_ash_25 : decode cX12_ash 25 = .ok (.if_icmp .ge 17, 3) := by decide +kernel
theorem dX12_ash_28 : decode cX12_ash 28 = .ok (.aload_n 0, 1) := by decide +kernel
theorem dX12_ash_29 : decode cX12_ash 29 = .ok (.sipush 882, 3) := by decide +kernel
theorem dX12_ash_32 : decode cX12_ash 32 = .ok (.invokevirtual 315, 3) := by decide +kernel
theorem dX12_ash_35 : decode cX12_ash 35 = .ok (.pop, 1) := by decide +kernel
theorem dX12_ash_36 : decode cX12_ash 36 = .ok (.iinc 2 1, 3) := by decide +kernel
theorem dX12_ash_39 : decode cX12_ash 39 = .ok (.goto (-16), 3) := by decide +kernel
theorem dX12_ash_42 : decode cX12_ash 42 = .ok (.iconst 0, 1) := by decide +kernel
theorem dX12_ash_43 : decode cX12_ash 43 = .ok (.istore_n 2, 1) := by decide +kernel
theorem dX12_ash_44 : decode cX12_ash 44 = .ok (.iconst 0, 1) := by decide +kernel
theorem dX12_ash_45 : decode cX12_ash 45 = .ok (.istore_n 3, 1) := by decide +kernel
theorem dX12_ash_46 : decode cX12_ash 46 = .ok (.iload_n 3, 1) := by decide +kernel
theorem dX12_ash_47 : decode cX12_ash 47 = .ok (.aload_n 0, 1) := by decide +kernel
theorem dX12_ash_48 : decode cX12_ash 48 = .ok (.invokevirtual 252, 3) := by decide +kernel
theorem dX12_ash_51 : decode cX12_ash 51 = .ok (.if_icmp .ge 30, 3) := by decide +kernel
theorem dX12_ash_54 : decode cX12_ash 54 = .ok (.iload_n 2, 1) := by decide +kernel
theorem dX12_ash_55 : decode cX12_ash 55 = .ok (.aload_n 0, 1) := by decide +kernel
theorem dX12_ash_56 : decode cX12_ash 56 = .ok (.sipush 882, 3) := by decide +kernel
theorem dX12_ash_59 : decode cX12_ash 59 = .ok (.iload_n 3, 1) := by decide +kernel
theorem dX12_ash_60 : decode cX12_ash 60 = .ok (.invokevirtual 268, 3) := by decide +kernel
theorem dX12_ash_63 : decode cX12_ash 63 = .ok (.ifCond .eq 7, 3) := by decide +kernel
theorem dX12_ash_66 : decode cX12_ash 66 = .ok (.iconst 0, 1) := by decide +kernel
theorem dX12_ash_67 : decode cX12_ash 67 = .ok (.goto 6, 3) := by decide +kernel
theorem dX12_ash_70 : decode cX12_ash 70 = .ok (.iconst 1, 1) := by decide +kernel
theorem dX12_ash_71 : decode cX12_ash 71 = .ok (.iload_n 3, 1) := by decide +kernel
theorem dX12_ash_72 : decode cX12_ash 72 = .ok (.ishl, 1) := by decide +kernel
theorem dX12_ash_73 : decode cX12_ash 73 = .ok (.ior, 1) := by decide +kernel
theorem dX12_ash_74 : decode cX12_ash 74 = .ok (.istore_n 2, 1) := by decide +kernel
theorem dX12_ash_75 : decode cX12_ash 75 = .ok (.iinc 3 1, 3) := by decide +kernel
theorem dX12_ash_78 : decode cX12_ash 78 = .ok (.goto (-32), 3) := by decide +kernel
theorem dX12_ash_81 : decode cX12_ash 81 = .ok (.iload_n 2, 1) := by decide +kernel
theorem dX12_ash_82 : decode cX12_ash 82 = .ok (.ireturn, 1) := by decide +kernel
theorem dX12_falls__0 : decode cX12_falls_ 0 = .ok (.aload_n 0, 1) := by decide +kernel
theorem dX12_falls__1 : decode cX12_falls_ 1 = .ok (.iconst 0, 1) := by decide +kernel
theorem dX12_falls__2 : decode cX12_falls_ 2 = .ok (.putfield 1, 3) := by decide +kernel
theorem dX12_falls__5 : decode cX12_falls_ 5 = .ok (.aload_n 0, 1) := by decide +kernel
theorem dX12_falls__6 : decode cX12_falls_ 6 = .ok (.invokevirtual 329, 3) := by decide +kernel
theorem dX12_falls__9 : decode cX12_falls_ 9 = .ok (.aload_n 0, 1) := by decide +kernel
theorem dX12_falls__10 : decode cX12_falls_ 10 = .ok (.sipush 882, 3) := by decide +kernel
theorem dX12_falls__13 : decode cX12_falls_ 13 = .ok (.invokevirtual 315, 3) := by decide +kernel
theorem dX12_falls__16 : decode cX12_falls_ 16 = .ok (.pop, 1) := by decide +kernel
theorem dX12_falls__17 : decode cX12_falls_ 17 = .ok (.iconst 0, 1) := by decide +kernel
theorem dX12_falls__18 : decode cX12_falls_ 18 = .ok (.istore_n 1, 1) := by decide +kernel
theorem dX12_falls__19 : decode cX12_falls_ 19 = .ok (.iconst 0, 1) := by decide +kernel
theorem dX12_falls__20 : decode cX12_falls_ 20 = .ok (.istore_n 2, 1) := by decide +kernel
theorem dX12_falls__21 : decode cX12_falls_ 21 = .ok (.iload_n 2, 1) := by decide +kernel
theorem dX12_falls__22 : decode cX12_falls_ 22 = .ok (.aload_n 0, 1) := by decide +kernel
theorem dX12_falls__23 : decode cX12_falls_ 23 = .ok (.invokevirtual 252, 3) := by decide +kernel
theorem dX12_falls__26 : decode cX12_falls_ 26 = .ok (.if_icmp .ge 51, 3) := by decide +kernel
theorem dX12_falls__29 : decode cX12_falls_ 29 = .ok (.iload_n 1, 1) := by decide +kernel
theorem dX12_falls__30 : decode cX12_falls_ 30 = .ok (.aload_n 0, 1) := by decide +kernel
theorem dX12_falls__31 : decode cX12_falls_ 31 = .ok (.sipush 882, 3) := by decide +kernel
theorem dX12_falls__34 : decode cX12_falls_ 34 = .ok (.iload_n 2, 1) := by decide +kernel
theorem dX12_falls__35 : decode cX12_falls_ 35 = .ok (.invokevirtual 268, 3) := by decide +kernel
theorem dX12_falls__38 : decode cX12_falls_ 38 = .ok (.ifCond .eq 30, 3) := by decide +kernel
theorem dX12_falls__41 : decode cX12_falls_ 41 = .ok (.aload_n 0, 1) := by decide +kernel
theorem dX12_falls__42 : decode cX12_falls_ 42 = .ok (.getfield 107, 3) := by decide +kernel
theorem dX12_falls__45 : decode cX12_falls_ 45 = .ok (.sipush 884, 3) := by decide +kernel
theorem dX12_falls__48 : decode cX12_falls_ 48 = .ok (.iload_n 2, 1) := by decide +kernel
theorem dX12_falls__49 : decode cX12_falls_ 49 = .ok (.iadd, 1) := by decide +kernel
theorem dX12_falls__50 : decode cX12_falls_ 50 = .ok (.iaload, 1) := by decide +kernel
theorem dX12_falls__51 : decode cX12_falls_ 51 = .ok (.aload_n 0, 1) := by decide +kernel
theorem dX12_falls__52 : decode cX12_falls_ 52 = .ok (.getfield 107, 3) := by decide +kernel
theorem dX12_falls__55 : decode cX12_falls_ 55 = .ok (.iconst 2, 1) := by decide +kernel
theorem dX12_falls__56 : decode cX12_falls_ 56 = .ok (.iload_n 2, 1) := by decide +kernel
theorem dX12_falls__57 : decode cX12_falls_ 57 = .ok (.iadd, 1) := by decide +kernel
theorem dX12_falls__58 : decode cX12_falls_ 58 = .ok (.iaload, 1) := by decide +kernel
theorem dX12_falls__59 : decode cX12_falls_ 59 = .ok (.if_icmp .eq 9, 3) := by decide +kernel
theorem dX12_falls__62 : decode cX12_falls_ 62 = .ok (.iconst 1, 1) := by decide +kernel
theorem dX12_falls__63 : decode cX12_falls_ 63 = .ok (.iload_n 2, 1) := by decide +kernel
theorem dX12_falls__64 : decode cX12_falls_ 64 = .ok (.ishl, 1) := by decide +kernel
theorem dX12_falls__65 : decode cX12_falls_ 65 = .ok (.goto 4, 3) := by decide +kernel
theorem dX12_falls__68 : decode cX12_falls_ 68 = .ok (.iconst 0, 1) := by decide +kernel
theorem dX12_falls__69 : decode cX12_falls_ 69 = .ok (.ior, 1) := by decide +kernel
theorem dX12_falls__70 : decode cX12_falls_ 70 = .ok (.istore_n 1, 1) := by decide +kernel
theorem dX12_falls__71 : decode cX12_falls_ 71 = .ok (.iinc 2 1, 3) := by decide +kernel
theorem dX12_falls__74 : decode cX12_falls_ 74 = .ok (.goto (-53), 3) := by decide +kernel
