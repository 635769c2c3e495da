theorem dX0_init_0 : decode cX0_init 0 = .ok (.aload_n 0, 1) := by decide +kernel
theorem dX0_init_1 : decode cX0_init 1 = .ok (.invokespecial 3, 3) := by decide +kernel
theorem dX0_init_4 : decode cX0_init 4 = .ok (.aload_n 0, 1) := by decide +kernel
theorem dX0_init_5 : decode cX0_init 5 = .ok (.bipush 40, 2) := by decide +kernel
theorem dX0_init_7 : decode cX0_init 7 = .ok (.newarray .int, 2) := by decide +kernel
theorem dX0_init_9 : decode cX0_init 9 = .ok (.putfield 9, 3) := by decide +kernel
theorem dX0_init_12 : decode cX0_init 12 = .ok (.aload_n 0, 1) := by decide +kernel
theorem dX0_init_13 : decode cX0_init 13 = .ok (.bipush 40, 2) := by decide +kernel
theorem dX0_init_15 : decode cX0_init 15 = .ok (.newarray .int, 2) := by decide +kernel
theorem dX0_init_17 : decode cX0_init 17 = .ok (.putfield 15, 3) := by decide +kernel
theorem dX0_init_20 : decode cX0_init 20 = .ok (.aload_n 0, 1) := by decide +kernel
theorem dX0_init_21 : decode cX0_init 21 = .ok (.bipush 40, 2) := by decide +kernel
theorem dX0_init_23 : decode cX0_init 23 = .ok (.newarray .int, 2) := by decide +kernel
theorem dX0_init_25 : decode cX0_init 25 = .ok (.putfield 18, 3) := by decide +kernel
theorem dX0_init_28 : decode cX0_init 28 = .ok (.return_, 1) := by decide +kernel
theorem dX0_actOf_0 : decode cX0_actOf 0 = .ok (.aload_n 0, 1) := by decide +kernel
theorem dX0_actOf_1 : decode cX0_actOf 1 = .ok (.getstatic 21, 3) := by decide +kernel
theorem dX0_actOf_4 : decode cX0_actOf 4 = .ok (.if_acmp .ne 5, 3) := by decide +kernel
theorem dX0_actOf_7 : decode cX0_actOf 7 = .ok (.iconst 0, 1) := by decide +kernel
theorem dX0_actOf_8 : decode cX0_actOf 8 = .ok (.ireturn, 1) := by decide +kernel
theorem dX0_actOf_9 : decode cX0_actOf 9 = .ok (.aload_n 0, 1) := by decide +kernel
theorem dX0_actOf_10 : decode cX0_actOf 10 = .ok (.getstatic 27, 3) := by decide +kernel
theorem dX0_actOf_13 : decode cX0_actOf 13 = .ok (.if_acmp .ne 5, 3) := by decide +kernel
theorem dX0_actOf_16 : decode cX0_actOf 16 = .ok (.iconst 1, 1) := by decide +kernel
theorem dX0_actOf_17 : decode cX0_actOf 17 = .ok (.ireturn, 1) := by decide +kernel
theorem dX0_actOf_18 : decode cX0_actOf 18 = .ok (.aload_n 0, 1) := by decide +kernel
theorem dX0_actOf_19 : decode cX0_actOf 19 = .ok (.getstatic 30, 3) := by decide +kernel
theorem dX0_actOf_22 : decode cX0_actOf 22 = .ok (.if_acmp .ne 5, 3) := by decide +kernel
theorem dX0_actOf_25 : decode cX0_actOf 25 = .ok (.iconst 2, 1) := by decide +kernel
theorem dX0_actOf_26 : decode cX0_actOf 26 = .ok (.ireturn, 1) := by decide +kernel
theorem dX0_actOf_27 : decode cX0_actOf 27 = .ok (.aload_n 0, 1) := by decide +kernel
theorem dX0_actOf_28 : decode cX0_actOf 28 = .ok (.getstatic 33, 3) := by decide +kernel
theorem dX0_actOf_31 : decode cX0_actOf 31 = .ok (.if_acmp .ne 5, 3) := by decide +kernel
theorem dX0_actOf_34 : decode cX0_actOf 34 = .ok (.iconst 3, 1) := by decide +kernel
theorem dX0_actOf_35 : decode cX0_actOf 35 = .ok (.ireturn, 1) := by decide +kernel
theorem dX0_actOf_36 : decode cX0_actOf 36 = .ok (.aload_n 0, 1) := by decide +kernel
theorem dX0_actOf_37 : decode cX0_actOf 37 = .ok (.getstatic 36, 3) := by decide +kernel
theorem dX0_actOf_40 : decode cX0_actOf 40 = .ok (.if_acmp .ne 7, 3) := by decide +kernel
theorem dX0_actOf_43 : decode cX0_actOf 43 = .ok (.iconst 4, 1) := by decide +kernel
theorem dX0_actOf_44 : decode cX0_actOf 44 = .ok (.goto 4, 3) := by decide +kernel
theorem dX0_actOf_47 : decode cX0_actOf 47 = .ok (.iconst (-1), 1) := by decide +kernel
theorem dX0_actOf_48 : decode cX0_actOf 48 = .ok (.ireturn, 1) := by decide +kernel
theorem dX0_hasEmber_0 : decode cX0_hasEmber 0 = .ok (.iload_n 0, 1) := by decide +kernel
theorem dX0_hasEmber_1 : decode cX0_hasEmber 1 = .ok (.iconst 1, 1) := by decide +kernel
theorem dX0_hasEmber_2 : decode cX0_hasEmber 2 = .ok (.if_icmp .eq 13, 3) := by decide +kernel
theorem dX0_hasEmber_5 : decode cX0_hasEmber 5 = .ok (.iload_n 0, 1) := by decide +kernel
theorem dX0_hasEmber_6 : decode cX0_hasEmber 6 = .ok (.iconst 2, 1) := by decide +kernel
theorem dX0_hasEmber_7 : decode cX0_hasEmber 7 = .ok (.if_icmp .eq 8, 3) := by decide +kernel
theorem dX0_hasEmber_10 : decode cX0_hasEmber 10 = .ok (.iload_n 0, 1) := by decide +kernel
theorem dX0_hasEmber_11 : decode cX0_hasEmber 11 = .ok (.iconst 3, 1) := by decide +kernel
theorem dX0_hasEmber_12 : decode cX0_hasEmber 12 = .ok (.if_icmp .ne 7, 3) := by decide +kernel
theorem dX0_hasEmber_15 : decode cX0_hasEmber 15 = .ok (.iconst 1, 1) := by decide +kernel
theorem dX0_hasEmber_16 : decode cX0_hasEmber 16 = .ok (.goto 4, 3) := by decide +kernel
theorem dX0_hasEmber_19 : decode cX0_hasEmber 19 = .ok (.iconst 0, 1) := by decide +kernel
theorem dX0_hasEmber_20 : decode cX0_hasEmber 20 = .ok (.ireturn, 1) := by decide +kernel
theorem dX0_forget_0 : decode cX0_forget 0 = .ok (.aload_n 0, 1) := by decide +kernel
theorem dX0_forget_1 : decode cX0_forget 1 = .ok (.iconst 0, 1) := by decide +kernel
theorem dX0_forget_2 : decode cX0_forget 2 = .ok (.putfield 39, 3) := by decide +kernel
theorem dX0_forget_5 : decode cX0_forget 5 = .ok (.return_, 1) := by decide +kernel
theorem dX0_add_0 : decode cX0_add 0 = .ok (.aload_n 0, 1) := by decide +kernel
theorem dX0_add_1 : decode cX0_add 1 = .ok (.getfield 39, 3) := by decide +kernel
theorem dX0_add_4 : decode cX0_add 4 = .ok (.bipush 40, 2) := by decide +kernel
theorem dX0_add_6 : decode cX0_add 6 = .ok (.if_icmp .ge 43, 3) := by decide +kernel
theorem dX0_add_9 : decode cX0_add 9 = .ok (.aload_n 0, 1) := by decide +kernel
theorem dX0_add_10 : decode cX0_add 10 = .ok (.getfield 9, 3) := by decide +kernel
theorem dX0_add_13 : decode cX0_add 13 = .ok (.aload_n 0, 1) := by decide +kernel
theorem dX0_add_14 : decode cX0_add 14 = .ok (.getfield 39, 3) := by decide +kernel
theorem dX0_add_17 : decode cX0_add 17 = .ok (.iload_n 1, 1) := by decide +kernel
theorem dX0_add_18 : decode cX0_add 18 = .ok (.iastore, 1) := by decide +kernel
theorem dX0_add_19 : decode cX0_add 19 = .ok (.aload_n 0, 1) := by decide +kernel
theorem dX0_add_20 : decode cX0_add 20 = .ok (.getfield 15, 3) := by decide +kernel
theorem dX0_add_23 : decode cX0_add 23 = .ok (.aload_n 0, 1) := by decide +kernel
theorem dX0_add_24 : decode cX0_add 24 = .ok (.getfield 39, 3) := by decide +kernel
theorem dX0_add_27 : decode cX0_add 27 = .ok (.iload_n 2, 1) := by decide +kernel
theorem dX0_add_28 : decode cX0_add 28 = .ok (.iastore, 1) := by decide +kernel
theorem dX0_add_29 : decode cX0_add 29 = .ok (.aload_n 0, 1) := by decide +kernel
theorem dX0_add_30 : decode cX0_add 30 = .ok (.getfield 18, 3) := by decide +kernel
theorem dX0_add_33 : decode cX0_add 33 = .ok (.aload_n 0, 1) := by decide +kernel
theorem dX0_add_34 : decode cX0_add 34 = .ok (.getfield 39, 3) := by decide +kernel
theorem dX0_add_37 : decode cX0_add 37 = .ok (.iload_n 3, 1) := by decide +kernel
theorem dX0_add_38 : decode cX0_add 38 = .ok (.iastore, 1) := by decide +kernel
theorem dX0_add_39 : decode cX0_add 39 = .ok (.aload_n 0, 1) := by decide +kernel
theorem dX0_add_40 : decode cX0_add 40 = .ok (.dup, 1) := by decide +kernel
theorem dX0_add_41 : decode cX0_add 41 = .ok (.getfield 39, 3) := by decide +kernel
theorem dX0_add_44 : decode cX0_add 44 = .ok (.iconst 1, 1) := by decide +kernel
theorem dX0_add_45 : decode cX0_add 45 = .ok (.iadd, 1) := by decide +kernel
theorem dX0_add_46 : decode cX0_add 46 = .ok (.putfield 39, 3) := by decide +kernel
theorem dX0_add_49 : decode cX0_add 49 = .ok (.return_, 1) := by decide +kernel
theorem dX1_init_0 : decode cX1_init 0 = .ok (.aload_n 0, 1) := by decide +kernel
theorem dX1_init_1 : decode cX1_init 1 = .ok (.invokespecial 3, 3) := by decide +kernel
theorem dX1_init_4 : decode cX1_init 4 = .ok (.aload_n 0, 1) := by decide +kernel
theorem dX1_init_5 : decode cX1_init 5 = .ok (.bipush 7, 2) := by decide +kernel
theorem dX1_init_7 : decode cX1_init 7 = .ok (.newarray .int, 2) := by decide +kernel
theorem dX1_init_9 : decode cX1_init 9 = .ok (.putfield 9, 3) := by decide +kernel
theorem dX1_init_12 : decode cX1_init 12 = .ok (.aload_n 0, 1) := by decide +kernel
theorem dX1_init_13 : decode cX1_init 13 = .ok (.bipush 7, 2) := by decide +kernel
theorem dX1_init_15 : decode cX1_init 15 = .ok (.newarray .int, 2) := by decide +kernel
theorem dX1_init_17 : decode cX1_init 17 = .ok (.putfield 15, 3) := by decide +kernel
theorem dX1_init_20 : decode cX1_init 20 = .ok (.aload_n 0, 1) := by decide +kernel
theorem dX1_init_21 : decode cX1_init 21 = .ok (.bipush 7, 2) := by decide +kernel
theorem dX1_init_23 : decode cX1_init 23 = .ok (.newarray .int, 2) := by decide +kernel
theorem dX1_init_25 : decode cX1_init 25 = .ok (.putfield 18, 3) := by decide +kernel
theorem dX1_init_28 : decode cX1_init 28 = .ok (.aload_n 0, 1) := by decide +kernel
theorem dX1_init_29 : decode cX1_init 29 = .ok (.bipush 12, 2) := by decide +kernel
theorem dX1_init_31 : decode cX1_init 31 = .ok (.newarray .int, 2) := by decide +kernel
theorem dX1_init_33 : decode cX1_init 33 = .ok (.putfield 21, 3) := by decide +kernel
theorem dX1_init_36 : decode cX1_init 36 = .ok (.iconst 0, 1) := by decide +kernel
theorem dX1_init_37 : decode cX1_init 37 = .ok (.istore_n 1, 1) := by decide +kernel
theorem dX1_init_38 : decode cX1_init 38 = .ok (.iload_n 1, 1) := by decide +kernel
theorem dX1_init_39 : decode cX1_init 39 = .ok (.bipush 7, 2) := by decide +kernel
theorem dX1_init_41 : decode cX1_init 41 = .ok (.if_icmp .ge 16, 3) := by decide +kernel
theorem dX1_init_44 : decode cX1_init 44 = .ok (.aload_n 0, 1) := by decide +kernel
theorem dX1_init_45 : decode cX1_init 45 = .ok (.getfield 9, 3) := by decide +kernel
theorem dX1_init_48 : decode cX1_init 48 = .ok (.iload_n 1, 1) := by decide +kernel
theorem dX1_init_49 : decode cX1_init 49 = .ok (.iconst (-1), 1) := by decide +kernel
theorem dX1_init_50 : decode cX1_init 50 = .ok (.iastore, 1) := by decide +kernel
theorem dX1_init_51 : decode cX1_init 51 = .ok (.iinc 1 1, 3) := by decide +kernel
theorem dX1_init_54 : decode cX1_init 54 = .ok (.goto (-16), 3) := by decide +kernel
theorem dX1_init_57 : decode cX1_init 57 = .ok (.iconst 0, 1) := by decide +kernel
theorem dX1_init_58 : decode cX1_init 58 = .ok (.istore_n 1, 1) := by decide +kernel
theorem dX1_init_59 : decode cX1_init 59 = .ok (.iload_n 1, 1) := by decide +kernel
theorem dX1_init_60 : decode cX1_init 60 = .ok (.bipush 12, 2) := by decide +kernel
theorem dX1_init_62 : decode cX1_init 62 = .ok (.if_icmp .ge 16, 3) := by decide +kernel
theorem dX1_init_65 : decode cX1_init 65 = .ok (.aload_n 0, 1) := by decide +kernel
theorem dX1_init_66 : decode cX1_init 66 = .ok (.getfield 21, 3) := by decide +kernel
theorem dX1_init_69 : decode cX1_init 69 = .ok (.iload_n 1, 1) := by decide +kernel
theorem dX1_init_70 : decode cX1_init 70 = .ok (.iconst (-1), 1) := by decide +kernel
theorem dX1_init_71 : decode cX1_init 71 = .ok (.iastore, 1) := by decide +kernel
theorem dX1_init_72 : decode cX1_init 72 = .ok (.iinc 1 1, 3) := by decide +kernel
theorem dX1_init_75 : decode cX1_init 75 = .ok (.goto (-16), 3) := by decide +kernel
theorem dX1_init_78 : decode cX1_init 78 = .ok (.return_, 1) := by decide +kernel
theorem dX1_clear_0 : decode cX1_clear 0 = .ok (.iconst 0, 1) := by decide +kernel
theorem dX1_clear_1 : decode cX1_clear 1 = .ok (.istore_n 1, 1) := by decide +kernel
theorem dX1_clear_2 : decode cX1_clear 2 = .ok (.iload_n 1, 1) := by decide +kernel
theorem dX1_clear_3 : decode cX1_clear 3 = .ok (.bipush 7, 2) := by decide +kernel
theorem dX1_clear_5 : decode cX1_clear 5 = .ok (.if_icmp .ge 14, 3) := by decide +kernel
theorem dX1_clear_8 : decode cX1_clear 8 = .ok (.aload_n 0, 1) := by decide +kernel
theorem dX1_clear_9 : decode cX1_clear 9 = .ok (.iload_n 1, 1) := by decide +kernel
theorem dX1_clear_10 : decode cX1_clear 10 = .ok (.invokevirtual 24, 3) := by decide +kernel
theorem dX1_clear_13 : decode cX1_clear 13 = .ok (.iinc 1 1, 3) := by decide +kernel
theorem dX1_clear_16 : decode cX1_clear 16 = .ok (.goto (-14), 3) := by decide +kernel
theorem dX1_clear_19 : decode cX1_clear 19 = .ok (.aload_n 0, 1) := by decide +kernel
theorem dX1_clear_20 : decode cX1_clear 20 = .ok (.iconst 0, 1) := by decide +kernel
theorem dX1_clear_21 : decode cX1_clear 21 = .ok (.putfield 28, 3) := by decide +kernel
theorem dX1_clear_24 : decode cX1_clear 24 = .ok (.aload_n 0, 1) := by decide +kernel
theorem dX1_clear_25 : decode cX1_clear 25 = .ok (.iconst 0, 1) := by decide +kernel
theorem dX1_clear_26 : decode cX1_clear 26 = .ok (.putfield 32, 3) := by decide +kernel
theorem dX1_clear_29 : decode cX1_clear 29 = .ok (.return_, 1) := by decide +kernel
theorem dX1_become_0 : decode cX1_become 0 = .ok (.aload_n 1, 1) := by decide +kernel
theorem dX1_become_1 : decode cX1_become 1 = .ok (.getfield 9, 3) := by decide +kernel
theorem dX1_become_4 : decode cX1_become 4 = .ok (.iconst 0, 1) := by decide +kernel
theorem dX1_become_5 : decode cX1_become 5 = .ok (.aload_n 0, 1) := by decide +kernel
theorem dX1_become_6 : decode cX1_become 6 = .ok (.getfield 9, 3) := by decide +kernel
theorem dX1_become_9 : decode cX1_become 9 = .ok (.iconst 0, 1) := by decide +kernel
theorem dX1_become_10 : decode cX1_become 10 = .ok (.bipush 7, 2) := by decide +kernel
theorem dX1_become_12 : decode cX1_become 12 = .ok (.invokestatic 36, 3) := by decide +kernel
theorem dX1_become_15 : decode cX1_become 15 = .ok (.aload_n 1, 1) := by decide +kernel
theorem dX1_become_16 : decode cX1_become 16 = .ok (.getfield 15, 3) := by decide +kernel
theorem dX1_become_19 : decode cX1_become 19 = .ok (.iconst 0, 1) := by decide +kernel
theorem dX1_become_20 : decode cX1_become 20 = .ok (.aload_n 0, 1) := by decide +kernel
theorem dX1_become_21 : decode cX1_become 21 = .ok (.getfield 15, 3) := by decide +kernel
theorem dX1_become_24 : decode cX1_become 24 = .ok (.iconst 0, 1) := by decide +kernel
theorem dX1_become_25 : decode cX1_become 25 = .ok (.bipush 7, 2) := by decide +kernel
theorem dX1_become_27 : decode cX1_become 27 = .ok (.invokestatic 36, 3) := by decide +kernel
theorem dX1_become_30 : decode cX1_become 30 = .ok (.aload_n 1, 1) := by decide +kernel
theorem dX1_become_31 : decode cX1_become 31 = .ok (.getfield 18, 3) := by decide +kernel
theorem dX1_become_34 : decode cX1_become 34 = .ok (.iconst 0, 1) := by decide +kernel
theorem dX1_become_35 : decode cX1_become 35 = .ok (.aload_n 0, 1) := by decide +kernel
theorem dX1_become_36 : decode cX1_become 36 = .ok (.getfield 18, 3) := by decide +kernel
theorem dX1_become_39 : decode cX1_become 39 = .ok (.iconst 0, 1) := by decide +kernel
theorem dX1_become_40 : decode cX1_become 40 = .ok (.bipush 7, 2) := by decide +kernel
theorem dX1_become_42 : decode cX1_become 42 = .ok (.invokestatic 36, 3) := by decide +kernel
theorem dX1_become_45 : decode cX1_become 45 = .ok (.aload_n 1, 1) := by decide +kernel
theorem dX1_become_46 : decode cX1_become 46 = .ok (.getfield 21, 3) := by decide +kernel
theorem dX1_become_49 : decode cX1_become 49 = .ok (.iconst 0, 1) := by decide +kernel
theorem dX1_become_50 : decode cX1_become 50 = .ok (.aload_n 0, 1) := by decide +kernel
theorem dX1_become_51 : decode cX1_become 51 = .ok (.getfield 21, 3) := by decide +kernel
theorem dX1_become_54 : decode cX1_become 54 = .ok (.iconst 0, 1) := by decide +kernel
theorem dX1_become_55 : decode cX1_become 55 = .ok (.bipush 12, 2) := by decide +kernel
theorem dX1_become_57 : decode cX1_become 57 = .ok (.invokestatic 36, 3) := by decide +kernel
theorem dX1_become_60 : decode cX1_become 60 = .ok (.aload_n 0, 1) := by decide +kernel
theorem dX1_become_61 : decode cX1_become 61 = .ok (.aload_n 1, 1) := by decide +kernel
theorem dX1_become_62 : decode cX1_become 62 = .ok (.getfield 28, 3) := by decide +kernel
theorem dX1_become_65 : decode cX1_become 65 = .ok (.putfield 28, 3) := by decide +kernel
theorem dX1_become_68 : decode cX1_become 68 = .ok (.aload_n 0, 1) := by decide +kernel
theorem dX1_become_69 : decode cX1_become 69 = .ok (.aload_n 1, 1) := by decide +kernel
theorem dX1_become_70 : decode cX1_become 70 = .ok (.getfield 32, 3) := by decide +kernel
theorem dX1_become_73 : decode cX1_become 73 = .ok (.putfield 32, 3) := by decide +kernel
theorem dX1_become_76 : decode cX1_become 76 = .ok (.return_, 1) := by decide +kernel
theorem dX1_has_0 : decode cX1_has 0 = .ok (.iload_n 1, 1) := by decide +kernel
theorem dX1_has_1 : decode cX1_has 1 = .ok (.ifCond .lt 33, 3) := by decide +kernel
theorem dX1_has_4 : decode cX1_has 4 = .ok (.iload_n 1, 1) := by decide +kernel
theorem dX1_has_5 : decode cX1_has 5 = .ok (.bipush 7, 2) := by decide +kernel
theorem dX1_has_7 : decode cX1_has 7 = .ok (.if_icmp .ge 27, 3) := by decide +kernel
theorem dX1_has_10 : decode cX1_has 10 = .ok (.aload_n 0, 1) := by decide +kernel
theorem dX1_has_11 : decode cX1_has 11 = .ok (.getfield 9, 3) := by decide +kernel
theorem dX1_has_14 : decode cX1_has 14 = .ok (.iload_n 1, 1) := by decide +kernel
theorem dX1_has_15 : decode cX1_has 15 = .ok (.iaload, 1) := by decide +kernel
theorem dX1_has_16 : decode cX1_has 16 = .ok (.ifCond .lt 18, 3) := by decide +kernel
theorem dX1_has_19 : decode cX1_has 19 = .ok (.aload_n 0, 1) := by decide +kernel
theorem dX1_has_20 : decode cX1_has 20 = .ok (.getfield 9, 3) := by decide +kernel
theorem dX1_has_23 : decode cX1_has 23 = .ok (.iload_n 1, 1) := by decide +kernel
theorem dX1_has_24 : decode cX1_has 24 = .ok (.iaload, 1) := by decide +kernel
theorem dX1_has_25 : decode cX1_has 25 = .ok (.bipush 12, 2) := by decide +kernel
theorem dX1_has_27 : decode cX1_has 27 = .ok (.if_icmp .ge 7, 3) := by decide +kernel
theorem dX1_has_30 : decode cX1_has 30 = .ok (.iconst 1, 1) := by decide +kernel
theorem dX1_has_31 : decode cX1_has 31 = .ok (.goto 4, 3) := by decide +kernel
theorem dX1_has_34 : decode cX1_has 34 = .ok (.iconst 0, 1) := by decide +kernel
theorem dX1_has_35 : decode cX1_has 35 = .ok (.ireturn, 1) := by decide +kernel
theorem dX1_isFree_0 : decode cX1_isFree 0 = .ok (.iload_n 1, 1) := by decide +kernel
theorem dX1_isFree_1 : decode cX1_isFree 1 = .ok (.ifCond .lt 23, 3) := by decide +kernel
theorem dX1_isFree_4 : decode cX1_isFree 4 = .ok (.iload_n 1, 1) := by decide +kernel
theorem dX1_isFree_5 : decode cX1_isFree 5 = .ok (.bipush 12, 2) := by decide +kernel
theorem dX1_isFree_7 : decode cX1_isFree 7 = .ok (.if_icmp .ge 17, 3) := by decide +kernel
theorem dX1_isFree_10 : decode cX1_isFree 10 = .ok (.aload_n 0, 1) := by decide +kernel
theorem dX1_isFree_11 : decode cX1_isFree 11 = .ok (.getfield 21, 3) := by decide +kernel
theorem dX1_isFree_14 : decode cX1_isFree 14 = .ok (.iload_n 1, 1) := by decide +kernel
theorem dX1_isFree_15 : decode cX1_isFree 15 = .ok (.iaload, 1) := by decide +kernel
theorem dX1_isFree_16 : decode cX1_isFree 16 = .ok (.iconst (-1), 1) := by decide +kernel
theorem dX1_isFree_17 : decode cX1_isFree 17 = .ok (.if_icmp .ne 7, 3) := by decide +kernel
theorem dX1_isFree_20 : decode cX1_isFree 20 = .ok (.iconst 1, 1) := by decide +kernel
theorem dX1_isFree_21 : decode cX1_isFree 21 = .ok (.goto 4, 3) := by decide +kernel
theorem dX1_isFree_24 : decode cX1_isFree 24 = .ok (.iconst 0, 1) := by decide +kernel
theorem dX1_isFree_25 : decode cX1_isFree 25 = .ok (.ireturn, 1) := by decide +kernel
theorem dX1_lay_0 : decode cX1_lay 0 = .ok (.iload_n 1, 1) := by decide +kernel
theorem dX1_lay_1 : decode cX1_lay 1 = .ok (.ifCond .lt 46, 3) := by decide +kernel
theorem dX1_lay_4 : decode cX1_lay 4 = .ok (.iload_n 1, 1) := by decide +kernel
theorem dX1_lay_5 : decode cX1_lay 5 = .ok (.bipush 7, 2) := by decide +kernel
theorem dX1_lay_7 : decode cX1_lay 7 = .ok (.if_icmp .ge 40, 3) := by decide +kernel
theorem dX1_lay_10 : decode cX1_lay 10 = .ok (.aload_n 0, 1) := by decide +kernel
theorem dX1_lay_11 : decode cX1_lay 11 = .ok (.iload_n 2, 1) := by decide +kernel
theorem dX1_lay_12 : decode cX1_lay 12 = .ok (.invokevirtual 42, 3) := by decide +kernel
theorem dX1_lay_15 : decode cX1_lay 15 = .ok (.ifCond .eq 32, 3) := by decide +kernel
theorem dX1_lay_18 : decode cX1_lay 18 = .ok (.aload_n 0, 1) := by decide +kernel
theorem dX1_lay_19 : decode cX1_lay 19 = .ok (.getfield 9, 3) := by decide +kernel
theorem dX1_lay_22 : decode cX1_lay 22 = .ok (.iload_n 1, 1) := by decide +kernel
theorem dX1_lay_23 : decode cX1_lay 23 = .ok (.iload_n 2, 1) := by decide +kernel
theorem dX1_lay_24 : decode cX1_lay 24 = .ok (.iastore, 1) := by decide +kernel
theorem dX1_lay_25 : decode cX1_lay 25 = .ok (.aload_n 0, 1) := by decide +kernel
theorem dX1_lay_26 : decode cX1_lay 26 = .ok (.getfield 21, 3) := by decide +kernel
theorem dX1_lay_29 : decode cX1_lay 29 = .ok (.iload_n 2, 1) := by decide +kernel
theorem dX1_lay_30 : decode cX1_lay 30 = .ok (.iload_n 1, 1) := by decide +kernel
theorem dX1_lay_31 : decode cX1_lay 31 = .ok (.iastore, 1) := by decide +kernel
theorem dX1_lay_32 : decode cX1_lay 32 = .ok (.aload_n 0, 1) := by decide +kernel
theorem dX1_lay_33 : decode cX1_lay 33 = .ok (.getfield 15, 3) := by decide +kernel
theorem dX1_lay_36 : decode cX1_lay 36 = .ok (.iload_n 1, 1) := by decide +kernel
theorem dX1_lay_37 : decode cX1_lay 37 = .ok (.iload_n 3, 1) := by decide +kernel
theorem dX1_lay_38 : decode cX1_lay 38 = .ok (.iastore, 1) := by decide +kernel
theorem dX1_lay_39 : decode cX1_lay 39 = .ok (.aload_n 0, 1) := by decide +kernel
theorem dX1_lay_40 : decode cX1_lay 40 = .ok (.getfield 18, 3) := by decide +kernel
theorem dX1_lay_43 : decode cX1_lay 43 = .ok (.iload_n 1, 1) := by decide +kernel
theorem dX1_lay_44 : decode cX1_lay 44 = .ok (.iload 4, 2) := by decide +kernel
theorem dX1_lay_46 : decode cX1_lay 46 = .ok (.iastore, 1) := by decide +kernel
theorem dX1_lay_47 : decode cX1_lay 47 = .ok (.return_, 1) := by decide +kernel
theorem dX1_takeOut_0 : decode cX1_takeOut 0 = .ok (.aload_n 0, 1) := by decide +kernel
theorem dX1_takeOut_1 : decode cX1_takeOut 1 = .ok (.iload_n 1, 1) := by decide +kernel
theorem dX1_takeOut_2 : decode cX1_takeOut 2 = .ok (.invokevirtual 46, 3) := by decide +kernel
theorem dX1_takeOut_5 : decode cX1_takeOut 5 = .ok (.ifCond .eq 36, 3) := by decide +kernel
theorem dX1_takeOut_8 : decode cX1_takeOut 8 = .ok (.aload_n 0, 1) := by decide +kernel
theorem dX1_takeOut_9 : decode cX1_takeOut 9 = .ok (.getfield 21, 3) := by decide +kernel
theorem dX1_takeOut_12 : decode cX1_takeOut 12 = .ok (.aload_n 0, 1) := by decide +kernel
theorem dX1_takeOut_13 : decode cX1_takeOut 13 = .ok (.getfield 9, 3) := by decide +kernel
theorem dX1_takeOut_16 : decode cX1_takeOut 16 = .ok (.iload_n 1, 1) := by decide +kernel
theorem dX1_takeOut_17 : decode cX1_takeOut 17 = .ok (.iaload, 1) := by decide +kernel
theorem dX1_takeOut_18 : decode cX1_takeOut 18 = .ok (.iconst (-1), 1) := by decide +kernel
theorem dX1_takeOut_19 : decode cX1_takeOut 19 = .ok (.iastore, 1) := by decide +kernel
theorem dX1_takeOut_20 : decode cX1_takeOut 20 = .ok (.aload_n 0, 1) := by decide +kernel
theorem dX1_takeOut_21 : decode cX1_takeOut 21 = .ok (.getfield 9, 3) := by decide +kernel
theorem dX1_takeOut_24 : decode cX1_takeOut 24 = .ok (.iload_n 1, 1) := by decide +kernel
theorem dX1_takeOut_25 : decode cX1_takeOut 25 = .ok (.iconst (-1), 1) := by decide +kernel
theorem dX1_takeOut_26 : decode cX1_takeOut 26 = .ok (.iastore, 1) := by decide +kernel
theorem dX1_takeOut_27 : decode cX1_takeOut 27 = .ok (.aload_n 0, 1) := by decide +kernel
theorem dX1_takeOut_28 : decode cX1_takeOut 28 = .ok (.getfield 15, 3) := by decide +kernel
theorem dX1_takeOut_31 : decode cX1_takeOut 31 = .ok (.iload_n 1, 1) := by decide +kernel
theorem dX1_takeOut_32 : decode cX1_takeOut 32 = .ok (.iconst 0, 1) := by decide +kernel
theorem dX1_takeOut_33 : decode cX1_takeOut 33 = .ok (.iastore, 1) := by decide +kernel
theorem dX1_takeOut_34 : decode cX1_takeOut 34 = .ok (.aload_n 0, 1) := by decide +kernel
theorem dX1_takeOut_35 : decode cX1_takeOut 35 = .ok (.getfield 18, 3) := by decide +kernel
theorem dX1_takeOut_38 : decode cX1_takeOut 38 = .ok (.iload_n 1, 1) := by decide +kernel
theorem dX1_takeOut_39 : decode cX1_takeOut 39 = .ok (.iconst 0, 1) := by decide +kernel
theorem dX1_takeOut_40 : decode cX1_takeOut 40 = .ok (.iastore, 1) := by decide +kernel
theorem dX1_takeOut_41 : decode cX1_takeOut 41 = .ok (.return_, 1) := by decide +kernel
theorem dX1_takeOutAll_0 : decode cX1_takeOutAll 0 = .ok (.iconst 0, 1) := by decide +kernel
theorem dX1_takeOutAll_1 : decode cX1_takeOutAll 1 = .ok (.istore_n 2, 1) := by decide +kernel
theorem dX1_takeOutAll_2 : decode cX1_takeOutAll 2 = .ok (.iload_n 2, 1) := by decide +kernel
theorem dX1_takeOutAll_3 : decode cX1_takeOutAll 3 = .ok (.bipush 7, 2) := by decide +kernel
theorem dX1_takeOutAll_5 : decode cX1_takeOutAll 5 = .ok (.if_icmp .ge 23, 3) := by decide +kernel
theorem dX1_takeOutAll_8 : decode cX1_takeOutAll 8 = .ok (.iload_n 1, 1) := by decide +kernel
theorem dX1_takeOutAll_9 : decode cX1_takeOutAll 9 = .ok (.iload_n 2, 1) := by decide +kernel
theorem dX1_takeOutAll_10 : decode cX1_takeOutAll 10 = .ok (.ishr, 1) := by decide +kernel
theorem dX1_takeOutAll_11 : decode cX1_takeOutAll 11 = .ok (.iconst 1, 1) := by decide +kernel
theorem dX1_takeOutAll_12 : decode cX1_takeOutAll 12 = .ok (.iand, 1) := by decide +kernel
theorem dX1_takeOutAll_13 : decode cX1_takeOutAll 13 = .ok (.iconst 1, 1) := by decide +kernel
theorem dX1_takeOutAll_14 : decode cX1_takeOutAll 14 = .ok (.if_icmp .ne 8, 3) := by decide +kernel
theorem dX1_takeOutAll_17 : decode cX1_takeOutAll 17 = .ok (.aload_n 0, 1) := by decide +kernel
theorem dX1_takeOutAll_18 : decode cX1_takeOutAll 18 = .ok (.iload_n 2, 1) := by decide +kernel
theorem dX1_takeOutAll_19 : decode cX1_takeOutAll 19 = .ok (.invokevirtual 24, 3) := by decide +kernel
theorem dX1_takeOutAll_22 : decode cX1_takeOutAll 22 = .ok (.iinc 2 1, 3) := by decide +kernel
theorem dX1_takeOutAll_25 : decode cX1_takeOutAll 25 = .ok (.goto (-23), 3) := by decide +kernel
theorem dX1_takeOutAll_28 : decode cX1_takeOutAll 28 = .ok (.return_, 1) := by decide +kernel
theorem dX1_giveFullHeat_0 : decode cX1_giveFullHeat 0 = .ok (.iconst 0, 1) := by decide +kernel
theorem dX1_giveFullHeat_1 : decode cX1_giveFullHeat 1 = .ok (.istore_n 2, 1) := by decide +kernel
theorem dX1_giveFullHeat_2 : decode cX1_giveFullHeat 2 = .ok (.iload_n 2, 1) := by decide +kernel
theorem dX1_giveFullHeat_3 : decode cX1_giveFullHeat 3 = .ok (.bipush 7, 2) := by decide +kernel
theorem dX1_giveFullHeat_5 : decode cX1_giveFullHeat 5 = .ok (.if_icmp .ge 34, 3) := by decide +kernel
theorem dX1_giveFullHeat_8 : decode cX1_giveFullHeat 8 = .ok (.iload_n 1, 1) := by decide +kernel
theorem dX1_giveFullHeat_9 : decode cX1_giveFullHeat 9 = .ok (.iload_n 2, 1) := by decide +kernel
theorem dX1_giveFullHeat_10 : decode cX1_giveFullHeat 10 = .ok (.ishr, 1) := by decide +kernel
theorem dX1_giveFullHeat_11 : decode cX1_giveFullHeat 11 = .ok (.iconst 1, 1) := by decide +kernel
theorem dX1_giveFullHeat_12 : decode cX1_giveFullHeat 12 = .ok (.iand, 1) := by decide +kernel
theorem dX1_giveFullHeat_13 : decode cX1_giveFullHeat 13 = .ok (.iconst 1, 1) := by decide +kernel
theorem dX1_giveFullHeat_14 : decode cX1_giveFullHeat 14 = .ok (.if_icmp .ne 19, 3) := by decide +kernel
theorem dX1_giveFullHeat_17 : decode cX1_giveFullHeat 17 = .ok (.aload_n 0, 1) := by decide +kernel
theorem dX1_giveFullHeat_18 : decode cX1_giveFullHeat 18 = .ok (.iload_n 2, 1) := by decide +kernel
theorem dX1_giveFullHeat_19 : decode cX1_giveFullHeat 19 = .ok (.invokevirtual 46, 3) := by decide +kernel
theorem dX1_giveFullHeat_22 : decode cX1_giveFullHeat 22 = .ok (.ifCond .eq 11, 3) := by decide +kernel
theorem dX1_giveFullHeat_25 : decode cX1_giveFullHeat 25 = .ok (.aload_n 0, 1) := by decide +kernel
theorem dX1_giveFullHeat_26 : decode cX1_giveFullHeat 26 = .ok (.getfield 15, 3) := by decide +kernel
theorem dX1_giveFullHeat_29 : decode cX1_giveFullHeat 29 = .ok (.iload_n 2, 1) := by decide +kernel
theorem dX1_giveFullHeat_30 : decode cX1_giveFullHeat 30 = .ok (.bipush 20, 2) := by decide +kernel
theorem dX1_giveFullHeat_32 : decode cX1_giveFullHeat 32 = .ok (.iastore, 1) := by decide +kernel
theorem dX1_giveFullHeat_33 : decode cX1_giveFullHeat 33 = .ok (.iinc 2 1, 3) := by decide +kernel
theorem dX1_giveFullHeat_36 : decode cX1_giveFullHeat 36 = .ok (.goto (-34), 3) := by decide +kernel
theorem dX1_giveFullHeat_39 : decode cX1_giveFullHeat 39 = .ok (.return_, 1) := by decide +kernel
theorem dX1_carry_0 : decode cX1_carry 0 = .ok (.aload_n 0, 1) := by decide +kernel
theorem dX1_carry_1 : decode cX1_carry 1 = .ok (.iload_n 1, 1) := by decide +kernel
theorem dX1_carry_2 : decode cX1_carry 2 = .ok (.invokevirtual 46, 3) := by decide +kernel
theorem dX1_carry_5 : decode cX1_carry 5 = .ok (.ifCond .eq 37, 3) := by decide +kernel
theorem dX1_carry_8 : decode cX1_carry 8 = .ok (.aload_n 0, 1) := by decide +kernel
theorem dX1_carry_9 : decode cX1_carry 9 = .ok (.iload_n 2, 1) := by decide +kernel
theorem dX1_carry_10 : decode cX1_carry 10 = .ok (.invokevirtual 42, 3) := by decide +kernel
theorem dX1_carry_13 : decode cX1_carry 13 = .ok (.ifCond .eq 29, 3) := by decide +kernel
theorem dX1_carry_16 : decode cX1_carry 16 = .ok (.aload_n 0, 1) := by decide +kernel
theorem dX1_carry_17 : decode cX1_carry 17 = .ok (.getfield 21, 3) := by decide +kernel
theorem dX1_carry_20 : decode cX1_carry 20 = .ok (.aload_n 0, 1) := by decide +kernel
theorem dX1_carry_21 : decode cX1_carry 21 = .ok (.getfield 9, 3) := by decide +kernel
theorem dX1_carry_24 : decode cX1_carry 24 = .ok (.iload_n 1, 1) := by decide +kernel
theorem dX1_carry_25 : decode cX1_carry 25 = .ok (.iaload, 1) := by decide +kernel
theorem dX1_carry_26 : decode cX1_carry 26 = .ok (.iconst (-1), 1) := by decide +kernel
theorem dX1_carry_27 : decode cX1_carry 27 = .ok (.iastore, 1) := by decide +kernel
theorem dX1_carry_28 : decode cX1_carry 28 = .ok (.aload_n 0, 1) := by decide +kernel
theorem dX1_carry_29 : decode cX1_carry 29 = .ok (.getfield 9, 3) := by decide +kernel
theorem dX1_carry_32 : decode cX1_carry 32 = .ok (.iload_n 1, 1) := by decide +kernel
theorem dX1_carry_33 : decode cX1_carry 33 = .ok (.iload_n 2, 1) := by decide +kernel
theorem dX1_carry_34 : decode cX1_carry 34 = .ok (.iastore, 1) := by decide +kernel
theorem dX1_carry_35 : decode cX1_carry 35 = .ok (.aload_n 0, 1) := by decide +kernel
theorem dX1_carry_36 : decode cX1_carry 36 = .ok (.getfield 21, 3) := by decide +kernel
theorem dX1_carry_39 : decode cX1_carry 39 = .ok (.iload_n 2, 1) := by decide +kernel
theorem dX1_carry_40 : decode cX1_carry 40 = .ok (.iload_n 1, 1) := by decide +kernel
theorem dX1_carry_41 : decode cX1_carry 41 = .ok (.iastore, 1) := by decide +kernel
theorem dX1_carry_42 : decode cX1_carry 42 = .ok (.return_, 1) := by decide +kernel
theorem dX1_stoke_0 : decode cX1_stoke 0 = .ok (.aload_n 0, 1) := by decide +kernel
theorem dX1_stoke_1 : decode cX1_stoke 1 = .ok (.iload_n 1, 1) := by decide +kernel
theorem dX1_stoke_2 : decode cX1_stoke 2 = .ok (.invokevirtual 46, 3) := by decide +kernel
theorem dX1_stoke_5 : decode cX1_stoke 5 = .ok (.ifCond .eq 35, 3) := by decide +kernel
theorem dX1_stoke_8 : decode cX1_stoke 8 = .ok (.aload_n 0, 1) := by decide +kernel
theorem dX1_stoke_9 : decode cX1_stoke 9 = .ok (.getfield 15, 3) := by decide +kernel
theorem dX1_stoke_12 : decode cX1_stoke 12 = .ok (.iload_n 1, 1) := by decide +kernel
theorem dX1_stoke_13 : decode cX1_stoke 13 = .ok (.bipush 20, 2) := by decide +kernel
theorem dX1_stoke_15 : decode cX1_stoke 15 = .ok (.aload_n 0, 1) := by decide +kernel
theorem dX1_stoke_16 : decode cX1_stoke 16 = .ok (.getfield 15, 3) := by decide +kernel
theorem dX1_stoke_19 : decode cX1_stoke 19 = .ok (.iload_n 1, 1) := by decide +kernel
theorem dX1_stoke_20 : decode cX1_stoke 20 = .ok (.iaload, 1) := by decide +kernel
theorem dX1_stoke_21 : decode cX1_stoke 21 = .ok (.iconst 3, 1) := by decide +kernel
theorem dX1_stoke_22 : decode cX1_stoke 22 = .ok (.iadd, 1) := by decide +kernel
theorem dX1_stoke_23 : decode cX1_stoke 23 = .ok (.invokestatic 49, 3) := by decide +kernel
theorem dX1_stoke_26 : decode cX1_stoke 26 = .ok (.iastore, 1) := by decide +kernel
theorem dX1_stoke_27 : decode cX1_stoke 27 = .ok (.aload_n 0, 1) := by decide +kernel
theorem dX1_stoke_28 : decode cX1_stoke 28 = .ok (.iload_n 1, 1) := by decide +kernel
theorem dX1_stoke_29 : decode cX1_stoke 29 = .ok (.aload_n 0, 1) := by decide +kernel
theorem dX1_stoke_30 : decode cX1_stoke 30 = .ok (.getfield 9, 3) := by decide +kernel
theorem dX1_stoke_33 : decode cX1_stoke 33 = .ok (.iload_n 1, 1) := by decide +kernel
theorem dX1_stoke_34 : decode cX1_stoke 34 = .ok (.iaload, 1) := by decide +kernel
theorem dX1_stoke_35 : decode cX1_stoke 35 = .ok (.iconst 4, 1) := by decide +kernel
theorem dX1_stoke_36 : decode cX1_stoke 36 = .ok (.isub, 1) := by decide +kernel
theorem dX1_stoke_37 : decode cX1_stoke 37 = .ok (.invokevirtual 55, 3) := by decide +kernel
theorem dX1_stoke_40 : decode cX1_stoke 40 = .ok (.return_, 1) := by decide +kernel
theorem dX1_addFuel_0 : decode cX1_addFuel 0 = .ok (.aload_n 0, 1) := by decide +kernel
theorem dX1_addFuel_1 : decode cX1_addFuel 1 = .ok (.iload_n 1, 1) := by decide +kernel
theorem dX1_addFuel_2 : decode cX1_addFuel 2 = .ok (.invokevirtual 46, 3) := by decide +kernel
theorem dX1_addFuel_5 : decode cX1_addFuel 5 = .ok (.ifCond .eq 22, 3) := by decide +kernel
theorem dX1_addFuel_8 : decode cX1_addFuel 8 = .ok (.aload_n 0, 1) := by decide +kernel
theorem dX1_addFuel_9 : decode cX1_addFuel 9 = .ok (.getfield 18, 3) := by decide +kernel
theorem dX1_addFuel_12 : decode cX1_addFuel 12 = .ok (.iload_n 1, 1) := by decide +kernel
theorem dX1_addFuel_13 : decode cX1_addFuel 13 = .ok (.bipush 20, 2) := by decide +kernel
theorem dX1_addFuel_15 : decode cX1_addFuel 15 = .ok (.aload_n 0, 1) := by decide +kernel
theorem dX1_addFuel_16 : decode cX1_addFuel 16 = .ok (.getfield 18, 3) := by decide +kernel
theorem dX1_addFuel_19 : decode cX1_addFuel 19 = .ok (.iload_n 1, 1) := by decide +kernel
theorem dX1_addFuel_20 : decode cX1_addFuel 20 = .ok (.iaload, 1) := by decide +kernel
theorem dX1_addFuel_21 : decode cX1_addFuel 21 = .ok (.iload_n 2, 1) := by decide +kernel
theorem dX1_addFuel_22 : decode cX1_addFuel 22 = .ok (.iadd, 1) := by decide +kernel
theorem dX1_addFuel_23 : decode cX1_addFuel 23 = .ok (.invokestatic 49, 3) := by decide +kernel
theorem dX1_addFuel_26 : decode cX1_addFuel 26 = .ok (.iastore, 1) := by decide +kernel
theorem dX1_addFuel_27 : decode cX1_addFuel 27 = .ok (.return_, 1) := by decide +kernel
theorem dX1_pass_0 : decode cX1_pass 0 = .ok (.aload_n 0, 1) := by decide +kernel
theorem dX1_pass_1 : decode cX1_pass 1 = .ok (.aload_n 1, 1) := by decide +kernel
theorem dX1_pass_2 : decode cX1_pass 2 = .ok (.invokevirtual 59, 3) := by decide +kernel
theorem dX1_pass_5 : decode cX1_pass 5 = .ok (.istore_n 3, 1) := by decide +kernel
theorem dX1_pass_6 : decode cX1_pass 6 = .ok (.aload_n 0, 1) := by decide +kernel
theorem dX1_pass_7 : decode cX1_pass 7 = .ok (.aload_n 1, 1) := by decide +kernel
theorem dX1_pass_8 : decode cX1_pass 8 = .ok (.iload_n 3, 1) := by decide +kernel
theorem dX1_pass_9 : decode cX1_pass 9 = .ok (.iload_n 2, 1) := by decide +kernel
theorem dX1_pass_10 : decode cX1_pass 10 = .ok (.ifCond .eq 21, 3) := by decide +kernel
theorem dX1_pass_13 : decode cX1_pass 13 = .ok (.aload_n 0, 1) := by decide +kernel
theorem dX1_pass_14 : decode cX1_pass 14 = .ok (.getfield 32, 3) := by decide +kernel
theorem dX1_pass_17 : decode cX1_pass 17 = .ok (.ifCond .ne 14, 3) := by decide +kernel
theorem dX1_pass_20 : decode cX1_pass 20 = .ok (.aload_n 1, 1) := by decide +kernel
theorem dX1_pass_21 : decode cX1_pass 21 = .ok (.aload_n 0, 1) := by decide +kernel
theorem dX1_pass_22 : decode cX1_pass 22 = .ok (.getfield 28, 3) := by decide +kernel
theorem dX1_pass_25 : decode cX1_pass 25 = .ok (.invokevirtual 63, 3) := by decide +kernel
theorem dX1_pass_28 : decode cX1_pass 28 = .ok (.goto 4, 3) := by decide +kernel
theorem dX1_pass_31 : decode cX1_pass 31 = .ok (.iconst 0, 1) := by decide +kernel
theorem dX1_pass_32 : decode cX1_pass 32 = .ok (.invokevirtual 69, 3) := by decide +kernel
theorem dX1_pass_35 : decode cX1_pass 35 = .ok (.aload_n 0, 1) := by decide +kernel
theorem dX1_pass_36 : decode cX1_pass 36 = .ok (.aload_n 1, 1) := by decide +kernel
theorem dX1_pass_37 : decode cX1_pass 37 = .ok (.iload_n 3, 1) := by decide +kernel
theorem dX1_pass_38 : decode cX1_pass 38 = .ok (.invokevirtual 73, 3) := by decide +kernel
theorem dX1_pass_41 : decode cX1_pass 41 = .ok (.istore 4, 2) := by decide +kernel
theorem dX1_pass_43 : decode cX1_pass 43 = .ok (.iconst 4, 1) := by decide +kernel
theorem dX1_pass_44 : decode cX1_pass 44 = .ok (.istore 5, 2) := by decide +kernel
theorem dX1_pass_46 : decode cX1_pass 46 = .ok (.iload 5, 2) := by decide +kernel
theorem dX1_pass_48 : decode cX1_pass 48 = .ok (.bipush 12, 2) := by decide +kernel
theorem dX1_pass_50 : decode cX1_pass 50 = .ok (.if_icmp .ge 24, 3) := by decide +kernel
theorem dX1_pass_53 : decode cX1_pass 53 = .ok (.aload_n 0, 1) := by decide +kernel
theorem dX1_pass_54 : decode cX1_pass 54 = .ok (.aload_n 0, 1) := by decide +kernel
theorem dX1_pass_55 : decode cX1_pass 55 = .ok (.getfield 21, 3) := by decide +kernel
theorem dX1_pass_58 : decode cX1_pass 58 = .ok (.iload 5, 2) := by decide +kernel
theorem dX1_pass_60 : decode cX1_pass 60 = .ok (.iaload, 1) := by decide +kernel
theorem dX1_pass_61 : decode cX1_pass 61 = .ok (.iload 5, 2) := by decide +kernel
theorem dX1_pass_63 : decode cX1_pass 63 = .ok (.iconst 4, 1) := by decide +kernel
theorem dX1_pass_64 : decode cX1_pass 64 = .ok (.isub, 1) := by decide +kernel
theorem dX1_pass_65 : decode cX1_pass 65 = .ok (.invokevirtual 55, 3) := by decide +kernel
theorem dX1_pass_68 : decode cX1_pass 68 = .ok (.iinc 5 1, 3) := by decide +kernel
theorem dX1_pass_71 : decode cX1_pass 71 = .ok (.goto (-25), 3) := by decide +kernel
theorem dX1_pass_74 : decode cX1_pass 74 = .ok (.aload_n 0, 1) := by decide +kernel
theorem dX1_pass_75 : decode cX1_pass 75 = .ok (.dup, 1) := by decide +kernel
theorem dX1_pass_76 : decode cX1_pass 76 = .ok (.getfield 28, 3) := by decide +kernel
theorem dX1_pass_79 : decode cX1_pass 79 = .ok (.iconst 1, 1) := by decide +kernel
theorem dX1_pass_80 : decode cX1_pass 80 = .ok (.iadd, 1) := by decide +kernel
theorem dX1_pass_81 : decode cX1_pass 81 = .ok (.putfield 28, 3) := by decide +kernel
theorem dX1_pass_84 : decode cX1_pass 84 = .ok (.iload 4, 2) := by decide +kernel
theorem dX1_pass_86 : decode cX1_pass 86 = .ok (.ireturn, 1) := by decide +kernel
theorem dX1_litBits_0 : decode cX1_litBits 0 = .ok (.iconst 0, 1) := by decide +kernel
theorem dX1_litBits_1 : decode cX1_litBits 1 = .ok (.istore_n 2, 1) := by decide +kernel
theorem dX1_litBits_2 : decode cX1_litBits 2 = .ok (.iconst 0, 1) := by decide +kernel
theorem dX1_litBits_3 : decode cX1_litBits 3 = .ok (.istore_n 3, 1) := by decide +kernel
theorem dX1_litBits_4 : decode cX1_litBits 4 = .ok (.iload_n 3, 1) := by decide +kernel
theorem dX1_litBits_5 : decode cX1_litBits 5 = .ok (.bipush 7, 2) := by decide +kernel
theorem dX1_litBits_7 : decode cX1_litBits 7 = .ok (.if_icmp .ge 46, 3) := by decide +kernel
theorem dX1_litBits_10 : decode cX1_litBits 10 = .ok (.aload_n 0, 1) := by decide +kernel
theorem dX1_litBits_11 : decode cX1_litBits 11 = .ok (.iload_n 3, 1) := by decide +kernel
theorem dX1_litBits_12 : decode cX1_litBits 12 = .ok (.invokevirtual 46, 3) := by decide +kernel
theorem dX1_litBits_15 : decode cX1_litBits 15 = .ok (.ifCond .eq 32, 3) := by decide +kernel
theorem dX1_litBits_18 : decode cX1_litBits 18 = .ok (.aload_n 0, 1) := by decide +kernel
theorem dX1_litBits_19 : decode cX1_litBits 19 = .ok (.getfield 15, 3) := by decide +kernel
theorem dX1_litBits_22 : decode cX1_litBits 22 = .ok (.iload_n 3, 1) := by decide +kernel
theorem dX1_litBits_23 : decode cX1_litBits 23 = .ok (.iaload, 1) := by decide +kernel
theorem dX1_litBits_24 : decode cX1_litBits 24 = .ok (.aload_n 1, 1) := by decide +kernel
theorem dX1_litBits_25 : decode cX1_litBits 25 = .ok (.getfield 77, 3) := by decide +kernel
theorem dX1_litBits_28 : decode cX1_litBits 28 = .ok (.if_icmp .lt 19, 3) := by decide +kernel
theorem dX1_litBits_31 : decode cX1_litBits 31 = .ok (.aload_n 1, 1) := by decide +kernel
theorem dX1_litBits_32 : decode cX1_litBits 32 = .ok (.getfield 80, 3) := by decide +kernel
theorem dX1_litBits_35 : decode cX1_litBits 35 = .ok (.iload_n 3, 1) := by decide +kernel
theorem dX1_litBits_36 : decode cX1_litBits 36 = .ok (.iaload, 1) := by decide +kernel
theorem dX1_litBits_37 : decode cX1_litBits 37 = .ok (.iconst 3, 1) := by decide +kernel
theorem dX1_litBits_38 : decode cX1_litBits 38 = .ok (.if_icmp .eq 9, 3) := by decide +kernel
theorem dX1_litBits_41 : decode cX1_litBits 41 = .ok (.iload_n 2, 1) := by decide +kernel
theorem dX1_litBits_42 : decode cX1_litBits 42 = .ok (.iconst 1, 1) := by decide +kernel
theorem dX1_litBits_43 : decode cX1_litBits 43 = .ok (.iload_n 3, 1) := by decide +kernel
theorem dX1_litBits_44 : decode cX1_litBits 44 = .ok (.ishl, 1) := by decide +kernel
theorem dX1_litBits_45 : decode cX1_litBits 45 = .ok (.ior, 1) := by decide +kernel
theorem dX1_litBits_46 : decode cX1_litBits 46 = .ok (.istore_n 2, 1) := by decide +kernel
theorem dX1_litBits_47 : decode cX1_litBits 47 = .ok (.iinc 3 1, 3) := by decide +kernel
theorem dX1_litBits_50 : decode cX1_litBits 50 = .ok (.goto (-46), 3) := by decide +kernel
theorem dX1_litBits_53 : decode cX1_litBits 53 = .ok (.iload_n 2, 1) := by decide +kernel
theorem dX1_litBits_54 : decode cX1_litBits 54 = .ok (.ireturn, 1) := by decide +kernel
theorem dX1_ashBits_0 : decode cX1_ashBits 0 = .ok (.iconst 0, 1) := by decide +kernel
theorem dX1_ashBits_1 : decode cX1_ashBits 1 = .ok (.istore_n 2, 1) := by decide +kernel
theorem dX1_ashBits_2 : decode cX1_ashBits 2 = .ok (.iconst 0, 1) := by decide +kernel
theorem dX1_ashBits_3 : decode cX1_ashBits 3 = .ok (.istore_n 3, 1) := by decide +kernel
theorem dX1_ashBits_4 : decode cX1_ashBits 4 = .ok (.iload_n 3, 1) := by decide +kernel
theorem dX1_ashBits_5 : decode cX1_ashBits 5 = .ok (.bipush 7, 2) := by decide +kernel
theorem dX1_ashBits_7 : decode cX1_ashBits 7 = .ok (.if_icmp .ge 31, 3) := by decide +kernel
theorem dX1_ashBits_10 : decode cX1_ashBits 10 = .ok (.iload_n 3, 1) := by decide +kernel
theorem dX1_ashBits_11 : decode cX1_ashBits 11 = .ok (.aload_n 1, 1) := by decide +kernel
theorem dX1_ashBits_12 : decode cX1_ashBits 12 = .ok (.getfield 83, 3) := by decide +kernel
theorem dX1_ashBits_15 : decode cX1_ashBits 15 = .ok (.if_icmp .ge 23, 3) := by decide +kernel
theorem dX1_ashBits_18 : decode cX1_ashBits 18 = .ok (.aload_n 0, 1) := by decide +kernel
theorem dX1_ashBits_19 : decode cX1_ashBits 19 = .ok (.iload_n 3, 1) := by decide +kernel
theorem dX1_ashBits_20 : decode cX1_ashBits 20 = .ok (.invokevirtual 46, 3) := by decide +kernel
theorem dX1_ashBits_23 : decode cX1_ashBits 23 = .ok (.ifCond .ne 9, 3) := by decide +kernel
theorem dX1_ashBits_26 : decode cX1_ashBits 26 = .ok (.iload_n 2, 1) := by decide +kernel
theorem dX1_ashBits_27 : decode cX1_ashBits 27 = .ok (.iconst 1, 1) := by decide +kernel
theorem dX1_ashBits_28 : decode cX1_ashBits 28 = .ok (.iload_n 3, 1) := by decide +kernel
theorem dX1_ashBits_29 : decode cX1_ashBits 29 = .ok (.ishl, 1) := by decide +kernel
theorem dX1_ashBits_30 : decode cX1_ashBits 30 = .ok (.ior, 1) := by decide +kernel
theorem dX1_ashBits_31 : decode cX1_ashBits 31 = .ok (.istore_n 2, 1) := by decide +kernel
theorem dX1_ashBits_32 : decode cX1_ashBits 32 = .ok (.iinc 3 1, 3) := by decide +kernel
theorem dX1_ashBits_35 : decode cX1_ashBits 35 = .ok (.goto (-31), 3) := by decide +kernel
theorem dX1_ashBits_38 : decode cX1_ashBits 38 = .ok (.iload_n 2, 1) := by decide +kernel
theorem dX1_ashBits_39 : decode cX1_ashBits 39 = .ok (.ireturn, 1) := by decide +kernel
theorem dX1_hereBits_0 : decode cX1_hereBits 0 = .ok (.iconst 0, 1) := by decide +kernel
theorem dX1_hereBits_1 : decode cX1_hereBits 1 = .ok (.istore_n 1, 1) := by decide +kernel
theorem dX1_hereBits_2 : decode cX1_hereBits 2 = .ok (.iconst 0, 1) := by decide +kernel
theorem dX1_hereBits_3 : decode cX1_hereBits 3 = .ok (.istore_n 2, 1) := by decide +kernel
theorem dX1_hereBits_4 : decode cX1_hereBits 4 = .ok (.iload_n 2, 1) := by decide +kernel
theorem dX1_hereBits_5 : decode cX1_hereBits 5 = .ok (.bipush 7, 2) := by decide +kernel
theorem dX1_hereBits_7 : decode cX1_hereBits 7 = .ok (.if_icmp .ge 23, 3) := by decide +kernel
theorem dX1_hereBits_10 : decode cX1_hereBits 10 = .ok (.aload_n 0, 1) := by decide +kernel
theorem dX1_hereBits_11 : decode cX1_hereBits 11 = .ok (.iload_n 2, 1) := by decide +kernel
theorem dX1_hereBits_12 : decode cX1_hereBits 12 = .ok (.invokevirtual 46, 3) := by decide +kernel
theorem dX1_hereBits_15 : decode cX1_hereBits 15 = .ok (.ifCond .eq 9, 3) := by decide +kernel
theorem dX1_hereBits_18 : decode cX1_hereBits 18 = .ok (.iload_n 1, 1) := by decide +kernel
theorem dX1_hereBits_19 : decode cX1_hereBits 19 = .ok (.iconst 1, 1) := by decide +kernel
theorem dX1_hereBits_20 : decode cX1_hereBits 20 = .ok (.iload_n 2, 1) := by decide +kernel
theorem dX1_hereBits_21 : decode cX1_hereBits 21 = .ok (.ishl, 1) := by decide +kernel
theorem dX1_hereBits_22 : decode cX1_hereBits 22 = .ok (.ior, 1) := by decide +kernel
theorem dX1_hereBits_23 : decode cX1_hereBits 23 = .ok (.istore_n 1, 1) := by decide +kernel
theorem dX1_hereBits_24 : decode cX1_hereBits 24 = .ok (.iinc 2 1, 3) := by decide +kernel
theorem dX1_hereBits_27 : decode cX1_hereBits 27 = .ok (.goto (-23), 3) := by decide +kernel
theorem dX1_hereBits_30 : decode cX1_hereBits 30 = .ok (.iload_n 1, 1) := by decide +kernel
theorem dX1_hereBits_31 : decode cX1_hereBits 31 = .ok (.ireturn, 1) := by decide +kernel
theorem dX1_heatOfAll_0 : decode cX1_heatOfAll 0 = .ok (.iconst 0, 1) := by decide +kernel
theorem dX1_heatOfAll_1 : decode cX1_heatOfAll 1 = .ok (.istore_n 1, 1) := by decide +kernel
theorem dX1_heatOfAll_2 : decode cX1_heatOfAll 2 = .ok (.iconst 0, 1) := by decide +kernel
theorem dX1_heatOfAll_3 : decode cX1_heatOfAll 3 = .ok (.istore_n 2, 1) := by decide +kernel
theorem dX1_heatOfAll_4 : decode cX1_heatOfAll 4 = .ok (.iload_n 2, 1) := by decide +kernel
theorem dX1_heatOfAll_5 : decode cX1_heatOfAll 5 = .ok (.bipush 7, 2) := by decide +kernel
theorem dX1_heatOfAll_7 : decode cX1_heatOfAll 7 = .ok (.if_icmp .ge 18, 3) := by decide +kernel
theorem dX1_heatOfAll_10 : decode cX1_heatOfAll 10 = .ok (.iload_n 1, 1) := by decide +kernel
theorem dX1_heatOfAll_11 : decode cX1_heatOfAll 11 = .ok (.aload_n 0, 1) := by decide +kernel
theorem dX1_heatOfAll_12 : decode cX1_heatOfAll 12 = .ok (.getfield 15, 3) := by decide +kernel
theorem dX1_heatOfAll_15 : decode cX1_heatOfAll 15 = .ok (.iload_n 2, 1) := by decide +kernel
theorem dX1_heatOfAll_16 : decode cX1_heatOfAll 16 = .ok (.iaload, 1) := by decide +kernel
theorem dX1_heatOfAll_17 : decode cX1_heatOfAll 17 = .ok (.iadd, 1) := by decide +kernel
theorem dX1_heatOfAll_18 : decode cX1_heatOfAll 18 = .ok (.istore_n 1, 1) := by decide +kernel
theorem dX1_heatOfAll_19 : decode cX1_heatOfAll 19 = .ok (.iinc 2 1, 3) := by decide +kernel
theorem dX1_heatOfAll_22 : decode cX1_heatOfAll 22 = .ok (.goto (-18), 3) := by decide +kernel
theorem dX1_heatOfAll_25 : decode cX1_heatOfAll 25 = .ok (.iload_n 1, 1) := by decide +kernel
theorem dX1_heatOfAll_26 : decode cX1_heatOfAll 26 = .ok (.ireturn, 1) := by decide +kernel
theorem dX1_fuelOfAll_0 : decode cX1_fuelOfAll 0 = .ok (.iconst 0, 1) := by decide +kernel
theorem dX1_fuelOfAll_1 : decode cX1_fuelOfAll 1 = .ok (.istore_n 1, 1) := by decide +kernel
theorem dX1_fuelOfAll_2 : decode cX1_fuelOfAll 2 = .ok (.iconst 0, 1) := by decide +kernel
theorem dX1_fuelOfAll_3 : decode cX1_fuelOfAll 3 = .ok (.istore_n 2, 1) := by decide +kernel
theorem dX1_fuelOfAll_4 : decode cX1_fuelOfAll 4 = .ok (.iload_n 2, 1) := by decide +kernel
theorem dX1_fuelOfAll_5 : decode cX1_fuelOfAll 5 = .ok (.bipush 7, 2) := by decide +kernel
theorem dX1_fuelOfAll_7 : decode cX1_fuelOfAll 7 = .ok (.if_icmp .ge 18, 3) := by decide +kernel
theorem dX1_fuelOfAll_10 : decode cX1_fuelOfAll 10 = .ok (.iload_n 1, 1) := by decide +kernel
theorem dX1_fuelOfAll_11 : decode cX1_fuelOfAll 11 = .ok (.aload_n 0, 1) := by decide +kernel
theorem dX1_fuelOfAll_12 : decode cX1_fuelOfAll 12 = .ok (.getfield 18, 3) := by decide +kernel
theorem dX1_fuelOfAll_15 : decode cX1_fuelOfAll 15 = .ok (.iload_n 2, 1) := by decide +kernel
theorem dX1_fuelOfAll_16 : decode cX1_fuelOfAll 16 = .ok (.iaload, 1) := by decide +kernel
theorem dX1_fuelOfAll_17 : decode cX1_fuelOfAll 17 = .ok (.iadd, 1) := by decide +kernel
theorem dX1_fuelOfAll_18 : decode cX1_fuelOfAll 18 = .ok (.istore_n 1, 1) := by decide +kernel
theorem dX1_fuelOfAll_19 : decode cX1_fuelOfAll 19 = .ok (.iinc 2 1, 3) := by decide +kernel
theorem dX1_fuelOfAll_22 : decode cX1_fuelOfAll 22 = .ok (.goto (-18), 3) := by decide +kernel
theorem dX1_fuelOfAll_25 : decode cX1_fuelOfAll 25 = .ok (.iload_n 1, 1) := by decide +kernel
theorem dX1_fuelOfAll_26 : decode cX1_fuelOfAll 26 = .ok (.ireturn, 1) := by decide +kernel
theorem dX1_heatBeside_0 : decode cX1_heatBeside 0 = .ok (.iload_n 1, 1) := by decide +kernel
theorem dX1_heatBeside_1 : decode cX1_heatBeside 1 = .ok (.invokestatic 86, 3) := by decide +kernel
theorem dX1_heatBeside_4 : decode cX1_heatBeside 4 = .ok (.istore_n 2, 1) := by decide +kernel
theorem dX1_heatBeside_5 : decode cX1_heatBeside 5 = .ok (.iconst 0, 1) := by decide +kernel
theorem dX1_heatBeside_6 : decode cX1_heatBeside 6 = .ok (.istore_n 3, 1) := by decide +kernel
theorem dX1_heatBeside_7 : decode cX1_heatBeside 7 = .ok (.iconst 0, 1) := by decide +kernel
theorem dX1_heatBeside_8 : decode cX1_heatBeside 8 = .ok (.istore 4, 2) := by decide +kernel
theorem dX1_heatBeside_10 : decode cX1_heatBeside 10 = .ok (.iload 4, 2) := by decide +kernel
theorem dX1_heatBeside_12 : decode cX1_heatBeside 12 = .ok (.bipush 7, 2) := by decide +kernel
theorem dX1_heatBeside_14 : decode cX1_heatBeside 14 = .ok (.if_icmp .ge 43, 3) := by decide +kernel
theorem dX1_heatBeside_17 : decode cX1_heatBeside 17 = .ok (.aload_n 0, 1) := by decide +kernel
theorem dX1_heatBeside_18 : decode cX1_heatBeside 18 = .ok (.iload 4, 2) := by decide +kernel
theorem dX1_heatBeside_20 : decode cX1_heatBeside 20 = .ok (.invokevirtual 46, 3) := by decide +kernel
theorem dX1_heatBeside_23 : decode cX1_heatBeside 23 = .ok (.ifCond .eq 28, 3) := by decide +kernel
theorem dX1_heatBeside_26 : decode cX1_heatBeside 26 = .ok (.iload_n 2, 1) := by decide +kernel
theorem dX1_heatBeside_27 : decode cX1_heatBeside 27 = .ok (.aload_n 0, 1) := by decide +kernel
theorem dX1_heatBeside_28 : decode cX1_heatBeside 28 = .ok (.getfield 9, 3) := by decide +kernel
theorem dX1_heatBeside_31 : decode cX1_heatBeside 31 = .ok (.iload 4, 2) := by decide +kernel
theorem dX1_heatBeside_33 : decode cX1_heatBeside 33 = .ok (.iaload, 1) := by decide +kernel
theorem dX1_heatBeside_34 : decode cX1_heatBeside 34 = .ok (.ishr, 1) := by decide +kernel
theorem dX1_heatBeside_35 : decode cX1_heatBeside 35 = .ok (.iconst 1, 1) := by decide +kernel
theorem dX1_heatBeside_36 : decode cX1_heatBeside 36 = .ok (.iand, 1) := by decide +kernel
theorem dX1_heatBeside_37 : decode cX1_heatBeside 37 = .ok (.iconst 1, 1) := by decide +kernel
theorem dX1_heatBeside_38 : decode cX1_heatBeside 38 = .ok (.if_icmp .ne 13, 3) := by decide +kernel
theorem dX1_heatBeside_41 : decode cX1_heatBeside 41 = .ok (.iload_n 3, 1) := by decide +kernel
theorem dX1_heatBeside_42 : decode cX1_heatBeside 42 = .ok (.aload_n 0, 1) := by decide +kernel
theorem dX1_heatBeside_43 : decode cX1_heatBeside 43 = .ok (.getfield 15, 3) := by decide +kernel
theorem dX1_heatBeside_46 : decode cX1_heatBeside 46 = .ok (.iload 4, 2) := by decide +kernel
theorem dX1_heatBeside_48 : decode cX1_heatBeside 48 = .ok (.iaload, 1) := by decide +kernel
theorem dX1_heatBeside_49 : decode cX1_heatBeside 49 = .ok (.iadd, 1) := by decide +kernel
theorem dX1_heatBeside_50 : decode cX1_heatBeside 50 = .ok (.istore_n 3, 1) := by decide +kernel
theorem dX1_heatBeside_51 : decode cX1_heatBeside 51 = .ok (.iinc 4 1, 3) := by decide +kernel
theorem dX1_heatBeside_54 : decode cX1_heatBeside 54 = .ok (.goto (-44), 3) := by decide +kernel
theorem dX1_heatBeside_57 : decode cX1_heatBeside 57 = .ok (.iload_n 3, 1) := by decide +kernel
theorem dX1_heatBeside_58 : decode cX1_heatBeside 58 = .ok (.ireturn, 1) := by decide +kernel
theorem dX1_touching_0 : decode cX1_touching 0 = .ok (.aload_n 0, 1) := by decide +kernel
theorem dX1_touching_1 : decode cX1_touching 1 = .ok (.iload_n 1, 1) := by decide +kernel
theorem dX1_touching_2 : decode cX1_touching 2 = .ok (.invokevirtual 46, 3) := by decide +kernel
theorem dX1_touching_5 : decode cX1_touching 5 = .ok (.ifCond .ne 5, 3) := by decide +kernel
theorem dX1_touching_8 : decode cX1_touching 8 = .ok (.iconst 0, 1) := by decide +kernel
theorem dX1_touching_9 : decode cX1_touching 9 = .ok (.ireturn, 1) := by decide +kernel
theorem dX1_touching_10 : decode cX1_touching 10 = .ok (.aload_n 0, 1) := by decide +kernel
theorem dX1_touching_11 : decode cX1_touching 11 = .ok (.getfield 9, 3) := by decide +kernel
theorem dX1_touching_14 : decode cX1_touching 14 = .ok (.iload_n 1, 1) := by decide +kernel
theorem dX1_touching_15 : decode cX1_touching 15 = .ok (.iaload, 1) := by decide +kernel
theorem dX1_touching_16 : decode cX1_touching 16 = .ok (.invokestatic 86, 3) := by decide +kernel
theorem dX1_touching_19 : decode cX1_touching 19 = .ok (.istore_n 2, 1) := by decide +kernel
theorem dX1_touching_20 : decode cX1_touching 20 = .ok (.iconst 0, 1) := by decide +kernel
theorem dX1_touching_21 : decode cX1_touching 21 = .ok (.istore_n 3, 1) := by decide +kernel
theorem dX1_touching_22 : decode cX1_touching 22 = .ok (.iconst 0, 1) := by decide +kernel
theorem dX1_touching_23 : decode cX1_touching 23 = .ok (.istore 4, 2) := by decide +kernel
theorem dX1_touching_25 : decode cX1_touching 25 = .ok (.iload 4, 2) := by decide +kernel
theorem dX1_touching_27 : decode cX1_touching 27 = .ok (.bipush 7, 2) := by decide +kernel
theorem dX1_touching_29 : decode cX1_touching 29 = .ok (.if_icmp .ge 40, 3) := by decide +kernel
theorem dX1_touching_32 : decode cX1_touching 32 = .ok (.aload_n 0, 1) := by decide +kernel
theorem dX1_touching_33 : decode cX1_touching 33 = .ok (.iload 4, 2) := by decide +kernel
theorem dX1_touching_35 : decode cX1_touching 35 = .ok (.invokevirtual 46, 3) := by decide +kernel
theorem dX1_touching_38 : decode cX1_touching 38 = .ok (.ifCond .eq 25, 3) := by decide +kernel
theorem dX1_touching_41 : decode cX1_touching 41 = .ok (.iload_n 2, 1) := by decide +kernel
theorem dX1_touching_42 : decode cX1_touching 42 = .ok (.aload_n 0, 1) := by decide +kernel
theorem dX1_touching_43 : decode cX1_touching 43 = .ok (.getfield 9, 3) := by decide +kernel
theorem dX1_touching_46 : decode cX1_touching 46 = .ok (.iload 4, 2) := by decide +kernel
theorem dX1_touching_48 : decode cX1_touching 48 = .ok (.iaload, 1) := by decide +kernel
theorem dX1_touching_49 : decode cX1_touching 49 = .ok (.ishr, 1) := by decide +kernel
theorem dX1_touching_50 : decode cX1_touching 50 = .ok (.iconst 1, 1) := by decide +kernel
theorem dX1_touching_51 : decode cX1_touching 51 = .ok (.iand, 1) := by decide +kernel
theorem dX1_touching_52 : decode cX1_touching 52 = .ok (.iconst 1, 1) := by decide +kernel
theorem dX1_touching_53 : decode cX1_touching 53 = .ok (.if_icmp .ne 10, 3) := by decide +kernel
theorem dX1_touching_56 : decode cX1_touching 56 = .ok (.iload_n 3, 1) := by decide +kernel
theorem dX1_touching_57 : decode cX1_touching 57 = .ok (.iconst 1, 1) := by decide +kernel
theorem dX1_touching_58 : decode cX1_touching 58 = .ok (.iload 4, 2) := by decide +kernel
theorem dX1_touching_60 : decode cX1_touching 60 = .ok (.ishl, 1) := by decide +kernel
theorem dX1_touching_61 : decode cX1_touching 61 = .ok (.ior, 1) := by decide +kernel
theorem dX1_touching_62 : decode cX1_touching 62 = .ok (.istore_n 3, 1) := by decide +kernel
theorem dX1_touching_63 : decode cX1_touching 63 = .ok (.iinc 4 1, 3) := by decide +kernel
theorem dX1_touching_66 : decode cX1_touching 66 = .ok (.goto (-41), 3) := by decide +kernel
theorem dX1_touching_69 : decode cX1_touching 69 = .ok (.iload_n 3, 1) := by decide +kernel
theorem dX1_touching_70 : decode cX1_touching 70 = .ok (.ireturn, 1) := by decide +kernel
theorem dX1_hangingWith_0 : decode cX1_hangingWith 0 = .ok (.aload_n 0, 1) := by decide +kernel
theorem dX1_hangingWith_1 : decode cX1_hangingWith 1 = .ok (.iload_n 1, 1) := by decide +kernel
theorem dX1_hangingWith_2 : decode cX1_hangingWith 2 = .ok (.invokevirtual 46, 3) := by decide +kernel
theorem dX1_hangingWith_5 : decode cX1_hangingWith 5 = .ok (.ifCond .ne 5, 3) := by decide +kernel
theorem dX1_hangingWith_8 : decode cX1_hangingWith 8 = .ok (.iconst 0, 1) := by decide +kernel
theorem dX1_hangingWith_9 : decode cX1_hangingWith 9 = .ok (.ireturn, 1) := by decide +kernel
theorem dX1_hangingWith_10 : decode cX1_hangingWith 10 = .ok (.iconst 1, 1) := by decide +kernel
theorem dX1_hangingWith_11 : decode cX1_hangingWith 11 = .ok (.iload_n 1, 1) := by decide +kernel
theorem dX1_hangingWith_12 : decode cX1_hangingWith 12 = .ok (.ishl, 1) := by decide +kernel
theorem dX1_hangingWith_13 : decode cX1_hangingWith 13 = .ok (.istore_n 2, 1) := by decide +kernel
theorem dX1_hangingWith_14 : decode cX1_hangingWith 14 = .ok (.iconst 1, 1) := by decide +kernel
theorem dX1_hangingWith_15 : decode cX1_hangingWith 15 = .ok (.istore_n 3, 1) := by decide +kernel
theorem dX1_hangingWith_16 : decode cX1_hangingWith 16 = .ok (.iload_n 3, 1) := by decide +kernel
theorem dX1_hangingWith_17 : decode cX1_hangingWith 17 = .ok (.bipush 7, 2) := by decide +kernel
theorem dX1_hangingWith_19 : decode cX1_hangingWith 19 = .ok (.if_icmp .ge 52, 3) := by decide +kernel
theorem dX1_hangingWith_22 : decode cX1_hangingWith 22 = .ok (.iload_n 2, 1) := by decide +kernel
theorem dX1_hangingWith_23 : decode cX1_hangingWith 23 = .ok (.istore 4, 2) := by decide +kernel
theorem dX1_hangingWith_25 : decode cX1_hangingWith 25 = .ok (.iconst 0, 1) := by decide +kernel
theorem dX1_hangingWith_26 : decode cX1_hangingWith 26 = .ok (.istore 5, 2) := by decide +kernel
theorem dX1_hangingWith_28 : decode cX1_hangingWith 28 = .ok (.iload 5, 2) := by decide +kernel
theorem dX1_hangingWith_30 : decode cX1_hangingWith 30 = .ok (.bipush 7, 2) := by decide +kernel
theorem dX1_hangingWith_32 : decode cX1_hangingWith 32 = .ok (.if_icmp .ge 30, 3) := by decide +kernel
theorem dX1_hangingWith_35 : decode cX1_hangingWith 35 = .ok (.iload_n 2, 1) := by decide +kernel
theorem dX1_hangingWith_36 : decode cX1_hangingWith 36 = .ok (.iload 5, 2) := by decide +kernel
theorem dX1_hangingWith_38 : decode cX1_hangingWith 38 = .ok (.ishr, 1) := by decide +kernel
theorem dX1_hangingWith_39 : decode cX1_hangingWith 39 = .ok (.iconst 1, 1) := by decide +kernel
theorem dX1_hangingWith_40 : decode cX1_hangingWith 40 = .ok (.iand, 1) := by decide +kernel
theorem dX1_hangingWith_41 : decode cX1_hangingWith 41 = .ok (.iconst 1, 1) := by decide +kernel
theorem dX1_hangingWith_42 : decode cX1_hangingWith 42 = .ok (.if_icmp .ne 14, 3) := by decide +kernel
theorem dX1_hangingWith_45 : decode cX1_hangingWith 45 = .ok (.iload 4, 2) := by decide +kernel
theorem dX1_hangingWith_47 : decode cX1_hangingWith 47 = .ok (.aload_n 0, 1) := by decide +kernel
theorem dX1_hangingWith_48 : decode cX1_hangingWith 48 = .ok (.iload 5, 2) := by decide +kernel
theorem dX1_hangingWith_50 : decode cX1_hangingWith 50 = .ok (.invokevirtual 89, 3) := by decide +kernel
theorem dX1_hangingWith_53 : decode cX1_hangingWith 53 = .ok (.ior, 1) := by decide +kernel
theorem dX1_hangingWith_54 : decode cX1_hangingWith 54 = .ok (.istore 4, 2) := by decide +kernel
theorem dX1_hangingWith_56 : decode cX1_hangingWith 56 = .ok (.iinc 5 1, 3) := by decide +kernel
theorem dX1_hangingWith_59 : decode cX1_hangingWith 59 = .ok (.goto (-31), 3) := by decide +kernel
theorem dX1_hangingWith_62 : decode cX1_hangingWith 62 = .ok (.iload 4, 2) := by decide +kernel
theorem dX1_hangingWith_64 : decode cX1_hangingWith 64 = .ok (.istore_n 2, 1) := by decide +kernel
theorem dX1_hangingWith_65 : decode cX1_hangingWith 65 = .ok (.iinc 3 1, 3) := by decide +kernel
theorem dX1_hangingWith_68 : decode cX1_hangingWith 68 = .ok (.goto (-52), 3) := by decide +kernel
theorem dX1_hangingWith_71 : decode cX1_hangingWith 71 = .ok (.iload_n 2, 1) := by decide +kernel
theorem dX1_hangingWith_72 : decode cX1_hangingWith 72 = .ok (.ireturn, 1) := by decide +kernel
theorem dX1_stackOf_0 : decode cX1_stackOf 0 = .ok (.iconst 0, 1) := by decide +kernel
theorem dX1_stackOf_1 : decode cX1_stackOf 1 = .ok (.istore_n 2, 1) := by decide +kernel
theorem dX1_stackOf_2 : decode cX1_stackOf 2 = .ok (.iconst 0, 1) := by decide +kernel
theorem dX1_stackOf_3 : decode cX1_stackOf 3 = .ok (.iload_n 1, 1) := by decide +kernel
theorem dX1_stackOf_4 : decode cX1_stackOf 4 = .ok (.invokestatic 92, 3) := by decide +kernel
theorem dX1_stackOf_7 : decode cX1_stackOf 7 = .ok (.istore_n 3, 1) := by decide +kernel
theorem dX1_stackOf_8 : decode cX1_stackOf 8 = .ok (.iload_n 3, 1) := by decide +kernel
theorem dX1_stackOf_9 : decode cX1_stackOf 9 = .ok (.bipush 12, 2) := by decide +kernel
theorem dX1_stackOf_11 : decode cX1_stackOf 11 = .ok (.if_icmp .ge 22, 3) := by decide +kernel
theorem dX1_stackOf_14 : decode cX1_stackOf 14 = .ok (.aload_n 0, 1) := by decide +kernel
theorem dX1_stackOf_15 : decode cX1_stackOf 15 = .ok (.getfield 21, 3) := by decide +kernel
theorem dX1_stackOf_18 : decode cX1_stackOf 18 = .ok (.iload_n 3, 1) := by decide +kernel
theorem dX1_stackOf_19 : decode cX1_stackOf 19 = .ok (.iaload, 1) := by decide +kernel
theorem dX1_stackOf_20 : decode cX1_stackOf 20 = .ok (.iconst (-1), 1) := by decide +kernel
theorem dX1_stackOf_21 : decode cX1_stackOf 21 = .ok (.if_icmp .eq 12, 3) := by decide +kernel
theorem dX1_stackOf_24 : decode cX1_stackOf 24 = .ok (.iinc 2 1, 3) := by decide +kernel
theorem dX1_stackOf_27 : decode cX1_stackOf 27 = .ok (.iinc 3 4, 3) := by decide +kernel
theorem dX1_stackOf_30 : decode cX1_stackOf 30 = .ok (.goto (-22), 3) := by decide +kernel
theorem dX1_stackOf_33 : decode cX1_stackOf 33 = .ok (.iload_n 2, 1) := by decide +kernel
theorem dX1_stackOf_34 : decode cX1_stackOf 34 = .ok (.ireturn, 1) := by decide +kernel
theorem dX1_warm_0 : decode cX1_warm 0 = .ok (.iconst 0, 1) := by decide +kernel
theorem dX1_warm_1 : decode cX1_warm 1 = .ok (.istore 4, 2) := by decide +kernel
theorem dX1_warm_3 : decode cX1_warm 3 = .ok (.iconst 0, 1) := by decide +kernel
theorem dX1_warm_4 : decode cX1_warm 4 = .ok (.istore 5, 2) := by decide +kernel
theorem dX1_warm_6 : decode cX1_warm 6 = .ok (.iconst 0, 1) := by decide +kernel
theorem dX1_warm_7 : decode cX1_warm 7 = .ok (.istore 6, 2) := by decide +kernel
theorem dX1_warm_9 : decode cX1_warm 9 = .ok (.iload 6, 2) := by decide +kernel
theorem dX1_warm_11 : decode cX1_warm 11 = .ok (.bipush 7, 2) := by decide +kernel
theorem dX1_warm_13 : decode cX1_warm 13 = .ok (.if_icmp .ge 70, 3) := by decide +kernel
theorem dX1_warm_16 : decode cX1_warm 16 = .ok (.iload_n 2, 1) := by decide +kernel
theorem dX1_warm_17 : decode cX1_warm 17 = .ok (.iload 6, 2) := by decide +kernel
theorem dX1_warm_19 : decode cX1_warm 19 = .ok (.ishr, 1) := by decide +kernel
theorem dX1_warm_20 : decode cX1_warm 20 = .ok (.iconst 1, 1) := by decide +kernel
theorem dX1_warm_21 : decode cX1_warm 21 = .ok (.iand, 1) := by decide +kernel
theorem dX1_warm_22 : decode cX1_warm 22 = .ok (.iconst 1, 1) := by decide +kernel
theorem dX1_warm_23 : decode cX1_warm 23 = .ok (.if_icmp .ne 20, 3) := by decide +kernel
theorem dX1_warm_26 : decode cX1_warm 26 = .ok (.iload 4, 2) := by decide +kernel
theorem dX1_warm_28 : decode cX1_warm 28 = .ok (.iconst 1, 1) := by decide +kernel
theorem dX1_warm_29 : decode cX1_warm 29 = .ok (.aload_n 0, 1) := by decide +kernel
theorem dX1_warm_30 : decode cX1_warm 30 = .ok (.getfield 9, 3) := by decide +kernel
theorem dX1_warm_33 : decode cX1_warm 33 = .ok (.iload 6, 2) := by decide +kernel
theorem dX1_warm_35 : decode cX1_warm 35 = .ok (.iaload, 1) := by decide +kernel
theorem dX1_warm_36 : decode cX1_warm 36 = .ok (.ishl, 1) := by decide +kernel
theorem dX1_warm_37 : decode cX1_warm 37 = .ok (.ior, 1) := by decide +kernel
theorem dX1_warm_38 : decode cX1_warm 38 = .ok (.istore 4, 2) := by decide +kernel
theorem dX1_warm_40 : decode cX1_warm 40 = .ok (.goto 37, 3) := by decide +kernel
theorem dX1_warm_43 : decode cX1_warm 43 = .ok (.aload_n 0, 1) := by decide +kernel
theorem dX1_warm_44 : decode cX1_warm 44 = .ok (.iload 6, 2) := by decide +kernel
theorem dX1_warm_46 : decode cX1_warm 46 = .ok (.invokevirtual 46, 3) := by decide +kernel
theorem dX1_warm_49 : decode cX1_warm 49 = .ok (.ifCond .eq 28, 3) := by decide +kernel
theorem dX1_warm_52 : decode cX1_warm 52 = .ok (.aload_n 1, 1) := by decide +kernel
theorem dX1_warm_53 : decode cX1_warm 53 = .ok (.getfield 80, 3) := by decide +kernel
theorem dX1_warm_56 : decode cX1_warm 56 = .ok (.iload 6, 2) := by decide +kernel
theorem dX1_warm_58 : decode cX1_warm 58 = .ok (.iaload, 1) := by decide +kernel
theorem dX1_warm_59 : decode cX1_warm 59 = .ok (.iconst 2, 1) := by decide +kernel
theorem dX1_warm_60 : decode cX1_warm 60 = .ok (.if_icmp .ne 17, 3) := by decide +kernel
theorem dX1_warm_63 : decode cX1_warm 63 = .ok (.iload 5, 2) := by decide +kernel
theorem dX1_warm_65 : decode cX1_warm 65 = .ok (.iconst 1, 1) := by decide +kernel
theorem dX1_warm_66 : decode cX1_warm 66 = .ok (.aload_n 0, 1) := by decide +kernel
theorem dX1_warm_67 : decode cX1_warm 67 = .ok (.getfield 9, 3) := by decide +kernel
theorem dX1_warm_70 : decode cX1_warm 70 = .ok (.iload 6, 2) := by decide +kernel
theorem dX1_warm_72 : decode cX1_warm 72 = .ok (.iaload, 1) := by decide +kernel
theorem dX1_warm_73 : decode cX1_warm 73 = .ok (.ishl, 1) := by decide +kernel
theorem dX1_warm_74 : decode cX1_warm 74 = .ok (.ior, 1) := by decide +kernel
theorem dX1_warm_75 : decode cX1_warm 75 = .ok (.istore 5, 2) := by decide +kernel
theorem dX1_warm_77 : decode cX1_warm 77 = .ok (.iinc 6 1, 3) := by decide +kernel
theorem dX1_warm_80 : decode cX1_warm 80 = .ok (.goto (-71), 3) := by decide +kernel
theorem dX1_warm_83 : decode cX1_warm 83 = .ok (.iconst 0, 1) := by decide +kernel
theorem dX1_warm_84 : decode cX1_warm 84 = .ok (.istore 6, 2) := by decide +kernel
theorem dX1_warm_86 : decode cX1_warm 86 = .ok (.iload 6, 2) := by decide +kernel
theorem dX1_warm_88 : decode cX1_warm 88 = .ok (.bipush 7, 2) := by decide +kernel
theorem dX1_warm_90 : decode cX1_warm 90 = .ok (.if_icmp .ge 97, 3) := by decide +kernel
theorem dX1_warm_93 : decode cX1_warm 93 = .ok (.aload_n 0, 1) := by decide +kernel
theorem dX1_warm_94 : decode cX1_warm 94 = .ok (.iload 6, 2) := by decide +kernel
theorem dX1_warm_96 : decode cX1_warm 96 = .ok (.invokevirtual 46, 3) := by decide +kernel
theorem dX1_warm_99 : decode cX1_warm 99 = .ok (.ifCond .eq 82, 3) := by decide +kernel
theorem dX1_warm_102 : decode cX1_warm 102 = .ok (.aload_n 0, 1) := by decide +kernel
theorem dX1_warm_103 : decode cX1_warm 103 = .ok (.getfield 9, 3) := by decide +kernel
theorem dX1_warm_106 : decode cX1_warm 106 = .ok (.iload 6, 2) := by decide +kernel
theorem dX1_warm_108 : decode cX1_warm 108 = .ok (.iaload, 1) := by decide +kernel
theorem dX1_warm_109 : decode cX1_warm 109 = .ok (.invokestatic 86, 3) := by decide +kernel
theorem dX1_warm_112 : decode cX1_warm 112 = .ok (.istore 7, 2) := by decide +kernel
theorem dX1_warm_114 : decode cX1_warm 114 = .ok (.iload 4, 2) := by decide +kernel
theorem dX1_warm_116 : decode cX1_warm 116 = .ok (.iload 7, 2) := by decide +kernel
theorem dX1_warm_118 : decode cX1_warm 118 = .ok (.iand, 1) := by decide +kernel
theorem dX1_warm_119 : decode cX1_warm 119 = .ok (.invokestatic 95, 3) := by decide +kernel
theorem dX1_warm_122 : decode cX1_warm 122 = .ok (.iload 5, 2) := by decide +kernel
theorem dX1_warm_124 : decode cX1_warm 124 = .ok (.iload 7, 2) := by decide +kernel
theorem dX1_warm_126 : decode cX1_warm 126 = .ok (.iand, 1) := by decide +kernel
theorem dX1_warm_127 : decode cX1_warm 127 = .ok (.invokestatic 95, 3) := by decide +kernel
theorem dX1_warm_130 : decode cX1_warm 130 = .ok (.isub, 1) := by decide +kernel
theorem dX1_warm_131 : decode cX1_warm 131 = .ok (.istore 8, 2) := by decide +kernel
theorem dX1_warm_133 : decode cX1_warm 133 = .ok (.aload_n 1, 1) := by decide +kernel
theorem dX1_warm_134 : decode cX1_warm 134 = .ok (.getfield 100, 3) := by decide +kernel
theorem dX1_warm_137 : decode cX1_warm 137 = .ok (.aload_n 0, 1) := by decide +kernel
theorem dX1_warm_138 : decode cX1_warm 138 = .ok (.getfield 15, 3) := by decide +kernel
theorem dX1_warm_141 : decode cX1_warm 141 = .ok (.iload 6, 2) := by decide +kernel
theorem dX1_warm_143 : decode cX1_warm 143 = .ok (.iaload, 1) := by decide +kernel
theorem dX1_warm_144 : decode cX1_warm 144 = .ok (.iconst 0, 1) := by decide +kernel
theorem dX1_warm_145 : decode cX1_warm 145 = .ok (.iload 8, 2) := by decide +kernel
theorem dX1_warm_147 : decode cX1_warm 147 = .ok (.invokestatic 92, 3) := by decide +kernel
theorem dX1_warm_150 : decode cX1_warm 150 = .ok (.iload_n 3, 1) := by decide +kernel
theorem dX1_warm_151 : decode cX1_warm 151 = .ok (.aload_n 0, 1) := by decide +kernel
theorem dX1_warm_152 : decode cX1_warm 152 = .ok (.getfield 18, 3) := by decide +kernel
theorem dX1_warm_155 : decode cX1_warm 155 = .ok (.iload 6, 2) := by decide +kernel
theorem dX1_warm_157 : decode cX1_warm 157 = .ok (.iaload, 1) := by decide +kernel
theorem dX1_warm_158 : decode cX1_warm 158 = .ok (.invokevirtual 104, 3) := by decide +kernel
theorem dX1_warm_161 : decode cX1_warm 161 = .ok (.istore 9, 2) := by decide +kernel
theorem dX1_warm_163 : decode cX1_warm 163 = .ok (.aload_n 0, 1) := by decide +kernel
theorem dX1_warm_164 : decode cX1_warm 164 = .ok (.getfield 15, 3) := by decide +kernel
theorem dX1_warm_167 : decode cX1_warm 167 = .ok (.iload 6, 2) := by decide +kernel
theorem dX1_warm_169 : decode cX1_warm 169 = .ok (.iconst 0, 1) := by decide +kernel
theorem dX1_warm_170 : decode cX1_warm 170 = .ok (.bipush 20, 2) := by decide +kernel
theorem dX1_warm_172 : decode cX1_warm 172 = .ok (.iload 9, 2) := by decide +kernel
theorem dX1_warm_174 : decode cX1_warm 174 = .ok (.invokestatic 49, 3) := by decide +kernel
theorem dX1_warm_177 : decode cX1_warm 177 = .ok (.invokestatic 92, 3) := by decide +kernel
theorem dX1_warm_180 : decode cX1_warm 180 = .ok (.iastore, 1) := by decide +kernel
theorem dX1_warm_181 : decode cX1_warm 181 = .ok (.iinc 6 1, 3) := by decide +kernel
theorem dX1_warm_184 : decode cX1_warm 184 = .ok (.goto (-98), 3) := by decide +kernel
theorem dX1_warm_187 : decode cX1_warm 187 = .ok (.return_, 1) := by decide +kernel
theorem dX1_burn_0 : decode cX1_burn 0 = .ok (.iconst 0, 1) := by decide +kernel
theorem dX1_burn_1 : decode cX1_burn 1 = .ok (.istore_n 3, 1) := by decide +kernel
theorem dX1_burn_2 : decode cX1_burn 2 = .ok (.iconst 0, 1) := by decide +kernel
theorem dX1_burn_3 : decode cX1_burn 3 = .ok (.istore 4, 2) := by decide +kernel
theorem dX1_burn_5 : decode cX1_burn 5 = .ok (.iload 4, 2) := by decide +kernel
theorem dX1_burn_7 : decode cX1_burn 7 = .ok (.bipush 7, 2) := by decide +kernel
theorem dX1_burn_9 : decode cX1_burn 9 = .ok (.if_icmp .ge 68, 3) := by decide +kernel
theorem dX1_burn_12 : decode cX1_burn 12 = .ok (.iload_n 2, 1) := by decide +kernel
theorem dX1_burn_13 : decode cX1_burn 13 = .ok (.iload 4, 2) := by decide +kernel
theorem dX1_burn_15 : decode cX1_burn 15 = .ok (.ishr, 1) := by decide +kernel
theorem dX1_burn_16 : decode cX1_burn 16 = .ok (.iconst 1, 1) := by decide +kernel
theorem dX1_burn_17 : decode cX1_burn 17 = .ok (.iand, 1) := by decide +kernel
theorem dX1_burn_18 : decode cX1_burn 18 = .ok (.iconst 1, 1) := by decide +kernel
theorem dX1_burn_19 : decode cX1_burn 19 = .ok (.if_icmp .ne 52, 3) := by decide +kernel
theorem dX1_burn_22 : decode cX1_burn 22 = .ok (.aload_n 0, 1) := by decide +kernel
theorem dX1_burn_23 : decode cX1_burn 23 = .ok (.getfield 18, 3) := by decide +kernel
theorem dX1_burn_26 : decode cX1_burn 26 = .ok (.iload 4, 2) := by decide +kernel
theorem dX1_burn_28 : decode cX1_burn 28 = .ok (.dup2, 1) := by decide +kernel
theorem dX1_burn_29 : decode cX1_burn 29 = .ok (.iaload, 1) := by decide +kernel
theorem dX1_burn_30 : decode cX1_burn 30 = .ok (.aload_n 1, 1) := by decide +kernel
theorem dX1_burn_31 : decode cX1_burn 31 = .ok (.getfield 80, 3) := by decide +kernel
theorem dX1_burn_34 : decode cX1_burn 34 = .ok (.iload 4, 2) := by decide +kernel
theorem dX1_burn_36 : decode cX1_burn 36 = .ok (.iaload, 1) := by decide +kernel
theorem dX1_burn_37 : decode cX1_burn 37 = .ok (.iconst 1, 1) := by decide +kernel
theorem dX1_burn_38 : decode cX1_burn 38 = .ok (.if_icmp .ne 7, 3) := by decide +kernel
theorem dX1_burn_41 : decode cX1_burn 41 = .ok (.iconst 2, 1) := by decide +kernel
theorem dX1_burn_42 : decode cX1_burn 42 = .ok (.goto 4, 3) := by decide +kernel
theorem dX1_burn_45 : decode cX1_burn 45 = .ok (.iconst 1, 1) := by decide +kernel
theorem dX1_burn_46 : decode cX1_burn 46 = .ok (.isub, 1) := by decide +kernel
theorem dX1_burn_47 : decode cX1_burn 47 = .ok (.iastore, 1) := by decide +kernel
theorem dX1_burn_48 : decode cX1_burn 48 = .ok (.aload_n 0, 1) := by decide +kernel
theorem dX1_burn_49 : decode cX1_burn 49 = .ok (.getfield 18, 3) := by decide +kernel
theorem dX1_burn_52 : decode cX1_burn 52 = .ok (.iload 4, 2) := by decide +kernel
theorem dX1_burn_54 : decode cX1_burn 54 = .ok (.iaload, 1) := by decide +kernel
theorem dX1_burn_55 : decode cX1_burn 55 = .ok (.ifCond .gt 16, 3) := by decide +kernel
theorem dX1_burn_58 : decode cX1_burn 58 = .ok (.aload_n 0, 1) := by decide +kernel
theorem dX1_burn_59 : decode cX1_burn 59 = .ok (.iload 4, 2) := by decide +kernel
theorem dX1_burn_61 : decode cX1_burn 61 = .ok (.invokevirtual 24, 3) := by decide +kernel
theorem dX1_burn_64 : decode cX1_burn 64 = .ok (.iload_n 3, 1) := by decide +kernel
theorem dX1_burn_65 : decode cX1_burn 65 = .ok (.iconst 1, 1) := by decide +kernel
theorem dX1_burn_66 : decode cX1_burn 66 = .ok (.iload 4, 2) := by decide +kernel
theorem dX1_burn_68 : decode cX1_burn 68 = .ok (.ishl, 1) := by decide +kernel
theorem dX1_burn_69 : decode cX1_burn 69 = .ok (.ior, 1) := by decide +kernel
theorem dX1_burn_70 : decode cX1_burn 70 = .ok (.istore_n 3, 1) := by decide +kernel
theorem dX1_burn_71 : decode cX1_burn 71 = .ok (.iinc 4 1, 3) := by decide +kernel
theorem dX1_burn_74 : decode cX1_burn 74 = .ok (.goto (-69), 3) := by decide +kernel
theorem dX1_burn_77 : decode cX1_burn 77 = .ok (.iload_n 3, 1) := by decide +kernel
theorem dX1_burn_78 : decode cX1_burn 78 = .ok (.ireturn, 1) := by decide +kernel
theorem dX1_besideOf_0 : decode cX1_besideOf 0 = .ok (.iload_n 0, 1) := by decide +kernel
theorem dX1_besideOf_1 : decode cX1_besideOf 1 = .ok (.invokestatic 110, 3) := by decide +kernel
theorem dX1_besideOf_4 : decode cX1_besideOf 4 = .ok (.ifCond .eq 11, 3) := by decide +kernel
theorem dX1_besideOf_7 : decode cX1_besideOf 7 = .ok (.getstatic 113, 3) := by decide +kernel
theorem dX1_besideOf_10 : decode cX1_besideOf 10 = .ok (.iload_n 0, 1) := by decide +kernel
theorem dX1_besideOf_11 : decode cX1_besideOf 11 = .ok (.iaload, 1) := by decide +kernel
theorem dX1_besideOf_12 : decode cX1_besideOf 12 = .ok (.goto 4, 3) := by decide +kernel
theorem dX1_besideOf_15 : decode cX1_besideOf 15 = .ok (.iconst 0, 1) := by decide +kernel
theorem dX1_besideOf_16 : decode cX1_besideOf 16 = .ok (.ireturn, 1) := by decide +kernel
theorem dX2_init_0 : decode cX2_init 0 = .ok (.aload_n 0, 1) := by decide +kernel
theorem dX2_init_1 : decode cX2_init 1 = .ok (.invokespecial 3, 3) := by decide +kernel
theorem dX2_init_4 : decode cX2_init 4 = .ok (.aload_n 0, 1) := by decide +kernel
theorem dX2_init_5 : decode cX2_init 5 = .ok (.new 9, 3) := by decide +kernel
theorem dX2_init_8 : decode cX2_init 8 = .ok (.dup, 1) := by decide +kernel
theorem dX2_init_9 : decode cX2_init 9 = .ok (.invokespecial 11, 3) := by decide +kernel
theorem dX2_init_12 : decode cX2_init 12 = .ok (.putfield 12, 3) := by decide +kernel
theorem dX2_init_15 : decode cX2_init 15 = .ok (.aload_n 0, 1) := by decide +kernel
theorem dX2_init_16 : decode cX2_init 16 = .ok (.bipush 41, 2) := by decide +kernel
theorem dX2_init_18 : decode cX2_init 18 = .ok (.newarray .int, 2) := by decide +kernel
theorem dX2_init_20 : decode cX2_init 20 = .ok (.putfield 18, 3) := by decide +kernel
theorem dX2_init_23 : decode cX2_init 23 = .ok (.return_, 1) := by decide +kernel
theorem dX2_behind_0 : decode cX2_behind 0 = .ok (.aload_n 0, 1) := by decide +kernel
theorem dX2_behind_1 : decode cX2_behind 1 = .ok (.getfield 12, 3) := by decide +kernel
theorem dX2_behind_4 : decode cX2_behind 4 = .ok (.aload_n 2, 1) := by decide +kernel
theorem dX2_behind_5 : decode cX2_behind 5 = .ok (.invokevirtual 22, 3) := by decide +kernel
theorem dX2_behind_8 : decode cX2_behind 8 = .ok (.iconst 0, 1) := by decide +kernel
theorem dX2_behind_9 : decode cX2_behind 9 = .ok (.istore 4, 2) := by decide +kernel
theorem dX2_behind_11 : decode cX2_behind 11 = .ok (.iload 4, 2) := by decide +kernel
theorem dX2_behind_13 : decode cX2_behind 13 = .ok (.iload_n 3, 1) := by decide +kernel
theorem dX2_behind_14 : decode cX2_behind 14 = .ok (.if_icmp .ge 19, 3) := by decide +kernel
theorem dX2_behind_17 : decode cX2_behind 17 = .ok (.aload_n 0, 1) := by decide +kernel
theorem dX2_behind_18 : decode cX2_behind 18 = .ok (.getfield 12, 3) := by decide +kernel
theorem dX2_behind_21 : decode cX2_behind 21 = .ok (.aload_n 1, 1) := by decide +kernel
theorem dX2_behind_22 : decode cX2_behind 22 = .ok (.iconst 1, 1) := by decide +kernel
theorem dX2_behind_23 : decode cX2_behind 23 = .ok (.invokevirtual 26, 3) := by decide +kernel
theorem dX2_behind_26 : decode cX2_behind 26 = .ok (.pop, 1) := by decide +kernel
theorem dX2_behind_27 : decode cX2_behind 27 = .ok (.iinc 4 1, 3) := by decide +kernel
theorem dX2_behind_30 : decode cX2_behind 30 = .ok (.goto (-19), 3) := by decide +kernel
theorem dX2_behind_33 : decode cX2_behind 33 = .ok (.aload_n 0, 1) := by decide +kernel
theorem dX2_behind_34 : decode cX2_behind 34 = .ok (.getfield 12, 3) := by decide +kernel
theorem dX2_behind_37 : decode cX2_behind 37 = .ok (.areturn, 1) := by decide +kernel
theorem dX2_watch_0 : decode cX2_watch 0 = .ok (.aload_n 0, 1) := by decide +kernel
theorem dX2_watch_1 : decode cX2_watch 1 = .ok (.getfield 12, 3) := by decide +kernel
theorem dX2_watch_4 : decode cX2_watch 4 = .ok (.aload_n 2, 1) := by decide +kernel
theorem dX2_watch_5 : decode cX2_watch 5 = .ok (.invokevirtual 22, 3) := by decide +kernel
theorem dX2_watch_8 : decode cX2_watch 8 = .ok (.iconst 0, 1) := by decide +kernel
theorem dX2_watch_9 : decode cX2_watch 9 = .ok (.istore_n 3, 1) := by decide +kernel
theorem dX2_watch_10 : decode cX2_watch 10 = .ok (.iload_n 3, 1) := by decide +kernel
theorem dX2_watch_11 : decode cX2_watch 11 = .ok (.bipush 40, 2) := by decide +kernel
theorem dX2_watch_13 : decode cX2_watch 13 = .ok (.if_icmp .gt 33, 3) := by decide +kernel
theorem dX2_watch_16 : decode cX2_watch 16 = .ok (.aload_n 0, 1) := by decide +kernel
theorem dX2_watch_17 : decode cX2_watch 17 = .ok (.getfield 18, 3) := by decide +kernel
theorem dX2_watch_20 : decode cX2_watch 20 = .ok (.iload_n 3, 1) := by decide +kernel
theorem dX2_watch_21 : decode cX2_watch 21 = .ok (.aload_n 0, 1) := by decide +kernel
theorem dX2_watch_22 : decode cX2_watch 22 = .ok (.getfield 12, 3) := by decide +kernel
theorem dX2_watch_25 : decode cX2_watch 25 = .ok (.aload_n 1, 1) := by decide +kernel
theorem dX2_watch_26 : decode cX2_watch 26 = .ok (.invokevirtual 30, 3) := by decide +kernel
theorem dX2_watch_29 : decode cX2_watch 29 = .ok (.iastore, 1) := by decide +kernel
theorem dX2_watch_30 : decode cX2_watch 30 = .ok (.aload_n 0, 1) := by decide +kernel
theorem dX2_watch_31 : decode cX2_watch 31 = .ok (.getfield 12, 3) := by decide +kernel
theorem dX2_watch_34 : decode cX2_watch 34 = .ok (.aload_n 1, 1) := by decide +kernel
theorem dX2_watch_35 : decode cX2_watch 35 = .ok (.iconst 1, 1) := by decide +kernel
theorem dX2_watch_36 : decode cX2_watch 36 = .ok (.invokevirtual 26, 3) := by decide +kernel
theorem dX2_watch_39 : decode cX2_watch 39 = .ok (.pop, 1) := by decide +kernel
theorem dX2_watch_40 : decode cX2_watch 40 = .ok (.iinc 3 1, 3) := by decide +kernel
theorem dX2_watch_43 : decode cX2_watch 43 = .ok (.goto (-33), 3) := by decide +kernel
theorem dX2_watch_46 : decode cX2_watch 46 = .ok (.return_, 1) := by decide +kernel
theorem dX2_outOf_0 : decode cX2_outOf 0 = .ok (.aload_n 0, 1) := by decide +kernel
theorem dX2_outOf_1 : decode cX2_outOf 1 = .ok (.getfield 18, 3) := by decide +kernel
theorem dX2_outOf_4 : decode cX2_outOf 4 = .ok (.bipush 40, 2) := by decide +kernel
theorem dX2_outOf_6 : decode cX2_outOf 6 = .ok (.iaload, 1) := by decide +kernel
theorem dX2_outOf_7 : decode cX2_outOf 7 = .ok (.iload_n 1, 1) := by decide +kernel
theorem dX2_outOf_8 : decode cX2_outOf 8 = .ok (.ishr, 1) := by decide +kernel
theorem dX2_outOf_9 : decode cX2_outOf 9 = .ok (.iconst 1, 1) := by decide +kernel
theorem dX2_outOf_10 : decode cX2_outOf 10 = .ok (.iand, 1) := by decide +kernel
theorem dX2_outOf_11 : decode cX2_outOf 11 = .ok (.iconst 1, 1) := by decide +kernel
theorem dX2_outOf_12 : decode cX2_outOf 12 = .ok (.if_icmp .ne 5, 3) := by decide +kernel
theorem dX2_outOf_15 : decode cX2_outOf 15 = .ok (.iconst (-1), 1) := by decide +kernel
theorem dX2_outOf_16 : decode cX2_outOf 16 = .ok (.ireturn, 1) := by decide +kernel
theorem dX2_outOf_17 : decode cX2_outOf 17 = .ok (.bipush 39, 2) := by decide +kernel
theorem dX2_outOf_19 : decode cX2_outOf 19 = .ok (.istore_n 2, 1) := by decide +kernel
theorem dX2_outOf_20 : decode cX2_outOf 20 = .ok (.iload_n 2, 1) := by decide +kernel
theorem dX2_outOf_21 : decode cX2_outOf 21 = .ok (.ifCond .lt 27, 3) := by decide +kernel
theorem dX2_outOf_24 : decode cX2_outOf 24 = .ok (.aload_n 0, 1) := by decide +kernel
theorem dX2_outOf_25 : decode cX2_outOf 25 = .ok (.getfield 18, 3) := by decide +kernel
theorem dX2_outOf_28 : decode cX2_outOf 28 = .ok (.iload_n 2, 1) := by decide +kernel
theorem dX2_outOf_29 : decode cX2_outOf 29 = .ok (.iaload, 1) := by decide +kernel
theorem dX2_outOf_30 : decode cX2_outOf 30 = .ok (.iload_n 1, 1) := by decide +kernel
theorem dX2_outOf_31 : decode cX2_outOf 31 = .ok (.ishr, 1) := by decide +kernel
theorem dX2_outOf_32 : decode cX2_outOf 32 = .ok (.iconst 1, 1) := by decide +kernel
theorem dX2_outOf_33 : decode cX2_outOf 33 = .ok (.iand, 1) := by decide +kernel
theorem dX2_outOf_34 : decode cX2_outOf 34 = .ok (.iconst 1, 1) := by decide +kernel
theorem dX2_outOf_35 : decode cX2_outOf 35 = .ok (.if_icmp .ne 7, 3) := by decide +kernel
theorem dX2_outOf_38 : decode cX2_outOf 38 = .ok (.iload_n 2, 1) := by decide +kernel
theorem dX2_outOf_39 : decode cX2_outOf 39 = .ok (.iconst 1, 1) := by decide +kernel
theorem dX2_outOf_40 : decode cX2_outOf 40 = .ok (.iadd, 1) := by decide +kernel
theorem dX2_outOf_41 : decode cX2_outOf 41 = .ok (.ireturn, 1) := by decide +kernel
theorem dX2_outOf_42 : decode cX2_outOf 42 = .ok (.iinc 2 (-1), 3) := by decide +kernel
theorem dX2_outOf_45 : decode cX2_outOf 45 = .ok (.goto (-25), 3) := by decide +kernel
theorem dX2_outOf_48 : decode cX2_outOf 48 = .ok (.iconst (-1), 1) := by decide +kernel
theorem dX2_outOf_49 : decode cX2_outOf 49 = .ok (.ireturn, 1) := by decide +kernel
theorem dX2_firstLit_0 : decode cX2_firstLit 0 = .ok (.iconst 0, 1) := by decide +kernel
theorem dX2_firstLit_1 : decode cX2_firstLit 1 = .ok (.istore_n 2, 1) := by decide +kernel
theorem dX2_firstLit_2 : decode cX2_firstLit 2 = .ok (.iload_n 2, 1) := by decide +kernel
theorem dX2_firstLit_3 : decode cX2_firstLit 3 = .ok (.bipush 40, 2) := by decide +kernel
theorem dX2_firstLit_5 : decode cX2_firstLit 5 = .ok (.if_icmp .gt 25, 3) := by decide +kernel
theorem dX2_firstLit_8 : decode cX2_firstLit 8 = .ok (.aload_n 0, 1) := by decide +kernel
theorem dX2_firstLit_9 : decode cX2_firstLit 9 = .ok (.getfield 18, 3) := by decide +kernel
theorem dX2_firstLit_12 : decode cX2_firstLit 12 = .ok (.iload_n 2, 1) := by decide +kernel
theorem dX2_firstLit_13 : decode cX2_firstLit 13 = .ok (.iaload, 1) := by decide +kernel
theorem dX2_firstLit_14 : decode cX2_firstLit 14 = .ok (.iload_n 1, 1) := by decide +kernel
theorem dX2_firstLit_15 : decode cX2_firstLit 15 = .ok (.ishr, 1) := by decide +kernel
theorem dX2_firstLit_16 : decode cX2_firstLit 16 = .ok (.iconst 1, 1) := by decide +kernel
theorem dX2_firstLit_17 : decode cX2_firstLit 17 = .ok (.iand, 1) := by decide +kernel
theorem dX2_firstLit_18 : decode cX2_firstLit 18 = .ok (.iconst 1, 1) := by decide +kernel
theorem dX2_firstLit_19 : decode cX2_firstLit 19 = .ok (.if_icmp .ne 5, 3) := by decide +kernel
theorem dX2_firstLit_22 : decode cX2_firstLit 22 = .ok (.iload_n 2, 1) := by decide +kernel
theorem dX2_firstLit_23 : decode cX2_firstLit 23 = .ok (.ireturn, 1) := by decide +kernel
theorem dX2_firstLit_24 : decode cX2_firstLit 24 = .ok (.iinc 2 1, 3) := by decide +kernel
theorem dX2_firstLit_27 : decode cX2_firstLit 27 = .ok (.goto (-25), 3) := by decide +kernel
theorem dX2_firstLit_30 : decode cX2_firstLit 30 = .ok (.iconst (-1), 1) := by decide +kernel
theorem dX2_firstLit_31 : decode cX2_firstLit 31 = .ok (.ireturn, 1) := by decide +kernel
theorem dX2_longest_0 : decode cX2_longest 0 = .ok (.aload_n 0, 1) := by decide +kernel
theorem dX2_longest_1 : decode cX2_longest 1 = .ok (.aload_n 1, 1) := by decide +kernel
theorem dX2_longest_2 : decode cX2_longest 2 = .ok (.aload_n 2, 1) := by decide +kernel
theorem dX2_longest_3 : decode cX2_longest 3 = .ok (.invokevirtual 34, 3) := by decide +kernel
theorem dX2_longest_6 : decode cX2_longest 6 = .ok (.iconst (-1), 1) := by decide +kernel
theorem dX2_longest_7 : decode cX2_longest 7 = .ok (.istore_n 3, 1) := by decide +kernel
theorem dX2_longest_8 : decode cX2_longest 8 = .ok (.iconst (-1), 1) := by decide +kernel
theorem dX2_longest_9 : decode cX2_longest 9 = .ok (.istore 4, 2) := by decide +kernel
theorem dX2_longest_11 : decode cX2_longest 11 = .ok (.iconst 0, 1) := by decide +kernel
theorem dX2_longest_12 : decode cX2_longest 12 = .ok (.istore 5, 2) := by decide +kernel
theorem dX2_longest_14 : decode cX2_longest 14 = .ok (.iload 5, 2) := by decide +kernel
theorem dX2_longest_16 : decode cX2_longest 16 = .ok (.bipush 7, 2) := by decide +kernel
theorem dX2_longest_18 : decode cX2_longest 18 = .ok (.if_icmp .ge 31, 3) := by decide +kernel
theorem dX2_longest_21 : decode cX2_longest 21 = .ok (.aload_n 0, 1) := by decide +kernel
theorem dX2_longest_22 : decode cX2_longest 22 = .ok (.iload 5, 2) := by decide +kernel
theorem dX2_longest_24 : decode cX2_longest 24 = .ok (.invokevirtual 38, 3) := by decide +kernel
theorem dX2_longest_27 : decode cX2_longest 27 = .ok (.istore 6, 2) := by decide +kernel
theorem dX2_longest_29 : decode cX2_longest 29 = .ok (.iload 6, 2) := by decide +kernel
theorem dX2_longest_31 : decode cX2_longest 31 = .ok (.iload 4, 2) := by decide +kernel
theorem dX2_longest_33 : decode cX2_longest 33 = .ok (.if_icmp .le 10, 3) := by decide +kernel
theorem dX2_longest_36 : decode cX2_longest 36 = .ok (.iload 6, 2) := by decide +kernel
theorem dX2_longest_38 : decode cX2_longest 38 = .ok (.istore 4, 2) := by decide +kernel
theorem dX2_longest_40 : decode cX2_longest 40 = .ok (.iload 5, 2) := by decide +kernel
theorem dX2_longest_42 : decode cX2_longest 42 = .ok (.istore_n 3, 1) := by decide +kernel
theorem dX2_longest_43 : decode cX2_longest 43 = .ok (.iinc 5 1, 3) := by decide +kernel
theorem dX2_longest_46 : decode cX2_longest 46 = .ok (.goto (-32), 3) := by decide +kernel
theorem dX2_longest_49 : decode cX2_longest 49 = .ok (.iload_n 3, 1) := by decide +kernel
theorem dX2_longest_50 : decode cX2_longest 50 = .ok (.ireturn, 1) := by decide +kernel
theorem dX2_hottestHour_0 : decode cX2_hottestHour 0 = .ok (.aload_n 0, 1) := by decide +kernel
theorem dX2_hottestHour_1 : decode cX2_hottestHour 1 = .ok (.getfield 12, 3) := by decide +kernel
theorem dX2_hottestHour_4 : decode cX2_hottestHour 4 = .ok (.aload_n 2, 1) := by decide +kernel
theorem dX2_hottestHour_5 : decode cX2_hottestHour 5 = .ok (.invokevirtual 22, 3) := by decide +kernel
theorem dX2_hottestHour_8 : decode cX2_hottestHour 8 = .ok (.iconst 0, 1) := by decide +kernel
theorem dX2_hottestHour_9 : decode cX2_hottestHour 9 = .ok (.istore_n 3, 1) := by decide +kernel
theorem dX2_hottestHour_10 : decode cX2_hottestHour 10 = .ok (.aload_n 0, 1) := by decide +kernel
theorem dX2_hottestHour_11 : decode cX2_hottestHour 11 = .ok (.getfield 12, 3) := by decide +kernel
theorem dX2_hottestHour_14 : decode cX2_hottestHour 14 = .ok (.invokevirtual 42, 3) := by decide +kernel
theorem dX2_hottestHour_17 : decode cX2_hottestHour 17 = .ok (.istore 4, 2) := by decide +kernel
theorem dX2_hottestHour_19 : decode cX2_hottestHour 19 = .ok (.iconst 1, 1) := by decide +kernel
theorem dX2_hottestHour_20 : decode cX2_hottestHour 20 = .ok (.istore 5, 2) := by decide +kernel
theorem dX2_hottestHour_22 : decode cX2_hottestHour 22 = .ok (.iload 5, 2) := by decide +kernel
theorem dX2_hottestHour_24 : decode cX2_hottestHour 24 = .ok (.bipush 40, 2) := by decide +kernel
theorem dX2_hottestHour_26 : decode cX2_hottestHour 26 = .ok (.if_icmp .gt 42, 3) := by decide +kernel
theorem dX2_hottestHour_29 : decode cX2_hottestHour 29 = .ok (.aload_n 0, 1) := by decide +kernel
theorem dX2_hottestHour_30 : decode cX2_hottestHour 30 = .ok (.getfield 12, 3) := by decide +kernel
theorem dX2_hottestHour_33 : decode cX2_hottestHour 33 = .ok (.aload_n 1, 1) := by decide +kernel
theorem dX2_hottestHour_34 : decode cX2_hottestHour 34 = .ok (.iconst 1, 1) := by decide +kernel
theorem dX2_hottestHour_35 : decode cX2_hottestHour 35 = .ok (.invokevirtual 26, 3) := by decide +kernel
theorem dX2_hottestHour_38 : decode cX2_hottestHour 38 = .ok (.pop, 1) := by decide +kernel
theorem dX2_hottestHour_39 : decode cX2_hottestHour 39 = .ok (.aload_n 0, 1) := by decide +kernel
theorem dX2_hottestHour_40 : decode cX2_hottestHour 40 = .ok (.getfield 12, 3) := by decide +kernel
theorem dX2_hottestHour_43 : decode cX2_hottestHour 43 = .ok (.invokevirtual 42, 3) := by decide +kernel
theorem dX2_hottestHour_46 : decode cX2_hottestHour 46 = .ok (.istore 6, 2) := by decide +kernel
theorem dX2_hottestHour_48 : decode cX2_hottestHour 48 = .ok (.iload 6, 2) := by decide +kernel
theorem dX2_hottestHour_50 : decode cX2_hottestHour 50 = .ok (.iload 4, 2) := by decide +kernel
theorem dX2_hottestHour_52 : decode cX2_hottestHour 52 = .ok (.if_icmp .le 10, 3) := by decide +kernel
theorem dX2_hottestHour_55 : decode cX2_hottestHour 55 = .ok (.iload 6, 2) := by decide +kernel
theorem dX2_hottestHour_57 : decode cX2_hottestHour 57 = .ok (.istore 4, 2) := by decide +kernel
theorem dX2_hottestHour_59 : decode cX2_hottestHour 59 = .ok (.iload 5, 2) := by decide +kernel
theorem dX2_hottestHour_61 : decode cX2_hottestHour 61 = .ok (.istore_n 3, 1) := by decide +kernel
theorem dX2_hottestHour_62 : decode cX2_hottestHour 62 = .ok (.iinc 5 1, 3) := by decide +kernel
theorem dX2_hottestHour_65 : decode cX2_hottestHour 65 = .ok (.goto (-43), 3) := by decide +kernel
theorem dX2_hottestHour_68 : decode cX2_hottestHour 68 = .ok (.iload_n 3, 1) := by decide +kernel
theorem dX2_hottestHour_69 : decode cX2_hottestHour 69 = .ok (.ireturn, 1) := by decide +kernel
theorem dX2_lastsNow_0 : decode cX2_lastsNow 0 = .ok (.aload_n 0, 1) := by decide +kernel
theorem dX2_lastsNow_1 : decode cX2_lastsNow 1 = .ok (.getfield 12, 3) := by decide +kernel
theorem dX2_lastsNow_4 : decode cX2_lastsNow 4 = .ok (.aload_n 2, 1) := by decide +kernel
theorem dX2_lastsNow_5 : decode cX2_lastsNow 5 = .ok (.invokevirtual 22, 3) := by decide +kernel
theorem dX2_lastsNow_8 : decode cX2_lastsNow 8 = .ok (.aload_n 0, 1) := by decide +kernel
theorem dX2_lastsNow_9 : decode cX2_lastsNow 9 = .ok (.aload_n 1, 1) := by decide +kernel
theorem dX2_lastsNow_10 : decode cX2_lastsNow 10 = .ok (.iconst (-1), 1) := by decide +kernel
theorem dX2_lastsNow_11 : decode cX2_lastsNow 11 = .ok (.invokevirtual 46, 3) := by decide +kernel
theorem dX2_lastsNow_14 : decode cX2_lastsNow 14 = .ok (.ireturn, 1) := by decide +kernel
theorem dX2_bestMove_0 : decode cX2_bestMove 0 = .ok (.iconst (-1), 1) := by decide +kernel
theorem dX2_bestMove_1 : decode cX2_bestMove 1 = .ok (.istore_n 3, 1) := by decide +kernel
theorem dX2_bestMove_2 : decode cX2_bestMove 2 = .ok (.aload_n 0, 1) := by decide +kernel
theorem dX2_bestMove_3 : decode cX2_bestMove 3 = .ok (.getfield 12, 3) := by decide +kernel
theorem dX2_bestMove_6 : decode cX2_bestMove 6 = .ok (.aload_n 2, 1) := by decide +kernel
theorem dX2_bestMove_7 : decode cX2_bestMove 7 = .ok (.invokevirtual 22, 3) := by decide +kernel
theorem dX2_bestMove_10 : decode cX2_bestMove 10 = .ok (.aload_n 0, 1) := by decide +kernel
theorem dX2_bestMove_11 : decode cX2_bestMove 11 = .ok (.aload_n 1, 1) := by decide +kernel
theorem dX2_bestMove_12 : decode cX2_bestMove 12 = .ok (.iconst (-1), 1) := by decide +kernel
theorem dX2_bestMove_13 : decode cX2_bestMove 13 = .ok (.invokevirtual 46, 3) := by decide +kernel
theorem dX2_bestMove_16 : decode cX2_bestMove 16 = .ok (.istore 4, 2) := by decide +kernel
theorem dX2_bestMove_18 : decode cX2_bestMove 18 = .ok (.iconst 0, 1) := by decide +kernel
theorem dX2_bestMove_19 : decode cX2_bestMove 19 = .ok (.istore 5, 2) := by decide +kernel
theorem dX2_bestMove_21 : decode cX2_bestMove 21 = .ok (.iload 5, 2) := by decide +kernel
theorem dX2_bestMove_23 : decode cX2_bestMove 23 = .ok (.bipush 84, 2) := by decide +kernel
theorem dX2_bestMove_25 : decode cX2_bestMove 25 = .ok (.if_icmp .ge 82, 3) := by decide +kernel
theorem dX2_bestMove_28 : decode cX2_bestMove 28 = .ok (.iload 5, 2) := by decide +kernel
theorem dX2_bestMove_30 : decode cX2_bestMove 30 = .ok (.bipush 12, 2) := by decide +kernel
theorem dX2_bestMove_32 : decode cX2_bestMove 32 = .ok (.idiv, 1) := by decide +kernel
theorem dX2_bestMove_33 : decode cX2_bestMove 33 = .ok (.istore 6, 2) := by decide +kernel
theorem dX2_bestMove_35 : decode cX2_bestMove 35 = .ok (.iload 5, 2) := by decide +kernel
theorem dX2_bestMove_37 : decode cX2_bestMove 37 = .ok (.bipush 12, 2) := by decide +kernel
theorem dX2_bestMove_39 : decode cX2_bestMove 39 = .ok (.irem, 1) := by decide +kernel
theorem dX2_bestMove_40 : decode cX2_bestMove 40 = .ok (.istore 7, 2) := by decide +kernel
theorem dX2_bestMove_42 : decode cX2_bestMove 42 = .ok (.aload_n 2, 1) := by decide +kernel
theorem dX2_bestMove_43 : decode cX2_bestMove 43 = .ok (.iload 6, 2) := by decide +kernel
theorem dX2_bestMove_45 : decode cX2_bestMove 45 = .ok (.invokevirtual 50, 3) := by decide +kernel
theorem dX2_bestMove_48 : decode cX2_bestMove 48 = .ok (.ifCond .eq 53, 3) := by decide +kernel
theorem dX2_bestMove_51 : decode cX2_bestMove 51 = .ok (.aload_n 2, 1) := by decide +kernel
theorem dX2_bestMove_52 : decode cX2_bestMove 52 = .ok (.iload 7, 2) := by decide +kernel
theorem dX2_bestMove_54 : decode cX2_bestMove 54 = .ok (.invokevirtual 54, 3) := by decide +kernel
theorem dX2_bestMove_57 : decode cX2_bestMove 57 = .ok (.ifCond .eq 44, 3) := by decide +kernel
theorem dX2_bestMove_60 : decode cX2_bestMove 60 = .ok (.aload_n 0, 1) := by decide +kernel
theorem dX2_bestMove_61 : decode cX2_bestMove 61 = .ok (.getfield 12, 3) := by decide +kernel
theorem dX2_bestMove_64 : decode cX2_bestMove 64 = .ok (.aload_n 2, 1) := by decide +kernel
theorem dX2_bestMove_65 : decode cX2_bestMove 65 = .ok (.invokevirtual 22, 3) := by decide +kernel
theorem dX2_bestMove_68 : decode cX2_bestMove 68 = .ok (.aload_n 0, 1) := by decide +kernel
theorem dX2_bestMove_69 : decode cX2_bestMove 69 = .ok (.getfield 12, 3) := by decide +kernel
theorem dX2_bestMove_72 : decode cX2_bestMove 72 = .ok (.iload 6, 2) := by decide +kernel
theorem dX2_bestMove_74 : decode cX2_bestMove 74 = .ok (.iload 7, 2) := by decide +kernel
theorem dX2_bestMove_76 : decode cX2_bestMove 76 = .ok (.invokevirtual 57, 3) := by decide +kernel
theorem dX2_bestMove_79 : decode cX2_bestMove 79 = .ok (.aload_n 0, 1) := by decide +kernel
theorem dX2_bestMove_80 : decode cX2_bestMove 80 = .ok (.aload_n 1, 1) := by decide +kernel
theorem dX2_bestMove_81 : decode cX2_bestMove 81 = .ok (.iconst (-1), 1) := by decide +kernel
theorem dX2_bestMove_82 : decode cX2_bestMove 82 = .ok (.invokevirtual 46, 3) := by decide +kernel
theorem dX2_bestMove_85 : decode cX2_bestMove 85 = .ok (.istore 8, 2) := by decide +kernel
theorem dX2_bestMove_87 : decode cX2_bestMove 87 = .ok (.iload 8, 2) := by decide +kernel
theorem dX2_bestMove_89 : decode cX2_bestMove 89 = .ok (.iload 4, 2) := by decide +kernel
theorem dX2_bestMove_91 : decode cX2_bestMove 91 = .ok (.if_icmp .le 10, 3) := by decide +kernel
theorem dX2_bestMove_94 : decode cX2_bestMove 94 = .ok (.iload 8, 2) := by decide +kernel
theorem dX2_bestMove_96 : decode cX2_bestMove 96 = .ok (.istore 4, 2) := by decide +kernel
theorem dX2_bestMove_98 : decode cX2_bestMove 98 = .ok (.iload 5, 2) := by decide +kernel
theorem dX2_bestMove_100 : decode cX2_bestMove 100 = .ok (.istore_n 3, 1) := by decide +kernel
theorem dX2_bestMove_101 : decode cX2_bestMove 101 = .ok (.iinc 5 1, 3) := by decide +kernel
theorem dX2_bestMove_104 : decode cX2_bestMove 104 = .ok (.goto (-83), 3) := by decide +kernel
theorem dX2_bestMove_107 : decode cX2_bestMove 107 = .ok (.iload_n 3, 1) := by decide +kernel
theorem dX2_bestMove_108 : decode cX2_bestMove 108 = .ok (.ireturn, 1) := by decide +kernel
theorem dX2_bestBanking_0 : decode cX2_bestBanking 0 = .ok (.iconst (-1), 1) := by decide +kernel
theorem dX2_bestBanking_1 : decode cX2_bestBanking 1 = .ok (.istore_n 3, 1) := by decide +kernel
theorem dX2_bestBanking_2 : decode cX2_bestBanking 2 = .ok (.iconst (-1), 1) := by decide +kernel
theorem dX2_bestBanking_3 : decode cX2_bestBanking 3 = .ok (.istore 4, 2) := by decide +kernel
theorem dX2_bestBanking_5 : decode cX2_bestBanking 5 = .ok (.iconst 0, 1) := by decide +kernel
theorem dX2_bestBanking_6 : decode cX2_bestBanking 6 = .ok (.istore 5, 2) := by decide +kernel
theorem dX2_bestBanking_8 : decode cX2_bestBanking 8 = .ok (.iload 5, 2) := by decide +kernel
theorem dX2_bestBanking_10 : decode cX2_bestBanking 10 = .ok (.bipush 12, 2) := by decide +kernel
theorem dX2_bestBanking_12 : decode cX2_bestBanking 12 = .ok (.if_icmp .gt 40, 3) := by decide +kernel
theorem dX2_bestBanking_15 : decode cX2_bestBanking 15 = .ok (.aload_n 0, 1) := by decide +kernel
theorem dX2_bestBanking_16 : decode cX2_bestBanking 16 = .ok (.getfield 12, 3) := by decide +kernel
theorem dX2_bestBanking_19 : decode cX2_bestBanking 19 = .ok (.aload_n 2, 1) := by decide +kernel
theorem dX2_bestBanking_20 : decode cX2_bestBanking 20 = .ok (.invokevirtual 22, 3) := by decide +kernel
theorem dX2_bestBanking_23 : decode cX2_bestBanking 23 = .ok (.aload_n 0, 1) := by decide +kernel
theorem dX2_bestBanking_24 : decode cX2_bestBanking 24 = .ok (.aload_n 1, 1) := by decide +kernel
theorem dX2_bestBanking_25 : decode cX2_bestBanking 25 = .ok (.iload 5, 2) := by decide +kernel
theorem dX2_bestBanking_27 : decode cX2_bestBanking 27 = .ok (.invokevirtual 46, 3) := by decide +kernel
theorem dX2_bestBanking_30 : decode cX2_bestBanking 30 = .ok (.istore 6, 2) := by decide +kernel
theorem dX2_bestBanking_32 : decode cX2_bestBanking 32 = .ok (.iload 6, 2) := by decide +kernel
theorem dX2_bestBanking_34 : decode cX2_bestBanking 34 = .ok (.iload 4, 2) := by decide +kernel
theorem dX2_bestBanking_36 : decode cX2_bestBanking 36 = .ok (.if_icmp .le 10, 3) := by decide +kernel
theorem dX2_bestBanking_39 : decode cX2_bestBanking 39 = .ok (.iload 6, 2) := by decide +kernel
theorem dX2_bestBanking_41 : decode cX2_bestBanking 41 = .ok (.istore 4, 2) := by decide +kernel
theorem dX2_bestBanking_43 : decode cX2_bestBanking 43 = .ok (.iload 5, 2) := by decide +kernel
theorem dX2_bestBanking_45 : decode cX2_bestBanking 45 = .ok (.istore_n 3, 1) := by decide +kernel
theorem dX2_bestBanking_46 : decode cX2_bestBanking 46 = .ok (.iinc 5 1, 3) := by decide +kernel
theorem dX2_bestBanking_49 : decode cX2_bestBanking 49 = .ok (.goto (-41), 3) := by decide +kernel
theorem dX2_bestBanking_52 : decode cX2_bestBanking 52 = .ok (.aload_n 0, 1) := by decide +kernel
theorem dX2_bestBanking_53 : decode cX2_bestBanking 53 = .ok (.getfield 12, 3) := by decide +kernel
theorem dX2_bestBanking_56 : decode cX2_bestBanking 56 = .ok (.aload_n 2, 1) := by decide +kernel
theorem dX2_bestBanking_57 : decode cX2_bestBanking 57 = .ok (.invokevirtual 22, 3) := by decide +kernel
theorem dX2_bestBanking_60 : decode cX2_bestBanking 60 = .ok (.aload_n 0, 1) := by decide +kernel
theorem dX2_bestBanking_61 : decode cX2_bestBanking 61 = .ok (.aload_n 1, 1) := by decide +kernel
theorem dX2_bestBanking_62 : decode cX2_bestBanking 62 = .ok (.iconst (-1), 1) := by decide +kernel
theorem dX2_bestBanking_63 : decode cX2_bestBanking 63 = .ok (.invokevirtual 46, 3) := by decide +kernel
theorem dX2_bestBanking_66 : decode cX2_bestBanking 66 = .ok (.iload 4, 2) := by decide +kernel
theorem dX2_bestBanking_68 : decode cX2_bestBanking 68 = .ok (.if_icmp .le 7, 3) := by decide +kernel
theorem dX2_bestBanking_71 : decode cX2_bestBanking 71 = .ok (.iconst (-1), 1) := by decide +kernel
theorem dX2_bestBanking_72 : decode cX2_bestBanking 72 = .ok (.goto 4, 3) := by decide +kernel
theorem dX2_bestBanking_75 : decode cX2_bestBanking 75 = .ok (.iload_n 3, 1) := by decide +kernel
theorem dX2_bestBanking_76 : decode cX2_bestBanking 76 = .ok (.ireturn, 1) := by decide +kernel
theorem dX2_bestPoke_0 : decode cX2_bestPoke 0 = .ok (.iconst (-1), 1) := by decide +kernel
theorem dX2_bestPoke_1 : decode cX2_bestPoke 1 = .ok (.istore 4, 2) := by decide +kernel
theorem dX2_bestPoke_3 : decode cX2_bestPoke 3 = .ok (.iconst (-1), 1) := by decide +kernel
theorem dX2_bestPoke_4 : decode cX2_bestPoke 4 = .ok (.istore 5, 2) := by decide +kernel
theorem dX2_bestPoke_6 : decode cX2_bestPoke 6 = .ok (.iconst 0, 1) := by decide +kernel
theorem dX2_bestPoke_7 : decode cX2_bestPoke 7 = .ok (.istore 6, 2) := by decide +kernel
theorem dX2_bestPoke_9 : decode cX2_bestPoke 9 = .ok (.iload 6, 2) := by decide +kernel
theorem dX2_bestPoke_11 : decode cX2_bestPoke 11 = .ok (.bipush 7, 2) := by decide +kernel
theorem dX2_bestPoke_13 : decode cX2_bestPoke 13 = .ok (.if_icmp .ge 84, 3) := by decide +kernel
theorem dX2_bestPoke_16 : decode cX2_bestPoke 16 = .ok (.aload_n 2, 1) := by decide +kernel
theorem dX2_bestPoke_17 : decode cX2_bestPoke 17 = .ok (.iload 6, 2) := by decide +kernel
theorem dX2_bestPoke_19 : decode cX2_bestPoke 19 = .ok (.invokevirtual 50, 3) := by decide +kernel
theorem dX2_bestPoke_22 : decode cX2_bestPoke 22 = .ok (.ifCond .eq 69, 3) := by decide +kernel
theorem dX2_bestPoke_25 : decode cX2_bestPoke 25 = .ok (.aload_n 0, 1) := by decide +kernel
theorem dX2_bestPoke_26 : decode cX2_bestPoke 26 = .ok (.getfield 12, 3) := by decide +kernel
theorem dX2_bestPoke_29 : decode cX2_bestPoke 29 = .ok (.aload_n 2, 1) := by decide +kernel
theorem dX2_bestPoke_30 : decode cX2_bestPoke 30 = .ok (.invokevirtual 22, 3) := by decide +kernel
theorem dX2_bestPoke_33 : decode cX2_bestPoke 33 = .ok (.aload_n 0, 1) := by decide +kernel
theorem dX2_bestPoke_34 : decode cX2_bestPoke 34 = .ok (.getfield 12, 3) := by decide +kernel
theorem dX2_bestPoke_37 : decode cX2_bestPoke 37 = .ok (.iload 6, 2) := by decide +kernel
theorem dX2_bestPoke_39 : decode cX2_bestPoke 39 = .ok (.invokevirtual 61, 3) := by decide +kernel
theorem dX2_bestPoke_42 : decode cX2_bestPoke 42 = .ok (.iconst 0, 1) := by decide +kernel
theorem dX2_bestPoke_43 : decode cX2_bestPoke 43 = .ok (.istore 7, 2) := by decide +kernel
theorem dX2_bestPoke_45 : decode cX2_bestPoke 45 = .ok (.iload 7, 2) := by decide +kernel
theorem dX2_bestPoke_47 : decode cX2_bestPoke 47 = .ok (.iload_n 3, 1) := by decide +kernel
theorem dX2_bestPoke_48 : decode cX2_bestPoke 48 = .ok (.if_icmp .ge 19, 3) := by decide +kernel
theorem dX2_bestPoke_51 : decode cX2_bestPoke 51 = .ok (.aload_n 0, 1) := by decide +kernel
theorem dX2_bestPoke_52 : decode cX2_bestPoke 52 = .ok (.getfield 12, 3) := by decide +kernel
theorem dX2_bestPoke_55 : decode cX2_bestPoke 55 = .ok (.aload_n 1, 1) := by decide +kernel
theorem dX2_bestPoke_56 : decode cX2_bestPoke 56 = .ok (.iconst 1, 1) := by decide +kernel
theorem dX2_bestPoke_57 : decode cX2_bestPoke 57 = .ok (.invokevirtual 26, 3) := by decide +kernel
theorem dX2_bestPoke_60 : decode cX2_bestPoke 60 = .ok (.pop, 1) := by decide +kernel
theorem dX2_bestPoke_61 : decode cX2_bestPoke 61 = .ok (.iinc 7 1, 3) := by decide +kernel
theorem dX2_bestPoke_64 : decode cX2_bestPoke 64 = .ok (.goto (-19), 3) := by decide +kernel
theorem dX2_bestPoke_67 : decode cX2_bestPoke 67 = .ok (.aload_n 0, 1) := by decide +kernel
theorem dX2_bestPoke_68 : decode cX2_bestPoke 68 = .ok (.getfield 12, 3) := by decide +kernel
theorem dX2_bestPoke_71 : decode cX2_bestPoke 71 = .ok (.invokevirtual 42, 3) := by decide +kernel
theorem dX2_bestPoke_74 : decode cX2_bestPoke 74 = .ok (.istore 7, 2) := by decide +kernel
theorem dX2_bestPoke_76 : decode cX2_bestPoke 76 = .ok (.iload 7, 2) := by decide +kernel
theorem dX2_bestPoke_78 : decode cX2_bestPoke 78 = .ok (.iload 5, 2) := by decide +kernel
theorem dX2_bestPoke_80 : decode cX2_bestPoke 80 = .ok (.if_icmp .le 11, 3) := by decide +kernel
theorem dX2_bestPoke_83 : decode cX2_bestPoke 83 = .ok (.iload 7, 2) := by decide +kernel
theorem dX2_bestPoke_85 : decode cX2_bestPoke 85 = .ok (.istore 5, 2) := by decide +kernel
theorem dX2_bestPoke_87 : decode cX2_bestPoke 87 = .ok (.iload 6, 2) := by decide +kernel
theorem dX2_bestPoke_89 : decode cX2_bestPoke 89 = .ok (.istore 4, 2) := by decide +kernel
theorem dX2_bestPoke_91 : decode cX2_bestPoke 91 = .ok (.iinc 6 1, 3) := by decide +kernel
theorem dX2_bestPoke_94 : decode cX2_bestPoke 94 = .ok (.goto (-85), 3) := by decide +kernel
theorem dX2_bestPoke_97 : decode cX2_bestPoke 97 = .ok (.iload 4, 2) := by decide +kernel
theorem dX2_bestPoke_99 : decode cX2_bestPoke 99 = .ok (.ireturn, 1) := by decide +kernel
theorem dX2_nextFalls_0 : decode cX2_nextFalls 0 = .ok (.aload_n 0, 1) := by decide +kernel
theorem dX2_nextFalls_1 : decode cX2_nextFalls 1 = .ok (.getfield 12, 3) := by decide +kernel
theorem dX2_nextFalls_4 : decode cX2_nextFalls 4 = .ok (.aload_n 2, 1) := by decide +kernel
theorem dX2_nextFalls_5 : decode cX2_nextFalls 5 = .ok (.invokevirtual 22, 3) := by decide +kernel
theorem dX2_nextFalls_8 : decode cX2_nextFalls 8 = .ok (.aload_n 0, 1) := by decide +kernel
theorem dX2_nextFalls_9 : decode cX2_nextFalls 9 = .ok (.getfield 12, 3) := by decide +kernel
theorem dX2_nextFalls_12 : decode cX2_nextFalls 12 = .ok (.aload_n 1, 1) := by decide +kernel
theorem dX2_nextFalls_13 : decode cX2_nextFalls 13 = .ok (.iconst 1, 1) := by decide +kernel
theorem dX2_nextFalls_14 : decode cX2_nextFalls 14 = .ok (.invokevirtual 26, 3) := by decide +kernel
theorem dX2_nextFalls_17 : decode cX2_nextFalls 17 = .ok (.pop, 1) := by decide +kernel
theorem dX2_nextFalls_18 : decode cX2_nextFalls 18 = .ok (.iconst 0, 1) := by decide +kernel
theorem dX2_nextFalls_19 : decode cX2_nextFalls 19 = .ok (.istore_n 3, 1) := by decide +kernel
theorem dX2_nextFalls_20 : decode cX2_nextFalls 20 = .ok (.iconst 0, 1) := by decide +kernel
theorem dX2_nextFalls_21 : decode cX2_nextFalls 21 = .ok (.istore 4, 2) := by decide +kernel
theorem dX2_nextFalls_23 : decode cX2_nextFalls 23 = .ok (.iload 4, 2) := by decide +kernel
theorem dX2_nextFalls_25 : decode cX2_nextFalls 25 = .ok (.bipush 7, 2) := by decide +kernel
theorem dX2_nextFalls_27 : decode cX2_nextFalls 27 = .ok (.if_icmp .ge 48, 3) := by decide +kernel
theorem dX2_nextFalls_30 : decode cX2_nextFalls 30 = .ok (.aload_n 0, 1) := by decide +kernel
theorem dX2_nextFalls_31 : decode cX2_nextFalls 31 = .ok (.getfield 12, 3) := by decide +kernel
theorem dX2_nextFalls_34 : decode cX2_nextFalls 34 = .ok (.iload 4, 2) := by decide +kernel
theorem dX2_nextFalls_36 : decode cX2_nextFalls 36 = .ok (.invokevirtual 50, 3) := by decide +kernel
theorem dX2_nextFalls_39 : decode cX2_nextFalls 39 = .ok (.ifCond .eq 30, 3) := by decide +kernel
theorem dX2_nextFalls_42 : decode cX2_nextFalls 42 = .ok (.aload_n 0, 1) := by decide +kernel
theorem dX2_nextFalls_43 : decode cX2_nextFalls 43 = .ok (.getfield 12, 3) := by decide +kernel
theorem dX2_nextFalls_46 : decode cX2_nextFalls 46 = .ok (.getfield 65, 3) := by decide +kernel
theorem dX2_nextFalls_49 : decode cX2_nextFalls 49 = .ok (.iload 4, 2) := by decide +kernel
theorem dX2_nextFalls_51 : decode cX2_nextFalls 51 = .ok (.iaload, 1) := by decide +kernel
theorem dX2_nextFalls_52 : decode cX2_nextFalls 52 = .ok (.aload_n 2, 1) := by decide +kernel
theorem dX2_nextFalls_53 : decode cX2_nextFalls 53 = .ok (.getfield 65, 3) := by decide +kernel
theorem dX2_nextFalls_56 : decode cX2_nextFalls 56 = .ok (.iload 4, 2) := by decide +kernel
theorem dX2_nextFalls_58 : decode cX2_nextFalls 58 = .ok (.iaload, 1) := by decide +kernel
theorem dX2_nextFalls_59 : decode cX2_nextFalls 59 = .ok (.if_icmp .eq 10, 3) := by decide +kernel
theorem dX2_nextFalls_62 : decode cX2_nextFalls 62 = .ok (.iload_n 3, 1) := by decide +kernel
theorem dX2_nextFalls_63 : decode cX2_nextFalls 63 = .ok (.iconst 1, 1) := by decide +kernel
theorem dX2_nextFalls_64 : decode cX2_nextFalls 64 = .ok (.iload 4, 2) := by decide +kernel
theorem dX2_nextFalls_66 : decode cX2_nextFalls 66 = .ok (.ishl, 1) := by decide +kernel
theorem dX2_nextFalls_67 : decode cX2_nextFalls 67 = .ok (.ior, 1) := by decide +kernel
theorem dX2_nextFalls_68 : decode cX2_nextFalls 68 = .ok (.istore_n 3, 1) := by decide +kernel
theorem dX2_nextFalls_69 : decode cX2_nextFalls 69 = .ok (.iinc 4 1, 3) := by decide +kernel
theorem dX2_nextFalls_72 : decode cX2_nextFalls 72 = .ok (.goto (-49), 3) := by decide +kernel
theorem dX2_nextFalls_75 : decode cX2_nextFalls 75 = .ok (.iload_n 3, 1) := by decide +kernel
theorem dX2_nextFalls_76 : decode cX2_nextFalls 76 = .ok (.ireturn, 1) := by decide +kernel
theorem dX2_gainBy_0 : decode cX2_gainBy 0 = .ok (.aload_n 0, 1) := by decide +kernel
theorem dX2_gainBy_1 : decode cX2_gainBy 1 = .ok (.getfield 12, 3) := by decide +kernel
theorem dX2_gainBy_4 : decode cX2_gainBy 4 = .ok (.aload_n 2, 1) := by decide +kernel
theorem dX2_gainBy_5 : decode cX2_gainBy 5 = .ok (.invokevirtual 22, 3) := by decide +kernel
theorem dX2_gainBy_8 : decode cX2_gainBy 8 = .ok (.aload_n 0, 1) := by decide +kernel
theorem dX2_gainBy_9 : decode cX2_gainBy 9 = .ok (.aload_n 1, 1) := by decide +kernel
theorem dX2_gainBy_10 : decode cX2_gainBy 10 = .ok (.iconst (-1), 1) := by decide +kernel
theorem dX2_gainBy_11 : decode cX2_gainBy 11 = .ok (.invokevirtual 46, 3) := by decide +kernel
theorem dX2_gainBy_14 : decode cX2_gainBy 14 = .ok (.istore 4, 2) := by decide +kernel
theorem dX2_gainBy_16 : decode cX2_gainBy 16 = .ok (.aload_n 0, 1) := by decide +kernel
theorem dX2_gainBy_17 : decode cX2_gainBy 17 = .ok (.getfield 12, 3) := by decide +kernel
theorem dX2_gainBy_20 : decode cX2_gainBy 20 = .ok (.aload_n 2, 1) := by decide +kernel
theorem dX2_gainBy_21 : decode cX2_gainBy 21 = .ok (.invokevirtual 22, 3) := by decide +kernel
theorem dX2_gainBy_24 : decode cX2_gainBy 24 = .ok (.aload_n 0, 1) := by decide +kernel
theorem dX2_gainBy_25 : decode cX2_gainBy 25 = .ok (.getfield 12, 3) := by decide +kernel
theorem dX2_gainBy_28 : decode cX2_gainBy 28 = .ok (.iload_n 3, 1) := by decide +kernel
theorem dX2_gainBy_29 : decode cX2_gainBy 29 = .ok (.invokevirtual 68, 3) := by decide +kernel
theorem dX2_gainBy_32 : decode cX2_gainBy 32 = .ok (.iload 4, 2) := by decide +kernel
theorem dX2_gainBy_34 : decode cX2_gainBy 34 = .ok (.aload_n 0, 1) := by decide +kernel
theorem dX2_gainBy_35 : decode cX2_gainBy 35 = .ok (.aload_n 1, 1) := by decide +kernel
theorem dX2_gainBy_36 : decode cX2_gainBy 36 = .ok (.iconst (-1), 1) := by decide +kernel
theorem dX2_gainBy_37 : decode cX2_gainBy 37 = .ok (.invokevirtual 46, 3) := by decide +kernel
theorem dX2_gainBy_40 : decode cX2_gainBy 40 = .ok (.isub, 1) := by decide +kernel
theorem dX2_gainBy_41 : decode cX2_gainBy 41 = .ok (.ireturn, 1) := by decide +kernel
theorem dX2_judge_0 : decode cX2_judge 0 = .ok (.iconst (-1), 1) := by decide +kernel
theorem dX2_judge_1 : decode cX2_judge 1 = .ok (.istore 4, 2) := by decide +kernel
theorem dX2_judge_3 : decode cX2_judge 3 = .ok (.iconst (-1), 1) := by decide +kernel
theorem dX2_judge_4 : decode cX2_judge 4 = .ok (.istore 5, 2) := by decide +kernel
theorem dX2_judge_6 : decode cX2_judge 6 = .ok (.aload_n 0, 1) := by decide +kernel
theorem dX2_judge_7 : decode cX2_judge 7 = .ok (.getfield 12, 3) := by decide +kernel
theorem dX2_judge_10 : decode cX2_judge 10 = .ok (.aload_n 1, 1) := by decide +kernel
theorem dX2_judge_11 : decode cX2_judge 11 = .ok (.getfield 71, 3) := by decide +kernel
theorem dX2_judge_14 : decode cX2_judge 14 = .ok (.invokevirtual 22, 3) := by decide +kernel
theorem dX2_judge_17 : decode cX2_judge 17 = .ok (.iconst 0, 1) := by decide +kernel
theorem dX2_judge_18 : decode cX2_judge 18 = .ok (.istore 6, 2) := by decide +kernel
theorem dX2_judge_20 : decode cX2_judge 20 = .ok (.iload 6, 2) := by decide +kernel
theorem dX2_judge_22 : decode cX2_judge 22 = .ok (.aload_n 2, 1) := by decide +kernel
theorem dX2_judge_23 : decode cX2_judge 23 = .ok (.getfield 76, 3) := by decide +kernel
theorem dX2_judge_26 : decode cX2_judge 26 = .ok (.if_icmp .ge 89, 3) := by decide +kernel
theorem dX2_judge_29 : decode cX2_judge 29 = .ok (.iload 6, 2) := by decide +kernel
theorem dX2_judge_31 : decode cX2_judge 31 = .ok (.bipush 40, 2) := by decide +kernel
theorem dX2_judge_33 : decode cX2_judge 33 = .ok (.if_icmp .ge 82, 3) := by decide +kernel
theorem dX2_judge_36 : decode cX2_judge 36 = .ok (.aload_n 2, 1) := by decide +kernel
theorem dX2_judge_37 : decode cX2_judge 37 = .ok (.getfield 82, 3) := by decide +kernel
theorem dX2_judge_40 : decode cX2_judge 40 = .ok (.iload 6, 2) := by decide +kernel
theorem dX2_judge_42 : decode cX2_judge 42 = .ok (.iaload, 1) := by decide +kernel
theorem dX2_judge_43 : decode cX2_judge 43 = .ok (.ifCond .ne 28, 3) := by decide +kernel
theorem dX2_judge_46 : decode cX2_judge 46 = .ok (.aload_n 0, 1) := by decide +kernel
theorem dX2_judge_47 : decode cX2_judge 47 = .ok (.getfield 12, 3) := by decide +kernel
theorem dX2_judge_50 : decode cX2_judge 50 = .ok (.aload_n 1, 1) := by decide +kernel
theorem dX2_judge_51 : decode cX2_judge 51 = .ok (.iconst 1, 1) := by decide +kernel
theorem dX2_judge_52 : decode cX2_judge 52 = .ok (.invokevirtual 26, 3) := by decide +kernel
theorem dX2_judge_55 : decode cX2_judge 55 = .ok (.ifCond .eq 54, 3) := by decide +kernel
theorem dX2_judge_58 : decode cX2_judge 58 = .ok (.iload 5, 2) := by decide +kernel
theorem dX2_judge_60 : decode cX2_judge 60 = .ok (.iconst (-1), 1) := by decide +kernel
theorem dX2_judge_61 : decode cX2_judge 61 = .ok (.if_icmp .ne 48, 3) := by decide +kernel
theorem dX2_judge_64 : decode cX2_judge 64 = .ok (.iload 6, 2) := by decide +kernel
theorem dX2_judge_66 : decode cX2_judge 66 = .ok (.istore 5, 2) := by decide +kernel
theorem dX2_judge_68 : decode cX2_judge 68 = .ok (.goto 41, 3) := by decide +kernel
theorem dX2_judge_71 : decode cX2_judge 71 = .ok (.aload_n 0, 1) := by decide +kernel
theorem dX2_judge_72 : decode cX2_judge 72 = .ok (.aload_n 2, 1) := by decide +kernel
theorem dX2_judge_73 : decode cX2_judge 73 = .ok (.getfield 82, 3) := by decide +kernel
theorem dX2_judge_76 : decode cX2_judge 76 = .ok (.iload 6, 2) := by decide +kernel
theorem dX2_judge_78 : decode cX2_judge 78 = .ok (.iaload, 1) := by decide +kernel
theorem dX2_judge_79 : decode cX2_judge 79 = .ok (.aload_n 2, 1) := by decide +kernel
theorem dX2_judge_80 : decode cX2_judge 80 = .ok (.getfield 85, 3) := by decide +kernel
theorem dX2_judge_83 : decode cX2_judge 83 = .ok (.iload 6, 2) := by decide +kernel
theorem dX2_judge_85 : decode cX2_judge 85 = .ok (.iaload, 1) := by decide +kernel
theorem dX2_judge_86 : decode cX2_judge 86 = .ok (.aload_n 2, 1) := by decide +kernel
theorem dX2_judge_87 : decode cX2_judge 87 = .ok (.getfield 88, 3) := by decide +kernel
theorem dX2_judge_90 : decode cX2_judge 90 = .ok (.iload 6, 2) := by decide +kernel
theorem dX2_judge_92 : decode cX2_judge 92 = .ok (.iaload, 1) := by decide +kernel
theorem dX2_judge_93 : decode cX2_judge 93 = .ok (.invokevirtual 91, 3) := by decide +kernel
theorem dX2_judge_96 : decode cX2_judge 96 = .ok (.ifCond .ne 13, 3) := by decide +kernel
theorem dX2_judge_99 : decode cX2_judge 99 = .ok (.iload 4, 2) := by decide +kernel
theorem dX2_judge_101 : decode cX2_judge 101 = .ok (.iconst (-1), 1) := by decide +kernel
theorem dX2_judge_102 : decode cX2_judge 102 = .ok (.if_icmp .ne 7, 3) := by decide +kernel
theorem dX2_judge_105 : decode cX2_judge 105 = .ok (.iload 6, 2) := by decide +kernel
theorem dX2_judge_107 : decode cX2_judge 107 = .ok (.istore 4, 2) := by decide +kernel
theorem dX2_judge_109 : decode cX2_judge 109 = .ok (.iinc 6 1, 3) := by decide +kernel
theorem dX2_judge_112 : decode cX2_judge 112 = .ok (.goto (-92), 3) := by decide +kernel
theorem dX2_judge_115 : decode cX2_judge 115 = .ok (.iload_n 3, 1) := by decide +kernel
theorem dX2_judge_116 : decode cX2_judge 116 = .ok (.iconst 2, 1) := by decide +kernel
theorem dX2_judge_117 : decode cX2_judge 117 = .ok (.if_icmp .ne 11, 3) := by decide +kernel
theorem dX2_judge_120 : decode cX2_judge 120 = .ok (.aload_n 0, 1) := by decide +kernel
theorem dX2_judge_121 : decode cX2_judge 121 = .ok (.getfield 12, 3) := by decide +kernel
theorem dX2_judge_124 : decode cX2_judge 124 = .ok (.invokevirtual 42, 3) := by decide +kernel
theorem dX2_judge_127 : decode cX2_judge 127 = .ok (.ireturn, 1) := by decide +kernel
theorem dX2_judge_128 : decode cX2_judge 128 = .ok (.iload_n 3, 1) := by decide +kernel
theorem dX2_judge_129 : decode cX2_judge 129 = .ok (.ifCond .ne 8, 3) := by decide +kernel
theorem dX2_judge_132 : decode cX2_judge 132 = .ok (.iload 4, 2) := by decide +kernel
theorem dX2_judge_134 : decode cX2_judge 134 = .ok (.goto 5, 3) := by decide +kernel
theorem dX2_judge_137 : decode cX2_judge 137 = .ok (.iload 5, 2) := by decide +kernel
theorem dX2_judge_139 : decode cX2_judge 139 = .ok (.ireturn, 1) := by decide +kernel
theorem dX2_winter_0 : decode cX2_winter 0 = .ok (.aload_n 0, 1) := by decide +kernel
theorem dX2_winter_1 : decode cX2_winter 1 = .ok (.iload_n 3, 1) := by decide +kernel
theorem dX2_winter_2 : decode cX2_winter 2 = .ok (.i2l, 1) := by decide +kernel
theorem dX2_winter_3 : decode cX2_winter 3 = .ok (.putfield 95, 3) := by decide +kernel
theorem dX2_winter_6 : decode cX2_winter 6 = .ok (.aload_n 0, 1) := by decide +kernel
theorem dX2_winter_7 : decode cX2_winter 7 = .ok (.getfield 12, 3) := by decide +kernel
theorem dX2_winter_10 : decode cX2_winter 10 = .ok (.aload_n 2, 1) := by decide +kernel
theorem dX2_winter_11 : decode cX2_winter 11 = .ok (.invokevirtual 22, 3) := by decide +kernel
theorem dX2_winter_14 : decode cX2_winter 14 = .ok (.iconst 0, 1) := by decide +kernel
theorem dX2_winter_15 : decode cX2_winter 15 = .ok (.istore 6, 2) := by decide +kernel
theorem dX2_winter_17 : decode cX2_winter 17 = .ok (.iconst 0, 1) := by decide +kernel
theorem dX2_winter_18 : decode cX2_winter 18 = .ok (.istore 7, 2) := by decide +kernel
theorem dX2_winter_20 : decode cX2_winter 20 = .ok (.iload 7, 2) := by decide +kernel
theorem dX2_winter_22 : decode cX2_winter 22 = .ok (.iload 4, 2) := by decide +kernel
theorem dX2_winter_24 : decode cX2_winter 24 = .ok (.if_icmp .ge 41, 3) := by decide +kernel
theorem dX2_winter_27 : decode cX2_winter 27 = .ok (.aload_n 1, 1) := by decide +kernel
theorem dX2_winter_28 : decode cX2_winter 28 = .ok (.getfield 99, 3) := by decide +kernel
theorem dX2_winter_31 : decode cX2_winter 31 = .ok (.ifCond .le 11, 3) := by decide +kernel
theorem dX2_winter_34 : decode cX2_winter 34 = .ok (.aload_n 0, 1) := by decide +kernel
theorem dX2_winter_35 : decode cX2_winter 35 = .ok (.aload_n 1, 1) := by decide +kernel
theorem dX2_winter_36 : decode cX2_winter 36 = .ok (.getfield 99, 3) := by decide +kernel
theorem dX2_winter_39 : decode cX2_winter 39 = .ok (.invokevirtual 102, 3) := by decide +kernel
theorem dX2_winter_42 : decode cX2_winter 42 = .ok (.iload 6, 2) := by decide +kernel
theorem dX2_winter_44 : decode cX2_winter 44 = .ok (.aload_n 0, 1) := by decide +kernel
theorem dX2_winter_45 : decode cX2_winter 45 = .ok (.getfield 12, 3) := by decide +kernel
theorem dX2_winter_48 : decode cX2_winter 48 = .ok (.aload_n 1, 1) := by decide +kernel
theorem dX2_winter_49 : decode cX2_winter 49 = .ok (.iconst 1, 1) := by decide +kernel
theorem dX2_winter_50 : decode cX2_winter 50 = .ok (.invokevirtual 26, 3) := by decide +kernel
theorem dX2_winter_53 : decode cX2_winter 53 = .ok (.invokestatic 105, 3) := by decide +kernel
theorem dX2_winter_56 : decode cX2_winter 56 = .ok (.iadd, 1) := by decide +kernel
theorem dX2_winter_57 : decode cX2_winter 57 = .ok (.istore 6, 2) := by decide +kernel
theorem dX2_winter_59 : decode cX2_winter 59 = .ok (.iinc 7 1, 3) := by decide +kernel
theorem dX2_winter_62 : decode cX2_winter 62 = .ok (.goto (-42), 3) := by decide +kernel
theorem dX2_winter_65 : decode cX2_winter 65 = .ok (.iload 5, 2) := by decide +kernel
theorem dX2_winter_67 : decode cX2_winter 67 = .ok (.ifCond .ne 6, 3) := by decide +kernel
theorem dX2_winter_70 : decode cX2_winter 70 = .ok (.iload 6, 2) := by decide +kernel
theorem dX2_winter_72 : decode cX2_winter 72 = .ok (.ireturn, 1) := by decide +kernel
theorem dX2_winter_73 : decode cX2_winter 73 = .ok (.iload 5, 2) := by decide +kernel
theorem dX2_winter_75 : decode cX2_winter 75 = .ok (.iconst 1, 1) := by decide +kernel
theorem dX2_winter_76 : decode cX2_winter 76 = .ok (.if_icmp .ne 17, 3) := by decide +kernel
theorem dX2_winter_79 : decode cX2_winter 79 = .ok (.aload_n 0, 1) := by decide +kernel
theorem dX2_winter_80 : decode cX2_winter 80 = .ok (.getfield 12, 3) := by decide +kernel
theorem dX2_winter_83 : decode cX2_winter 83 = .ok (.aload_n 1, 1) := by decide +kernel
theorem dX2_winter_84 : decode cX2_winter 84 = .ok (.invokevirtual 30, 3) := by decide +kernel
theorem dX2_winter_87 : decode cX2_winter 87 = .ok (.invokestatic 105, 3) := by decide +kernel
theorem dX2_winter_90 : decode cX2_winter 90 = .ok (.goto 10, 3) := by decide +kernel
theorem dX2_winter_93 : decode cX2_winter 93 = .ok (.aload_n 0, 1) := by decide +kernel
theorem dX2_winter_94 : decode cX2_winter 94 = .ok (.getfield 12, 3) := by decide +kernel
theorem dX2_winter_97 : decode cX2_winter 97 = .ok (.invokevirtual 42, 3) := by decide +kernel
theorem dX2_winter_100 : decode cX2_winter 100 = .ok (.ireturn, 1) := by decide +kernel
theorem dX2_tryLine_0 : decode cX2_tryLine 0 = .ok (.iload_n 1, 1) := by decide +kernel
theorem dX2_tryLine_1 : decode cX2_tryLine 1 = .ok (.iconst 4, 1) := by decide +kernel
theorem dX2_tryLine_2 : decode cX2_tryLine 2 = .ok (.if_icmp .ne 27, 3) := by decide +kernel
theorem dX2_tryLine_5 : decode cX2_tryLine 5 = .ok (.aload_n 0, 1) := by decide +kernel
theorem dX2_tryLine_6 : decode cX2_tryLine 6 = .ok (.getfield 12, 3) := by decide +kernel
theorem dX2_tryLine_9 : decode cX2_tryLine 9 = .ok (.aload_n 0, 1) := by decide +kernel
theorem dX2_tryLine_10 : decode cX2_tryLine 10 = .ok (.getfield 12, 3) := by decide +kernel
theorem dX2_tryLine_13 : decode cX2_tryLine 13 = .ok (.getfield 110, 3) := by decide +kernel
theorem dX2_tryLine_16 : decode cX2_tryLine 16 = .ok (.ifCond .ne 7, 3) := by decide +kernel
theorem dX2_tryLine_19 : decode cX2_tryLine 19 = .ok (.iconst 1, 1) := by decide +kernel
theorem dX2_tryLine_20 : decode cX2_tryLine 20 = .ok (.goto 4, 3) := by decide +kernel
theorem dX2_tryLine_23 : decode cX2_tryLine 23 = .ok (.iconst 0, 1) := by decide +kernel
theorem dX2_tryLine_24 : decode cX2_tryLine 24 = .ok (.putfield 110, 3) := by decide +kernel
theorem dX2_tryLine_27 : decode cX2_tryLine 27 = .ok (.iconst 1, 1) := by decide +kernel
theorem dX2_tryLine_28 : decode cX2_tryLine 28 = .ok (.ireturn, 1) := by decide +kernel
theorem dX2_tryLine_29 : decode cX2_tryLine 29 = .ok (.aload_n 0, 1) := by decide +kernel
theorem dX2_tryLine_30 : decode cX2_tryLine 30 = .ok (.getfield 12, 3) := by decide +kernel
theorem dX2_tryLine_33 : decode cX2_tryLine 33 = .ok (.iload_n 2, 1) := by decide +kernel
theorem dX2_tryLine_34 : decode cX2_tryLine 34 = .ok (.invokevirtual 50, 3) := by decide +kernel
theorem dX2_tryLine_37 : decode cX2_tryLine 37 = .ok (.ifCond .eq 19, 3) := by decide +kernel
theorem dX2_tryLine_40 : decode cX2_tryLine 40 = .ok (.iload_n 1, 1) := by decide +kernel
theorem dX2_tryLine_41 : decode cX2_tryLine 41 = .ok (.iconst 2, 1) := by decide +kernel
theorem dX2_tryLine_42 : decode cX2_tryLine 42 = .ok (.if_icmp .ne 16, 3) := by decide +kernel
theorem dX2_tryLine_45 : decode cX2_tryLine 45 = .ok (.aload_n 0, 1) := by decide +kernel
theorem dX2_tryLine_46 : decode cX2_tryLine 46 = .ok (.getfield 12, 3) := by decide +kernel
theorem dX2_tryLine_49 : decode cX2_tryLine 49 = .ok (.iload_n 3, 1) := by decide +kernel
theorem dX2_tryLine_50 : decode cX2_tryLine 50 = .ok (.invokevirtual 54, 3) := by decide +kernel
theorem dX2_tryLine_53 : decode cX2_tryLine 53 = .ok (.ifCond .ne 5, 3) := by decide +kernel
theorem dX2_tryLine_56 : decode cX2_tryLine 56 = .ok (.iconst 0, 1) := by decide +kernel
theorem dX2_tryLine_57 : decode cX2_tryLine 57 = .ok (.ireturn, 1) := by decide +kernel
theorem dX2_tryLine_58 : decode cX2_tryLine 58 = .ok (.iload_n 1, 1) := by decide +kernel
theorem dX2_tryLine_59 : decode cX2_tryLine 59 = .ok (.iconst 1, 1) := by decide +kernel
theorem dX2_tryLine_60 : decode cX2_tryLine 60 = .ok (.if_icmp .ne 14, 3) := by decide +kernel
theorem dX2_tryLine_63 : decode cX2_tryLine 63 = .ok (.aload_n 0, 1) := by decide +kernel
theorem dX2_tryLine_64 : decode cX2_tryLine 64 = .ok (.getfield 12, 3) := by decide +kernel
theorem dX2_tryLine_67 : decode cX2_tryLine 67 = .ok (.iload_n 2, 1) := by decide +kernel
theorem dX2_tryLine_68 : decode cX2_tryLine 68 = .ok (.invokevirtual 61, 3) := by decide +kernel
theorem dX2_tryLine_71 : decode cX2_tryLine 71 = .ok (.goto 29, 3) := by decide +kernel
theorem dX2_tryLine_74 : decode cX2_tryLine 74 = .ok (.iload_n 1, 1) := by decide +kernel
theorem dX2_tryLine_75 : decode cX2_tryLine 75 = .ok (.iconst 2, 1) := by decide +kernel
theorem dX2_tryLine_76 : decode cX2_tryLine 76 = .ok (.if_icmp .ne 15, 3) := by decide +kernel
theorem dX2_tryLine_79 : decode cX2_tryLine 79 = .ok (.aload_n 0, 1) := by decide +kernel
theorem dX2_tryLine_80 : decode cX2_tryLine 80 = .ok (.getfield 12, 3) := by decide +kernel
theorem dX2_tryLine_83 : decode cX2_tryLine 83 = .ok (.iload_n 2, 1) := by decide +kernel
theorem dX2_tryLine_84 : decode cX2_tryLine 84 = .ok (.iload_n 3, 1) := by decide +kernel
theorem dX2_tryLine_85 : decode cX2_tryLine 85 = .ok (.invokevirtual 57, 3) := by decide +kernel
theorem dX2_tryLine_88 : decode cX2_tryLine 88 = .ok (.goto 12, 3) := by decide +kernel
theorem dX2_tryLine_91 : decode cX2_tryLine 91 = .ok (.aload_n 0, 1) := by decide +kernel
theorem dX2_tryLine_92 : decode cX2_tryLine 92 = .ok (.getfield 12, 3) := by decide +kernel
theorem dX2_tryLine_95 : decode cX2_tryLine 95 = .ok (.iload_n 2, 1) := by decide +kernel
theorem dX2_tryLine_96 : decode cX2_tryLine 96 = .ok (.iload_n 3, 1) := by decide +kernel
theorem dX2_tryLine_97 : decode cX2_tryLine 97 = .ok (.invokevirtual 114, 3) := by decide +kernel
theorem dX2_tryLine_100 : decode cX2_tryLine 100 = .ok (.iconst 1, 1) := by decide +kernel
theorem dX2_tryLine_101 : decode cX2_tryLine 101 = .ok (.ireturn, 1) := by decide +kernel
theorem dX2_tend_0 : decode cX2_tend 0 = .ok (.aload_n 0, 1) := by decide +kernel
theorem dX2_tend_1 : decode cX2_tend 1 = .ok (.iconst 4, 1) := by decide +kernel
theorem dX2_tend_2 : decode cX2_tend 2 = .ok (.invokevirtual 117, 3) := by decide +kernel
theorem dX2_tend_5 : decode cX2_tend 5 = .ok (.istore_n 2, 1) := by decide +kernel
theorem dX2_tend_6 : decode cX2_tend 6 = .ok (.iload_n 2, 1) := by decide +kernel
theorem dX2_tend_7 : decode cX2_tend 7 = .ok (.ifCond .ne 18, 3) := by decide +kernel
theorem dX2_tend_10 : decode cX2_tend 10 = .ok (.aload_n 0, 1) := by decide +kernel
theorem dX2_tend_11 : decode cX2_tend 11 = .ok (.getfield 12, 3) := by decide +kernel
theorem dX2_tend_14 : decode cX2_tend 14 = .ok (.aload_n 0, 1) := by decide +kernel
theorem dX2_tend_15 : decode cX2_tend 15 = .ok (.iload_n 1, 1) := by decide +kernel
theorem dX2_tend_16 : decode cX2_tend 16 = .ok (.invokevirtual 117, 3) := by decide +kernel
theorem dX2_tend_19 : decode cX2_tend 19 = .ok (.invokevirtual 61, 3) := by decide +kernel
theorem dX2_tend_22 : decode cX2_tend 22 = .ok (.goto 34, 3) := by decide +kernel
theorem dX2_tend_25 : decode cX2_tend 25 = .ok (.iload_n 2, 1) := by decide +kernel
theorem dX2_tend_26 : decode cX2_tend 26 = .ok (.iconst 1, 1) := by decide +kernel
theorem dX2_tend_27 : decode cX2_tend 27 = .ok (.if_icmp .ne 29, 3) := by decide +kernel
theorem dX2_tend_30 : decode cX2_tend 30 = .ok (.aload_n 0, 1) := by decide +kernel
theorem dX2_tend_31 : decode cX2_tend 31 = .ok (.iload_n 1, 1) := by decide +kernel
theorem dX2_tend_32 : decode cX2_tend 32 = .ok (.invokevirtual 117, 3) := by decide +kernel
theorem dX2_tend_35 : decode cX2_tend 35 = .ok (.istore_n 3, 1) := by decide +kernel
theorem dX2_tend_36 : decode cX2_tend 36 = .ok (.aload_n 0, 1) := by decide +kernel
theorem dX2_tend_37 : decode cX2_tend 37 = .ok (.bipush 9, 2) := by decide +kernel
theorem dX2_tend_39 : decode cX2_tend 39 = .ok (.invokevirtual 117, 3) := by decide +kernel
theorem dX2_tend_42 : decode cX2_tend 42 = .ok (.iconst 1, 1) := by decide +kernel
theorem dX2_tend_43 : decode cX2_tend 43 = .ok (.iadd, 1) := by decide +kernel
theorem dX2_tend_44 : decode cX2_tend 44 = .ok (.istore 4, 2) := by decide +kernel
theorem dX2_tend_46 : decode cX2_tend 46 = .ok (.aload_n 0, 1) := by decide +kernel
theorem dX2_tend_47 : decode cX2_tend 47 = .ok (.getfield 12, 3) := by decide +kernel
theorem dX2_tend_50 : decode cX2_tend 50 = .ok (.iload_n 3, 1) := by decide +kernel
theorem dX2_tend_51 : decode cX2_tend 51 = .ok (.iload 4, 2) := by decide +kernel
theorem dX2_tend_53 : decode cX2_tend 53 = .ok (.invokevirtual 114, 3) := by decide +kernel
theorem dX2_tend_56 : decode cX2_tend 56 = .ok (.return_, 1) := by decide +kernel
theorem dX2_draw_0 : decode cX2_draw 0 = .ok (.aload_n 0, 1) := by decide +kernel
theorem dX2_draw_1 : decode cX2_draw 1 = .ok (.aload_n 0, 1) := by decide +kernel
theorem dX2_draw_2 : decode cX2_draw 2 = .ok (.getfield 95, 3) := by decide +kernel
theorem dX2_draw_5 : decode cX2_draw 5 = .ok (.ldc2_w 120, 3) := by decide +kernel
theorem dX2_draw_8 : decode cX2_draw 8 = .ok (.lmul, 1) := by decide +kernel
theorem dX2_draw_9 : decode cX2_draw 9 = .ok (.ldc2_w 122, 3) := by decide +kernel
theorem dX2_draw_12 : decode cX2_draw 12 = .ok (.ladd, 1) := by decide +kernel
theorem dX2_draw_13 : decode cX2_draw 13 = .ok (.ldc2_w 124, 3) := by decide +kernel
theorem dX2_draw_16 : decode cX2_draw 16 = .ok (.land, 1) := by decide +kernel
theorem dX2_draw_17 : decode cX2_draw 17 = .ok (.putfield 95, 3) := by decide +kernel
theorem dX2_draw_20 : decode cX2_draw 20 = .ok (.iload_n 1, 1) := by decide +kernel
theorem dX2_draw_21 : decode cX2_draw 21 = .ok (.ifCond .le 18, 3) := by decide +kernel
theorem dX2_draw_24 : decode cX2_draw 24 = .ok (.aload_n 0, 1) := by decide +kernel
theorem dX2_draw_25 : decode cX2_draw 25 = .ok (.getfield 95, 3) := by decide +kernel
theorem dX2_draw_28 : decode cX2_draw 28 = .ok (.ldc2_w 126, 3) := by decide +kernel
theorem dX2_draw_31 : decode cX2_draw 31 = .ok (.ldiv, 1) := by decide +kernel
theorem dX2_draw_32 : decode cX2_draw 32 = .ok (.iload_n 1, 1) := by decide +kernel
theorem dX2_draw_33 : decode cX2_draw 33 = .ok (.i2l, 1) := by decide +kernel
theorem dX2_draw_34 : decode cX2_draw 34 = .ok (.lrem, 1) := by decide +kernel
theorem dX2_draw_35 : decode cX2_draw 35 = .ok (.l2i, 1) := by decide +kernel
theorem dX2_draw_36 : decode cX2_draw 36 = .ok (.goto 4, 3) := by decide +kernel
theorem dX2_draw_39 : decode cX2_draw 39 = .ok (.iconst 0, 1) := by decide +kernel
theorem dX2_draw_40 : decode cX2_draw 40 = .ok (.ireturn, 1) := by decide +kernel
theorem dX2_trialLasts_0 : decode cX2_trialLasts 0 = .ok (.iconst 0, 1) := by decide +kernel
theorem dX2_trialLasts_1 : decode cX2_trialLasts 1 = .ok (.istore_n 3, 1) := by decide +kernel
theorem dX2_trialLasts_2 : decode cX2_trialLasts 2 = .ok (.iload_n 3, 1) := by decide +kernel
theorem dX2_trialLasts_3 : decode cX2_trialLasts 3 = .ok (.bipush 40, 2) := by decide +kernel
theorem dX2_trialLasts_5 : decode cX2_trialLasts 5 = .ok (.if_icmp .gt 59, 3) := by decide +kernel
theorem dX2_trialLasts_8 : decode cX2_trialLasts 8 = .ok (.aload_n 0, 1) := by decide +kernel
theorem dX2_trialLasts_9 : decode cX2_trialLasts 9 = .ok (.getfield 12, 3) := by decide +kernel
theorem dX2_trialLasts_12 : decode cX2_trialLasts 12 = .ok (.aload_n 1, 1) := by decide +kernel
theorem dX2_trialLasts_13 : decode cX2_trialLasts 13 = .ok (.invokevirtual 30, 3) := by decide +kernel
theorem dX2_trialLasts_16 : decode cX2_trialLasts 16 = .ok (.ifCond .ne 5, 3) := by decide +kernel
theorem dX2_trialLasts_19 : decode cX2_trialLasts 19 = .ok (.iload_n 3, 1) := by decide +kernel
theorem dX2_trialLasts_20 : decode cX2_trialLasts 20 = .ok (.ireturn, 1) := by decide +kernel
theorem dX2_trialLasts_21 : decode cX2_trialLasts 21 = .ok (.iload_n 3, 1) := by decide +kernel
theorem dX2_trialLasts_22 : decode cX2_trialLasts 22 = .ok (.iload_n 2, 1) := by decide +kernel
theorem dX2_trialLasts_23 : decode cX2_trialLasts 23 = .ok (.if_icmp .ne 25, 3) := by decide +kernel
theorem dX2_trialLasts_26 : decode cX2_trialLasts 26 = .ok (.aload_n 0, 1) := by decide +kernel
theorem dX2_trialLasts_27 : decode cX2_trialLasts 27 = .ok (.getfield 12, 3) := by decide +kernel
theorem dX2_trialLasts_30 : decode cX2_trialLasts 30 = .ok (.aload_n 0, 1) := by decide +kernel
theorem dX2_trialLasts_31 : decode cX2_trialLasts 31 = .ok (.getfield 12, 3) := by decide +kernel
theorem dX2_trialLasts_34 : decode cX2_trialLasts 34 = .ok (.getfield 110, 3) := by decide +kernel
theorem dX2_trialLasts_37 : decode cX2_trialLasts 37 = .ok (.ifCond .ne 7, 3) := by decide +kernel
theorem dX2_trialLasts_40 : decode cX2_trialLasts 40 = .ok (.iconst 1, 1) := by decide +kernel
theorem dX2_trialLasts_41 : decode cX2_trialLasts 41 = .ok (.goto 4, 3) := by decide +kernel
theorem dX2_trialLasts_44 : decode cX2_trialLasts 44 = .ok (.iconst 0, 1) := by decide +kernel
theorem dX2_trialLasts_45 : decode cX2_trialLasts 45 = .ok (.putfield 110, 3) := by decide +kernel
theorem dX2_trialLasts_48 : decode cX2_trialLasts 48 = .ok (.aload_n 0, 1) := by decide +kernel
theorem dX2_trialLasts_49 : decode cX2_trialLasts 49 = .ok (.getfield 12, 3) := by decide +kernel
theorem dX2_trialLasts_52 : decode cX2_trialLasts 52 = .ok (.aload_n 1, 1) := by decide +kernel
theorem dX2_trialLasts_53 : decode cX2_trialLasts 53 = .ok (.iconst 1, 1) := by decide +kernel
theorem dX2_trialLasts_54 : decode cX2_trialLasts 54 = .ok (.invokevirtual 26, 3) := by decide +kernel
theorem dX2_trialLasts_57 : decode cX2_trialLasts 57 = .ok (.pop, 1) := by decide +kernel
theorem dX2_trialLasts_58 : decode cX2_trialLasts 58 = .ok (.iinc 3 1, 3) := by decide +kernel
theorem dX2_trialLasts_61 : decode cX2_trialLasts 61 = .ok (.goto (-59), 3) := by decide +kernel
theorem dX2_trialLasts_64 : decode cX2_trialLasts 64 = .ok (.bipush 41, 2) := by decide +kernel
theorem dX2_trialLasts_66 : decode cX2_trialLasts 66 = .ok (.ireturn, 1) := by decide +kernel
theorem dX3_init_0 : decode cX3_init 0 = .ok (.aload_n 0, 1) := by decide +kernel
theorem dX3_init_1 : decode cX3_init 1 = .ok (.invokespecial 3, 3) := by decide +kernel
theorem dX3_init_4 : decode cX3_init 4 = .ok (.aload_n 0, 1) := by decide +kernel
theorem dX3_init_5 : decode cX3_init 5 = .ok (.bipush 7, 2) := by decide +kernel
theorem dX3_init_7 : decode cX3_init 7 = .ok (.newarray .long, 2) := by decide +kernel
theorem dX3_init_9 : decode cX3_init 9 = .ok (.putfield 9, 3) := by decide +kernel
theorem dX3_init_12 : decode cX3_init 12 = .ok (.aload_n 0, 1) := by decide +kernel
theorem dX3_init_13 : decode cX3_init 13 = .ok (.bipush 7, 2) := by decide +kernel
theorem dX3_init_15 : decode cX3_init 15 = .ok (.newarray .int, 2) := by decide +kernel
theorem dX3_init_17 : decode cX3_init 17 = .ok (.putfield 15, 3) := by decide +kernel
theorem dX3_init_20 : decode cX3_init 20 = .ok (.aload_n 0, 1) := by decide +kernel
theorem dX3_init_21 : decode cX3_init 21 = .ok (.new 19, 3) := by decide +kernel
theorem dX3_init_24 : decode cX3_init 24 = .ok (.dup, 1) := by decide +kernel
theorem dX3_init_25 : decode cX3_init 25 = .ok (.invokespecial 21, 3) := by decide +kernel
theorem dX3_init_28 : decode cX3_init 28 = .ok (.putfield 22, 3) := by decide +kernel
theorem dX3_init_31 : decode cX3_init 31 = .ok (.aload_n 0, 1) := by decide +kernel
theorem dX3_init_32 : decode cX3_init 32 = .ok (.new 26, 3) := by decide +kernel
theorem dX3_init_35 : decode cX3_init 35 = .ok (.dup, 1) := by decide +kernel
theorem dX3_init_36 : decode cX3_init 36 = .ok (.invokespecial 28, 3) := by decide +kernel
theorem dX3_init_39 : decode cX3_init 39 = .ok (.putfield 29, 3) := by decide +kernel
theorem dX3_init_42 : decode cX3_init 42 = .ok (.aload_n 0, 1) := by decide +kernel
theorem dX3_init_43 : decode cX3_init 43 = .ok (.iconst 5, 1) := by decide +kernel
theorem dX3_init_44 : decode cX3_init 44 = .ok (.putfield 33, 3) := by decide +kernel
theorem dX3_init_47 : decode cX3_init 47 = .ok (.aload_n 0, 1) := by decide +kernel
theorem dX3_init_48 : decode cX3_init 48 = .ok (.bipush 12, 2) := by decide +kernel
theorem dX3_init_50 : decode cX3_init 50 = .ok (.newarray .int, 2) := by decide +kernel
theorem dX3_init_52 : decode cX3_init 52 = .ok (.putfield 37, 3) := by decide +kernel
theorem dX3_init_55 : decode cX3_init 55 = .ok (.return_, 1) := by decide +kernel
theorem dX3_forget_0 : decode cX3_forget 0 = .ok (.aload_n 0, 1) := by decide +kernel
theorem dX3_forget_1 : decode cX3_forget 1 = .ok (.getfield 22, 3) := by decide +kernel
theorem dX3_forget_4 : decode cX3_forget 4 = .ok (.invokevirtual 40, 3) := by decide +kernel
theorem dX3_forget_7 : decode cX3_forget 7 = .ok (.aload_n 0, 1) := by decide +kernel
theorem dX3_forget_8 : decode cX3_forget 8 = .ok (.getfield 29, 3) := by decide +kernel
theorem dX3_forget_11 : decode cX3_forget 11 = .ok (.iconst 0, 1) := by decide +kernel
theorem dX3_forget_12 : decode cX3_forget 12 = .ok (.putfield 43, 3) := by decide +kernel
theorem dX3_forget_15 : decode cX3_forget 15 = .ok (.aload_n 0, 1) := by decide +kernel
theorem dX3_forget_16 : decode cX3_forget 16 = .ok (.iconst 0, 1) := by decide +kernel
theorem dX3_forget_17 : decode cX3_forget 17 = .ok (.putfield 46, 3) := by decide +kernel
theorem dX3_forget_20 : decode cX3_forget 20 = .ok (.aload_n 0, 1) := by decide +kernel
theorem dX3_forget_21 : decode cX3_forget 21 = .ok (.iconst 5, 1) := by decide +kernel
theorem dX3_forget_22 : decode cX3_forget 22 = .ok (.putfield 33, 3) := by decide +kernel
theorem dX3_forget_25 : decode cX3_forget 25 = .ok (.aload_n 0, 1) := by decide +kernel
theorem dX3_forget_26 : decode cX3_forget 26 = .ok (.iconst 0, 1) := by decide +kernel
theorem dX3_forget_27 : decode cX3_forget 27 = .ok (.putfield 49, 3) := by decide +kernel
theorem dX3_forget_30 : decode cX3_forget 30 = .ok (.aload_n 0, 1) := by decide +kernel
theorem dX3_forget_31 : decode cX3_forget 31 = .ok (.iconst 0, 1) := by decide +kernel
theorem dX3_forget_32 : decode cX3_forget 32 = .ok (.putfield 53, 3) := by decide +kernel
theorem dX3_forget_35 : decode cX3_forget 35 = .ok (.return_, 1) := by decide +kernel
theorem dX3_addEmber_0 : decode cX3_addEmber 0 = .ok (.aload_n 0, 1) := by decide +kernel
theorem dX3_addEmber_1 : decode cX3_addEmber 1 = .ok (.getfield 46, 3) := by decide +kernel
theorem dX3_addEmber_4 : decode cX3_addEmber 4 = .ok (.bipush 7, 2) := by decide +kernel
theorem dX3_addEmber_6 : decode cX3_addEmber 6 = .ok (.if_icmp .ge 33, 3) := by decide +kernel
theorem dX3_addEmber_9 : decode cX3_addEmber 9 = .ok (.aload_n 0, 1) := by decide +kernel
theorem dX3_addEmber_10 : decode cX3_addEmber 10 = .ok (.getfield 9, 3) := by decide +kernel
theorem dX3_addEmber_13 : decode cX3_addEmber 13 = .ok (.aload_n 0, 1) := by decide +kernel
theorem dX3_addEmber_14 : decode cX3_addEmber 14 = .ok (.getfield 46, 3) := by decide +kernel
theorem dX3_addEmber_17 : decode cX3_addEmber 17 = .ok (.lload_n 1, 1) := by decide +kernel
theorem dX3_addEmber_18 : decode cX3_addEmber 18 = .ok (.lastore, 1) := by decide +kernel
theorem dX3_addEmber_19 : decode cX3_addEmber 19 = .ok (.aload_n 0, 1) := by decide +kernel
theorem dX3_addEmber_20 : decode cX3_addEmber 20 = .ok (.getfield 15, 3) := by decide +kernel
theorem dX3_addEmber_23 : decode cX3_addEmber 23 = .ok (.aload_n 0, 1) := by decide +kernel
theorem dX3_addEmber_24 : decode cX3_addEmber 24 = .ok (.getfield 46, 3) := by decide +kernel
theorem dX3_addEmber_27 : decode cX3_addEmber 27 = .ok (.iload_n 3, 1) := by decide +kernel
theorem dX3_addEmber_28 : decode cX3_addEmber 28 = .ok (.iastore, 1) := by decide +kernel
theorem dX3_addEmber_29 : decode cX3_addEmber 29 = .ok (.aload_n 0, 1) := by decide +kernel
theorem dX3_addEmber_30 : decode cX3_addEmber 30 = .ok (.dup, 1) := by decide +kernel
theorem dX3_addEmber_31 : decode cX3_addEmber 31 = .ok (.getfield 46, 3) := by decide +kernel
theorem dX3_addEmber_34 : decode cX3_addEmber 34 = .ok (.iconst 1, 1) := by decide +kernel
theorem dX3_addEmber_35 : decode cX3_addEmber 35 = .ok (.iadd, 1) := by decide +kernel
theorem dX3_addEmber_36 : decode cX3_addEmber 36 = .ok (.putfield 46, 3) := by decide +kernel
theorem dX3_addEmber_39 : decode cX3_addEmber 39 = .ok (.return_, 1) := by decide +kernel
theorem dX3_addDraught_0 : decode cX3_addDraught 0 = .ok (.aload_n 0, 1) := by decide +kernel
theorem dX3_addDraught_1 : decode cX3_addDraught 1 = .ok (.getfield 53, 3) := by decide +kernel
theorem dX3_addDraught_4 : decode cX3_addDraught 4 = .ok (.bipush 12, 2) := by decide +kernel
theorem dX3_addDraught_6 : decode cX3_addDraught 6 = .ok (.if_icmp .ge 23, 3) := by decide +kernel
theorem dX3_addDraught_9 : decode cX3_addDraught 9 = .ok (.aload_n 0, 1) := by decide +kernel
theorem dX3_addDraught_10 : decode cX3_addDraught 10 = .ok (.getfield 37, 3) := by decide +kernel
theorem dX3_addDraught_13 : decode cX3_addDraught 13 = .ok (.aload_n 0, 1) := by decide +kernel
theorem dX3_addDraught_14 : decode cX3_addDraught 14 = .ok (.getfield 53, 3) := by decide +kernel
theorem dX3_addDraught_17 : decode cX3_addDraught 17 = .ok (.iload_n 1, 1) := by decide +kernel
theorem dX3_addDraught_18 : decode cX3_addDraught 18 = .ok (.iastore, 1) := by decide +kernel
theorem dX3_addDraught_19 : decode cX3_addDraught 19 = .ok (.aload_n 0, 1) := by decide +kernel
theorem dX3_addDraught_20 : decode cX3_addDraught 20 = .ok (.dup, 1) := by decide +kernel
theorem dX3_addDraught_21 : decode cX3_addDraught 21 = .ok (.getfield 53, 3) := by decide +kernel
theorem dX3_addDraught_24 : decode cX3_addDraught 24 = .ok (.iconst 1, 1) := by decide +kernel
theorem dX3_addDraught_25 : decode cX3_addDraught 25 = .ok (.iadd, 1) := by decide +kernel
theorem dX3_addDraught_26 : decode cX3_addDraught 26 = .ok (.putfield 53, 3) := by decide +kernel
theorem dX3_addDraught_29 : decode cX3_addDraught 29 = .ok (.return_, 1) := by decide +kernel
theorem dX3_emberNamed_0 : decode cX3_emberNamed 0 = .ok (.iconst 0, 1) := by decide +kernel
theorem dX3_emberNamed_1 : decode cX3_emberNamed 1 = .ok (.istore_n 3, 1) := by decide +kernel
theorem dX3_emberNamed_2 : decode cX3_emberNamed 2 = .ok (.iload_n 3, 1) := by decide +kernel
theorem dX3_emberNamed_3 : decode cX3_emberNamed 3 = .ok (.aload_n 0, 1) := by decide +kernel
theorem dX3_emberNamed_4 : decode cX3_emberNamed 4 = .ok (.getfield 46, 3) := by decide +kernel
theorem dX3_emberNamed_7 : decode cX3_emberNamed 7 = .ok (.if_icmp .ge 28, 3) := by decide +kernel
theorem dX3_emberNamed_10 : decode cX3_emberNamed 10 = .ok (.iload_n 3, 1) := by decide +kernel
theorem dX3_emberNamed_11 : decode cX3_emberNamed 11 = .ok (.bipush 7, 2) := by decide +kernel
theorem dX3_emberNamed_13 : decode cX3_emberNamed 13 = .ok (.if_icmp .ge 22, 3) := by decide +kernel
theorem dX3_emberNamed_16 : decode cX3_emberNamed 16 = .ok (.aload_n 0, 1) := by decide +kernel
theorem dX3_emberNamed_17 : decode cX3_emberNamed 17 = .ok (.getfield 9, 3) := by decide +kernel
theorem dX3_emberNamed_20 : decode cX3_emberNamed 20 = .ok (.iload_n 3, 1) := by decide +kernel
theorem dX3_emberNamed_21 : decode cX3_emberNamed 21 = .ok (.laload, 1) := by decide +kernel
theorem dX3_emberNamed_22 : decode cX3_emberNamed 22 = .ok (.lload_n 1, 1) := by decide +kernel
theorem dX3_emberNamed_23 : decode cX3_emberNamed 23 = .ok (.lcmp, 1) := by decide +kernel
theorem dX3_emberNamed_24 : decode cX3_emberNamed 24 = .ok (.ifCond .ne 5, 3) := by decide +kernel
theorem dX3_emberNamed_27 : decode cX3_emberNamed 27 = .ok (.iload_n 3, 1) := by decide +kernel
theorem dX3_emberNamed_28 : decode cX3_emberNamed 28 = .ok (.ireturn, 1) := by decide +kernel
theorem dX3_emberNamed_29 : decode cX3_emberNamed 29 = .ok (.iinc 3 1, 3) := by decide +kernel
theorem dX3_emberNamed_32 : decode cX3_emberNamed 32 = .ok (.goto (-30), 3) := by decide +kernel
theorem dX3_emberNamed_35 : decode cX3_emberNamed 35 = .ok (.iconst (-1), 1) := by decide +kernel
theorem dX3_emberNamed_36 : decode cX3_emberNamed 36 = .ok (.ireturn, 1) := by decide +kernel
theorem dX3_draughtAt_0 : decode cX3_draughtAt 0 = .ok (.aload_n 0, 1) := by decide +kernel
theorem dX3_draughtAt_1 : decode cX3_draughtAt 1 = .ok (.getfield 53, 3) := by decide +kernel
theorem dX3_draughtAt_4 : decode cX3_draughtAt 4 = .ok (.ifCond .le 7, 3) := by decide +kernel
theorem dX3_draughtAt_7 : decode cX3_draughtAt 7 = .ok (.iload_n 1, 1) := by decide +kernel
theorem dX3_draughtAt_8 : decode cX3_draughtAt 8 = .ok (.ifCond .ge 5, 3) := by decide +kernel
theorem dX3_draughtAt_11 : decode cX3_draughtAt 11 = .ok (.iconst 0, 1) := by decide +kernel
theorem dX3_draughtAt_12 : decode cX3_draughtAt 12 = .ok (.ireturn, 1) := by decide +kernel
theorem dX3_draughtAt_13 : decode cX3_draughtAt 13 = .ok (.iload_n 1, 1) := by decide +kernel
theorem dX3_draughtAt_14 : decode cX3_draughtAt 14 = .ok (.aload_n 0, 1) := by decide +kernel
theorem dX3_draughtAt_15 : decode cX3_draughtAt 15 = .ok (.getfield 53, 3) := by decide +kernel
theorem dX3_draughtAt_18 : decode cX3_draughtAt 18 = .ok (.irem, 1) := by decide +kernel
theorem dX3_draughtAt_19 : decode cX3_draughtAt 19 = .ok (.istore_n 2, 1) := by decide +kernel
theorem dX3_draughtAt_20 : decode cX3_draughtAt 20 = .ok (.iload_n 2, 1) := by decide +kernel
theorem dX3_draughtAt_21 : decode cX3_draughtAt 21 = .ok (.bipush 12, 2) := by decide +kernel
theorem dX3_draughtAt_23 : decode cX3_draughtAt 23 = .ok (.if_icmp .ge 12, 3) := by decide +kernel
theorem dX3_draughtAt_26 : decode cX3_draughtAt 26 = .ok (.aload_n 0, 1) := by decide +kernel
theorem dX3_draughtAt_27 : decode cX3_draughtAt 27 = .ok (.getfield 37, 3) := by decide +kernel
theorem dX3_draughtAt_30 : decode cX3_draughtAt 30 = .ok (.iload_n 2, 1) := by decide +kernel
theorem dX3_draughtAt_31 : decode cX3_draughtAt 31 = .ok (.iaload, 1) := by decide +kernel
theorem dX3_draughtAt_32 : decode cX3_draughtAt 32 = .ok (.goto 4, 3) := by decide +kernel
theorem dX3_draughtAt_35 : decode cX3_draughtAt 35 = .ok (.iconst 0, 1) := by decide +kernel
theorem dX3_draughtAt_36 : decode cX3_draughtAt 36 = .ok (.ireturn, 1) := by decide +kernel
theorem dX4_withLetter_0 : decode cX4_withLetter 0 = .ok (.lload_n 0, 1) := by decide +kernel
theorem dX4_withLetter_1 : decode cX4_withLetter 1 = .ok (.ldc2_w 126, 3) := by decide +kernel
theorem dX4_withLetter_4 : decode cX4_withLetter 4 = .ok (.lmul, 1) := by decide +kernel
theorem dX4_withLetter_5 : decode cX4_withLetter 5 = .ok (.iload_n 2, 1) := by decide +kernel
theorem dX4_withLetter_6 : decode cX4_withLetter 6 = .ok (.bipush 97, 2) := by decide +kernel
theorem dX4_withLetter_8 : decode cX4_withLetter 8 = .ok (.isub, 1) := by decide +kernel
theorem dX4_withLetter_9 : decode cX4_withLetter 9 = .ok (.iconst 1, 1) := by decide +kernel
theorem dX4_withLetter_10 : decode cX4_withLetter 10 = .ok (.iadd, 1) := by decide +kernel
theorem dX4_withLetter_11 : decode cX4_withLetter 11 = .ok (.i2l, 1) := by decide +kernel
theorem dX4_withLetter_12 : decode cX4_withLetter 12 = .ok (.ladd, 1) := by decide +kernel
theorem dX4_withLetter_13 : decode cX4_withLetter 13 = .ok (.lreturn, 1) := by decide +kernel
theorem dX4_ofLetters_0 : decode cX4_ofLetters 0 = .ok (.iconst 0, 1) := by decide +kernel
theorem dX4_ofLetters_1 : decode cX4_ofLetters 1 = .ok (.istore_n 2, 1) := by decide +kernel
theorem dX4_ofLetters_2 : decode cX4_ofLetters 2 = .ok (.iload_n 2, 1) := by decide +kernel
theorem dX4_ofLetters_3 : decode cX4_ofLetters 3 = .ok (.getstatic 128, 3) := by decide +kernel
theorem dX4_ofLetters_6 : decode cX4_ofLetters 6 = .ok (.arraylength, 1) := by decide +kernel
theorem dX4_ofLetters_7 : decode cX4_ofLetters 7 = .ok (.if_icmp .ge 28, 3) := by decide +kernel
theorem dX4_ofLetters_10 : decode cX4_ofLetters 10 = .ok (.getstatic 128, 3) := by decide +kernel
theorem dX4_ofLetters_13 : decode cX4_ofLetters 13 = .ok (.iload_n 2, 1) := by decide +kernel
theorem dX4_ofLetters_14 : decode cX4_ofLetters 14 = .ok (.aaload, 1) := by decide +kernel
theorem dX4_ofLetters_15 : decode cX4_ofLetters 15 = .ok (.getfield 114, 3) := by decide +kernel
theorem dX4_ofLetters_18 : decode cX4_ofLetters 18 = .ok (.lload_n 0, 1) := by decide +kernel
theorem dX4_ofLetters_19 : decode cX4_ofLetters 19 = .ok (.lcmp, 1) := by decide +kernel
theorem dX4_ofLetters_20 : decode cX4_ofLetters 20 = .ok (.ifCond .ne 9, 3) := by decide +kernel
theorem dX4_ofLetters_23 : decode cX4_ofLetters 23 = .ok (.getstatic 128, 3) := by decide +kernel
theorem dX4_ofLetters_26 : decode cX4_ofLetters 26 = .ok (.iload_n 2, 1) := by decide +kernel
theorem dX4_ofLetters_27 : decode cX4_ofLetters 27 = .ok (.aaload, 1) := by decide +kernel
theorem dX4_ofLetters_28 : decode cX4_ofLetters 28 = .ok (.areturn, 1) := by decide +kernel
theorem dX4_ofLetters_29 : decode cX4_ofLetters 29 = .ok (.iinc 2 1, 3) := by decide +kernel
theorem dX4_ofLetters_32 : decode cX4_ofLetters 32 = .ok (.goto (-30), 3) := by decide +kernel
theorem dX4_ofLetters_35 : decode cX4_ofLetters 35 = .ok (.getstatic 75, 3) := by decide +kernel
theorem dX4_ofLetters_38 : decode cX4_ofLetters 38 = .ok (.areturn, 1) := by decide +kernel
theorem dX5_init_0 : decode cX5_init 0 = .ok (.aload_n 0, 1) := by decide +kernel
theorem dX5_init_1 : decode cX5_init 1 = .ok (.invokespecial 3, 3) := by decide +kernel
theorem dX5_init_4 : decode cX5_init 4 = .ok (.aload_n 0, 1) := by decide +kernel
theorem dX5_init_5 : decode cX5_init 5 = .ok (.sipush 1000, 3) := by decide +kernel
theorem dX5_init_8 : decode cX5_init 8 = .ok (.newarray .int, 2) := by decide +kernel
theorem dX5_init_10 : decode cX5_init 10 = .ok (.putfield 9, 3) := by decide +kernel
theorem dX5_init_13 : decode cX5_init 13 = .ok (.aload_n 0, 1) := by decide +kernel
theorem dX5_init_14 : decode cX5_init 14 = .ok (.iconst 4, 1) := by decide +kernel
theorem dX5_init_15 : decode cX5_init 15 = .ok (.newarray .int, 2) := by decide +kernel
theorem dX5_init_17 : decode cX5_init 17 = .ok (.putfield 15, 3) := by decide +kernel
theorem dX5_init_20 : decode cX5_init 20 = .ok (.aload_n 0, 1) := by decide +kernel
theorem dX5_init_21 : decode cX5_init 21 = .ok (.bipush 24, 2) := by decide +kernel
theorem dX5_init_23 : decode cX5_init 23 = .ok (.newarray .int, 2) := by decide +kernel
theorem dX5_init_25 : decode cX5_init 25 = .ok (.putfield 18, 3) := by decide +kernel
theorem dX5_init_28 : decode cX5_init 28 = .ok (.return_, 1) := by decide +kernel
theorem dX5_ofFact_0 : decode cX5_ofFact 0 = .ok (.aload_n 0, 1) := by decide +kernel
theorem dX5_ofFact_1 : decode cX5_ofFact 1 = .ok (.getstatic 21, 3) := by decide +kernel
theorem dX5_ofFact_4 : decode cX5_ofFact 4 = .ok (.if_acmp .ne 5, 3) := by decide +kernel
theorem dX5_ofFact_7 : decode cX5_ofFact 7 = .ok (.iconst (-1), 1) := by decide +kernel
theorem dX5_ofFact_8 : decode cX5_ofFact 8 = .ok (.ireturn, 1) := by decide +kernel
theorem dX5_ofFact_9 : decode cX5_ofFact 9 = .ok (.aload_n 0, 1) := by decide +kernel
theorem dX5_ofFact_10 : decode cX5_ofFact 10 = .ok (.getstatic 27, 3) := by decide +kernel
theorem dX5_ofFact_13 : decode cX5_ofFact 13 = .ok (.if_acmp .ne 6, 3) := by decide +kernel
theorem dX5_ofFact_16 : decode cX5_ofFact 16 = .ok (.bipush (-2), 2) := by decide +kernel
theorem dX5_ofFact_18 : decode cX5_ofFact 18 = .ok (.ireturn, 1) := by decide +kernel
theorem dX5_ofFact_19 : decode cX5_ofFact 19 = .ok (.aload_n 0, 1) := by decide +kernel
theorem dX5_ofFact_20 : decode cX5_ofFact 20 = .ok (.getstatic 30, 3) := by decide +kernel
theorem dX5_ofFact_23 : decode cX5_ofFact 23 = .ok (.if_acmp .ne 6, 3) := by decide +kernel
theorem dX5_ofFact_26 : decode cX5_ofFact 26 = .ok (.bipush (-3), 2) := by decide +kernel
theorem dX5_ofFact_28 : decode cX5_ofFact 28 = .ok (.ireturn, 1) := by decide +kernel
theorem dX5_ofFact_29 : decode cX5_ofFact 29 = .ok (.aload_n 0, 1) := by decide +kernel
theorem dX5_ofFact_30 : decode cX5_ofFact 30 = .ok (.getstatic 33, 3) := by decide +kernel
theorem dX5_ofFact_33 : decode cX5_ofFact 33 = .ok (.if_acmp .ne 8, 3) := by decide +kernel
theorem dX5_ofFact_36 : decode cX5_ofFact 36 = .ok (.bipush (-4), 2) := by decide +kernel
theorem dX5_ofFact_38 : decode cX5_ofFact 38 = .ok (.goto 4, 3) := by decide +kernel
theorem dX5_ofFact_41 : decode cX5_ofFact 41 = .ok (.iconst 0, 1) := by decide +kernel
theorem dX5_ofFact_42 : decode cX5_ofFact 42 = .ok (.ireturn, 1) := by decide +kernel
theorem dX5_add_0 : decode cX5_add 0 = .ok (.aload_n 0, 1) := by decide +kernel
theorem dX5_add_1 : decode cX5_add 1 = .ok (.getfield 36, 3) := by decide +kernel
theorem dX5_add_4 : decode cX5_add 4 = .ok (.sipush 1000, 3) := by decide +kernel
theorem dX5_add_7 : decode cX5_add 7 = .ok (.if_icmp .ge 23, 3) := by decide +kernel
theorem dX5_add_10 : decode cX5_add 10 = .ok (.aload_n 0, 1) := by decide +kernel
theorem dX5_add_11 : decode cX5_add 11 = .ok (.getfield 9, 3) := by decide +kernel
theorem dX5_add_14 : decode cX5_add 14 = .ok (.aload_n 0, 1) := by decide +kernel
theorem dX5_add_15 : decode cX5_add 15 = .ok (.getfield 36, 3) := by decide +kernel
theorem dX5_add_18 : decode cX5_add 18 = .ok (.iload_n 1, 1) := by decide +kernel
theorem dX5_add_19 : decode cX5_add 19 = .ok (.iastore, 1) := by decide +kernel
theorem dX5_add_20 : decode cX5_add 20 = .ok (.aload_n 0, 1) := by decide +kernel
theorem dX5_add_21 : decode cX5_add 21 = .ok (.dup, 1) := by decide +kernel
theorem dX5_add_22 : decode cX5_add 22 = .ok (.getfield 36, 3) := by decide +kernel
theorem dX5_add_25 : decode cX5_add 25 = .ok (.iconst 1, 1) := by decide +kernel
theorem dX5_add_26 : decode cX5_add 26 = .ok (.iadd, 1) := by decide +kernel
theorem dX5_add_27 : decode cX5_add 27 = .ok (.putfield 36, 3) := by decide +kernel
theorem dX5_add_30 : decode cX5_add 30 = .ok (.return_, 1) := by decide +kernel
theorem dX5_tells_0 : decode cX5_tells 0 = .ok (.aload_n 0, 1) := by decide +kernel
theorem dX5_tells_1 : decode cX5_tells 1 = .ok (.getfield 36, 3) := by decide +kernel
theorem dX5_tells_4 : decode cX5_tells 4 = .ok (.ifCond .ne 13, 3) := by decide +kernel
theorem dX5_tells_7 : decode cX5_tells 7 = .ok (.iload_n 1, 1) := by decide +kernel
theorem dX5_tells_8 : decode cX5_tells 8 = .ok (.iload_n 2, 1) := by decide +kernel
theorem dX5_tells_9 : decode cX5_tells 9 = .ok (.iconst 2, 1) := by decide +kernel
theorem dX5_tells_10 : decode cX5_tells 10 = .ok (.imul, 1) := by decide +kernel
theorem dX5_tells_11 : decode cX5_tells 11 = .ok (.iadd, 1) := by decide +kernel
theorem dX5_tells_12 : decode cX5_tells 12 = .ok (.iload_n 3, 1) := by decide +kernel
theorem dX5_tells_13 : decode cX5_tells 13 = .ok (.iadd, 1) := by decide +kernel
theorem dX5_tells_14 : decode cX5_tells 14 = .ok (.iconst 3, 1) := by decide +kernel
theorem dX5_tells_15 : decode cX5_tells 15 = .ok (.isub, 1) := by decide +kernel
theorem dX5_tells_16 : decode cX5_tells 16 = .ok (.ireturn, 1) := by decide +kernel
theorem dX5_tells_17 : decode cX5_tells 17 = .ok (.aload_n 0, 1) := by decide +kernel
theorem dX5_tells_18 : decode cX5_tells 18 = .ok (.getfield 15, 3) := by decide +kernel
theorem dX5_tells_21 : decode cX5_tells 21 = .ok (.iconst 0, 1) := by decide +kernel
theorem dX5_tells_22 : decode cX5_tells 22 = .ok (.iload_n 1, 1) := by decide +kernel
theorem dX5_tells_23 : decode cX5_tells 23 = .ok (.iastore, 1) := by decide +kernel
theorem dX5_tells_24 : decode cX5_tells 24 = .ok (.aload_n 0, 1) := by decide +kernel
theorem dX5_tells_25 : decode cX5_tells 25 = .ok (.getfield 15, 3) := by decide +kernel
theorem dX5_tells_28 : decode cX5_tells 28 = .ok (.iconst 1, 1) := by decide +kernel
theorem dX5_tells_29 : decode cX5_tells 29 = .ok (.iload_n 2, 1) := by decide +kernel
theorem dX5_tells_30 : decode cX5_tells 30 = .ok (.iastore, 1) := by decide +kernel
theorem dX5_tells_31 : decode cX5_tells 31 = .ok (.aload_n 0, 1) := by decide +kernel
theorem dX5_tells_32 : decode cX5_tells 32 = .ok (.getfield 15, 3) := by decide +kernel
theorem dX5_tells_35 : decode cX5_tells 35 = .ok (.iconst 2, 1) := by decide +kernel
theorem dX5_tells_36 : decode cX5_tells 36 = .ok (.iload_n 3, 1) := by decide +kernel
theorem dX5_tells_37 : decode cX5_tells 37 = .ok (.iastore, 1) := by decide +kernel
theorem dX5_tells_38 : decode cX5_tells 38 = .ok (.aload_n 0, 1) := by decide +kernel
theorem dX5_tells_39 : decode cX5_tells 39 = .ok (.getfield 15, 3) := by decide +kernel
theorem dX5_tells_42 : decode cX5_tells 42 = .ok (.iconst 3, 1) := by decide +kernel
theorem dX5_tells_43 : decode cX5_tells 43 = .ok (.iload 4, 2) := by decide +kernel
theorem dX5_tells_45 : decode cX5_tells 45 = .ok (.iastore, 1) := by decide +kernel
theorem dX5_tells_46 : decode cX5_tells 46 = .ok (.iconst 0, 1) := by decide +kernel
theorem dX5_tells_47 : decode cX5_tells 47 = .ok (.istore 5, 2) := by decide +kernel
theorem dX5_tells_49 : decode cX5_tells 49 = .ok (.iconst 0, 1) := by decide +kernel
theorem dX5_tells_50 : decode cX5_tells 50 = .ok (.istore 6, 2) := by decide +kernel
theorem dX5_tells_52 : decode cX5_tells 52 = .ok (.iload 6, 2) := by decide +kernel
theorem dX5_tells_54 : decode cX5_tells 54 = .ok (.aload_n 0, 1) := by decide +kernel
theorem dX5_tells_55 : decode cX5_tells 55 = .ok (.getfield 36, 3) := by decide +kernel
theorem dX5_tells_58 : decode cX5_tells 58 = .ok (.if_icmp .ge 153, 3) := by decide +kernel
theorem dX5_tells_61 : decode cX5_tells 61 = .ok (.iload 6, 2) := by decide +kernel
theorem dX5_tells_63 : decode cX5_tells 63 = .ok (.sipush 1000, 3) := by decide +kernel
theorem dX5_tells_66 : decode cX5_tells 66 = .ok (.if_icmp .ge 145, 3) := by decide +kernel
theorem dX5_tells_69 : decode cX5_tells 69 = .ok (.aload_n 0, 1) := by decide +kernel
theorem dX5_tells_70 : decode cX5_tells 70 = .ok (.getfield 9, 3) := by decide +kernel
theorem dX5_tells_73 : decode cX5_tells 73 = .ok (.iload 6, 2) := by decide +kernel
theorem dX5_tells_75 : decode cX5_tells 75 = .ok (.iaload, 1) := by decide +kernel
theorem dX5_tells_76 : decode cX5_tells 76 = .ok (.istore 7, 2) := by decide +kernel
theorem dX5_tells_78 : decode cX5_tells 78 = .ok (.iload 7, 2) := by decide +kernel
theorem dX5_tells_80 : decode cX5_tells 80 = .ok (.bipush (-4), 2) := by decide +kernel
theorem dX5_tells_82 : decode cX5_tells 82 = .ok (.if_icmp .lt 42, 3) := by decide +kernel
theorem dX5_tells_85 : decode cX5_tells 85 = .ok (.iload 5, 2) := by decide +kernel
theorem dX5_tells_87 : decode cX5_tells 87 = .ok (.bipush 24, 2) := by decide +kernel
theorem dX5_tells_89 : decode cX5_tells 89 = .ok (.if_icmp .ge 116, 3) := by decide +kernel
theorem dX5_tells_92 : decode cX5_tells 92 = .ok (.aload_n 0, 1) := by decide +kernel
theorem dX5_tells_93 : decode cX5_tells 93 = .ok (.getfield 18, 3) := by decide +kernel
theorem dX5_tells_96 : decode cX5_tells 96 = .ok (.iload 5, 2) := by decide +kernel
theorem dX5_tells_98 : decode cX5_tells 98 = .ok (.iload 7, 2) := by decide +kernel
theorem dX5_tells_100 : decode cX5_tells 100 = .ok (.ifCond .lt 8, 3) := by decide +kernel
theorem dX5_tells_103 : decode cX5_tells 103 = .ok (.iload 7, 2) := by decide +kernel
theorem dX5_tells_105 : decode cX5_tells 105 = .ok (.goto 12, 3) := by decide +kernel
theorem dX5_tells_108 : decode cX5_tells 108 = .ok (.aload_n 0, 1) := by decide +kernel
theorem dX5_tells_109 : decode cX5_tells 109 = .ok (.getfield 15, 3) := by decide +kernel
theorem dX5_tells_112 : decode cX5_tells 112 = .ok (.iconst (-1), 1) := by decide +kernel
theorem dX5_tells_113 : decode cX5_tells 113 = .ok (.iload 7, 2) := by decide +kernel
theorem dX5_tells_115 : decode cX5_tells 115 = .ok (.isub, 1) := by decide +kernel
theorem dX5_tells_116 : decode cX5_tells 116 = .ok (.iaload, 1) := by decide +kernel
theorem dX5_tells_117 : decode cX5_tells 117 = .ok (.iastore, 1) := by decide +kernel
theorem dX5_tells_118 : decode cX5_tells 118 = .ok (.iinc 5 1, 3) := by decide +kernel
theorem dX5_tells_121 : decode cX5_tells 121 = .ok (.goto 84, 3) := by decide +kernel
theorem dX5_tells_124 : decode cX5_tells 124 = .ok (.iload 7, 2) := by decide +kernel
theorem dX5_tells_126 : decode cX5_tells 126 = .ok (.bipush (-5), 2) := by decide +kernel
theorem dX5_tells_128 : decode cX5_tells 128 = .ok (.if_icmp .ne 38, 3) := by decide +kernel
theorem dX5_tells_131 : decode cX5_tells 131 = .ok (.iload 5, 2) := by decide +kernel
theorem dX5_tells_133 : decode cX5_tells 133 = .ok (.iconst 1, 1) := by decide +kernel
theorem dX5_tells_134 : decode cX5_tells 134 = .ok (.if_icmp .lt 71, 3) := by decide +kernel
theorem dX5_tells_137 : decode cX5_tells 137 = .ok (.aload_n 0, 1) := by decide +kernel
theorem dX5_tells_138 : decode cX5_tells 138 = .ok (.getfield 18, 3) := by decide +kernel
theorem dX5_tells_141 : decode cX5_tells 141 = .ok (.iload 5, 2) := by decide +kernel
theorem dX5_tells_143 : decode cX5_tells 143 = .ok (.iconst 1, 1) := by decide +kernel
theorem dX5_tells_144 : decode cX5_tells 144 = .ok (.isub, 1) := by decide +kernel
theorem dX5_tells_145 : decode cX5_tells 145 = .ok (.aload_n 0, 1) := by decide +kernel
theorem dX5_tells_146 : decode cX5_tells 146 = .ok (.getfield 18, 3) := by decide +kernel
theorem dX5_tells_149 : decode cX5_tells 149 = .ok (.iload 5, 2) := by decide +kernel
theorem dX5_tells_151 : decode cX5_tells 151 = .ok (.iconst 1, 1) := by decide +kernel
theorem dX5_tells_152 : decode cX5_tells 152 = .ok (.isub, 1) := by decide +kernel
theorem dX5_tells_153 : decode cX5_tells 153 = .ok (.iaload, 1) := by decide +kernel
theorem dX5_tells_154 : decode cX5_tells 154 = .ok (.ifCond .ne 7, 3) := by decide +kernel
theorem dX5_tells_157 : decode cX5_tells 157 = .ok (.iconst 1, 1) := by decide +kernel
theorem dX5_tells_158 : decode cX5_tells 158 = .ok (.goto 4, 3) := by decide +kernel
theorem dX5_tells_161 : decode cX5_tells 161 = .ok (.iconst 0, 1) := by decide +kernel
theorem dX5_tells_162 : decode cX5_tells 162 = .ok (.iastore, 1) := by decide +kernel
theorem dX5_tells_163 : decode cX5_tells 163 = .ok (.goto 42, 3) := by decide +kernel
theorem dX5_tells_166 : decode cX5_tells 166 = .ok (.iload 5, 2) := by decide +kernel
theorem dX5_tells_168 : decode cX5_tells 168 = .ok (.iconst 2, 1) := by decide +kernel
theorem dX5_tells_169 : decode cX5_tells 169 = .ok (.if_icmp .lt 36, 3) := by decide +kernel
theorem dX5_tells_172 : decode cX5_tells 172 = .ok (.iinc 5 (-1), 3) := by decide +kernel
theorem dX5_tells_175 : decode cX5_tells 175 = .ok (.aload_n 0, 1) := by decide +kernel
theorem dX5_tells_176 : decode cX5_tells 176 = .ok (.getfield 18, 3) := by decide +kernel
theorem dX5_tells_179 : decode cX5_tells 179 = .ok (.iload 5, 2) := by decide +kernel
theorem dX5_tells_181 : decode cX5_tells 181 = .ok (.iconst 1, 1) := by decide +kernel
theorem dX5_tells_182 : decode cX5_tells 182 = .ok (.isub, 1) := by decide +kernel
theorem dX5_tells_183 : decode cX5_tells 183 = .ok (.iload 7, 2) := by decide +kernel
theorem dX5_tells_185 : decode cX5_tells 185 = .ok (.aload_n 0, 1) := by decide +kernel
theorem dX5_tells_186 : decode cX5_tells 186 = .ok (.getfield 18, 3) := by decide +kernel
theorem dX5_tells_189 : decode cX5_tells 189 = .ok (.iload 5, 2) := by decide +kernel
theorem dX5_tells_191 : decode cX5_tells 191 = .ok (.iconst 1, 1) := by decide +kernel
theorem dX5_tells_192 : decode cX5_tells 192 = .ok (.isub, 1) := by decide +kernel
theorem dX5_tells_193 : decode cX5_tells 193 = .ok (.iaload, 1) := by decide +kernel
theorem dX5_tells_194 : decode cX5_tells 194 = .ok (.aload_n 0, 1) := by decide +kernel
theorem dX5_tells_195 : decode cX5_tells 195 = .ok (.getfield 18, 3) := by decide +kernel
theorem dX5_tells_198 : decode cX5_tells 198 = .ok (.iload 5, 2) := by decide +kernel
theorem dX5_tells_200 : decode cX5_tells 200 = .ok (.iaload, 1) := by decide +kernel
theorem dX5_tells_201 : decode cX5_tells 201 = .ok (.invokestatic 40, 3) := by decide +kernel
theorem dX5_tells_204 : decode cX5_tells 204 = .ok (.iastore, 1) := by decide +kernel
theorem dX5_tells_205 : decode cX5_tells 205 = .ok (.iinc 6 1, 3) := by decide +kernel
theorem dX5_tells_208 : decode cX5_tells 208 = .ok (.goto (-156), 3) := by decide +kernel
theorem dX5_tells_211 : decode cX5_tells 211 = .ok (.aload_n 0, 1) := by decide +kernel
theorem dX5_tells_212 : decode cX5_tells 212 = .ok (.getfield 18, 3) := by decide +kernel
theorem dX5_tells_215 : decode cX5_tells 215 = .ok (.iconst 0, 1) := by decide +kernel
theorem dX5_tells_216 : decode cX5_tells 216 = .ok (.iaload, 1) := by decide +kernel
theorem dX5_tells_217 : decode cX5_tells 217 = .ok (.ireturn, 1) := by decide +kernel
theorem dX5_join_0 : decode cX5_join 0 = .ok (.iload_n 0, 1) := by decide +kernel
theorem dX5_join_1 : decode cX5_join 1 = .ok (.lookupswitch 107 #[(-61, 82), (-60, 71), (-45, 63), (-43, 59), (-42, 67), (-6, 93)], 59) := by decide +kernel
theorem dX5_join_60 : decode cX5_join 60 = .ok (.iload_n 1, 1) := by decide +kernel
theorem dX5_join_61 : decode cX5_join 61 = .ok (.iload_n 2, 1) := by decide +kernel
theorem dX5_join_62 : decode cX5_join 62 = .ok (.iadd, 1) := by decide +kernel
theorem dX5_join_63 : decode cX5_join 63 = .ok (.ireturn, 1) := by decide +kernel
theorem dX5_join_64 : decode cX5_join 64 = .ok (.iload_n 1, 1) := by decide +kernel
theorem dX5_join_65 : decode cX5_join 65 = .ok (.iload_n 2, 1) := by decide +kernel
theorem dX5_join_66 : decode cX5_join 66 = .ok (.isub, 1) := by decide +kernel
theorem dX5_join_67 : decode cX5_join 67 = .ok (.ireturn, 1) := by decide +kernel
theorem dX5_join_68 : decode cX5_join 68 = .ok (.iload_n 1, 1) := by decide +kernel
theorem dX5_join_69 : decode cX5_join 69 = .ok (.iload_n 2, 1) := by decide +kernel
theorem dX5_join_70 : decode cX5_join 70 = .ok (.imul, 1) := by decide +kernel
theorem dX5_join_71 : decode cX5_join 71 = .ok (.ireturn, 1) := by decide +kernel
theorem dX5_join_72 : decode cX5_join 72 = .ok (.iload_n 1, 1) := by decide +kernel
theorem dX5_join_73 : decode cX5_join 73 = .ok (.iload_n 2, 1) := by decide +kernel
theorem dX5_join_74 : decode cX5_join 74 = .ok (.if_icmp .ge 7, 3) := by decide +kernel
theorem dX5_join_77 : decode cX5_join 77 = .ok (.iconst 1, 1) := by decide +kernel
theorem dX5_join_78 : decode cX5_join 78 = .ok (.goto 4, 3) := by decide +kernel
theorem dX5_join_81 : decode cX5_join 81 = .ok (.iconst 0, 1) := by decide +kernel
theorem dX5_join_82 : decode cX5_join 82 = .ok (.ireturn, 1) := by decide +kernel
theorem dX5_join_83 : decode cX5_join 83 = .ok (.iload_n 1, 1) := by decide +kernel
theorem dX5_join_84 : decode cX5_join 84 = .ok (.iload_n 2, 1) := by decide +kernel
theorem dX5_join_85 : decode cX5_join 85 = .ok (.if_icmp .ne 7, 3) := by decide +kernel
theorem dX5_join_88 : decode cX5_join 88 = .ok (.iconst 1, 1) := by decide +kernel
theorem dX5_join_89 : decode cX5_join 89 = .ok (.goto 4, 3) := by decide +kernel
theorem dX5_join_92 : decode cX5_join 92 = .ok (.iconst 0, 1) := by decide +kernel
theorem dX5_join_93 : decode cX5_join 93 = .ok (.ireturn, 1) := by decide +kernel
theorem dX5_join_94 : decode cX5_join 94 = .ok (.iload_n 1, 1) := by decide +kernel
theorem dX5_join_95 : decode cX5_join 95 = .ok (.ifCond .eq 11, 3) := by decide +kernel
theorem dX5_join_98 : decode cX5_join 98 = .ok (.iload_n 2, 1) := by decide +kernel
theorem dX5_join_99 : decode cX5_join 99 = .ok (.ifCond .eq 7, 3) := by decide +kernel
theorem dX5_join_102 : decode cX5_join 102 = .ok (.iconst 1, 1) := by decide +kernel
theorem dX5_join_103 : decode cX5_join 103 = .ok (.goto 4, 3) := by decide +kernel
theorem dX5_join_106 : decode cX5_join 106 = .ok (.iconst 0, 1) := by decide +kernel
theorem dX5_join_107 : decode cX5_join 107 = .ok (.ireturn, 1) := by decide +kernel
theorem dX5_join_108 : decode cX5_join 108 = .ok (.iload_n 1, 1) := by decide +kernel
theorem dX5_join_109 : decode cX5_join 109 = .ok (.ifCond .ne 7, 3) := by decide +kernel
theorem dX5_join_112 : decode cX5_join 112 = .ok (.iload_n 2, 1) := by decide +kernel
theorem dX5_join_113 : decode cX5_join 113 = .ok (.ifCond .eq 7, 3) := by decide +kernel
theorem dX5_join_116 : decode cX5_join 116 = .ok (.iconst 1, 1) := by decide +kernel
theorem dX5_join_117 : decode cX5_join 117 = .ok (.goto 4, 3) := by decide +kernel
theorem dX5_join_120 : decode cX5_join 120 = .ok (.iconst 0, 1) := by decide +kernel
theorem dX5_join_121 : decode cX5_join 121 = .ok (.ireturn, 1) := by decide +kernel
theorem dX6_init_0 : decode cX6_init 0 = .ok (.aload_n 0, 1) := by decide +kernel
theorem dX6_init_1 : decode cX6_init 1 = .ok (.invokespecial 3, 3) := by decide +kernel
theorem dX6_init_4 : decode cX6_init 4 = .ok (.aload_n 0, 1) := by decide +kernel
theorem dX6_init_5 : decode cX6_init 5 = .ok (.bipush 16, 2) := by decide +kernel
theorem dX6_init_7 : decode cX6_init 7 = .ok (.anewarray 9, 3) := by decide +kernel
theorem dX6_init_10 : decode cX6_init 10 = .ok (.putfield 11, 3) := by decide +kernel
theorem dX6_init_13 : decode cX6_init 13 = .ok (.aload_n 0, 1) := by decide +kernel
theorem dX6_init_14 : decode cX6_init 14 = .ok (.iconst 4, 1) := by decide +kernel
theorem dX6_init_15 : decode cX6_init 15 = .ok (.anewarray 9, 3) := by decide +kernel
theorem dX6_init_18 : decode cX6_init 18 = .ok (.putfield 17, 3) := by decide +kernel
theorem dX6_init_21 : decode cX6_init 21 = .ok (.aload_n 0, 1) := by decide +kernel
theorem dX6_init_22 : decode cX6_init 22 = .ok (.iconst 4, 1) := by decide +kernel
theorem dX6_init_23 : decode cX6_init 23 = .ok (.anewarray 20, 3) := by decide +kernel
theorem dX6_init_26 : decode cX6_init 26 = .ok (.putfield 22, 3) := by decide +kernel
theorem dX6_init_29 : decode cX6_init 29 = .ok (.aload_n 0, 1) := by decide +kernel
theorem dX6_init_30 : decode cX6_init 30 = .ok (.iconst 4, 1) := by decide +kernel
theorem dX6_init_31 : decode cX6_init 31 = .ok (.newarray .boolean, 2) := by decide +kernel
theorem dX6_init_33 : decode cX6_init 33 = .ok (.putfield 26, 3) := by decide +kernel
theorem dX6_init_36 : decode cX6_init 36 = .ok (.iconst 0, 1) := by decide +kernel
theorem dX6_init_37 : decode cX6_init 37 = .ok (.istore_n 1, 1) := by decide +kernel
theorem dX6_init_38 : decode cX6_init 38 = .ok (.iload_n 1, 1) := by decide +kernel
theorem dX6_init_39 : decode cX6_init 39 = .ok (.bipush 16, 2) := by decide +kernel
theorem dX6_init_41 : decode cX6_init 41 = .ok (.if_icmp .ge 22, 3) := by decide +kernel
theorem dX6_init_44 : decode cX6_init 44 = .ok (.aload_n 0, 1) := by decide +kernel
theorem dX6_init_45 : decode cX6_init 45 = .ok (.getfield 11, 3) := by decide +kernel
theorem dX6_init_48 : decode cX6_init 48 = .ok (.iload_n 1, 1) := by decide +kernel
theorem dX6_init_49 : decode cX6_init 49 = .ok (.new 9, 3) := by decide +kernel
theorem dX6_init_52 : decode cX6_init 52 = .ok (.dup, 1) := by decide +kernel
theorem dX6_init_53 : decode cX6_init 53 = .ok (.invokespecial 30, 3) := by decide +kernel
theorem dX6_init_56 : decode cX6_init 56 = .ok (.aastore, 1) := by decide +kernel
theorem dX6_init_57 : decode cX6_init 57 = .ok (.iinc 1 1, 3) := by decide +kernel
theorem dX6_init_60 : decode cX6_init 60 = .ok (.goto (-22), 3) := by decide +kernel
theorem dX6_init_63 : decode cX6_init 63 = .ok (.iconst 0, 1) := by decide +kernel
theorem dX6_init_64 : decode cX6_init 64 = .ok (.istore_n 1, 1) := by decide +kernel
theorem dX6_init_65 : decode cX6_init 65 = .ok (.iload_n 1, 1) := by decide +kernel
theorem dX6_init_66 : decode cX6_init 66 = .ok (.iconst 4, 1) := by decide +kernel
theorem dX6_init_67 : decode cX6_init 67 = .ok (.if_icmp .ge 35, 3) := by decide +kernel
theorem dX6_init_70 : decode cX6_init 70 = .ok (.aload_n 0, 1) := by decide +kernel
theorem dX6_init_71 : decode cX6_init 71 = .ok (.getfield 17, 3) := by decide +kernel
theorem dX6_init_74 : decode cX6_init 74 = .ok (.iload_n 1, 1) := by decide +kernel
theorem dX6_init_75 : decode cX6_init 75 = .ok (.new 9, 3) := by decide +kernel
theorem dX6_init_78 : decode cX6_init 78 = .ok (.dup, 1) := by decide +kernel
theorem dX6_init_79 : decode cX6_init 79 = .ok (.invokespecial 30, 3) := by decide +kernel
theorem dX6_init_82 : decode cX6_init 82 = .ok (.aastore, 1) := by decide +kernel
theorem dX6_init_83 : decode cX6_init 83 = .ok (.aload_n 0, 1) := by decide +kernel
theorem dX6_init_84 : decode cX6_init 84 = .ok (.getfield 22, 3) := by decide +kernel
theorem dX6_init_87 : decode cX6_init 87 = .ok (.iload_n 1, 1) := by decide +kernel
theorem dX6_init_88 : decode cX6_init 88 = .ok (.new 20, 3) := by decide +kernel
theorem dX6_init_91 : decode cX6_init 91 = .ok (.dup, 1) := by decide +kernel
theorem dX6_init_92 : decode cX6_init 92 = .ok (.invokespecial 31, 3) := by decide +kernel
theorem dX6_init_95 : decode cX6_init 95 = .ok (.aastore, 1) := by decide +kernel
theorem dX6_init_96 : decode cX6_init 96 = .ok (.iinc 1 1, 3) := by decide +kernel
theorem dX6_init_99 : decode cX6_init 99 = .ok (.goto (-34), 3) := by decide +kernel
theorem dX6_init_102 : decode cX6_init 102 = .ok (.return_, 1) := by decide +kernel
theorem dX6_keep_0 : decode cX6_keep 0 = .ok (.aload_n 0, 1) := by decide +kernel
theorem dX6_keep_1 : decode cX6_keep 1 = .ok (.getfield 11, 3) := by decide +kernel
theorem dX6_keep_4 : decode cX6_keep 4 = .ok (.aload_n 0, 1) := by decide +kernel
theorem dX6_keep_5 : decode cX6_keep 5 = .ok (.getfield 32, 3) := by decide +kernel
theorem dX6_keep_8 : decode cX6_keep 8 = .ok (.bipush 15, 2) := by decide +kernel
theorem dX6_keep_10 : decode cX6_keep 10 = .ok (.iand, 1) := by decide +kernel
theorem dX6_keep_11 : decode cX6_keep 11 = .ok (.aaload, 1) := by decide +kernel
theorem dX6_keep_12 : decode cX6_keep 12 = .ok (.aload_n 1, 1) := by decide +kernel
theorem dX6_keep_13 : decode cX6_keep 13 = .ok (.invokevirtual 36, 3) := by decide +kernel
theorem dX6_keep_16 : decode cX6_keep 16 = .ok (.aload_n 0, 1) := by decide +kernel
theorem dX6_keep_17 : decode cX6_keep 17 = .ok (.dup, 1) := by decide +kernel
theorem dX6_keep_18 : decode cX6_keep 18 = .ok (.getfield 32, 3) := by decide +kernel
theorem dX6_keep_21 : decode cX6_keep 21 = .ok (.iconst 1, 1) := by decide +kernel
theorem dX6_keep_22 : decode cX6_keep 22 = .ok (.iadd, 1) := by decide +kernel
theorem dX6_keep_23 : decode cX6_keep 23 = .ok (.putfield 32, 3) := by decide +kernel
theorem dX6_keep_26 : decode cX6_keep 26 = .ok (.aload_n 0, 1) := by decide +kernel
theorem dX6_keep_27 : decode cX6_keep 27 = .ok (.bipush 16, 2) := by decide +kernel
theorem dX6_keep_29 : decode cX6_keep 29 = .ok (.aload_n 0, 1) := by decide +kernel
theorem dX6_keep_30 : decode cX6_keep 30 = .ok (.getfield 40, 3) := by decide +kernel
theorem dX6_keep_33 : decode cX6_keep 33 = .ok (.iconst 1, 1) := by decide +kernel
theorem dX6_keep_34 : decode cX6_keep 34 = .ok (.iadd, 1) := by decide +kernel
theorem dX6_keep_35 : decode cX6_keep 35 = .ok (.invokestatic 43, 3) := by decide +kernel
theorem dX6_keep_38 : decode cX6_keep 38 = .ok (.putfield 40, 3) := by decide +kernel
theorem dX6_keep_41 : decode cX6_keep 41 = .ok (.return_, 1) := by decide +kernel
theorem dX6_bringBack_0 : decode cX6_bringBack 0 = .ok (.aload_n 0, 1) := by decide +kernel
theorem dX6_bringBack_1 : decode cX6_bringBack 1 = .ok (.getfield 40, 3) := by decide +kernel
theorem dX6_bringBack_4 : decode cX6_bringBack 4 = .ok (.ifCond .gt 5, 3) := by decide +kernel
theorem dX6_bringBack_7 : decode cX6_bringBack 7 = .ok (.iconst 0, 1) := by decide +kernel
theorem dX6_bringBack_8 : decode cX6_bringBack 8 = .ok (.ireturn, 1) := by decide +kernel
theorem dX6_bringBack_9 : decode cX6_bringBack 9 = .ok (.aload_n 0, 1) := by decide +kernel
theorem dX6_bringBack_10 : decode cX6_bringBack 10 = .ok (.dup, 1) := by decide +kernel
theorem dX6_bringBack_11 : decode cX6_bringBack 11 = .ok (.getfield 32, 3) := by decide +kernel
theorem dX6_bringBack_14 : decode cX6_bringBack 14 = .ok (.iconst 1, 1) := by decide +kernel
theorem dX6_bringBack_15 : decode cX6_bringBack 15 = .ok (.isub, 1) := by decide +kernel
theorem dX6_bringBack_16 : decode cX6_bringBack 16 = .ok (.putfield 32, 3) := by decide +kernel
theorem dX6_bringBack_19 : decode cX6_bringBack 19 = .ok (.aload_n 0, 1) := by decide +kernel
theorem dX6_bringBack_20 : decode cX6_bringBack 20 = .ok (.dup, 1) := by decide +kernel
theorem dX6_bringBack_21 : decode cX6_bringBack 21 = .ok (.getfield 40, 3) := by decide +kernel
theorem dX6_bringBack_24 : decode cX6_bringBack 24 = .ok (.iconst 1, 1) := by decide +kernel
theorem dX6_bringBack_25 : decode cX6_bringBack 25 = .ok (.isub, 1) := by decide +kernel
theorem dX6_bringBack_26 : decode cX6_bringBack 26 = .ok (.putfield 40, 3) := by decide +kernel
theorem dX6_bringBack_29 : decode cX6_bringBack 29 = .ok (.aload_n 1, 1) := by decide +kernel
theorem dX6_bringBack_30 : decode cX6_bringBack 30 = .ok (.aload_n 0, 1) := by decide +kernel
theorem dX6_bringBack_31 : decode cX6_bringBack 31 = .ok (.getfield 11, 3) := by decide +kernel
theorem dX6_bringBack_34 : decode cX6_bringBack 34 = .ok (.aload_n 0, 1) := by decide +kernel
theorem dX6_bringBack_35 : decode cX6_bringBack 35 = .ok (.getfield 32, 3) := by decide +kernel
theorem dX6_bringBack_38 : decode cX6_bringBack 38 = .ok (.bipush 15, 2) := by decide +kernel
theorem dX6_bringBack_40 : decode cX6_bringBack 40 = .ok (.iand, 1) := by decide +kernel
theorem dX6_bringBack_41 : decode cX6_bringBack 41 = .ok (.aaload, 1) := by decide +kernel
theorem dX6_bringBack_42 : decode cX6_bringBack 42 = .ok (.invokevirtual 36, 3) := by decide +kernel
theorem dX6_bringBack_45 : decode cX6_bringBack 45 = .ok (.iconst 1, 1) := by decide +kernel
theorem dX6_bringBack_46 : decode cX6_bringBack 46 = .ok (.ireturn, 1) := by decide +kernel
theorem dX6_lay_0 : decode cX6_lay 0 = .ok (.iload_n 1, 1) := by decide +kernel
theorem dX6_lay_1 : decode cX6_lay 1 = .ok (.ifCond .lt 8, 3) := by decide +kernel
theorem dX6_lay_4 : decode cX6_lay 4 = .ok (.iload_n 1, 1) := by decide +kernel
theorem dX6_lay_5 : decode cX6_lay 5 = .ok (.iconst 4, 1) := by decide +kernel
theorem dX6_lay_6 : decode cX6_lay 6 = .ok (.if_icmp .lt 5, 3) := by decide +kernel
theorem dX6_lay_9 : decode cX6_lay 9 = .ok (.iconst 0, 1) := by decide +kernel
theorem dX6_lay_10 : decode cX6_lay 10 = .ok (.ireturn, 1) := by decide +kernel
theorem dX6_lay_11 : decode cX6_lay 11 = .ok (.aload_n 0, 1) := by decide +kernel
theorem dX6_lay_12 : decode cX6_lay 12 = .ok (.getfield 17, 3) := by decide +kernel
theorem dX6_lay_15 : decode cX6_lay 15 = .ok (.iload_n 1, 1) := by decide +kernel
theorem dX6_lay_16 : decode cX6_lay 16 = .ok (.aaload, 1) := by decide +kernel
theorem dX6_lay_17 : decode cX6_lay 17 = .ok (.aload_n 2, 1) := by decide +kernel
theorem dX6_lay_18 : decode cX6_lay 18 = .ok (.invokevirtual 36, 3) := by decide +kernel
theorem dX6_lay_21 : decode cX6_lay 21 = .ok (.aload_n 0, 1) := by decide +kernel
theorem dX6_lay_22 : decode cX6_lay 22 = .ok (.getfield 22, 3) := by decide +kernel
theorem dX6_lay_25 : decode cX6_lay 25 = .ok (.iload_n 1, 1) := by decide +kernel
theorem dX6_lay_26 : decode cX6_lay 26 = .ok (.aaload, 1) := by decide +kernel
theorem dX6_lay_27 : decode cX6_lay 27 = .ok (.aload_n 3, 1) := by decide +kernel
theorem dX6_lay_28 : decode cX6_lay 28 = .ok (.invokevirtual 49, 3) := by decide +kernel
theorem dX6_lay_31 : decode cX6_lay 31 = .ok (.aload_n 0, 1) := by decide +kernel
theorem dX6_lay_32 : decode cX6_lay 32 = .ok (.getfield 26, 3) := by decide +kernel
theorem dX6_lay_35 : decode cX6_lay 35 = .ok (.iload_n 1, 1) := by decide +kernel
theorem dX6_lay_36 : decode cX6_lay 36 = .ok (.iconst 1, 1) := by decide +kernel
theorem dX6_lay_37 : decode cX6_lay 37 = .ok (.bastore, 1) := by decide +kernel
theorem dX6_lay_38 : decode cX6_lay 38 = .ok (.iconst 1, 1) := by decide +kernel
theorem dX6_lay_39 : decode cX6_lay 39 = .ok (.ireturn, 1) := by decide +kernel
theorem dX6_goBack_0 : decode cX6_goBack 0 = .ok (.iload_n 1, 1) := by decide +kernel
theorem dX6_goBack_1 : decode cX6_goBack 1 = .ok (.ifCond .lt 17, 3) := by decide +kernel
theorem dX6_goBack_4 : decode cX6_goBack 4 = .ok (.iload_n 1, 1) := by decide +kernel
theorem dX6_goBack_5 : decode cX6_goBack 5 = .ok (.iconst 4, 1) := by decide +kernel
theorem dX6_goBack_6 : decode cX6_goBack 6 = .ok (.if_icmp .ge 12, 3) := by decide +kernel
theorem dX6_goBack_9 : decode cX6_goBack 9 = .ok (.aload_n 0, 1) := by decide +kernel
theorem dX6_goBack_10 : decode cX6_goBack 10 = .ok (.getfield 26, 3) := by decide +kernel
theorem dX6_goBack_13 : decode cX6_goBack 13 = .ok (.iload_n 1, 1) := by decide +kernel
theorem dX6_goBack_14 : decode cX6_goBack 14 = .ok (.baload, 1) := by decide +kernel
theorem dX6_goBack_15 : decode cX6_goBack 15 = .ok (.ifCond .ne 5, 3) := by decide +kernel
theorem dX6_goBack_18 : decode cX6_goBack 18 = .ok (.iconst 0, 1) := by decide +kernel
theorem dX6_goBack_19 : decode cX6_goBack 19 = .ok (.ireturn, 1) := by decide +kernel
theorem dX6_goBack_20 : decode cX6_goBack 20 = .ok (.aload_n 2, 1) := by decide +kernel
theorem dX6_goBack_21 : decode cX6_goBack 21 = .ok (.aload_n 0, 1) := by decide +kernel
theorem dX6_goBack_22 : decode cX6_goBack 22 = .ok (.getfield 17, 3) := by decide +kernel
theorem dX6_goBack_25 : decode cX6_goBack 25 = .ok (.iload_n 1, 1) := by decide +kernel
theorem dX6_goBack_26 : decode cX6_goBack 26 = .ok (.aaload, 1) := by decide +kernel
theorem dX6_goBack_27 : decode cX6_goBack 27 = .ok (.invokevirtual 36, 3) := by decide +kernel
theorem dX6_goBack_30 : decode cX6_goBack 30 = .ok (.aload_n 3, 1) := by decide +kernel
theorem dX6_goBack_31 : decode cX6_goBack 31 = .ok (.aload_n 0, 1) := by decide +kernel
theorem dX6_goBack_32 : decode cX6_goBack 32 = .ok (.getfield 22, 3) := by decide +kernel
theorem dX6_goBack_35 : decode cX6_goBack 35 = .ok (.iload_n 1, 1) := by decide +kernel
theorem dX6_goBack_36 : decode cX6_goBack 36 = .ok (.aaload, 1) := by decide +kernel
theorem dX6_goBack_37 : decode cX6_goBack 37 = .ok (.invokevirtual 49, 3) := by decide +kernel
theorem dX6_goBack_40 : decode cX6_goBack 40 = .ok (.aload_n 0, 1) := by decide +kernel
theorem dX6_goBack_41 : decode cX6_goBack 41 = .ok (.iconst 0, 1) := by decide +kernel
theorem dX6_goBack_42 : decode cX6_goBack 42 = .ok (.putfield 40, 3) := by decide +kernel
theorem dX6_goBack_45 : decode cX6_goBack 45 = .ok (.iconst 1, 1) := by decide +kernel
theorem dX6_goBack_46 : decode cX6_goBack 46 = .ok (.ireturn, 1) := by decide +kernel
theorem dX6_forget_0 : decode cX6_forget 0 = .ok (.aload_n 0, 1) := by decide +kernel
theorem dX6_forget_1 : decode cX6_forget 1 = .ok (.iconst 0, 1) := by decide +kernel
theorem dX6_forget_2 : decode cX6_forget 2 = .ok (.putfield 40, 3) := by decide +kernel
theorem dX6_forget_5 : decode cX6_forget 5 = .ok (.iconst 0, 1) := by decide +kernel
theorem dX6_forget_6 : decode cX6_forget 6 = .ok (.istore_n 1, 1) := by decide +kernel
theorem dX6_forget_7 : decode cX6_forget 7 = .ok (.iload_n 1, 1) := by decide +kernel
theorem dX6_forget_8 : decode cX6_forget 8 = .ok (.iconst 4, 1) := by decide +kernel
theorem dX6_forget_9 : decode cX6_forget 9 = .ok (.if_icmp .ge 16, 3) := by decide +kernel
theorem dX6_forget_12 : decode cX6_forget 12 = .ok (.aload_n 0, 1) := by decide +kernel
theorem dX6_forget_13 : decode cX6_forget 13 = .ok (.getfield 26, 3) := by decide +kernel
theorem dX6_forget_16 : decode cX6_forget 16 = .ok (.iload_n 1, 1) := by decide +kernel
theorem dX6_forget_17 : decode cX6_forget 17 = .ok (.iconst 0, 1) := by decide +kernel
theorem dX6_forget_18 : decode cX6_forget 18 = .ok (.bastore, 1) := by decide +kernel
theorem dX6_forget_19 : decode cX6_forget 19 = .ok (.iinc 1 1, 3) := by decide +kernel
theorem dX6_forget_22 : decode cX6_forget 22 = .ok (.goto (-15), 3) := by decide +kernel
theorem dX6_forget_25 : decode cX6_forget 25 = .ok (.return_, 1) := by decide +kernel
theorem dX7_init_0 : decode cX7_init 0 = .ok (.aload_n 0, 1) := by decide +kernel
theorem dX7_init_1 : decode cX7_init 1 = .ok (.invokespecial 3, 3) := by decide +kernel
theorem dX7_init_4 : decode cX7_init 4 = .ok (.aload_n 0, 1) := by decide +kernel
theorem dX7_init_5 : decode cX7_init 5 = .ok (.aload_n 1, 1) := by decide +kernel
theorem dX7_init_6 : decode cX7_init 6 = .ok (.putfield 9, 3) := by decide +kernel
theorem dX7_init_9 : decode cX7_init 9 = .ok (.return_, 1) := by decide +kernel
theorem dX7_readGrate_0 : decode cX7_readGrate 0 = .ok (.aload_n 1, 1) := by decide +kernel
theorem dX7_readGrate_1 : decode cX7_readGrate 1 = .ok (.invokevirtual 15, 3) := by decide +kernel
theorem dX7_readGrate_4 : decode cX7_readGrate 4 = .ok (.aload_n 0, 1) := by decide +kernel
theorem dX7_readGrate_5 : decode cX7_readGrate 5 = .ok (.getfield 9, 3) := by decide +kernel
theorem dX7_readGrate_8 : decode cX7_readGrate 8 = .ok (.invokevirtual 20, 3) := by decide +kernel
theorem dX7_readGrate_11 : decode cX7_readGrate 11 = .ok (.iconst 0, 1) := by decide +kernel
theorem dX7_readGrate_12 : decode cX7_readGrate 12 = .ok (.istore_n 2, 1) := by decide +kernel
theorem dX7_readGrate_13 : decode cX7_readGrate 13 = .ok (.iload_n 2, 1) := by decide +kernel
theorem dX7_readGrate_14 : decode cX7_readGrate 14 = .ok (.sipush 1000, 3) := by decide +kernel
theorem dX7_readGrate_17 : decode cX7_readGrate 17 = .ok (.if_icmp .ge 32, 3) := by decide +kernel
theorem dX7_readGrate_20 : decode cX7_readGrate 20 = .ok (.aload_n 0, 1) := by decide +kernel
theorem dX7_readGrate_21 : decode cX7_readGrate 21 = .ok (.getfield 9, 3) := by decide +kernel
theorem dX7_readGrate_24 : decode cX7_readGrate 24 = .ok (.getfield 25, 3) := by decide +kernel
theorem dX7_readGrate_27 : decode cX7_readGrate 27 = .ok (.ifCond .eq 22, 3) := by decide +kernel
theorem dX7_readGrate_30 : decode cX7_readGrate 30 = .ok (.aload_n 0, 1) := by decide +kernel
theorem dX7_readGrate_31 : decode cX7_readGrate 31 = .ok (.aload_n 1, 1) := by decide +kernel
theorem dX7_readGrate_32 : decode cX7_readGrate 32 = .ok (.invokevirtual 29, 3) := by decide +kernel
theorem dX7_readGrate_35 : decode cX7_readGrate 35 = .ok (.ifCond .ne 8, 3) := by decide +kernel
theorem dX7_readGrate_38 : decode cX7_readGrate 38 = .ok (.aload_n 0, 1) := by decide +kernel
theorem dX7_readGrate_39 : decode cX7_readGrate 39 = .ok (.getfield 33, 3) := by decide +kernel
theorem dX7_readGrate_42 : decode cX7_readGrate 42 = .ok (.ireturn, 1) := by decide +kernel
theorem dX7_readGrate_43 : decode cX7_readGrate 43 = .ok (.iinc 2 1, 3) := by decide +kernel
theorem dX7_readGrate_46 : decode cX7_readGrate 46 = .ok (.goto (-33), 3) := by decide +kernel
theorem dX7_readGrate_49 : decode cX7_readGrate 49 = .ok (.iconst 0, 1) := by decide +kernel
theorem dX7_readGrate_50 : decode cX7_readGrate 50 = .ok (.ireturn, 1) := by decide +kernel
theorem dX7_readEvening_0 : decode cX7_readEvening 0 = .ok (.aload_n 1, 1) := by decide +kernel
theorem dX7_readEvening_1 : decode cX7_readEvening 1 = .ok (.invokevirtual 36, 3) := by decide +kernel
theorem dX7_readEvening_4 : decode cX7_readEvening 4 = .ok (.aload_n 0, 1) := by decide +kernel
theorem dX7_readEvening_5 : decode cX7_readEvening 5 = .ok (.getfield 9, 3) := by decide +kernel
theorem dX7_readEvening_8 : decode cX7_readEvening 8 = .ok (.invokevirtual 20, 3) := by decide +kernel
theorem dX7_readEvening_11 : decode cX7_readEvening 11 = .ok (.iconst 0, 1) := by decide +kernel
theorem dX7_readEvening_12 : decode cX7_readEvening 12 = .ok (.istore_n 3, 1) := by decide +kernel
theorem dX7_readEvening_13 : decode cX7_readEvening 13 = .ok (.iload_n 3, 1) := by decide +kernel
theorem dX7_readEvening_14 : decode cX7_readEvening 14 = .ok (.bipush 40, 2) := by decide +kernel
theorem dX7_readEvening_16 : decode cX7_readEvening 16 = .ok (.if_icmp .gt 33, 3) := by decide +kernel
theorem dX7_readEvening_19 : decode cX7_readEvening 19 = .ok (.aload_n 0, 1) := by decide +kernel
theorem dX7_readEvening_20 : decode cX7_readEvening 20 = .ok (.getfield 9, 3) := by decide +kernel
theorem dX7_readEvening_23 : decode cX7_readEvening 23 = .ok (.getfield 25, 3) := by decide +kernel
theorem dX7_readEvening_26 : decode cX7_readEvening 26 = .ok (.ifCond .eq 23, 3) := by decide +kernel
theorem dX7_readEvening_29 : decode cX7_readEvening 29 = .ok (.aload_n 0, 1) := by decide +kernel
theorem dX7_readEvening_30 : decode cX7_readEvening 30 = .ok (.aload_n 1, 1) := by decide +kernel
theorem dX7_readEvening_31 : decode cX7_readEvening 31 = .ok (.aload_n 2, 1) := by decide +kernel
theorem dX7_readEvening_32 : decode cX7_readEvening 32 = .ok (.invokevirtual 39, 3) := by decide +kernel
theorem dX7_readEvening_35 : decode cX7_readEvening 35 = .ok (.ifCond .ne 8, 3) := by decide +kernel
theorem dX7_readEvening_38 : decode cX7_readEvening 38 = .ok (.aload_n 0, 1) := by decide +kernel
theorem dX7_readEvening_39 : decode cX7_readEvening 39 = .ok (.getfield 33, 3) := by decide +kernel
theorem dX7_readEvening_42 : decode cX7_readEvening 42 = .ok (.ireturn, 1) := by decide +kernel
theorem dX7_readEvening_43 : decode cX7_readEvening 43 = .ok (.iinc 3 1, 3) := by decide +kernel
theorem dX7_readEvening_46 : decode cX7_readEvening 46 = .ok (.goto (-33), 3) := by decide +kernel
theorem dX7_readEvening_49 : decode cX7_readEvening 49 = .ok (.iconst 0, 1) := by decide +kernel
theorem dX7_readEvening_50 : decode cX7_readEvening 50 = .ok (.ireturn, 1) := by decide +kernel
theorem dX7_wrong_0 : decode cX7_wrong 0 = .ok (.aload_n 0, 1) := by decide +kernel
theorem dX7_wrong_1 : decode cX7_wrong 1 = .ok (.iload_n 1, 1) := by decide +kernel
theorem dX7_wrong_2 : decode cX7_wrong 2 = .ok (.bipush 16, 2) := by decide +kernel
theorem dX7_wrong_4 : decode cX7_wrong 4 = .ok (.aload_n 0, 1) := by decide +kernel
theorem dX7_wrong_5 : decode cX7_wrong 5 = .ok (.getfield 9, 3) := by decide +kernel
theorem dX7_wrong_8 : decode cX7_wrong 8 = .ok (.getfield 43, 3) := by decide +kernel
theorem dX7_wrong_11 : decode cX7_wrong 11 = .ok (.imul, 1) := by decide +kernel
theorem dX7_wrong_12 : decode cX7_wrong 12 = .ok (.iadd, 1) := by decide +kernel
theorem dX7_wrong_13 : decode cX7_wrong 13 = .ok (.putfield 33, 3) := by decide +kernel
theorem dX7_wrong_16 : decode cX7_wrong 16 = .ok (.iconst 0, 1) := by decide +kernel
theorem dX7_wrong_17 : decode cX7_wrong 17 = .ok (.ireturn, 1) := by decide +kernel
theorem dX7_takeKey_0 : decode cX7_takeKey 0 = .ok (.aload_n 0, 1) := by decide +kernel
theorem dX7_takeKey_1 : decode cX7_takeKey 1 = .ok (.getfield 9, 3) := by decide +kernel
theorem dX7_takeKey_4 : decode cX7_takeKey 4 = .ok (.getfield 46, 3) := by decide +kernel
theorem dX7_takeKey_7 : decode cX7_takeKey 7 = .ok (.aload_n 1, 1) := by decide +kernel
theorem dX7_takeKey_8 : decode cX7_takeKey 8 = .ok (.if_acmp .eq 9, 3) := by decide +kernel
theorem dX7_takeKey_11 : decode cX7_takeKey 11 = .ok (.aload_n 0, 1) := by decide +kernel
theorem dX7_takeKey_12 : decode cX7_takeKey 12 = .ok (.iconst 1, 1) := by decide +kernel
theorem dX7_takeKey_13 : decode cX7_takeKey 13 = .ok (.invokevirtual 50, 3) := by decide +kernel
theorem dX7_takeKey_16 : decode cX7_takeKey 16 = .ok (.ireturn, 1) := by decide +kernel
theorem dX7_takeKey_17 : decode cX7_takeKey 17 = .ok (.aload_n 0, 1) := by decide +kernel
theorem dX7_takeKey_18 : decode cX7_takeKey 18 = .ok (.getfield 9, 3) := by decide +kernel
theorem dX7_takeKey_21 : decode cX7_takeKey 21 = .ok (.invokevirtual 54, 3) := by decide +kernel
theorem dX7_takeKey_24 : decode cX7_takeKey 24 = .ok (.iconst 1, 1) := by decide +kernel
theorem dX7_takeKey_25 : decode cX7_takeKey 25 = .ok (.ireturn, 1) := by decide +kernel
theorem dX7_takeSign_0 : decode cX7_takeSign 0 = .ok (.aload_n 0, 1) := by decide +kernel
theorem dX7_takeSign_1 : decode cX7_takeSign 1 = .ok (.getfield 9, 3) := by decide +kernel
theorem dX7_takeSign_4 : decode cX7_takeSign 4 = .ok (.iload_n 1, 1) := by decide +kernel
theorem dX7_takeSign_5 : decode cX7_takeSign 5 = .ok (.invokevirtual 57, 3) := by decide +kernel
theorem dX7_takeSign_8 : decode cX7_takeSign 8 = .ok (.ifCond .ne 9, 3) := by decide +kernel
theorem dX7_takeSign_11 : decode cX7_takeSign 11 = .ok (.aload_n 0, 1) := by decide +kernel
theorem dX7_takeSign_12 : decode cX7_takeSign 12 = .ok (.iconst 1, 1) := by decide +kernel
theorem dX7_takeSign_13 : decode cX7_takeSign 13 = .ok (.invokevirtual 50, 3) := by decide +kernel
theorem dX7_takeSign_16 : decode cX7_takeSign 16 = .ok (.ireturn, 1) := by decide +kernel
theorem dX7_takeSign_17 : decode cX7_takeSign 17 = .ok (.aload_n 0, 1) := by decide +kernel
theorem dX7_takeSign_18 : decode cX7_takeSign 18 = .ok (.getfield 9, 3) := by decide +kernel
theorem dX7_takeSign_21 : decode cX7_takeSign 21 = .ok (.invokevirtual 54, 3) := by decide +kernel
theorem dX7_takeSign_24 : decode cX7_takeSign 24 = .ok (.iconst 1, 1) := by decide +kernel
theorem dX7_takeSign_25 : decode cX7_takeSign 25 = .ok (.ireturn, 1) := by decide +kernel
theorem dX7_takeNumber_0 : decode cX7_takeNumber 0 = .ok (.aload_n 0, 1) := by decide +kernel
theorem dX7_takeNumber_1 : decode cX7_takeNumber 1 = .ok (.getfield 9, 3) := by decide +kernel
theorem dX7_takeNumber_4 : decode cX7_takeNumber 4 = .ok (.getfield 25, 3) := by decide +kernel
theorem dX7_takeNumber_7 : decode cX7_takeNumber 7 = .ok (.iconst 3, 1) := by decide +kernel
theorem dX7_takeNumber_8 : decode cX7_takeNumber 8 = .ok (.if_icmp .eq 11, 3) := by decide +kernel
theorem dX7_takeNumber_11 : decode cX7_takeNumber 11 = .ok (.aload_n 0, 1) := by decide +kernel
theorem dX7_takeNumber_12 : decode cX7_takeNumber 12 = .ok (.iconst 1, 1) := by decide +kernel
theorem dX7_takeNumber_13 : decode cX7_takeNumber 13 = .ok (.invokevirtual 50, 3) := by decide +kernel
theorem dX7_takeNumber_16 : decode cX7_takeNumber 16 = .ok (.pop, 1) := by decide +kernel
theorem dX7_takeNumber_17 : decode cX7_takeNumber 17 = .ok (.iconst (-1), 1) := by decide +kernel
theorem dX7_takeNumber_18 : decode cX7_takeNumber 18 = .ok (.ireturn, 1) := by decide +kernel
theorem dX7_takeNumber_19 : decode cX7_takeNumber 19 = .ok (.aload_n 0, 1) := by decide +kernel
theorem dX7_takeNumber_20 : decode cX7_takeNumber 20 = .ok (.getfield 9, 3) := by decide +kernel
theorem dX7_takeNumber_23 : decode cX7_takeNumber 23 = .ok (.getfield 60, 3) := by decide +kernel
theorem dX7_takeNumber_26 : decode cX7_takeNumber 26 = .ok (.istore_n 3, 1) := by decide +kernel
theorem dX7_takeNumber_27 : decode cX7_takeNumber 27 = .ok (.iload_n 3, 1) := by decide +kernel
theorem dX7_takeNumber_28 : decode cX7_takeNumber 28 = .ok (.iload_n 1, 1) := by decide +kernel
theorem dX7_takeNumber_29 : decode cX7_takeNumber 29 = .ok (.if_icmp .lt 8, 3) := by decide +kernel
theorem dX7_takeNumber_32 : decode cX7_takeNumber 32 = .ok (.iload_n 3, 1) := by decide +kernel
theorem dX7_takeNumber_33 : decode cX7_takeNumber 33 = .ok (.iload_n 2, 1) := by decide +kernel
theorem dX7_takeNumber_34 : decode cX7_takeNumber 34 = .ok (.if_icmp .le 11, 3) := by decide +kernel
theorem dX7_takeNumber_37 : decode cX7_takeNumber 37 = .ok (.aload_n 0, 1) := by decide +kernel
theorem dX7_takeNumber_38 : decode cX7_takeNumber 38 = .ok (.iconst 4, 1) := by decide +kernel
theorem dX7_takeNumber_39 : decode cX7_takeNumber 39 = .ok (.invokevirtual 50, 3) := by decide +kernel
theorem dX7_takeNumber_42 : decode cX7_takeNumber 42 = .ok (.pop, 1) := by decide +kernel
theorem dX7_takeNumber_43 : decode cX7_takeNumber 43 = .ok (.iconst (-1), 1) := by decide +kernel
theorem dX7_takeNumber_44 : decode cX7_takeNumber 44 = .ok (.ireturn, 1) := by decide +kernel
theorem dX7_takeNumber_45 : decode cX7_takeNumber 45 = .ok (.aload_n 0, 1) := by decide +kernel
theorem dX7_takeNumber_46 : decode cX7_takeNumber 46 = .ok (.getfield 9, 3) := by decide +kernel
theorem dX7_takeNumber_49 : decode cX7_takeNumber 49 = .ok (.invokevirtual 54, 3) := by decide +kernel
theorem dX7_takeNumber_52 : decode cX7_takeNumber 52 = .ok (.iload_n 3, 1) := by decide +kernel
theorem dX7_takeNumber_53 : decode cX7_takeNumber 53 = .ok (.ireturn, 1) := by decide +kernel
theorem dX7_grateLine_0 : decode cX7_grateLine 0 = .ok (.aload_n 0, 1) := by decide +kernel
theorem dX7_grateLine_1 : decode cX7_grateLine 1 = .ok (.getfield 9, 3) := by decide +kernel
theorem dX7_grateLine_4 : decode cX7_grateLine 4 = .ok (.getfield 46, 3) := by decide +kernel
theorem dX7_grateLine_7 : decode cX7_grateLine 7 = .ok (.getstatic 63, 3) := by decide +kernel
theorem dX7_grateLine_10 : decode cX7_grateLine 10 = .ok (.if_acmp .ne 26, 3) := by decide +kernel
theorem dX7_grateLine_13 : decode cX7_grateLine 13 = .ok (.aload_n 1, 1) := by decide +kernel
theorem dX7_grateLine_14 : decode cX7_grateLine 14 = .ok (.getfield 68, 3) := by decide +kernel
theorem dX7_grateLine_17 : decode cX7_grateLine 17 = .ok (.bipush 7, 2) := by decide +kernel
theorem dX7_grateLine_19 : decode cX7_grateLine 19 = .ok (.if_icmp .lt 11, 3) := by decide +kernel
theorem dX7_grateLine_22 : decode cX7_grateLine 22 = .ok (.aload_n 0, 1) := by decide +kernel
theorem dX7_grateLine_23 : decode cX7_grateLine 23 = .ok (.iconst 5, 1) := by decide +kernel
theorem dX7_grateLine_24 : decode cX7_grateLine 24 = .ok (.invokevirtual 50, 3) := by decide +kernel
theorem dX7_grateLine_27 : decode cX7_grateLine 27 = .ok (.goto 8, 3) := by decide +kernel
theorem dX7_grateLine_30 : decode cX7_grateLine 30 = .ok (.aload_n 0, 1) := by decide +kernel
theorem dX7_grateLine_31 : decode cX7_grateLine 31 = .ok (.aload_n 1, 1) := by decide +kernel
theorem dX7_grateLine_32 : decode cX7_grateLine 32 = .ok (.invokevirtual 71, 3) := by decide +kernel
theorem dX7_grateLine_35 : decode cX7_grateLine 35 = .ok (.ireturn, 1) := by decide +kernel
theorem dX7_grateLine_36 : decode cX7_grateLine 36 = .ok (.aload_n 0, 1) := by decide +kernel
theorem dX7_grateLine_37 : decode cX7_grateLine 37 = .ok (.getfield 9, 3) := by decide +kernel
theorem dX7_grateLine_40 : decode cX7_grateLine 40 = .ok (.getfield 46, 3) := by decide +kernel
theorem dX7_grateLine_43 : decode cX7_grateLine 43 = .ok (.getstatic 74, 3) := by decide +kernel
theorem dX7_grateLine_46 : decode cX7_grateLine 46 = .ok (.if_acmp .ne 24, 3) := by decide +kernel
theorem dX7_grateLine_49 : decode cX7_grateLine 49 = .ok (.aload_n 1, 1) := by decide +kernel
theorem dX7_grateLine_50 : decode cX7_grateLine 50 = .ok (.getfield 77, 3) := by decide +kernel
theorem dX7_grateLine_53 : decode cX7_grateLine 53 = .ok (.ifCond .le 11, 3) := by decide +kernel
theorem dX7_grateLine_56 : decode cX7_grateLine 56 = .ok (.aload_n 0, 1) := by decide +kernel
theorem dX7_grateLine_57 : decode cX7_grateLine 57 = .ok (.iconst 3, 1) := by decide +kernel
theorem dX7_grateLine_58 : decode cX7_grateLine 58 = .ok (.invokevirtual 50, 3) := by decide +kernel
theorem dX7_grateLine_61 : decode cX7_grateLine 61 = .ok (.goto 8, 3) := by decide +kernel
theorem dX7_grateLine_64 : decode cX7_grateLine 64 = .ok (.aload_n 0, 1) := by decide +kernel
theorem dX7_grateLine_65 : decode cX7_grateLine 65 = .ok (.aload_n 1, 1) := by decide +kernel
theorem dX7_grateLine_66 : decode cX7_grateLine 66 = .ok (.invokevirtual 80, 3) := by decide +kernel
theorem dX7_grateLine_69 : decode cX7_grateLine 69 = .ok (.ireturn, 1) := by decide +kernel
theorem dX7_grateLine_70 : decode cX7_grateLine 70 = .ok (.aload_n 0, 1) := by decide +kernel
theorem dX7_grateLine_71 : decode cX7_grateLine 71 = .ok (.getfield 9, 3) := by decide +kernel
theorem dX7_grateLine_74 : decode cX7_grateLine 74 = .ok (.getfield 46, 3) := by decide +kernel
theorem dX7_grateLine_77 : decode cX7_grateLine 77 = .ok (.getstatic 83, 3) := by decide +kernel
theorem dX7_grateLine_80 : decode cX7_grateLine 80 = .ok (.if_acmp .ne 24, 3) := by decide +kernel
theorem dX7_grateLine_83 : decode cX7_grateLine 83 = .ok (.aload_n 1, 1) := by decide +kernel
theorem dX7_grateLine_84 : decode cX7_grateLine 84 = .ok (.getfield 86, 3) := by decide +kernel
theorem dX7_grateLine_87 : decode cX7_grateLine 87 = .ok (.ifCond .eq 11, 3) := by decide +kernel
theorem dX7_grateLine_90 : decode cX7_grateLine 90 = .ok (.aload_n 0, 1) := by decide +kernel
theorem dX7_grateLine_91 : decode cX7_grateLine 91 = .ok (.iconst 3, 1) := by decide +kernel
theorem dX7_grateLine_92 : decode cX7_grateLine 92 = .ok (.invokevirtual 50, 3) := by decide +kernel
theorem dX7_grateLine_95 : decode cX7_grateLine 95 = .ok (.goto 8, 3) := by decide +kernel
theorem dX7_grateLine_98 : decode cX7_grateLine 98 = .ok (.aload_n 0, 1) := by decide +kernel
theorem dX7_grateLine_99 : decode cX7_grateLine 99 = .ok (.aload_n 1, 1) := by decide +kernel
theorem dX7_grateLine_100 : decode cX7_grateLine 100 = .ok (.invokevirtual 90, 3) := by decide +kernel
theorem dX7_grateLine_103 : decode cX7_grateLine 103 = .ok (.ireturn, 1) := by decide +kernel
theorem dX7_grateLine_104 : decode cX7_grateLine 104 = .ok (.aload_n 0, 1) := by decide +kernel
theorem dX7_grateLine_105 : decode cX7_grateLine 105 = .ok (.getfield 9, 3) := by decide +kernel
theorem dX7_grateLine_108 : decode cX7_grateLine 108 = .ok (.getfield 46, 3) := by decide +kernel
theorem dX7_grateLine_111 : decode cX7_grateLine 111 = .ok (.getstatic 93, 3) := by decide +kernel
theorem dX7_grateLine_114 : decode cX7_grateLine 114 = .ok (.if_acmp .ne 54, 3) := by decide +kernel
theorem dX7_grateLine_117 : decode cX7_grateLine 117 = .ok (.aload_n 1, 1) := by decide +kernel
theorem dX7_grateLine_118 : decode cX7_grateLine 118 = .ok (.getfield 96, 3) := by decide +kernel
theorem dX7_grateLine_121 : decode cX7_grateLine 121 = .ok (.getfield 100, 3) := by decide +kernel
theorem dX7_grateLine_124 : decode cX7_grateLine 124 = .ok (.ifCond .le 9, 3) := by decide +kernel
theorem dX7_grateLine_127 : decode cX7_grateLine 127 = .ok (.aload_n 0, 1) := by decide +kernel
theorem dX7_grateLine_128 : decode cX7_grateLine 128 = .ok (.iconst 3, 1) := by decide +kernel
theorem dX7_grateLine_129 : decode cX7_grateLine 129 = .ok (.invokevirtual 50, 3) := by decide +kernel
theorem dX7_grateLine_132 : decode cX7_grateLine 132 = .ok (.ireturn, 1) := by decide +kernel
theorem dX7_grateLine_133 : decode cX7_grateLine 133 = .ok (.aload_n 0, 1) := by decide +kernel
theorem dX7_grateLine_134 : decode cX7_grateLine 134 = .ok (.getfield 9, 3) := by decide +kernel
theorem dX7_grateLine_137 : decode cX7_grateLine 137 = .ok (.invokevirtual 54, 3) := by decide +kernel
theorem dX7_grateLine_140 : decode cX7_grateLine 140 = .ok (.aload_n 0, 1) := by decide +kernel
theorem dX7_grateLine_141 : decode cX7_grateLine 141 = .ok (.aload_n 1, 1) := by decide +kernel
theorem dX7_grateLine_142 : decode cX7_grateLine 142 = .ok (.getfield 96, 3) := by decide +kernel
theorem dX7_grateLine_145 : decode cX7_grateLine 145 = .ok (.iconst 0, 1) := by decide +kernel
theorem dX7_grateLine_146 : decode cX7_grateLine 146 = .ok (.iconst 0, 1) := by decide +kernel
theorem dX7_grateLine_147 : decode cX7_grateLine 147 = .ok (.invokevirtual 105, 3) := by decide +kernel
theorem dX7_grateLine_150 : decode cX7_grateLine 150 = .ok (.ifCond .eq 16, 3) := by decide +kernel
theorem dX7_grateLine_153 : decode cX7_grateLine 153 = .ok (.aload_n 0, 1) := by decide +kernel
theorem dX7_grateLine_154 : decode cX7_grateLine 154 = .ok (.bipush 59, 2) := by decide +kernel
theorem dX7_grateLine_156 : decode cX7_grateLine 156 = .ok (.invokevirtual 109, 3) := by decide +kernel
theorem dX7_grateLine_159 : decode cX7_grateLine 159 = .ok (.ifCond .eq 7, 3) := by decide +kernel
theorem dX7_grateLine_162 : decode cX7_grateLine 162 = .ok (.iconst 1, 1) := by decide +kernel
theorem dX7_grateLine_163 : decode cX7_grateLine 163 = .ok (.goto 4, 3) := by decide +kernel
theorem dX7_grateLine_166 : decode cX7_grateLine 166 = .ok (.iconst 0, 1) := by decide +kernel
theorem dX7_grateLine_167 : decode cX7_grateLine 167 = .ok (.ireturn, 1) := by decide +kernel
theorem dX7_grateLine_168 : decode cX7_grateLine 168 = .ok (.aload_n 0, 1) := by decide +kernel
theorem dX7_grateLine_169 : decode cX7_grateLine 169 = .ok (.iconst 1, 1) := by decide +kernel
theorem dX7_grateLine_170 : decode cX7_grateLine 170 = .ok (.invokevirtual 50, 3) := by decide +kernel
theorem dX7_grateLine_173 : decode cX7_grateLine 173 = .ok (.ireturn, 1) := by decide +kernel
theorem dX7_emberLine_0 : decode cX7_emberLine 0 = .ok (.aload_n 0, 1) := by decide +kernel
theorem dX7_emberLine_1 : decode cX7_emberLine 1 = .ok (.getfield 9, 3) := by decide +kernel
theorem dX7_emberLine_4 : decode cX7_emberLine 4 = .ok (.invokevirtual 54, 3) := by decide +kernel
theorem dX7_emberLine_7 : decode cX7_emberLine 7 = .ok (.aload_n 0, 1) := by decide +kernel
theorem dX7_emberLine_8 : decode cX7_emberLine 8 = .ok (.getfield 9, 3) := by decide +kernel
theorem dX7_emberLine_11 : decode cX7_emberLine 11 = .ok (.getfield 46, 3) := by decide +kernel
theorem dX7_emberLine_14 : decode cX7_emberLine 14 = .ok (.getfield 112, 3) := by decide +kernel
theorem dX7_emberLine_17 : decode cX7_emberLine 17 = .ok (.ifCond .ne 9, 3) := by decide +kernel
theorem dX7_emberLine_20 : decode cX7_emberLine 20 = .ok (.aload_n 0, 1) := by decide +kernel
theorem dX7_emberLine_21 : decode cX7_emberLine 21 = .ok (.iconst 1, 1) := by decide +kernel
theorem dX7_emberLine_22 : decode cX7_emberLine 22 = .ok (.invokevirtual 50, 3) := by decide +kernel
theorem dX7_emberLine_25 : decode cX7_emberLine 25 = .ok (.ireturn, 1) := by decide +kernel
theorem dX7_emberLine_26 : decode cX7_emberLine 26 = .ok (.aload_n 0, 1) := by decide +kernel
theorem dX7_emberLine_27 : decode cX7_emberLine 27 = .ok (.getfield 9, 3) := by decide +kernel
theorem dX7_emberLine_30 : decode cX7_emberLine 30 = .ok (.getfield 115, 3) := by decide +kernel
theorem dX7_emberLine_33 : decode cX7_emberLine 33 = .ok (.lstore_n 2, 1) := by decide +kernel
theorem dX7_emberLine_34 : decode cX7_emberLine 34 = .ok (.aload_n 1, 1) := by decide +kernel
theorem dX7_emberLine_35 : decode cX7_emberLine 35 = .ok (.lload_n 2, 1) := by decide +kernel
theorem dX7_emberLine_36 : decode cX7_emberLine 36 = .ok (.invokevirtual 119, 3) := by decide +kernel
theorem dX7_emberLine_39 : decode cX7_emberLine 39 = .ok (.iconst (-1), 1) := by decide +kernel
theorem dX7_emberLine_40 : decode cX7_emberLine 40 = .ok (.if_icmp .eq 9, 3) := by decide +kernel
theorem dX7_emberLine_43 : decode cX7_emberLine 43 = .ok (.aload_n 0, 1) := by decide +kernel
theorem dX7_emberLine_44 : decode cX7_emberLine 44 = .ok (.iconst 3, 1) := by decide +kernel
theorem dX7_emberLine_45 : decode cX7_emberLine 45 = .ok (.invokevirtual 50, 3) := by decide +kernel
theorem dX7_emberLine_48 : decode cX7_emberLine 48 = .ok (.ireturn, 1) := by decide +kernel
theorem dX7_emberLine_49 : decode cX7_emberLine 49 = .ok (.aload_n 0, 1) := by decide +kernel
theorem dX7_emberLine_50 : decode cX7_emberLine 50 = .ok (.getfield 9, 3) := by decide +kernel
theorem dX7_emberLine_53 : decode cX7_emberLine 53 = .ok (.invokevirtual 54, 3) := by decide +kernel
theorem dX7_emberLine_56 : decode cX7_emberLine 56 = .ok (.aload_n 0, 1) := by decide +kernel
theorem dX7_emberLine_57 : decode cX7_emberLine 57 = .ok (.getfield 9, 3) := by decide +kernel
theorem dX7_emberLine_60 : decode cX7_emberLine 60 = .ok (.getfield 46, 3) := by decide +kernel
theorem dX7_emberLine_63 : decode cX7_emberLine 63 = .ok (.getfield 123, 3) := by decide +kernel
theorem dX7_emberLine_66 : decode cX7_emberLine 66 = .ok (.istore 4, 2) := by decide +kernel
theorem dX7_emberLine_68 : decode cX7_emberLine 68 = .ok (.iload 4, 2) := by decide +kernel
theorem dX7_emberLine_70 : decode cX7_emberLine 70 = .ok (.iconst (-1), 1) := by decide +kernel
theorem dX7_emberLine_71 : decode cX7_emberLine 71 = .ok (.if_icmp .ne 9, 3) := by decide +kernel
theorem dX7_emberLine_74 : decode cX7_emberLine 74 = .ok (.aload_n 0, 1) := by decide +kernel
theorem dX7_emberLine_75 : decode cX7_emberLine 75 = .ok (.iconst 1, 1) := by decide +kernel
theorem dX7_emberLine_76 : decode cX7_emberLine 76 = .ok (.invokevirtual 50, 3) := by decide +kernel
theorem dX7_emberLine_79 : decode cX7_emberLine 79 = .ok (.ireturn, 1) := by decide +kernel
theorem dX7_emberLine_80 : decode cX7_emberLine 80 = .ok (.aload_n 0, 1) := by decide +kernel
theorem dX7_emberLine_81 : decode cX7_emberLine 81 = .ok (.getfield 9, 3) := by decide +kernel
theorem dX7_emberLine_84 : decode cX7_emberLine 84 = .ok (.invokevirtual 54, 3) := by decide +kernel
theorem dX7_emberLine_87 : decode cX7_emberLine 87 = .ok (.aload_n 0, 1) := by decide +kernel
theorem dX7_emberLine_88 : decode cX7_emberLine 88 = .ok (.getstatic 126, 3) := by decide +kernel
theorem dX7_emberLine_91 : decode cX7_emberLine 91 = .ok (.invokevirtual 129, 3) := by decide +kernel
theorem dX7_emberLine_94 : decode cX7_emberLine 94 = .ok (.ifCond .ne 5, 3) := by decide +kernel
theorem dX7_emberLine_97 : decode cX7_emberLine 97 = .ok (.iconst 0, 1) := by decide +kernel
theorem dX7_emberLine_98 : decode cX7_emberLine 98 = .ok (.ireturn, 1) := by decide +kernel
theorem dX7_emberLine_99 : decode cX7_emberLine 99 = .ok (.aload_n 0, 1) := by decide +kernel
theorem dX7_emberLine_100 : decode cX7_emberLine 100 = .ok (.getfield 9, 3) := by decide +kernel
theorem dX7_emberLine_103 : decode cX7_emberLine 103 = .ok (.getfield 25, 3) := by decide +kernel
theorem dX7_emberLine_106 : decode cX7_emberLine 106 = .ok (.iconst 3, 1) := by decide +kernel
theorem dX7_emberLine_107 : decode cX7_emberLine 107 = .ok (.if_icmp .ne 39, 3) := by decide +kernel
theorem dX7_emberLine_110 : decode cX7_emberLine 110 = .ok (.aload_n 0, 1) := by decide +kernel
theorem dX7_emberLine_111 : decode cX7_emberLine 111 = .ok (.getfield 9, 3) := by decide +kernel
theorem dX7_emberLine_114 : decode cX7_emberLine 114 = .ok (.getfield 60, 3) := by decide +kernel
theorem dX7_emberLine_117 : decode cX7_emberLine 117 = .ok (.invokestatic 133, 3) := by decide +kernel
theorem dX7_emberLine_120 : decode cX7_emberLine 120 = .ok (.ifCond .eq 26, 3) := by decide +kernel
theorem dX7_emberLine_123 : decode cX7_emberLine 123 = .ok (.aload_n 1, 1) := by decide +kernel
theorem dX7_emberLine_124 : decode cX7_emberLine 124 = .ok (.getfield 136, 3) := by decide +kernel
theorem dX7_emberLine_127 : decode cX7_emberLine 127 = .ok (.aload_n 0, 1) := by decide +kernel
theorem dX7_emberLine_128 : decode cX7_emberLine 128 = .ok (.getfield 9, 3) := by decide +kernel
theorem dX7_emberLine_131 : decode cX7_emberLine 131 = .ok (.getfield 60, 3) := by decide +kernel
theorem dX7_emberLine_134 : decode cX7_emberLine 134 = .ok (.invokevirtual 140, 3) := by decide +kernel
theorem dX7_emberLine_137 : decode cX7_emberLine 137 = .ok (.ifCond .ne 9, 3) := by decide +kernel
theorem dX7_emberLine_140 : decode cX7_emberLine 140 = .ok (.aload_n 0, 1) := by decide +kernel
theorem dX7_emberLine_141 : decode cX7_emberLine 141 = .ok (.iconst 3, 1) := by decide +kernel
theorem dX7_emberLine_142 : decode cX7_emberLine 142 = .ok (.invokevirtual 50, 3) := by decide +kernel
theorem dX7_emberLine_145 : decode cX7_emberLine 145 = .ok (.ireturn, 1) := by decide +kernel
theorem dX7_emberLine_146 : decode cX7_emberLine 146 = .ok (.aload_n 0, 1) := by decide +kernel
theorem dX7_emberLine_147 : decode cX7_emberLine 147 = .ok (.iconst 0, 1) := by decide +kernel
theorem dX7_emberLine_148 : decode cX7_emberLine 148 = .ok (.bipush 11, 2) := by decide +kernel
theorem dX7_emberLine_150 : decode cX7_emberLine 150 = .ok (.invokevirtual 145, 3) := by decide +kernel
theorem dX7_emberLine_153 : decode cX7_emberLine 153 = .ok (.istore 5, 2) := by decide +kernel
theorem dX7_emberLine_155 : decode cX7_emberLine 155 = .ok (.iload 5, 2) := by decide +kernel
theorem dX7_emberLine_157 : decode cX7_emberLine 157 = .ok (.iconst (-1), 1) := by decide +kernel
theorem dX7_emberLine_158 : decode cX7_emberLine 158 = .ok (.if_icmp .ne 5, 3) := by decide +kernel
theorem dX7_emberLine_161 : decode cX7_emberLine 161 = .ok (.iconst 0, 1) := by decide +kernel
theorem dX7_emberLine_162 : decode cX7_emberLine 162 = .ok (.ireturn, 1) := by decide +kernel
theorem dX7_emberLine_163 : decode cX7_emberLine 163 = .ok (.aload_n 0, 1) := by decide +kernel
theorem dX7_emberLine_164 : decode cX7_emberLine 164 = .ok (.getstatic 149, 3) := by decide +kernel
theorem dX7_emberLine_167 : decode cX7_emberLine 167 = .ok (.invokevirtual 129, 3) := by decide +kernel
theorem dX7_emberLine_170 : decode cX7_emberLine 170 = .ok (.ifCond .eq 13, 3) := by decide +kernel
theorem dX7_emberLine_173 : decode cX7_emberLine 173 = .ok (.aload_n 0, 1) := by decide +kernel
theorem dX7_emberLine_174 : decode cX7_emberLine 174 = .ok (.iconst 0, 1) := by decide +kernel
theorem dX7_emberLine_175 : decode cX7_emberLine 175 = .ok (.bipush 20, 2) := by decide +kernel
theorem dX7_emberLine_177 : decode cX7_emberLine 177 = .ok (.invokevirtual 145, 3) := by decide +kernel
theorem dX7_emberLine_180 : decode cX7_emberLine 180 = .ok (.goto 4, 3) := by decide +kernel
theorem dX7_emberLine_183 : decode cX7_emberLine 183 = .ok (.iconst (-1), 1) := by decide +kernel
theorem dX7_emberLine_184 : decode cX7_emberLine 184 = .ok (.istore 6, 2) := by decide +kernel
theorem dX7_emberLine_186 : decode cX7_emberLine 186 = .ok (.iload 6, 2) := by decide +kernel
theorem dX7_emberLine_188 : decode cX7_emberLine 188 = .ok (.iconst (-1), 1) := by decide +kernel
theorem dX7_emberLine_189 : decode cX7_emberLine 189 = .ok (.if_icmp .ne 5, 3) := by decide +kernel
theorem dX7_emberLine_192 : decode cX7_emberLine 192 = .ok (.iconst 0, 1) := by decide +kernel
theorem dX7_emberLine_193 : decode cX7_emberLine 193 = .ok (.ireturn, 1) := by decide +kernel
theorem dX7_emberLine_194 : decode cX7_emberLine 194 = .ok (.aload_n 0, 1) := by decide +kernel
theorem dX7_emberLine_195 : decode cX7_emberLine 195 = .ok (.getstatic 152, 3) := by decide +kernel
theorem dX7_emberLine_198 : decode cX7_emberLine 198 = .ok (.invokevirtual 129, 3) := by decide +kernel
theorem dX7_emberLine_201 : decode cX7_emberLine 201 = .ok (.ifCond .eq 13, 3) := by decide +kernel
theorem dX7_emberLine_204 : decode cX7_emberLine 204 = .ok (.aload_n 0, 1) := by decide +kernel
theorem dX7_emberLine_205 : decode cX7_emberLine 205 = .ok (.iconst 1, 1) := by decide +kernel
theorem dX7_emberLine_206 : decode cX7_emberLine 206 = .ok (.bipush 20, 2) := by decide +kernel
theorem dX7_emberLine_208 : decode cX7_emberLine 208 = .ok (.invokevirtual 145, 3) := by decide +kernel
theorem dX7_emberLine_211 : decode cX7_emberLine 211 = .ok (.goto 4, 3) := by decide +kernel
theorem dX7_emberLine_214 : decode cX7_emberLine 214 = .ok (.iconst (-1), 1) := by decide +kernel
theorem dX7_emberLine_215 : decode cX7_emberLine 215 = .ok (.istore 7, 2) := by decide +kernel
theorem dX7_emberLine_217 : decode cX7_emberLine 217 = .ok (.iload 7, 2) := by decide +kernel
theorem dX7_emberLine_219 : decode cX7_emberLine 219 = .ok (.iconst (-1), 1) := by decide +kernel
theorem dX7_emberLine_220 : decode cX7_emberLine 220 = .ok (.if_icmp .eq 12, 3) := by decide +kernel
theorem dX7_emberLine_223 : decode cX7_emberLine 223 = .ok (.aload_n 0, 1) := by decide +kernel
theorem dX7_emberLine_224 : decode cX7_emberLine 224 = .ok (.bipush 59, 2) := by decide +kernel
theorem dX7_emberLine_226 : decode cX7_emberLine 226 = .ok (.invokevirtual 109, 3) := by decide +kernel
theorem dX7_emberLine_229 : decode cX7_emberLine 229 = .ok (.ifCond .ne 5, 3) := by decide +kernel
theorem dX7_emberLine_232 : decode cX7_emberLine 232 = .ok (.iconst 0, 1) := by decide +kernel
theorem dX7_emberLine_233 : decode cX7_emberLine 233 = .ok (.ireturn, 1) := by decide +kernel
theorem dX7_emberLine_234 : decode cX7_emberLine 234 = .ok (.aload_n 1, 1) := by decide +kernel
theorem dX7_emberLine_235 : decode cX7_emberLine 235 = .ok (.lload_n 2, 1) := by decide +kernel
theorem dX7_emberLine_236 : decode cX7_emberLine 236 = .ok (.iload 4, 2) := by decide +kernel
theorem dX7_emberLine_238 : decode cX7_emberLine 238 = .ok (.invokevirtual 155, 3) := by decide +kernel
theorem dX7_emberLine_241 : decode cX7_emberLine 241 = .ok (.aload_n 1, 1) := by decide +kernel
theorem dX7_emberLine_242 : decode cX7_emberLine 242 = .ok (.getfield 136, 3) := by decide +kernel
theorem dX7_emberLine_245 : decode cX7_emberLine 245 = .ok (.aload_n 1, 1) := by decide +kernel
theorem dX7_emberLine_246 : decode cX7_emberLine 246 = .ok (.getfield 68, 3) := by decide +kernel
theorem dX7_emberLine_249 : decode cX7_emberLine 249 = .ok (.iconst 1, 1) := by decide +kernel
theorem dX7_emberLine_250 : decode cX7_emberLine 250 = .ok (.isub, 1) := by decide +kernel
theorem dX7_emberLine_251 : decode cX7_emberLine 251 = .ok (.iload 5, 2) := by decide +kernel
theorem dX7_emberLine_253 : decode cX7_emberLine 253 = .ok (.iload 6, 2) := by decide +kernel
theorem dX7_emberLine_255 : decode cX7_emberLine 255 = .ok (.iload 7, 2) := by decide +kernel
theorem dX7_emberLine_257 : decode cX7_emberLine 257 = .ok (.invokevirtual 159, 3) := by decide +kernel
theorem dX7_emberLine_260 : decode cX7_emberLine 260 = .ok (.iconst 1, 1) := by decide +kernel
theorem dX7_emberLine_261 : decode cX7_emberLine 261 = .ok (.ireturn, 1) := by decide +kernel
theorem dX7_draughtLine_0 : decode cX7_draughtLine 0 = .ok (.aload_n 0, 1) := by decide +kernel
theorem dX7_draughtLine_1 : decode cX7_draughtLine 1 = .ok (.getfield 9, 3) := by decide +kernel
theorem dX7_draughtLine_4 : decode cX7_draughtLine 4 = .ok (.invokevirtual 54, 3) := by decide +kernel
theorem dX7_draughtLine_7 : decode cX7_draughtLine 7 = .ok (.iconst 0, 1) := by decide +kernel
theorem dX7_draughtLine_8 : decode cX7_draughtLine 8 = .ok (.istore_n 2, 1) := by decide +kernel
theorem dX7_draughtLine_9 : decode cX7_draughtLine 9 = .ok (.iload_n 2, 1) := by decide +kernel
theorem dX7_draughtLine_10 : decode cX7_draughtLine 10 = .ok (.bipush 12, 2) := by decide +kernel
theorem dX7_draughtLine_12 : decode cX7_draughtLine 12 = .ok (.if_icmp .gt 93, 3) := by decide +kernel
theorem dX7_draughtLine_15 : decode cX7_draughtLine 15 = .ok (.iload_n 2, 1) := by decide +kernel
theorem dX7_draughtLine_16 : decode cX7_draughtLine 16 = .ok (.ifCond .le 15, 3) := by decide +kernel
theorem dX7_draughtLine_19 : decode cX7_draughtLine 19 = .ok (.aload_n 0, 1) := by decide +kernel
theorem dX7_draughtLine_20 : decode cX7_draughtLine 20 = .ok (.getfield 9, 3) := by decide +kernel
theorem dX7_draughtLine_23 : decode cX7_draughtLine 23 = .ok (.bipush 59, 2) := by decide +kernel
theorem dX7_draughtLine_25 : decode cX7_draughtLine 25 = .ok (.invokevirtual 57, 3) := by decide +kernel
theorem dX7_draughtLine_28 : decode cX7_draughtLine 28 = .ok (.ifCond .ne 77, 3) := by decide +kernel
theorem dX7_draughtLine_31 : decode cX7_draughtLine 31 = .ok (.iload_n 2, 1) := by decide +kernel
theorem dX7_draughtLine_32 : decode cX7_draughtLine 32 = .ok (.bipush 12, 2) := by decide +kernel
theorem dX7_draughtLine_34 : decode cX7_draughtLine 34 = .ok (.if_icmp .ne 30, 3) := by decide +kernel
theorem dX7_draughtLine_37 : decode cX7_draughtLine 37 = .ok (.aload_n 0, 1) := by decide +kernel
theorem dX7_draughtLine_38 : decode cX7_draughtLine 38 = .ok (.getfield 9, 3) := by decide +kernel
theorem dX7_draughtLine_41 : decode cX7_draughtLine 41 = .ok (.getfield 25, 3) := by decide +kernel
theorem dX7_draughtLine_44 : decode cX7_draughtLine 44 = .ok (.iconst 3, 1) := by decide +kernel
theorem dX7_draughtLine_45 : decode cX7_draughtLine 45 = .ok (.if_icmp .ne 19, 3) := by decide +kernel
theorem dX7_draughtLine_48 : decode cX7_draughtLine 48 = .ok (.aload_n 0, 1) := by decide +kernel
theorem dX7_draughtLine_49 : decode cX7_draughtLine 49 = .ok (.getfield 9, 3) := by decide +kernel
theorem dX7_draughtLine_52 : decode cX7_draughtLine 52 = .ok (.getfield 60, 3) := by decide +kernel
theorem dX7_draughtLine_55 : decode cX7_draughtLine 55 = .ok (.bipush 9, 2) := by decide +kernel
theorem dX7_draughtLine_57 : decode cX7_draughtLine 57 = .ok (.if_icmp .gt 7, 3) := by decide +kernel
theorem dX7_draughtLine_60 : decode cX7_draughtLine 60 = .ok (.iconst 1, 1) := by decide +kernel
theorem dX7_draughtLine_61 : decode cX7_draughtLine 61 = .ok (.goto 4, 3) := by decide +kernel
theorem dX7_draughtLine_64 : decode cX7_draughtLine 64 = .ok (.iconst 0, 1) := by decide +kernel
theorem dX7_draughtLine_65 : decode cX7_draughtLine 65 = .ok (.istore_n 3, 1) := by decide +kernel
theorem dX7_draughtLine_66 : decode cX7_draughtLine 66 = .ok (.iload_n 3, 1) := by decide +kernel
theorem dX7_draughtLine_67 : decode cX7_draughtLine 67 = .ok (.ifCond .eq 9, 3) := by decide +kernel
theorem dX7_draughtLine_70 : decode cX7_draughtLine 70 = .ok (.aload_n 0, 1) := by decide +kernel
theorem dX7_draughtLine_71 : decode cX7_draughtLine 71 = .ok (.iconst 5, 1) := by decide +kernel
theorem dX7_draughtLine_72 : decode cX7_draughtLine 72 = .ok (.invokevirtual 50, 3) := by decide +kernel
theorem dX7_draughtLine_75 : decode cX7_draughtLine 75 = .ok (.ireturn, 1) := by decide +kernel
theorem dX7_draughtLine_76 : decode cX7_draughtLine 76 = .ok (.aload_n 0, 1) := by decide +kernel
theorem dX7_draughtLine_77 : decode cX7_draughtLine 77 = .ok (.iconst 0, 1) := by decide +kernel
theorem dX7_draughtLine_78 : decode cX7_draughtLine 78 = .ok (.bipush 9, 2) := by decide +kernel
theorem dX7_draughtLine_80 : decode cX7_draughtLine 80 = .ok (.invokevirtual 145, 3) := by decide +kernel
theorem dX7_draughtLine_83 : decode cX7_draughtLine 83 = .ok (.istore 4, 2) := by decide +kernel
theorem dX7_draughtLine_85 : decode cX7_draughtLine 85 = .ok (.iload 4, 2) := by decide +kernel
theorem dX7_draughtLine_87 : decode cX7_draughtLine 87 = .ok (.iconst (-1), 1) := by decide +kernel
theorem dX7_draughtLine_88 : decode cX7_draughtLine 88 = .ok (.if_icmp .ne 5, 3) := by decide +kernel
theorem dX7_draughtLine_91 : decode cX7_draughtLine 91 = .ok (.iconst 0, 1) := by decide +kernel
theorem dX7_draughtLine_92 : decode cX7_draughtLine 92 = .ok (.ireturn, 1) := by decide +kernel
theorem dX7_draughtLine_93 : decode cX7_draughtLine 93 = .ok (.aload_n 1, 1) := by decide +kernel
theorem dX7_draughtLine_94 : decode cX7_draughtLine 94 = .ok (.iload 4, 2) := by decide +kernel
theorem dX7_draughtLine_96 : decode cX7_draughtLine 96 = .ok (.invokevirtual 163, 3) := by decide +kernel
theorem dX7_draughtLine_99 : decode cX7_draughtLine 99 = .ok (.iinc 2 1, 3) := by decide +kernel
theorem dX7_draughtLine_102 : decode cX7_draughtLine 102 = .ok (.goto (-93), 3) := by decide +kernel
theorem dX7_draughtLine_105 : decode cX7_draughtLine 105 = .ok (.aload_n 0, 1) := by decide +kernel
theorem dX7_draughtLine_106 : decode cX7_draughtLine 106 = .ok (.bipush 59, 2) := by decide +kernel
theorem dX7_draughtLine_108 : decode cX7_draughtLine 108 = .ok (.invokevirtual 109, 3) := by decide +kernel
theorem dX7_draughtLine_111 : decode cX7_draughtLine 111 = .ok (.ireturn, 1) := by decide +kernel
theorem dX7_catchesLine_0 : decode cX7_catchesLine 0 = .ok (.aload_n 0, 1) := by decide +kernel
theorem dX7_catchesLine_1 : decode cX7_catchesLine 1 = .ok (.getfield 9, 3) := by decide +kernel
theorem dX7_catchesLine_4 : decode cX7_catchesLine 4 = .ok (.invokevirtual 54, 3) := by decide +kernel
theorem dX7_catchesLine_7 : decode cX7_catchesLine 7 = .ok (.aload_n 0, 1) := by decide +kernel
theorem dX7_catchesLine_8 : decode cX7_catchesLine 8 = .ok (.iconst 1, 1) := by decide +kernel
theorem dX7_catchesLine_9 : decode cX7_catchesLine 9 = .ok (.bipush 20, 2) := by decide +kernel
theorem dX7_catchesLine_11 : decode cX7_catchesLine 11 = .ok (.invokevirtual 145, 3) := by decide +kernel
theorem dX7_catchesLine_14 : decode cX7_catchesLine 14 = .ok (.istore_n 2, 1) := by decide +kernel
theorem dX7_catchesLine_15 : decode cX7_catchesLine 15 = .ok (.iload_n 2, 1) := by decide +kernel
theorem dX7_catchesLine_16 : decode cX7_catchesLine 16 = .ok (.iconst (-1), 1) := by decide +kernel
theorem dX7_catchesLine_17 : decode cX7_catchesLine 17 = .ok (.if_icmp .ne 5, 3) := by decide +kernel
theorem dX7_catchesLine_20 : decode cX7_catchesLine 20 = .ok (.iconst 0, 1) := by decide +kernel
theorem dX7_catchesLine_21 : decode cX7_catchesLine 21 = .ok (.ireturn, 1) := by decide +kernel
theorem dX7_catchesLine_22 : decode cX7_catchesLine 22 = .ok (.aload_n 1, 1) := by decide +kernel
theorem dX7_catchesLine_23 : decode cX7_catchesLine 23 = .ok (.iload_n 2, 1) := by decide +kernel
theorem dX7_catchesLine_24 : decode cX7_catchesLine 24 = .ok (.putfield 167, 3) := by decide +kernel
theorem dX7_catchesLine_27 : decode cX7_catchesLine 27 = .ok (.aload_n 1, 1) := by decide +kernel
theorem dX7_catchesLine_28 : decode cX7_catchesLine 28 = .ok (.iconst 1, 1) := by decide +kernel
theorem dX7_catchesLine_29 : decode cX7_catchesLine 29 = .ok (.putfield 86, 3) := by decide +kernel
theorem dX7_catchesLine_32 : decode cX7_catchesLine 32 = .ok (.aload_n 0, 1) := by decide +kernel
theorem dX7_catchesLine_33 : decode cX7_catchesLine 33 = .ok (.bipush 59, 2) := by decide +kernel
theorem dX7_catchesLine_35 : decode cX7_catchesLine 35 = .ok (.invokevirtual 109, 3) := by decide +kernel
theorem dX7_catchesLine_38 : decode cX7_catchesLine 38 = .ok (.ireturn, 1) := by decide +kernel
theorem dX7_joined_0 : decode cX7_joined 0 = .ok (.iload_n 2, 1) := by decide +kernel
theorem dX7_joined_1 : decode cX7_joined 1 = .ok (.iconst 4, 1) := by decide +kernel
theorem dX7_joined_2 : decode cX7_joined 2 = .ok (.if_icmp .lt 10, 3) := by decide +kernel
theorem dX7_joined_5 : decode cX7_joined 5 = .ok (.aload_n 0, 1) := by decide +kernel
theorem dX7_joined_6 : decode cX7_joined 6 = .ok (.aload_n 1, 1) := by decide +kernel
theorem dX7_joined_7 : decode cX7_joined 7 = .ok (.iload_n 3, 1) := by decide +kernel
theorem dX7_joined_8 : decode cX7_joined 8 = .ok (.invokevirtual 170, 3) := by decide +kernel
theorem dX7_joined_11 : decode cX7_joined 11 = .ok (.ireturn, 1) := by decide +kernel
theorem dX7_joined_12 : decode cX7_joined 12 = .ok (.aload_n 0, 1) := by decide +kernel
theorem dX7_joined_13 : decode cX7_joined 13 = .ok (.aload_n 1, 1) := by decide +kernel
theorem dX7_joined_14 : decode cX7_joined 14 = .ok (.iload_n 2, 1) := by decide +kernel
theorem dX7_joined_15 : decode cX7_joined 15 = .ok (.iconst 1, 1) := by decide +kernel
theorem dX7_joined_16 : decode cX7_joined 16 = .ok (.iadd, 1) := by decide +kernel
theorem dX7_joined_17 : decode cX7_joined 17 = .ok (.iload_n 3, 1) := by decide +kernel
theorem dX7_joined_18 : decode cX7_joined 18 = .ok (.invokevirtual 105, 3) := by decide +kernel
theorem dX7_joined_21 : decode cX7_joined 21 = .ok (.ifCond .ne 5, 3) := by decide +kernel
theorem dX7_joined_24 : decode cX7_joined 24 = .ok (.iconst 0, 1) := by decide +kernel
theorem dX7_joined_25 : decode cX7_joined 25 = .ok (.ireturn, 1) := by decide +kernel
theorem dX7_joined_26 : decode cX7_joined 26 = .ok (.iload_n 2, 1) := by decide +kernel
theorem dX7_joined_27 : decode cX7_joined 27 = .ok (.iconst 1, 1) := by decide +kernel
theorem dX7_joined_28 : decode cX7_joined 28 = .ok (.if_icmp .ne 7, 3) := by decide +kernel
theorem dX7_joined_31 : decode cX7_joined 31 = .ok (.iconst 1, 1) := by decide +kernel
theorem dX7_joined_32 : decode cX7_joined 32 = .ok (.goto 6, 3) := by decide +kernel
theorem dX7_joined_35 : decode cX7_joined 35 = .ok (.sipush 1000, 3) := by decide +kernel
theorem dX7_joined_38 : decode cX7_joined 38 = .ok (.istore 4, 2) := by decide +kernel
theorem dX7_joined_40 : decode cX7_joined 40 = .ok (.iconst 0, 1) := by decide +kernel
theorem dX7_joined_41 : decode cX7_joined 41 = .ok (.istore 5, 2) := by decide +kernel
theorem dX7_joined_43 : decode cX7_joined 43 = .ok (.iload 5, 2) := by decide +kernel
theorem dX7_joined_45 : decode cX7_joined 45 = .ok (.iload 4, 2) := by decide +kernel
theorem dX7_joined_47 : decode cX7_joined 47 = .ok (.if_icmp .ge 50, 3) := by decide +kernel
theorem dX7_joined_50 : decode cX7_joined 50 = .ok (.aload_n 0, 1) := by decide +kernel
theorem dX7_joined_51 : decode cX7_joined 51 = .ok (.invokevirtual 174, 3) := by decide +kernel
theorem dX7_joined_54 : decode cX7_joined 54 = .ok (.iload_n 2, 1) := by decide +kernel
theorem dX7_joined_55 : decode cX7_joined 55 = .ok (.if_icmp .ne 42, 3) := by decide +kernel
theorem dX7_joined_58 : decode cX7_joined 58 = .ok (.aload_n 0, 1) := by decide +kernel
theorem dX7_joined_59 : decode cX7_joined 59 = .ok (.invokevirtual 178, 3) := by decide +kernel
theorem dX7_joined_62 : decode cX7_joined 62 = .ok (.istore 6, 2) := by decide +kernel
theorem dX7_joined_64 : decode cX7_joined 64 = .ok (.aload_n 0, 1) := by decide +kernel
theorem dX7_joined_65 : decode cX7_joined 65 = .ok (.getfield 9, 3) := by decide +kernel
theorem dX7_joined_68 : decode cX7_joined 68 = .ok (.invokevirtual 54, 3) := by decide +kernel
theorem dX7_joined_71 : decode cX7_joined 71 = .ok (.aload_n 0, 1) := by decide +kernel
theorem dX7_joined_72 : decode cX7_joined 72 = .ok (.aload_n 1, 1) := by decide +kernel
theorem dX7_joined_73 : decode cX7_joined 73 = .ok (.iload_n 2, 1) := by decide +kernel
theorem dX7_joined_74 : decode cX7_joined 74 = .ok (.iconst 1, 1) := by decide +kernel
theorem dX7_joined_75 : decode cX7_joined 75 = .ok (.iadd, 1) := by decide +kernel
theorem dX7_joined_76 : decode cX7_joined 76 = .ok (.iload_n 3, 1) := by decide +kernel
theorem dX7_joined_77 : decode cX7_joined 77 = .ok (.invokevirtual 105, 3) := by decide +kernel
theorem dX7_joined_80 : decode cX7_joined 80 = .ok (.ifCond .ne 5, 3) := by decide +kernel
theorem dX7_joined_83 : decode cX7_joined 83 = .ok (.iconst 0, 1) := by decide +kernel
theorem dX7_joined_84 : decode cX7_joined 84 = .ok (.ireturn, 1) := by decide +kernel
theorem dX7_joined_85 : decode cX7_joined 85 = .ok (.aload_n 1, 1) := by decide +kernel
theorem dX7_joined_86 : decode cX7_joined 86 = .ok (.iload 6, 2) := by decide +kernel
theorem dX7_joined_88 : decode cX7_joined 88 = .ok (.invokevirtual 181, 3) := by decide +kernel
theorem dX7_joined_91 : decode cX7_joined 91 = .ok (.iinc 5 1, 3) := by decide +kernel
theorem dX7_joined_94 : decode cX7_joined 94 = .ok (.goto (-51), 3) := by decide +kernel
theorem dX7_joined_97 : decode cX7_joined 97 = .ok (.iconst 1, 1) := by decide +kernel
theorem dX7_joined_98 : decode cX7_joined 98 = .ok (.ireturn, 1) := by decide +kernel
theorem dX7_levelHere_0 : decode cX7_levelHere 0 = .ok (.aload_n 0, 1) := by decide +kernel
theorem dX7_levelHere_1 : decode cX7_levelHere 1 = .ok (.getfield 9, 3) := by decide +kernel
theorem dX7_levelHere_4 : decode cX7_levelHere 4 = .ok (.getfield 46, 3) := by decide +kernel
theorem dX7_levelHere_7 : decode cX7_levelHere 7 = .ok (.getstatic 184, 3) := by decide +kernel
theorem dX7_levelHere_10 : decode cX7_levelHere 10 = .ok (.if_acmp .eq 16, 3) := by decide +kernel
theorem dX7_levelHere_13 : decode cX7_levelHere 13 = .ok (.aload_n 0, 1) := by decide +kernel
theorem dX7_levelHere_14 : decode cX7_levelHere 14 = .ok (.getfield 9, 3) := by decide +kernel
theorem dX7_levelHere_17 : decode cX7_levelHere 17 = .ok (.getfield 46, 3) := by decide +kernel
theorem dX7_levelHere_20 : decode cX7_levelHere 20 = .ok (.getstatic 187, 3) := by decide +kernel
theorem dX7_levelHere_23 : decode cX7_levelHere 23 = .ok (.if_acmp .ne 5, 3) := by decide +kernel
theorem dX7_levelHere_26 : decode cX7_levelHere 26 = .ok (.iconst 0, 1) := by decide +kernel
theorem dX7_levelHere_27 : decode cX7_levelHere 27 = .ok (.ireturn, 1) := by decide +kernel
theorem dX7_levelHere_28 : decode cX7_levelHere 28 = .ok (.aload_n 0, 1) := by decide +kernel
theorem dX7_levelHere_29 : decode cX7_levelHere 29 = .ok (.getfield 9, 3) := by decide +kernel
theorem dX7_levelHere_32 : decode cX7_levelHere 32 = .ok (.bipush 60, 2) := by decide +kernel
theorem dX7_levelHere_34 : decode cX7_levelHere 34 = .ok (.invokevirtual 57, 3) := by decide +kernel
theorem dX7_levelHere_37 : decode cX7_levelHere 37 = .ok (.ifCond .ne 15, 3) := by decide +kernel
theorem dX7_levelHere_40 : decode cX7_levelHere 40 = .ok (.aload_n 0, 1) := by decide +kernel
theorem dX7_levelHere_41 : decode cX7_levelHere 41 = .ok (.getfield 9, 3) := by decide +kernel
theorem dX7_levelHere_44 : decode cX7_levelHere 44 = .ok (.bipush 61, 2) := by decide +kernel
theorem dX7_levelHere_46 : decode cX7_levelHere 46 = .ok (.invokevirtual 57, 3) := by decide +kernel
theorem dX7_levelHere_49 : decode cX7_levelHere 49 = .ok (.ifCond .eq 5, 3) := by decide +kernel
theorem dX7_levelHere_52 : decode cX7_levelHere 52 = .ok (.iconst 1, 1) := by decide +kernel
theorem dX7_levelHere_53 : decode cX7_levelHere 53 = .ok (.ireturn, 1) := by decide +kernel
theorem dX7_levelHere_54 : decode cX7_levelHere 54 = .ok (.aload_n 0, 1) := by decide +kernel
theorem dX7_levelHere_55 : decode cX7_levelHere 55 = .ok (.getfield 9, 3) := by decide +kernel
theorem dX7_levelHere_58 : decode cX7_levelHere 58 = .ok (.bipush 43, 2) := by decide +kernel
theorem dX7_levelHere_60 : decode cX7_levelHere 60 = .ok (.invokevirtual 57, 3) := by decide +kernel
theorem dX7_levelHere_63 : decode cX7_levelHere 63 = .ok (.ifCond .ne 15, 3) := by decide +kernel
theorem dX7_levelHere_66 : decode cX7_levelHere 66 = .ok (.aload_n 0, 1) := by decide +kernel
theorem dX7_levelHere_67 : decode cX7_levelHere 67 = .ok (.getfield 9, 3) := by decide +kernel
theorem dX7_levelHere_70 : decode cX7_levelHere 70 = .ok (.bipush 45, 2) := by decide +kernel
theorem dX7_levelHere_72 : decode cX7_levelHere 72 = .ok (.invokevirtual 57, 3) := by decide +kernel
theorem dX7_levelHere_75 : decode cX7_levelHere 75 = .ok (.ifCond .eq 5, 3) := by decide +kernel
theorem dX7_levelHere_78 : decode cX7_levelHere 78 = .ok (.iconst 2, 1) := by decide +kernel
theorem dX7_levelHere_79 : decode cX7_levelHere 79 = .ok (.ireturn, 1) := by decide +kernel
theorem dX7_levelHere_80 : decode cX7_levelHere 80 = .ok (.aload_n 0, 1) := by decide +kernel
theorem dX7_levelHere_81 : decode cX7_levelHere 81 = .ok (.getfield 9, 3) := by decide +kernel
