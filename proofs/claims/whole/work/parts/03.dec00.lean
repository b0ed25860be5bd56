theorem dX0_init_0 : decode cX0_init 0 = .ok (.aload_n 0, 1) := by decide +kernel
theorem dX0_init_1 : decode cX0_init 1 = .ok (.invokespecial 3, 3) := by decide +kernel
theorem dX0_init_4 : decode cX0_init 4 = .ok (.return_, 1) := by decide +kernel
theorem dX0_likes_0 : decode cX0_likes 0 = .ok (.iload_n 1, 1) := by decide +kernel
theorem dX0_likes_1 : decode cX0_likes 1 = .ok (.iload_n 3, 1) := by decide +kernel
theorem dX0_likes_2 : decode cX0_likes 2 = .ok (.bipush 6, 2) := by decide +kernel
theorem dX0_likes_4 : decode cX0_likes 4 = .ok (.irem, 1) := by decide +kernel
theorem dX0_likes_5 : decode cX0_likes 5 = .ok (.if_icmp .ne 8, 3) := by decide +kernel
theorem dX0_likes_8 : decode cX0_likes 8 = .ok (.bipush 99, 2) := by decide +kernel
theorem dX0_likes_10 : decode cX0_likes 10 = .ok (.goto 4, 3) := by decide +kernel
theorem dX0_likes_13 : decode cX0_likes 13 = .ok (.iconst 0, 1) := by decide +kernel
theorem dX0_likes_14 : decode cX0_likes 14 = .ok (.ireturn, 1) := by decide +kernel
theorem dX0_offers_0 : decode cX0_offers 0 = .ok (.iconst 0, 1) := by decide +kernel
theorem dX0_offers_1 : decode cX0_offers 1 = .ok (.ireturn, 1) := by decide +kernel
theorem dX1_init_0 : decode cX1_init 0 = .ok (.aload_n 0, 1) := by decide +kernel
theorem dX1_init_1 : decode cX1_init 1 = .ok (.invokespecial 1, 3) := by decide +kernel
theorem dX1_init_4 : decode cX1_init 4 = .ok (.return_, 1) := by decide +kernel
theorem dX1_likes_0 : decode cX1_likes 0 = .ok (.iload_n 1, 1) := by decide +kernel
theorem dX1_likes_1 : decode cX1_likes 1 = .ok (.ifCond .ne 11, 3) := by decide +kernel
theorem dX1_likes_4 : decode cX1_likes 4 = .ok (.iload_n 2, 1) := by decide +kernel
theorem dX1_likes_5 : decode cX1_likes 5 = .ok (.iconst 2, 1) := by decide +kernel
theorem dX1_likes_6 : decode cX1_likes 6 = .ok (.iload_n 3, 1) := by decide +kernel
theorem dX1_likes_7 : decode cX1_likes 7 = .ok (.imul, 1) := by decide +kernel
theorem dX1_likes_8 : decode cX1_likes 8 = .ok (.isub, 1) := by decide +kernel
theorem dX1_likes_9 : decode cX1_likes 9 = .ok (.goto 4, 3) := by decide +kernel
theorem dX1_likes_12 : decode cX1_likes 12 = .ok (.iload_n 2, 1) := by decide +kernel
theorem dX1_likes_13 : decode cX1_likes 13 = .ok (.istore 4, 2) := by decide +kernel
theorem dX1_likes_15 : decode cX1_likes 15 = .ok (.iload 4, 2) := by decide +kernel
theorem dX1_likes_17 : decode cX1_likes 17 = .ok (.bipush (-99), 2) := by decide +kernel
theorem dX1_likes_19 : decode cX1_likes 19 = .ok (.if_icmp .ge 8, 3) := by decide +kernel
theorem dX1_likes_22 : decode cX1_likes 22 = .ok (.bipush (-99), 2) := by decide +kernel
theorem dX1_likes_24 : decode cX1_likes 24 = .ok (.goto 5, 3) := by decide +kernel
theorem dX1_likes_27 : decode cX1_likes 27 = .ok (.iload 4, 2) := by decide +kernel
theorem dX1_likes_29 : decode cX1_likes 29 = .ok (.ireturn, 1) := by decide +kernel
theorem dX1_keeps_0 : decode cX1_keeps 0 = .ok (.iload 4, 2) := by decide +kernel
theorem dX1_keeps_2 : decode cX1_keeps 2 = .ok (.ifCond .eq 9, 3) := by decide +kernel
theorem dX1_keeps_5 : decode cX1_keeps 5 = .ok (.iconst 2, 1) := by decide +kernel
theorem dX1_keeps_6 : decode cX1_keeps 6 = .ok (.iload_n 1, 1) := by decide +kernel
theorem dX1_keeps_7 : decode cX1_keeps 7 = .ok (.imul, 1) := by decide +kernel
theorem dX1_keeps_8 : decode cX1_keeps 8 = .ok (.goto 4, 3) := by decide +kernel
theorem dX1_keeps_11 : decode cX1_keeps 11 = .ok (.iload_n 1, 1) := by decide +kernel
theorem dX1_keeps_12 : decode cX1_keeps 12 = .ok (.ireturn, 1) := by decide +kernel
theorem dX2_init_0 : decode cX2_init 0 = .ok (.aload_n 0, 1) := by decide +kernel
theorem dX2_init_1 : decode cX2_init 1 = .ok (.invokespecial 1, 3) := by decide +kernel
theorem dX2_init_4 : decode cX2_init 4 = .ok (.return_, 1) := by decide +kernel
theorem dX2_likes_0 : decode cX2_likes 0 = .ok (.aload_n 0, 1) := by decide +kernel
theorem dX2_likes_1 : decode cX2_likes 1 = .ok (.iload_n 1, 1) := by decide +kernel
theorem dX2_likes_2 : decode cX2_likes 2 = .ok (.iload_n 2, 1) := by decide +kernel
theorem dX2_likes_3 : decode cX2_likes 3 = .ok (.iload_n 3, 1) := by decide +kernel
theorem dX2_likes_4 : decode cX2_likes 4 = .ok (.invokespecial 7, 3) := by decide +kernel
theorem dX2_likes_7 : decode cX2_likes 7 = .ok (.istore 4, 2) := by decide +kernel
theorem dX2_likes_9 : decode cX2_likes 9 = .ok (.iload_n 2, 1) := by decide +kernel
theorem dX2_likes_10 : decode cX2_likes 10 = .ok (.ifCond .ge 15, 3) := by decide +kernel
theorem dX2_likes_13 : decode cX2_likes 13 = .ok (.bipush (-99), 2) := by decide +kernel
theorem dX2_likes_15 : decode cX2_likes 15 = .ok (.iconst 2, 1) := by decide +kernel
theorem dX2_likes_16 : decode cX2_likes 16 = .ok (.iload 4, 2) := by decide +kernel
theorem dX2_likes_18 : decode cX2_likes 18 = .ok (.imul, 1) := by decide +kernel
theorem dX2_likes_19 : decode cX2_likes 19 = .ok (.invokestatic 11, 3) := by decide +kernel
theorem dX2_likes_22 : decode cX2_likes 22 = .ok (.goto 5, 3) := by decide +kernel
theorem dX2_likes_25 : decode cX2_likes 25 = .ok (.iload 4, 2) := by decide +kernel
theorem dX2_likes_27 : decode cX2_likes 27 = .ok (.ireturn, 1) := by decide +kernel
theorem dX2_offers_0 : decode cX2_offers 0 = .ok (.iconst 0, 1) := by decide +kernel
theorem dX2_offers_1 : decode cX2_offers 1 = .ok (.aload_n 0, 1) := by decide +kernel
theorem dX2_offers_2 : decode cX2_offers 2 = .ok (.iload_n 1, 1) := by decide +kernel
theorem dX2_offers_3 : decode cX2_offers 3 = .ok (.iload_n 2, 1) := by decide +kernel
theorem dX2_offers_4 : decode cX2_offers 4 = .ok (.iload_n 3, 1) := by decide +kernel
theorem dX2_offers_5 : decode cX2_offers 5 = .ok (.invokespecial 17, 3) := by decide +kernel
theorem dX2_offers_8 : decode cX2_offers 8 = .ok (.iload_n 2, 1) := by decide +kernel
theorem dX2_offers_9 : decode cX2_offers 9 = .ok (.iadd, 1) := by decide +kernel
theorem dX2_offers_10 : decode cX2_offers 10 = .ok (.invokestatic 11, 3) := by decide +kernel
theorem dX2_offers_13 : decode cX2_offers 13 = .ok (.ireturn, 1) := by decide +kernel
theorem dX3_init_0 : decode cX3_init 0 = .ok (.aload_n 0, 1) := by decide +kernel
theorem dX3_init_1 : decode cX3_init 1 = .ok (.invokespecial 1, 3) := by decide +kernel
theorem dX3_init_4 : decode cX3_init 4 = .ok (.return_, 1) := by decide +kernel
theorem dX3_keeps_0 : decode cX3_keeps 0 = .ok (.iload_n 2, 1) := by decide +kernel
theorem dX3_keeps_1 : decode cX3_keeps 1 = .ok (.ifCond .ge 9, 3) := by decide +kernel
theorem dX3_keeps_4 : decode cX3_keeps 4 = .ok (.iload_n 1, 1) := by decide +kernel
theorem dX3_keeps_5 : decode cX3_keeps 5 = .ok (.iconst 3, 1) := by decide +kernel
theorem dX3_keeps_6 : decode cX3_keeps 6 = .ok (.iadd, 1) := by decide +kernel
theorem dX3_keeps_7 : decode cX3_keeps 7 = .ok (.goto 14, 3) := by decide +kernel
theorem dX3_keeps_10 : decode cX3_keeps 10 = .ok (.aload_n 0, 1) := by decide +kernel
theorem dX3_keeps_11 : decode cX3_keeps 11 = .ok (.iload_n 1, 1) := by decide +kernel
theorem dX3_keeps_12 : decode cX3_keeps 12 = .ok (.iload_n 2, 1) := by decide +kernel
theorem dX3_keeps_13 : decode cX3_keeps 13 = .ok (.iload_n 3, 1) := by decide +kernel
theorem dX3_keeps_14 : decode cX3_keeps 14 = .ok (.iload 4, 2) := by decide +kernel
theorem dX3_keeps_16 : decode cX3_keeps 16 = .ok (.iload 5, 2) := by decide +kernel
theorem dX3_keeps_18 : decode cX3_keeps 18 = .ok (.invokespecial 7, 3) := by decide +kernel
theorem dX3_keeps_21 : decode cX3_keeps 21 = .ok (.ireturn, 1) := by decide +kernel
theorem dX3_offers_0 : decode cX3_offers 0 = .ok (.aload_n 0, 1) := by decide +kernel
theorem dX3_offers_1 : decode cX3_offers 1 = .ok (.iload_n 1, 1) := by decide +kernel
theorem dX3_offers_2 : decode cX3_offers 2 = .ok (.iload_n 2, 1) := by decide +kernel
theorem dX3_offers_3 : decode cX3_offers 3 = .ok (.iload_n 3, 1) := by decide +kernel
theorem dX3_offers_4 : decode cX3_offers 4 = .ok (.invokespecial 11, 3) := by decide +kernel
theorem dX3_offers_7 : decode cX3_offers 7 = .ok (.iconst 2, 1) := by decide +kernel
theorem dX3_offers_8 : decode cX3_offers 8 = .ok (.idiv, 1) := by decide +kernel
theorem dX3_offers_9 : decode cX3_offers 9 = .ok (.ireturn, 1) := by decide +kernel
theorem dX4_init_0 : decode cX4_init 0 = .ok (.aload_n 0, 1) := by decide +kernel
theorem dX4_init_1 : decode cX4_init 1 = .ok (.invokespecial 3, 3) := by decide +kernel
theorem dX4_init_4 : decode cX4_init 4 = .ok (.aload_n 0, 1) := by decide +kernel
theorem dX4_init_5 : decode cX4_init 5 = .ok (.sipush 160, 3) := by decide +kernel
theorem dX4_init_8 : decode cX4_init 8 = .ok (.newarray .int, 2) := by decide +kernel
theorem dX4_init_10 : decode cX4_init 10 = .ok (.putfield 9, 3) := by decide +kernel
theorem dX4_init_13 : decode cX4_init 13 = .ok (.aload_n 0, 1) := by decide +kernel
theorem dX4_init_14 : decode cX4_init 14 = .ok (.sipush 161, 3) := by decide +kernel
theorem dX4_init_17 : decode cX4_init 17 = .ok (.newarray .int, 2) := by decide +kernel
theorem dX4_init_19 : decode cX4_init 19 = .ok (.putfield 15, 3) := by decide +kernel
theorem dX4_init_22 : decode cX4_init 22 = .ok (.aload_n 0, 1) := by decide +kernel
theorem dX4_init_23 : decode cX4_init 23 = .ok (.sipush 161, 3) := by decide +kernel
theorem dX4_init_26 : decode cX4_init 26 = .ok (.newarray .int, 2) := by decide +kernel
theorem dX4_init_28 : decode cX4_init 28 = .ok (.putfield 18, 3) := by decide +kernel
theorem dX4_init_31 : decode cX4_init 31 = .ok (.aload_n 0, 1) := by decide +kernel
theorem dX4_init_32 : decode cX4_init 32 = .ok (.aload_n 1, 1) := by decide +kernel
theorem dX4_init_33 : decode cX4_init 33 = .ok (.putfield 21, 3) := by decide +kernel
theorem dX4_init_36 : decode cX4_init 36 = .ok (.return_, 1) := by decide +kernel
theorem dX4_take_0 : decode cX4_take 0 = .ok (.aload_n 0, 1) := by decide +kernel
theorem dX4_take_1 : decode cX4_take 1 = .ok (.getfield 25, 3) := by decide +kernel
theorem dX4_take_4 : decode cX4_take 4 = .ok (.sipush 160, 3) := by decide +kernel
theorem dX4_take_7 : decode cX4_take 7 = .ok (.if_icmp .lt 4, 3) := by decide +kernel
theorem dX4_take_10 : decode cX4_take 10 = .ok (.return_, 1) := by decide +kernel
theorem dX4_take_11 : decode cX4_take 11 = .ok (.aload_n 0, 1) := by decide +kernel
theorem dX4_take_12 : decode cX4_take 12 = .ok (.getfield 9, 3) := by decide +kernel
theorem dX4_take_15 : decode cX4_take 15 = .ok (.aload_n 0, 1) := by decide +kernel
theorem dX4_take_16 : decode cX4_take 16 = .ok (.getfield 25, 3) := by decide +kernel
theorem dX4_take_19 : decode cX4_take 19 = .ok (.iload_n 1, 1) := by decide +kernel
theorem dX4_take_20 : decode cX4_take 20 = .ok (.invokestatic 29, 3) := by decide +kernel
theorem dX4_take_23 : decode cX4_take 23 = .ok (.aload_n 0, 1) := by decide +kernel
theorem dX4_take_24 : decode cX4_take 24 = .ok (.dup, 1) := by decide +kernel
theorem dX4_take_25 : decode cX4_take 25 = .ok (.getfield 25, 3) := by decide +kernel
theorem dX4_take_28 : decode cX4_take 28 = .ok (.iconst 1, 1) := by decide +kernel
theorem dX4_take_29 : decode cX4_take 29 = .ok (.iadd, 1) := by decide +kernel
theorem dX4_take_30 : decode cX4_take 30 = .ok (.putfield 25, 3) := by decide +kernel
theorem dX4_take_33 : decode cX4_take 33 = .ok (.return_, 1) := by decide +kernel
theorem dX4_fault_0 : decode cX4_fault 0 = .ok (.aload_n 0, 1) := by decide +kernel
theorem dX4_fault_1 : decode cX4_fault 1 = .ok (.invokevirtual 33, 3) := by decide +kernel
theorem dX4_fault_4 : decode cX4_fault 4 = .ok (.aload_n 0, 1) := by decide +kernel
theorem dX4_fault_5 : decode cX4_fault 5 = .ok (.iconst (-1), 1) := by decide +kernel
theorem dX4_fault_6 : decode cX4_fault 6 = .ok (.putfield 36, 3) := by decide +kernel
theorem dX4_fault_9 : decode cX4_fault 9 = .ok (.aload_n 0, 1) := by decide +kernel
theorem dX4_fault_10 : decode cX4_fault 10 = .ok (.invokevirtual 39, 3) := by decide +kernel
theorem dX4_fault_13 : decode cX4_fault 13 = .ok (.aload_n 0, 1) := by decide +kernel
theorem dX4_fault_14 : decode cX4_fault 14 = .ok (.getfield 21, 3) := by decide +kernel
theorem dX4_fault_17 : decode cX4_fault 17 = .ok (.invokevirtual 42, 3) := by decide +kernel
theorem dX4_fault_20 : decode cX4_fault 20 = .ok (.aload_n 0, 1) := by decide +kernel
theorem dX4_fault_21 : decode cX4_fault 21 = .ok (.bipush (-3), 2) := by decide +kernel
theorem dX4_fault_23 : decode cX4_fault 23 = .ok (.iconst 0, 1) := by decide +kernel
theorem dX4_fault_24 : decode cX4_fault 24 = .ok (.invokevirtual 47, 3) := by decide +kernel
theorem dX4_fault_27 : decode cX4_fault 27 = .ok (.ifCond .eq 35, 3) := by decide +kernel
theorem dX4_fault_30 : decode cX4_fault 30 = .ok (.aload_n 0, 1) := by decide +kernel
theorem dX4_fault_31 : decode cX4_fault 31 = .ok (.bipush (-4), 2) := by decide +kernel
theorem dX4_fault_33 : decode cX4_fault 33 = .ok (.iconst 1, 1) := by decide +kernel
theorem dX4_fault_34 : decode cX4_fault 34 = .ok (.invokevirtual 47, 3) := by decide +kernel
theorem dX4_fault_37 : decode cX4_fault 37 = .ok (.ifCond .eq 25, 3) := by decide +kernel
theorem dX4_fault_40 : decode cX4_fault 40 = .ok (.aload_n 0, 1) := by decide +kernel
theorem dX4_fault_41 : decode cX4_fault 41 = .ok (.bipush (-5), 2) := by decide +kernel
theorem dX4_fault_43 : decode cX4_fault 43 = .ok (.iconst 2, 1) := by decide +kernel
theorem dX4_fault_44 : decode cX4_fault 44 = .ok (.invokevirtual 47, 3) := by decide +kernel
theorem dX4_fault_47 : decode cX4_fault 47 = .ok (.ifCond .eq 15, 3) := by decide +kernel
theorem dX4_fault_50 : decode cX4_fault 50 = .ok (.aload_n 0, 1) := by decide +kernel
theorem dX4_fault_51 : decode cX4_fault 51 = .ok (.getfield 51, 3) := by decide +kernel
theorem dX4_fault_54 : decode cX4_fault 54 = .ok (.iconst (-1), 1) := by decide +kernel
theorem dX4_fault_55 : decode cX4_fault 55 = .ok (.if_icmp .ne 7, 3) := by decide +kernel
theorem dX4_fault_58 : decode cX4_fault 58 = .ok (.iconst 1, 1) := by decide +kernel
theorem dX4_fault_59 : decode cX4_fault 59 = .ok (.goto 4, 3) := by decide +kernel
theorem dX4_fault_62 : decode cX4_fault 62 = .ok (.iconst 0, 1) := by decide +kernel
theorem dX4_fault_63 : decode cX4_fault 63 = .ok (.istore_n 1, 1) := by decide +kernel
theorem dX4_fault_64 : decode cX4_fault 64 = .ok (.iload_n 1, 1) := by decide +kernel
theorem dX4_fault_65 : decode cX4_fault 65 = .ok (.ifCond .eq 7, 3) := by decide +kernel
theorem dX4_fault_68 : decode cX4_fault 68 = .ok (.iconst (-1), 1) := by decide +kernel
theorem dX4_fault_69 : decode cX4_fault 69 = .ok (.goto 14, 3) := by decide +kernel
theorem dX4_fault_72 : decode cX4_fault 72 = .ok (.aload_n 0, 1) := by decide +kernel
theorem dX4_fault_73 : decode cX4_fault 73 = .ok (.getfield 18, 3) := by decide +kernel
theorem dX4_fault_76 : decode cX4_fault 76 = .ok (.aload_n 0, 1) := by decide +kernel
theorem dX4_fault_77 : decode cX4_fault 77 = .ok (.getfield 36, 3) := by decide +kernel
theorem dX4_fault_80 : decode cX4_fault 80 = .ok (.invokestatic 54, 3) := by decide +kernel
theorem dX4_fault_83 : decode cX4_fault 83 = .ok (.ireturn, 1) := by decide +kernel
theorem dX4_findTokens_0 : decode cX4_findTokens 0 = .ok (.aload_n 0, 1) := by decide +kernel
theorem dX4_findTokens_1 : decode cX4_findTokens 1 = .ok (.iconst 0, 1) := by decide +kernel
theorem dX4_findTokens_2 : decode cX4_findTokens 2 = .ok (.putfield 58, 3) := by decide +kernel
theorem dX4_findTokens_5 : decode cX4_findTokens 5 = .ok (.iconst 0, 1) := by decide +kernel
theorem dX4_findTokens_6 : decode cX4_findTokens 6 = .ok (.istore_n 1, 1) := by decide +kernel
theorem dX4_findTokens_7 : decode cX4_findTokens 7 = .ok (.iload_n 1, 1) := by decide +kernel
theorem dX4_findTokens_8 : decode cX4_findTokens 8 = .ok (.aload_n 0, 1) := by decide +kernel
theorem dX4_findTokens_9 : decode cX4_findTokens 9 = .ok (.getfield 25, 3) := by decide +kernel
theorem dX4_findTokens_12 : decode cX4_findTokens 12 = .ok (.if_icmp .ge 149, 3) := by decide +kernel
theorem dX4_findTokens_15 : decode cX4_findTokens 15 = .ok (.iload_n 1, 1) := by decide +kernel
theorem dX4_findTokens_16 : decode cX4_findTokens 16 = .ok (.istore_n 2, 1) := by decide +kernel
theorem dX4_findTokens_17 : decode cX4_findTokens 17 = .ok (.aload_n 0, 1) := by decide +kernel
theorem dX4_findTokens_18 : decode cX4_findTokens 18 = .ok (.getfield 9, 3) := by decide +kernel
theorem dX4_findTokens_21 : decode cX4_findTokens 21 = .ok (.iload_n 2, 1) := by decide +kernel
theorem dX4_findTokens_22 : decode cX4_findTokens 22 = .ok (.invokestatic 54, 3) := by decide +kernel
theorem dX4_findTokens_25 : decode cX4_findTokens 25 = .ok (.istore_n 3, 1) := by decide +kernel
theorem dX4_findTokens_26 : decode cX4_findTokens 26 = .ok (.iinc 1 1, 3) := by decide +kernel
theorem dX4_findTokens_29 : decode cX4_findTokens 29 = .ok (.iload_n 3, 1) := by decide +kernel
theorem dX4_findTokens_30 : decode cX4_findTokens 30 = .ok (.invokestatic 61, 3) := by decide +kernel
theorem dX4_findTokens_33 : decode cX4_findTokens 33 = .ok (.ifCond .eq 45, 3) := by decide +kernel
theorem dX4_findTokens_36 : decode cX4_findTokens 36 = .ok (.iload_n 1, 1) := by decide +kernel
theorem dX4_findTokens_37 : decode cX4_findTokens 37 = .ok (.aload_n 0, 1) := by decide +kernel
theorem dX4_findTokens_38 : decode cX4_findTokens 38 = .ok (.getfield 25, 3) := by decide +kernel
theorem dX4_findTokens_41 : decode cX4_findTokens 41 = .ok (.if_icmp .ge 23, 3) := by decide +kernel
theorem dX4_findTokens_44 : decode cX4_findTokens 44 = .ok (.aload_n 0, 1) := by decide +kernel
theorem dX4_findTokens_45 : decode cX4_findTokens 45 = .ok (.getfield 9, 3) := by decide +kernel
theorem dX4_findTokens_48 : decode cX4_findTokens 48 = .ok (.iload_n 1, 1) := by decide +kernel
theorem dX4_findTokens_49 : decode cX4_findTokens 49 = .ok (.invokestatic 54, 3) := by decide +kernel
theorem dX4_findTokens_52 : decode cX4_findTokens 52 = .ok (.invokestatic 61, 3) := by decide +kernel
theorem dX4_findTokens_55 : decode cX4_findTokens 55 = .ok (.ifCond .eq 9, 3) := by decide +kernel
theorem dX4_findTokens_58 : decode cX4_findTokens 58 = .ok (.iinc 1 1, 3) := by decide +kernel
theorem dX4_findTokens_61 : decode cX4_findTokens 61 = .ok (.goto (-25), 3) := by decide +kernel
theorem dX4_findTokens_64 : decode cX4_findTokens 64 = .ok (.aload_n 0, 1) := by decide +kernel
theorem dX4_findTokens_65 : decode cX4_findTokens 65 = .ok (.aload_n 0, 1) := by decide +kernel
theorem dX4_findTokens_66 : decode cX4_findTokens 66 = .ok (.iload_n 2, 1) := by decide +kernel
theorem dX4_findTokens_67 : decode cX4_findTokens 67 = .ok (.iload_n 1, 1) := by decide +kernel
theorem dX4_findTokens_68 : decode cX4_findTokens 68 = .ok (.invokevirtual 65, 3) := by decide +kernel
theorem dX4_findTokens_71 : decode cX4_findTokens 71 = .ok (.iload_n 2, 1) := by decide +kernel
theorem dX4_findTokens_72 : decode cX4_findTokens 72 = .ok (.invokevirtual 69, 3) := by decide +kernel
theorem dX4_findTokens_75 : decode cX4_findTokens 75 = .ok (.goto 83, 3) := by decide +kernel
theorem dX4_findTokens_78 : decode cX4_findTokens 78 = .ok (.iload_n 3, 1) := by decide +kernel
theorem dX4_findTokens_79 : decode cX4_findTokens 79 = .ok (.invokestatic 73, 3) := by decide +kernel
theorem dX4_findTokens_82 : decode cX4_findTokens 82 = .ok (.ifCond .eq 45, 3) := by decide +kernel
theorem dX4_findTokens_85 : decode cX4_findTokens 85 = .ok (.iload_n 1, 1) := by decide +kernel
theorem dX4_findTokens_86 : decode cX4_findTokens 86 = .ok (.aload_n 0, 1) := by decide +kernel
theorem dX4_findTokens_87 : decode cX4_findTokens 87 = .ok (.getfield 25, 3) := by decide +kernel
theorem dX4_findTokens_90 : decode cX4_findTokens 90 = .ok (.if_icmp .ge 23, 3) := by decide +kernel
theorem dX4_findTokens_93 : decode cX4_findTokens 93 = .ok (.aload_n 0, 1) := by decide +kernel
theorem dX4_findTokens_94 : decode cX4_findTokens 94 = .ok (.getfield 9, 3) := by decide +kernel
theorem dX4_findTokens_97 : decode cX4_findTokens 97 = .ok (.iload_n 1, 1) := by decide +kernel
theorem dX4_findTokens_98 : decode cX4_findTokens 98 = .ok (.invokestatic 54, 3) := by decide +kernel
theorem dX4_findTokens_101 : decode cX4_findTokens 101 = .ok (.invokestatic 73, 3) := by decide +kernel
theorem dX4_findTokens_104 : decode cX4_findTokens 104 = .ok (.ifCond .eq 9, 3) := by decide +kernel
theorem dX4_findTokens_107 : decode cX4_findTokens 107 = .ok (.iinc 1 1, 3) := by decide +kernel
theorem dX4_findTokens_110 : decode cX4_findTokens 110 = .ok (.goto (-25), 3) := by decide +kernel
theorem dX4_findTokens_113 : decode cX4_findTokens 113 = .ok (.aload_n 0, 1) := by decide +kernel
theorem dX4_findTokens_114 : decode cX4_findTokens 114 = .ok (.aload_n 0, 1) := by decide +kernel
theorem dX4_findTokens_115 : decode cX4_findTokens 115 = .ok (.iload_n 2, 1) := by decide +kernel
theorem dX4_findTokens_116 : decode cX4_findTokens 116 = .ok (.iload_n 1, 1) := by decide +kernel
theorem dX4_findTokens_117 : decode cX4_findTokens 117 = .ok (.invokevirtual 76, 3) := by decide +kernel
theorem dX4_findTokens_120 : decode cX4_findTokens 120 = .ok (.iload_n 2, 1) := by decide +kernel
theorem dX4_findTokens_121 : decode cX4_findTokens 121 = .ok (.invokevirtual 69, 3) := by decide +kernel
theorem dX4_findTokens_124 : decode cX4_findTokens 124 = .ok (.goto 34, 3) := by decide +kernel
theorem dX4_findTokens_127 : decode cX4_findTokens 127 = .ok (.iload_n 3, 1) := by decide +kernel
theorem dX4_findTokens_128 : decode cX4_findTokens 128 = .ok (.bipush 32, 2) := by decide +kernel
theorem dX4_findTokens_130 : decode cX4_findTokens 130 = .ok (.if_icmp .eq 28, 3) := by decide +kernel
theorem dX4_findTokens_133 : decode cX4_findTokens 133 = .ok (.iload_n 3, 1) := by decide +kernel
theorem dX4_findTokens_134 : decode cX4_findTokens 134 = .ok (.bipush 10, 2) := by decide +kernel
theorem dX4_findTokens_136 : decode cX4_findTokens 136 = .ok (.if_icmp .eq 22, 3) := by decide +kernel
theorem dX4_findTokens_139 : decode cX4_findTokens 139 = .ok (.aload_n 0, 1) := by decide +kernel
theorem dX4_findTokens_140 : decode cX4_findTokens 140 = .ok (.iload_n 3, 1) := by decide +kernel
theorem dX4_findTokens_141 : decode cX4_findTokens 141 = .ok (.invokestatic 79, 3) := by decide +kernel
theorem dX4_findTokens_144 : decode cX4_findTokens 144 = .ok (.ifCond .eq 8, 3) := by decide +kernel
theorem dX4_findTokens_147 : decode cX4_findTokens 147 = .ok (.iload_n 3, 1) := by decide +kernel
theorem dX4_findTokens_148 : decode cX4_findTokens 148 = .ok (.ineg, 1) := by decide +kernel
theorem dX4_findTokens_149 : decode cX4_findTokens 149 = .ok (.goto 5, 3) := by decide +kernel
theorem dX4_findTokens_152 : decode cX4_findTokens 152 = .ok (.bipush (-2), 2) := by decide +kernel
theorem dX4_findTokens_154 : decode cX4_findTokens 154 = .ok (.iload_n 2, 1) := by decide +kernel
theorem dX4_findTokens_155 : decode cX4_findTokens 155 = .ok (.invokevirtual 69, 3) := by decide +kernel
theorem dX4_findTokens_158 : decode cX4_findTokens 158 = .ok (.goto (-151), 3) := by decide +kernel
theorem dX4_findTokens_161 : decode cX4_findTokens 161 = .ok (.aload_n 0, 1) := by decide +kernel
theorem dX4_findTokens_162 : decode cX4_findTokens 162 = .ok (.iconst (-1), 1) := by decide +kernel
theorem dX4_findTokens_163 : decode cX4_findTokens 163 = .ok (.aload_n 0, 1) := by decide +kernel
theorem dX4_findTokens_164 : decode cX4_findTokens 164 = .ok (.getfield 25, 3) := by decide +kernel
theorem dX4_findTokens_167 : decode cX4_findTokens 167 = .ok (.invokevirtual 69, 3) := by decide +kernel
theorem dX4_findTokens_170 : decode cX4_findTokens 170 = .ok (.return_, 1) := by decide +kernel
theorem dX4_note_0 : decode cX4_note 0 = .ok (.aload_n 0, 1) := by decide +kernel
theorem dX4_note_1 : decode cX4_note 1 = .ok (.getfield 15, 3) := by decide +kernel
theorem dX4_note_4 : decode cX4_note 4 = .ok (.aload_n 0, 1) := by decide +kernel
theorem dX4_note_5 : decode cX4_note 5 = .ok (.getfield 58, 3) := by decide +kernel
theorem dX4_note_8 : decode cX4_note 8 = .ok (.iload_n 1, 1) := by decide +kernel
theorem dX4_note_9 : decode cX4_note 9 = .ok (.invokestatic 29, 3) := by decide +kernel
theorem dX4_note_12 : decode cX4_note 12 = .ok (.aload_n 0, 1) := by decide +kernel
theorem dX4_note_13 : decode cX4_note 13 = .ok (.getfield 18, 3) := by decide +kernel
theorem dX4_note_16 : decode cX4_note 16 = .ok (.aload_n 0, 1) := by decide +kernel
theorem dX4_note_17 : decode cX4_note 17 = .ok (.getfield 58, 3) := by decide +kernel
theorem dX4_note_20 : decode cX4_note 20 = .ok (.iload_n 2, 1) := by decide +kernel
theorem dX4_note_21 : decode cX4_note 21 = .ok (.invokestatic 29, 3) := by decide +kernel
theorem dX4_note_24 : decode cX4_note 24 = .ok (.aload_n 0, 1) := by decide +kernel
theorem dX4_note_25 : decode cX4_note 25 = .ok (.dup, 1) := by decide +kernel
theorem dX4_note_26 : decode cX4_note 26 = .ok (.getfield 58, 3) := by decide +kernel
theorem dX4_note_29 : decode cX4_note 29 = .ok (.iconst 1, 1) := by decide +kernel
theorem dX4_note_30 : decode cX4_note 30 = .ok (.iadd, 1) := by decide +kernel
theorem dX4_note_31 : decode cX4_note 31 = .ok (.putfield 58, 3) := by decide +kernel
theorem dX4_note_34 : decode cX4_note 34 = .ok (.return_, 1) := by decide +kernel
theorem dX4_isLetter_0 : decode cX4_isLetter 0 = .ok (.iload_n 0, 1) := by decide +kernel
theorem dX4_isLetter_1 : decode cX4_isLetter 1 = .ok (.bipush 97, 2) := by decide +kernel
theorem dX4_isLetter_3 : decode cX4_isLetter 3 = .ok (.if_icmp .lt 13, 3) := by decide +kernel
theorem dX4_isLetter_6 : decode cX4_isLetter 6 = .ok (.iload_n 0, 1) := by decide +kernel
theorem dX4_isLetter_7 : decode cX4_isLetter 7 = .ok (.bipush 122, 2) := by decide +kernel
theorem dX4_isLetter_9 : decode cX4_isLetter 9 = .ok (.if_icmp .gt 7, 3) := by decide +kernel
theorem dX4_isLetter_12 : decode cX4_isLetter 12 = .ok (.iconst 1, 1) := by decide +kernel
theorem dX4_isLetter_13 : decode cX4_isLetter 13 = .ok (.goto 4, 3) := by decide +kernel
theorem dX4_isLetter_16 : decode cX4_isLetter 16 = .ok (.iconst 0, 1) := by decide +kernel
theorem dX4_isLetter_17 : decode cX4_isLetter 17 = .ok (.ireturn, 1) := by decide +kernel
theorem dX4_isDigit_0 : decode cX4_isDigit 0 = .ok (.iload_n 0, 1) := by decide +kernel
theorem dX4_isDigit_1 : decode cX4_isDigit 1 = .ok (.bipush 48, 2) := by decide +kernel
theorem dX4_isDigit_3 : decode cX4_isDigit 3 = .ok (.if_icmp .lt 13, 3) := by decide +kernel
theorem dX4_isDigit_6 : decode cX4_isDigit 6 = .ok (.iload_n 0, 1) := by decide +kernel
theorem dX4_isDigit_7 : decode cX4_isDigit 7 = .ok (.bipush 57, 2) := by decide +kernel
theorem dX4_isDigit_9 : decode cX4_isDigit 9 = .ok (.if_icmp .gt 7, 3) := by decide +kernel
theorem dX4_isDigit_12 : decode cX4_isDigit 12 = .ok (.iconst 1, 1) := by decide +kernel
theorem dX4_isDigit_13 : decode cX4_isDigit 13 = .ok (.goto 4, 3) := by decide +kernel
theorem dX4_isDigit_16 : decode cX4_isDigit 16 = .ok (.iconst 0, 1) := by decide +kernel
theorem dX4_isDigit_17 : decode cX4_isDigit 17 = .ok (.ireturn, 1) := by decide +kernel
theorem dX4_isSign_0 : decode cX4_isSign 0 = .ok (.iload_n 0, 1) := by decide +kernel
theorem dX4_isSign_1 : decode cX4_isSign 1 = .ok (.tableswitch 105 40 61 #[103, 103, 103, 103, 105, 103, 105, 105, 105, 105, 105, 105, 105, 105, 105, 105, 105, 105, 105, 103, 103, 103], 103) := by decide +kernel
theorem dX4_isSign_104 : decode cX4_isSign 104 = .ok (.iconst 1, 1) := by decide +kernel
theorem dX4_isSign_105 : decode cX4_isSign 105 = .ok (.ireturn, 1) := by decide +kernel
theorem dX4_isSign_106 : decode cX4_isSign 106 = .ok (.iconst 0, 1) := by decide +kernel
theorem dX4_isSign_107 : decode cX4_isSign 107 = .ok (.ireturn, 1) := by decide +kernel
theorem dX4_number_0 : decode cX4_number 0 = .ok (.iload_n 2, 1) := by decide +kernel
theorem dX4_number_1 : decode cX4_number 1 = .ok (.iload_n 1, 1) := by decide +kernel
theorem dX4_number_2 : decode cX4_number 2 = .ok (.isub, 1) := by decide +kernel
theorem dX4_number_3 : decode cX4_number 3 = .ok (.iconst 4, 1) := by decide +kernel
theorem dX4_number_4 : decode cX4_number 4 = .ok (.if_icmp .le 6, 3) := by decide +kernel
theorem dX4_number_7 : decode cX4_number 7 = .ok (.bipush (-2), 2) := by decide +kernel
theorem dX4_number_9 : decode cX4_number 9 = .ok (.ireturn, 1) := by decide +kernel
theorem dX4_number_10 : decode cX4_number 10 = .ok (.iconst 0, 1) := by decide +kernel
theorem dX4_number_11 : decode cX4_number 11 = .ok (.istore_n 3, 1) := by decide +kernel
theorem dX4_number_12 : decode cX4_number 12 = .ok (.iload_n 1, 1) := by decide +kernel
theorem dX4_number_13 : decode cX4_number 13 = .ok (.istore 4, 2) := by decide +kernel
theorem dX4_number_15 : decode cX4_number 15 = .ok (.iload 4, 2) := by decide +kernel
theorem dX4_number_17 : decode cX4_number 17 = .ok (.iload_n 2, 1) := by decide +kernel
theorem dX4_number_18 : decode cX4_number 18 = .ok (.if_icmp .ge 27, 3) := by decide +kernel
theorem dX4_number_21 : decode cX4_number 21 = .ok (.bipush 10, 2) := by decide +kernel
theorem dX4_number_23 : decode cX4_number 23 = .ok (.iload_n 3, 1) := by decide +kernel
theorem dX4_number_24 : decode cX4_number 24 = .ok (.imul, 1) := by decide +kernel
theorem dX4_number_25 : decode cX4_number 25 = .ok (.aload_n 0, 1) := by decide +kernel
theorem dX4_number_26 : decode cX4_number 26 = .ok (.getfield 9, 3) := by decide +kernel
theorem dX4_number_29 : decode cX4_number 29 = .ok (.iload 4, 2) := by decide +kernel
theorem dX4_number_31 : decode cX4_number 31 = .ok (.invokestatic 54, 3) := by decide +kernel
theorem dX4_number_34 : decode cX4_number 34 = .ok (.iadd, 1) := by decide +kernel
theorem dX4_number_35 : decode cX4_number 35 = .ok (.bipush 48, 2) := by decide +kernel
theorem dX4_number_37 : decode cX4_number 37 = .ok (.isub, 1) := by decide +kernel
theorem dX4_number_38 : decode cX4_number 38 = .ok (.istore_n 3, 1) := by decide +kernel
theorem dX4_number_39 : decode cX4_number 39 = .ok (.iinc 4 1, 3) := by decide +kernel
theorem dX4_number_42 : decode cX4_number 42 = .ok (.goto (-27), 3) := by decide +kernel
theorem dX4_number_45 : decode cX4_number 45 = .ok (.iload_n 3, 1) := by decide +kernel
theorem dX4_number_46 : decode cX4_number 46 = .ok (.ireturn, 1) := by decide +kernel
theorem dX4_word_0 : decode cX4_word 0 = .ok (.aload_n 0, 1) := by decide +kernel
theorem dX4_word_1 : decode cX4_word 1 = .ok (.ldc 82, 2) := by decide +kernel
theorem dX4_word_3 : decode cX4_word 3 = .ok (.iload_n 1, 1) := by decide +kernel
theorem dX4_word_4 : decode cX4_word 4 = .ok (.iload_n 2, 1) := by decide +kernel
theorem dX4_word_5 : decode cX4_word 5 = .ok (.invokevirtual 84, 3) := by decide +kernel
theorem dX4_word_8 : decode cX4_word 8 = .ok (.ifCond .eq 6, 3) := by decide +kernel
theorem dX4_word_11 : decode cX4_word 11 = .ok (.bipush (-3), 2) := by decide +kernel
theorem dX4_word_13 : decode cX4_word 13 = .ok (.ireturn, 1) := by decide +kernel
theorem dX4_word_14 : decode cX4_word 14 = .ok (.aload_n 0, 1) := by decide +kernel
theorem dX4_word_15 : decode cX4_word 15 = .ok (.ldc 88, 2) := by decide +kernel
theorem dX4_word_17 : decode cX4_word 17 = .ok (.iload_n 1, 1) := by decide +kernel
theorem dX4_word_18 : decode cX4_word 18 = .ok (.iload_n 2, 1) := by decide +kernel
theorem dX4_word_19 : decode cX4_word 19 = .ok (.invokevirtual 84, 3) := by decide +kernel
theorem dX4_word_22 : decode cX4_word 22 = .ok (.ifCond .eq 6, 3) := by decide +kernel
theorem dX4_word_25 : decode cX4_word 25 = .ok (.bipush (-4), 2) := by decide +kernel
theorem dX4_word_27 : decode cX4_word 27 = .ok (.ireturn, 1) := by decide +kernel
theorem dX4_word_28 : decode cX4_word 28 = .ok (.aload_n 0, 1) := by decide +kernel
theorem dX4_word_29 : decode cX4_word 29 = .ok (.ldc 90, 2) := by decide +kernel
theorem dX4_word_31 : decode cX4_word 31 = .ok (.iload_n 1, 1) := by decide +kernel
theorem dX4_word_32 : decode cX4_word 32 = .ok (.iload_n 2, 1) := by decide +kernel
theorem dX4_word_33 : decode cX4_word 33 = .ok (.invokevirtual 84, 3) := by decide +kernel
theorem dX4_word_36 : decode cX4_word 36 = .ok (.ifCond .eq 6, 3) := by decide +kernel
theorem dX4_word_39 : decode cX4_word 39 = .ok (.bipush (-5), 2) := by decide +kernel
theorem dX4_word_41 : decode cX4_word 41 = .ok (.ireturn, 1) := by decide +kernel
theorem dX4_word_42 : decode cX4_word 42 = .ok (.aload_n 0, 1) := by decide +kernel
theorem dX4_word_43 : decode cX4_word 43 = .ok (.ldc 92, 2) := by decide +kernel
theorem dX4_word_45 : decode cX4_word 45 = .ok (.iload_n 1, 1) := by decide +kernel
theorem dX4_word_46 : decode cX4_word 46 = .ok (.iload_n 2, 1) := by decide +kernel
theorem dX4_word_47 : decode cX4_word 47 = .ok (.invokevirtual 84, 3) := by decide +kernel
theorem dX4_word_50 : decode cX4_word 50 = .ok (.ifCond .eq 6, 3) := by decide +kernel
theorem dX4_word_53 : decode cX4_word 53 = .ok (.bipush (-6), 2) := by decide +kernel
theorem dX4_word_55 : decode cX4_word 55 = .ok (.ireturn, 1) := by decide +kernel
theorem dX4_word_56 : decode cX4_word 56 = .ok (.aload_n 0, 1) := by decide +kernel
theorem dX4_word_57 : decode cX4_word 57 = .ok (.ldc 94, 2) := by decide +kernel
theorem dX4_word_59 : decode cX4_word 59 = .ok (.iload_n 1, 1) := by decide +kernel
theorem dX4_word_60 : decode cX4_word 60 = .ok (.iload_n 2, 1) := by decide +kernel
theorem dX4_word_61 : decode cX4_word 61 = .ok (.invokevirtual 84, 3) := by decide +kernel
theorem dX4_word_64 : decode cX4_word 64 = .ok (.ifCond .eq 6, 3) := by decide +kernel
theorem dX4_word_67 : decode cX4_word 67 = .ok (.bipush (-7), 2) := by decide +kernel
theorem dX4_word_69 : decode cX4_word 69 = .ok (.ireturn, 1) := by decide +kernel
theorem dX4_word_70 : decode cX4_word 70 = .ok (.aload_n 0, 1) := by decide +kernel
theorem dX4_word_71 : decode cX4_word 71 = .ok (.ldc 96, 2) := by decide +kernel
theorem dX4_word_73 : decode cX4_word 73 = .ok (.iload_n 1, 1) := by decide +kernel
theorem dX4_word_74 : decode cX4_word 74 = .ok (.iload_n 2, 1) := by decide +kernel
theorem dX4_word_75 : decode cX4_word 75 = .ok (.invokevirtual 84, 3) := by decide +kernel
theorem dX4_word_78 : decode cX4_word 78 = .ok (.ifCond .eq 6, 3) := by decide +kernel
theorem dX4_word_81 : decode cX4_word 81 = .ok (.bipush (-8), 2) := by decide +kernel
theorem dX4_word_83 : decode cX4_word 83 = .ok (.ireturn, 1) := by decide +kernel
theorem dX4_word_84 : decode cX4_word 84 = .ok (.aload_n 0, 1) := by decide +kernel
theorem dX4_word_85 : decode cX4_word 85 = .ok (.ldc 98, 2) := by decide +kernel
theorem dX4_word_87 : decode cX4_word 87 = .ok (.iload_n 1, 1) := by decide +kernel
theorem dX4_word_88 : decode cX4_word 88 = .ok (.iload_n 2, 1) := by decide +kernel
theorem dX4_word_89 : decode cX4_word 89 = .ok (.invokevirtual 84, 3) := by decide +kernel
theorem dX4_word_92 : decode cX4_word 92 = .ok (.ifCond .eq 6, 3) := by decide +kernel
theorem dX4_word_95 : decode cX4_word 95 = .ok (.bipush (-10), 2) := by decide +kernel
theorem dX4_word_97 : decode cX4_word 97 = .ok (.ireturn, 1) := by decide +kernel
theorem dX4_word_98 : decode cX4_word 98 = .ok (.aload_n 0, 1) := by decide +kernel
theorem dX4_word_99 : decode cX4_word 99 = .ok (.ldc 100, 2) := by decide +kernel
theorem dX4_word_101 : decode cX4_word 101 = .ok (.iload_n 1, 1) := by decide +kernel
theorem dX4_word_102 : decode cX4_word 102 = .ok (.iload_n 2, 1) := by decide +kernel
theorem dX4_word_103 : decode cX4_word 103 = .ok (.invokevirtual 84, 3) := by decide +kernel
theorem dX4_word_106 : decode cX4_word 106 = .ok (.ifCond .eq 6, 3) := by decide +kernel
theorem dX4_word_109 : decode cX4_word 109 = .ok (.bipush (-11), 2) := by decide +kernel
theorem dX4_word_111 : decode cX4_word 111 = .ok (.ireturn, 1) := by decide +kernel
theorem dX4_word_112 : decode cX4_word 112 = .ok (.aload_n 0, 1) := by decide +kernel
theorem dX4_word_113 : decode cX4_word 113 = .ok (.ldc 102, 2) := by decide +kernel
theorem dX4_word_115 : decode cX4_word 115 = .ok (.iload_n 1, 1) := by decide +kernel
theorem dX4_word_116 : decode cX4_word 116 = .ok (.iload_n 2, 1) := by decide +kernel
theorem dX4_word_117 : decode cX4_word 117 = .ok (.invokevirtual 84, 3) := by decide +kernel
theorem dX4_word_120 : decode cX4_word 120 = .ok (.ifCond .eq 6, 3) := by decide +kernel
theorem dX4_word_123 : decode cX4_word 123 = .ok (.bipush (-12), 2) := by decide +kernel
theorem dX4_word_125 : decode cX4_word 125 = .ok (.ireturn, 1) := by decide +kernel
theorem dX4_word_126 : decode cX4_word 126 = .ok (.aload_n 0, 1) := by decide +kernel
theorem dX4_word_127 : decode cX4_word 127 = .ok (.ldc 104, 2) := by decide +kernel
theorem dX4_word_129 : decode cX4_word 129 = .ok (.iload_n 1, 1) := by decide +kernel
theorem dX4_word_130 : decode cX4_word 130 = .ok (.iload_n 2, 1) := by decide +kernel
theorem dX4_word_131 : decode cX4_word 131 = .ok (.invokevirtual 84, 3) := by decide +kernel
theorem dX4_word_134 : decode cX4_word 134 = .ok (.ifCond .eq 6, 3) := by decide +kernel
theorem dX4_word_137 : decode cX4_word 137 = .ok (.bipush (-13), 2) := by decide +kernel
theorem dX4_word_139 : decode cX4_word 139 = .ok (.ireturn, 1) := by decide +kernel
theorem dX4_word_140 : decode cX4_word 140 = .ok (.aload_n 0, 1) := by decide +kernel
theorem dX4_word_141 : decode cX4_word 141 = .ok (.ldc 106, 2) := by decide +kernel
theorem dX4_word_143 : decode cX4_word 143 = .ok (.iload_n 1, 1) := by decide +kernel
theorem dX4_word_144 : decode cX4_word 144 = .ok (.iload_n 2, 1) := by decide +kernel
theorem dX4_word_145 : decode cX4_word 145 = .ok (.invokevirtual 84, 3) := by decide +kernel
theorem dX4_word_148 : decode cX4_word 148 = .ok (.ifCond .eq 6, 3) := by decide +kernel
theorem dX4_word_151 : decode cX4_word 151 = .ok (.bipush (-14), 2) := by decide +kernel
theorem dX4_word_153 : decode cX4_word 153 = .ok (.ireturn, 1) := by decide +kernel
theorem dX4_word_154 : decode cX4_word 154 = .ok (.aload_n 0, 1) := by decide +kernel
theorem dX4_word_155 : decode cX4_word 155 = .ok (.ldc 108, 2) := by decide +kernel
theorem dX4_word_157 : decode cX4_word 157 = .ok (.iload_n 1, 1) := by decide +kernel
theorem dX4_word_158 : decode cX4_word 158 = .ok (.iload_n 2, 1) := by decide +kernel
theorem dX4_word_159 : decode cX4_word 159 = .ok (.invokevirtual 84, 3) := by decide +kernel
theorem dX4_word_162 : decode cX4_word 162 = .ok (.ifCond .eq 8, 3) := by decide +kernel
theorem dX4_word_165 : decode cX4_word 165 = .ok (.bipush (-15), 2) := by decide +kernel
theorem dX4_word_167 : decode cX4_word 167 = .ok (.goto 5, 3) := by decide +kernel
theorem dX4_word_170 : decode cX4_word 170 = .ok (.bipush (-2), 2) := by decide +kernel
theorem dX4_word_172 : decode cX4_word 172 = .ok (.ireturn, 1) := by decide +kernel
theorem dX4_spells_0 : decode cX4_spells 0 = .ok (.iload_n 3, 1) := by decide +kernel
theorem dX4_spells_1 : decode cX4_spells 1 = .ok (.iload_n 2, 1) := by decide +kernel
theorem dX4_spells_2 : decode cX4_spells 2 = .ok (.isub, 1) := by decide +kernel
theorem dX4_spells_3 : decode cX4_spells 3 = .ok (.aload_n 1, 1) := by decide +kernel
theorem dX4_spells_4 : decode cX4_spells 4 = .ok (.invokevirtual 110, 3) := by decide +kernel
theorem dX4_spells_7 : decode cX4_spells 7 = .ok (.if_icmp .eq 5, 3) := by decide +kernel
theorem dX4_spells_10 : decode cX4_spells 10 = .ok (.iconst 0, 1) := by decide +kernel
theorem dX4_spells_11 : decode cX4_spells 11 = .ok (.ireturn, 1) := by decide +kernel
theorem dX4_spells_12 : decode cX4_spells 12 = .ok (.iconst 0, 1) := by decide +kernel
theorem dX4_spells_13 : decode cX4_spells 13 = .ok (.istore 4, 2) := by decide +kernel
theorem dX4_spells_15 : decode cX4_spells 15 = .ok (.iload 4, 2) := by decide +kernel
theorem dX4_spells_17 : decode cX4_spells 17 = .ok (.aload_n 1, 1) := by decide +kernel
theorem dX4_spells_18 : decode cX4_spells 18 = .ok (.invokevirtual 110, 3) := by decide +kernel
theorem dX4_spells_21 : decode cX4_spells 21 = .ok (.if_icmp .ge 31, 3) := by decide +kernel
theorem dX4_spells_24 : decode cX4_spells 24 = .ok (.aload_n 0, 1) := by decide +kernel
theorem dX4_spells_25 : decode cX4_spells 25 = .ok (.getfield 9, 3) := by decide +kernel
theorem dX4_spells_28 : decode cX4_spells 28 = .ok (.iload_n 2, 1) := by decide +kernel
theorem dX4_spells_29 : decode cX4_spells 29 = .ok (.iload 4, 2) := by decide +kernel
theorem dX4_spells_31 : decode cX4_spells 31 = .ok (.iadd, 1) := by decide +kernel
theorem dX4_spells_32 : decode cX4_spells 32 = .ok (.invokestatic 54, 3) := by decide +kernel
theorem dX4_spells_35 : decode cX4_spells 35 = .ok (.aload_n 1, 1) := by decide +kernel
theorem dX4_spells_36 : decode cX4_spells 36 = .ok (.iload 4, 2) := by decide +kernel
theorem dX4_spells_38 : decode cX4_spells 38 = .ok (.invokevirtual 116, 3) := by decide +kernel
theorem dX4_spells_41 : decode cX4_spells 41 = .ok (.if_icmp .eq 5, 3) := by decide +kernel
theorem dX4_spells_44 : decode cX4_spells 44 = .ok (.iconst 0, 1) := by decide +kernel
theorem dX4_spells_45 : decode cX4_spells 45 = .ok (.ireturn, 1) := by decide +kernel
theorem dX4_spells_46 : decode cX4_spells 46 = .ok (.iinc 4 1, 3) := by decide +kernel
theorem dX4_spells_49 : decode cX4_spells 49 = .ok (.goto (-34), 3) := by decide +kernel
theorem dX4_spells_52 : decode cX4_spells 52 = .ok (.iconst 1, 1) := by decide +kernel
theorem dX4_spells_53 : decode cX4_spells 53 = .ok (.ireturn, 1) := by decide +kernel
theorem dX4_advance_0 : decode cX4_advance 0 = .ok (.aload_n 0, 1) := by decide +kernel
theorem dX4_advance_1 : decode cX4_advance 1 = .ok (.getfield 36, 3) := by decide +kernel
theorem dX4_advance_4 : decode cX4_advance 4 = .ok (.iconst 1, 1) := by decide +kernel
theorem dX4_advance_5 : decode cX4_advance 5 = .ok (.iadd, 1) := by decide +kernel
theorem dX4_advance_6 : decode cX4_advance 6 = .ok (.aload_n 0, 1) := by decide +kernel
theorem dX4_advance_7 : decode cX4_advance 7 = .ok (.getfield 58, 3) := by decide +kernel
theorem dX4_advance_10 : decode cX4_advance 10 = .ok (.if_icmp .ge 13, 3) := by decide +kernel
theorem dX4_advance_13 : decode cX4_advance 13 = .ok (.aload_n 0, 1) := by decide +kernel
theorem dX4_advance_14 : decode cX4_advance 14 = .ok (.dup, 1) := by decide +kernel
theorem dX4_advance_15 : decode cX4_advance 15 = .ok (.getfield 36, 3) := by decide +kernel
theorem dX4_advance_18 : decode cX4_advance 18 = .ok (.iconst 1, 1) := by decide +kernel
theorem dX4_advance_19 : decode cX4_advance 19 = .ok (.iadd, 1) := by decide +kernel
theorem dX4_advance_20 : decode cX4_advance 20 = .ok (.putfield 36, 3) := by decide +kernel
theorem dX4_advance_23 : decode cX4_advance 23 = .ok (.aload_n 0, 1) := by decide +kernel
theorem dX4_advance_24 : decode cX4_advance 24 = .ok (.aload_n 0, 1) := by decide +kernel
theorem dX4_advance_25 : decode cX4_advance 25 = .ok (.getfield 15, 3) := by decide +kernel
theorem dX4_advance_28 : decode cX4_advance 28 = .ok (.aload_n 0, 1) := by decide +kernel
theorem dX4_advance_29 : decode cX4_advance 29 = .ok (.getfield 36, 3) := by decide +kernel
theorem dX4_advance_32 : decode cX4_advance 32 = .ok (.invokestatic 54, 3) := by decide +kernel
theorem dX4_advance_35 : decode cX4_advance 35 = .ok (.putfield 51, 3) := by decide +kernel
theorem dX4_advance_38 : decode cX4_advance 38 = .ok (.return_, 1) := by decide +kernel
theorem dX4_passed_0 : decode cX4_passed 0 = .ok (.aload_n 0, 1) := by decide +kernel
theorem dX4_passed_1 : decode cX4_passed 1 = .ok (.getfield 51, 3) := by decide +kernel
theorem dX4_passed_4 : decode cX4_passed 4 = .ok (.iload_n 1, 1) := by decide +kernel
theorem dX4_passed_5 : decode cX4_passed 5 = .ok (.if_icmp .eq 5, 3) := by decide +kernel
theorem dX4_passed_8 : decode cX4_passed 8 = .ok (.iconst 0, 1) := by decide +kernel
theorem dX4_passed_9 : decode cX4_passed 9 = .ok (.ireturn, 1) := by decide +kernel
theorem dX4_passed_10 : decode cX4_passed 10 = .ok (.aload_n 0, 1) := by decide +kernel
theorem dX4_passed_11 : decode cX4_passed 11 = .ok (.invokevirtual 39, 3) := by decide +kernel
theorem dX4_passed_14 : decode cX4_passed 14 = .ok (.iconst 1, 1) := by decide +kernel
theorem dX4_passed_15 : decode cX4_passed 15 = .ok (.ireturn, 1) := by decide +kernel
theorem dX4_readPart_0 : decode cX4_readPart 0 = .ok (.aload_n 0, 1) := by decide +kernel
theorem dX4_readPart_1 : decode cX4_readPart 1 = .ok (.iload_n 1, 1) := by decide +kernel
theorem dX4_readPart_2 : decode cX4_readPart 2 = .ok (.invokevirtual 120, 3) := by decide +kernel
theorem dX4_readPart_5 : decode cX4_readPart 5 = .ok (.ifCond .eq 20, 3) := by decide +kernel
theorem dX4_readPart_8 : decode cX4_readPart 8 = .ok (.aload_n 0, 1) := by decide +kernel
theorem dX4_readPart_9 : decode cX4_readPart 9 = .ok (.iconst 0, 1) := by decide +kernel
theorem dX4_readPart_10 : decode cX4_readPart 10 = .ok (.invokevirtual 123, 3) := by decide +kernel
theorem dX4_readPart_13 : decode cX4_readPart 13 = .ok (.ifCond .eq 12, 3) := by decide +kernel
theorem dX4_readPart_16 : decode cX4_readPart 16 = .ok (.aload_n 0, 1) := by decide +kernel
theorem dX4_readPart_17 : decode cX4_readPart 17 = .ok (.bipush (-59), 2) := by decide +kernel
theorem dX4_readPart_19 : decode cX4_readPart 19 = .ok (.invokevirtual 120, 3) := by decide +kernel
theorem dX4_readPart_22 : decode cX4_readPart 22 = .ok (.ifCond .ne 5, 3) := by decide +kernel
theorem dX4_readPart_25 : decode cX4_readPart 25 = .ok (.iconst 0, 1) := by decide +kernel
theorem dX4_readPart_26 : decode cX4_readPart 26 = .ok (.ireturn, 1) := by decide +kernel
theorem dX4_readPart_27 : decode cX4_readPart 27 = .ok (.aload_n 0, 1) := by decide +kernel
theorem dX4_readPart_28 : decode cX4_readPart 28 = .ok (.getfield 21, 3) := by decide +kernel
theorem dX4_readPart_31 : decode cX4_readPart 31 = .ok (.iload_n 2, 1) := by decide +kernel
theorem dX4_readPart_32 : decode cX4_readPart 32 = .ok (.invokevirtual 126, 3) := by decide +kernel
theorem dX4_readPart_35 : decode cX4_readPart 35 = .ok (.iconst 1, 1) := by decide +kernel
theorem dX4_readPart_36 : decode cX4_readPart 36 = .ok (.ireturn, 1) := by decide +kernel
theorem dX4_readOr_0 : decode cX4_readOr 0 = .ok (.aload_n 0, 1) := by decide +kernel
theorem dX4_readOr_1 : decode cX4_readOr 1 = .ok (.iload_n 1, 1) := by decide +kernel
theorem dX4_readOr_2 : decode cX4_readOr 2 = .ok (.invokevirtual 130, 3) := by decide +kernel
theorem dX4_readOr_5 : decode cX4_readOr 5 = .ok (.istore_n 2, 1) := by decide +kernel
theorem dX4_readOr_6 : decode cX4_readOr 6 = .ok (.iconst 0, 1) := by decide +kernel
theorem dX4_readOr_7 : decode cX4_readOr 7 = .ok (.istore_n 3, 1) := by decide +kernel
theorem dX4_readOr_8 : decode cX4_readOr 8 = .ok (.iload_n 3, 1) := by decide +kernel
theorem dX4_readOr_9 : decode cX4_readOr 9 = .ok (.sipush 160, 3) := by decide +kernel
theorem dX4_readOr_12 : decode cX4_readOr 12 = .ok (.if_icmp .ge 48, 3) := by decide +kernel
theorem dX4_readOr_15 : decode cX4_readOr 15 = .ok (.iload_n 2, 1) := by decide +kernel
theorem dX4_readOr_16 : decode cX4_readOr 16 = .ok (.ifCond .eq 44, 3) := by decide +kernel
theorem dX4_readOr_19 : decode cX4_readOr 19 = .ok (.aload_n 0, 1) := by decide +kernel
theorem dX4_readOr_20 : decode cX4_readOr 20 = .ok (.bipush (-6), 2) := by decide +kernel
theorem dX4_readOr_22 : decode cX4_readOr 22 = .ok (.invokevirtual 120, 3) := by decide +kernel
theorem dX4_readOr_25 : decode cX4_readOr 25 = .ok (.ifCond .eq 35, 3) := by decide +kernel
theorem dX4_readOr_28 : decode cX4_readOr 28 = .ok (.aload_n 0, 1) := by decide +kernel
theorem dX4_readOr_29 : decode cX4_readOr 29 = .ok (.iload_n 1, 1) := by decide +kernel
theorem dX4_readOr_30 : decode cX4_readOr 30 = .ok (.invokevirtual 130, 3) := by decide +kernel
theorem dX4_readOr_33 : decode cX4_readOr 33 = .ok (.ifCond .eq 19, 3) := by decide +kernel
theorem dX4_readOr_36 : decode cX4_readOr 36 = .ok (.aload_n 0, 1) := by decide +kernel
theorem dX4_readOr_37 : decode cX4_readOr 37 = .ok (.getfield 21, 3) := by decide +kernel
theorem dX4_readOr_40 : decode cX4_readOr 40 = .ok (.bipush (-6), 2) := by decide +kernel
theorem dX4_readOr_42 : decode cX4_readOr 42 = .ok (.invokevirtual 133, 3) := by decide +kernel
theorem dX4_readOr_45 : decode cX4_readOr 45 = .ok (.ifCond .eq 7, 3) := by decide +kernel
theorem dX4_readOr_48 : decode cX4_readOr 48 = .ok (.iconst 1, 1) := by decide +kernel
theorem dX4_readOr_49 : decode cX4_readOr 49 = .ok (.goto 4, 3) := by decide +kernel
theorem dX4_readOr_52 : decode cX4_readOr 52 = .ok (.iconst 0, 1) := by decide +kernel
theorem dX4_readOr_53 : decode cX4_readOr 53 = .ok (.istore_n 2, 1) := by decide +kernel
theorem dX4_readOr_54 : decode cX4_readOr 54 = .ok (.iinc 3 1, 3) := by decide +kernel
theorem dX4_readOr_57 : decode cX4_readOr 57 = .ok (.goto (-49), 3) := by decide +kernel
theorem dX4_readOr_60 : decode cX4_readOr 60 = .ok (.iload_n 2, 1) := by decide +kernel
theorem dX4_readOr_61 : decode cX4_readOr 61 = .ok (.ireturn, 1) := by decide +kernel
theorem dX4_readAnd_0 : decode cX4_readAnd 0 = .ok (.aload_n 0, 1) := by decide +kernel
theorem dX4_readAnd_1 : decode cX4_readAnd 1 = .ok (.iload_n 1, 1) := by decide +kernel
theorem dX4_readAnd_2 : decode cX4_readAnd 2 = .ok (.invokevirtual 136, 3) := by decide +kernel
theorem dX4_readAnd_5 : decode cX4_readAnd 5 = .ok (.istore_n 2, 1) := by decide +kernel
theorem dX4_readAnd_6 : decode cX4_readAnd 6 = .ok (.iconst 0, 1) := by decide +kernel
theorem dX4_readAnd_7 : decode cX4_readAnd 7 = .ok (.istore_n 3, 1) := by decide +kernel
theorem dX4_readAnd_8 : decode cX4_readAnd 8 = .ok (.iload_n 3, 1) := by decide +kernel
theorem dX4_readAnd_9 : decode cX4_readAnd 9 = .ok (.sipush 160, 3) := by decide +kernel
theorem dX4_readAnd_12 : decode cX4_readAnd 12 = .ok (.if_icmp .ge 48, 3) := by decide +kernel
theorem dX4_readAnd_15 : decode cX4_readAnd 15 = .ok (.iload_n 2, 1) := by decide +kernel
theorem dX4_readAnd_16 : decode cX4_readAnd 16 = .ok (.ifCond .eq 44, 3) := by decide +kernel
theorem dX4_readAnd_19 : decode cX4_readAnd 19 = .ok (.aload_n 0, 1) := by decide +kernel
theorem dX4_readAnd_20 : decode cX4_readAnd 20 = .ok (.bipush (-7), 2) := by decide +kernel
theorem dX4_readAnd_22 : decode cX4_readAnd 22 = .ok (.invokevirtual 120, 3) := by decide +kernel
theorem dX4_readAnd_25 : decode cX4_readAnd 25 = .ok (.ifCond .eq 35, 3) := by decide +kernel
theorem dX4_readAnd_28 : decode cX4_readAnd 28 = .ok (.aload_n 0, 1) := by decide +kernel
theorem dX4_readAnd_29 : decode cX4_readAnd 29 = .ok (.iload_n 1, 1) := by decide +kernel
theorem dX4_readAnd_30 : decode cX4_readAnd 30 = .ok (.invokevirtual 136, 3) := by decide +kernel
theorem dX4_readAnd_33 : decode cX4_readAnd 33 = .ok (.ifCond .eq 19, 3) := by decide +kernel
theorem dX4_readAnd_36 : decode cX4_readAnd 36 = .ok (.aload_n 0, 1) := by decide +kernel
theorem dX4_readAnd_37 : decode cX4_readAnd 37 = .ok (.getfield 21, 3) := by decide +kernel
theorem dX4_readAnd_40 : decode cX4_readAnd 40 = .ok (.bipush (-7), 2) := by decide +kernel
theorem dX4_readAnd_42 : decode cX4_readAnd 42 = .ok (.invokevirtual 133, 3) := by decide +kernel
theorem dX4_readAnd_45 : decode cX4_readAnd 45 = .ok (.ifCond .eq 7, 3) := by decide +kernel
theorem dX4_readAnd_48 : decode cX4_readAnd 48 = .ok (.iconst 1, 1) := by decide +kernel
theorem dX4_readAnd_49 : decode cX4_readAnd 49 = .ok (.goto 4, 3) := by decide +kernel
theorem dX4_readAnd_52 : decode cX4_readAnd 52 = .ok (.iconst 0, 1) := by decide +kernel
theorem dX4_readAnd_53 : decode cX4_readAnd 53 = .ok (.istore_n 2, 1) := by decide +kernel
theorem dX4_readAnd_54 : decode cX4_readAnd 54 = .ok (.iinc 3 1, 3) := by decide +kernel
theorem dX4_readAnd_57 : decode cX4_readAnd 57 = .ok (.goto (-49), 3) := by decide +kernel
theorem dX4_readAnd_60 : decode cX4_readAnd 60 = .ok (.iload_n 2, 1) := by decide +kernel
theorem dX4_readAnd_61 : decode cX4_readAnd 61 = .ok (.ireturn, 1) := by decide +kernel
theorem dX4_readNot_0 : decode cX4_readNot 0 = .ok (.aload_n 0, 1) := by decide +kernel
theorem dX4_readNot_1 : decode cX4_readNot 1 = .ok (.getfield 51, 3) := by decide +kernel
theorem dX4_readNot_4 : decode cX4_readNot 4 = .ok (.bipush (-8), 2) := by decide +kernel
theorem dX4_readNot_6 : decode cX4_readNot 6 = .ok (.if_icmp .ne 42, 3) := by decide +kernel
theorem dX4_readNot_9 : decode cX4_readNot 9 = .ok (.iload_n 1, 1) := by decide +kernel
theorem dX4_readNot_10 : decode cX4_readNot 10 = .ok (.iconst 5, 1) := by decide +kernel
theorem dX4_readNot_11 : decode cX4_readNot 11 = .ok (.if_icmp .lt 5, 3) := by decide +kernel
theorem dX4_readNot_14 : decode cX4_readNot 14 = .ok (.iconst 0, 1) := by decide +kernel
theorem dX4_readNot_15 : decode cX4_readNot 15 = .ok (.ireturn, 1) := by decide +kernel
theorem dX4_readNot_16 : decode cX4_readNot 16 = .ok (.aload_n 0, 1) := by decide +kernel
theorem dX4_readNot_17 : decode cX4_readNot 17 = .ok (.invokevirtual 39, 3) := by decide +kernel
theorem dX4_readNot_20 : decode cX4_readNot 20 = .ok (.aload_n 0, 1) := by decide +kernel
theorem dX4_readNot_21 : decode cX4_readNot 21 = .ok (.iload_n 1, 1) := by decide +kernel
theorem dX4_readNot_22 : decode cX4_readNot 22 = .ok (.iconst 1, 1) := by decide +kernel
theorem dX4_readNot_23 : decode cX4_readNot 23 = .ok (.iadd, 1) := by decide +kernel
theorem dX4_readNot_24 : decode cX4_readNot 24 = .ok (.invokevirtual 136, 3) := by decide +kernel
theorem dX4_readNot_27 : decode cX4_readNot 27 = .ok (.ifCond .eq 19, 3) := by decide +kernel
theorem dX4_readNot_30 : decode cX4_readNot 30 = .ok (.aload_n 0, 1) := by decide +kernel
theorem dX4_readNot_31 : decode cX4_readNot 31 = .ok (.getfield 21, 3) := by decide +kernel
theorem dX4_readNot_34 : decode cX4_readNot 34 = .ok (.bipush (-8), 2) := by decide +kernel
theorem dX4_readNot_36 : decode cX4_readNot 36 = .ok (.invokevirtual 133, 3) := by decide +kernel
theorem dX4_readNot_39 : decode cX4_readNot 39 = .ok (.ifCond .eq 7, 3) := by decide +kernel
theorem dX4_readNot_42 : decode cX4_readNot 42 = .ok (.iconst 1, 1) := by decide +kernel
theorem dX4_readNot_43 : decode cX4_readNot 43 = .ok (.goto 4, 3) := by decide +kernel
theorem dX4_readNot_46 : decode cX4_readNot 46 = .ok (.iconst 0, 1) := by decide +kernel
theorem dX4_readNot_47 : decode cX4_readNot 47 = .ok (.ireturn, 1) := by decide +kernel
theorem dX4_readNot_48 : decode cX4_readNot 48 = .ok (.aload_n 0, 1) := by decide +kernel
theorem dX4_readNot_49 : decode cX4_readNot 49 = .ok (.iload_n 1, 1) := by decide +kernel
theorem dX4_readNot_50 : decode cX4_readNot 50 = .ok (.invokevirtual 139, 3) := by decide +kernel
theorem dX4_readNot_53 : decode cX4_readNot 53 = .ok (.ifCond .ne 5, 3) := by decide +kernel
theorem dX4_readNot_56 : decode cX4_readNot 56 = .ok (.iconst 0, 1) := by decide +kernel
theorem dX4_readNot_57 : decode cX4_readNot 57 = .ok (.ireturn, 1) := by decide +kernel
theorem dX4_readNot_58 : decode cX4_readNot 58 = .ok (.aload_n 0, 1) := by decide +kernel
theorem dX4_readNot_59 : decode cX4_readNot 59 = .ok (.getfield 51, 3) := by decide +kernel
theorem dX4_readNot_62 : decode cX4_readNot 62 = .ok (.istore_n 2, 1) := by decide +kernel
theorem dX4_readNot_63 : decode cX4_readNot 63 = .ok (.iload_n 2, 1) := by decide +kernel
theorem dX4_readNot_64 : decode cX4_readNot 64 = .ok (.bipush (-60), 2) := by decide +kernel
theorem dX4_readNot_66 : decode cX4_readNot 66 = .ok (.if_icmp .eq 11, 3) := by decide +kernel
theorem dX4_readNot_69 : decode cX4_readNot 69 = .ok (.iload_n 2, 1) := by decide +kernel
theorem dX4_readNot_70 : decode cX4_readNot 70 = .ok (.bipush (-61), 2) := by decide +kernel
theorem dX4_readNot_72 : decode cX4_readNot 72 = .ok (.if_icmp .eq 5, 3) := by decide +kernel
theorem dX4_readNot_75 : decode cX4_readNot 75 = .ok (.iconst 1, 1) := by decide +kernel
theorem dX4_readNot_76 : decode cX4_readNot 76 = .ok (.ireturn, 1) := by decide +kernel
theorem dX4_readNot_77 : decode cX4_readNot 77 = .ok (.aload_n 0, 1) := by decide +kernel
theorem dX4_readNot_78 : decode cX4_readNot 78 = .ok (.invokevirtual 39, 3) := by decide +kernel
theorem dX4_readNot_81 : decode cX4_readNot 81 = .ok (.aload_n 0, 1) := by decide +kernel
theorem dX4_readNot_82 : decode cX4_readNot 82 = .ok (.iload_n 1, 1) := by decide +kernel
theorem dX4_readNot_83 : decode cX4_readNot 83 = .ok (.invokevirtual 139, 3) := by decide +kernel
theorem dX4_readNot_86 : decode cX4_readNot 86 = .ok (.ifCond .eq 18, 3) := by decide +kernel
theorem dX4_readNot_89 : decode cX4_readNot 89 = .ok (.aload_n 0, 1) := by decide +kernel
theorem dX4_readNot_90 : decode cX4_readNot 90 = .ok (.getfield 21, 3) := by decide +kernel
theorem dX4_readNot_93 : decode cX4_readNot 93 = .ok (.iload_n 2, 1) := by decide +kernel
theorem dX4_readNot_94 : decode cX4_readNot 94 = .ok (.invokevirtual 133, 3) := by decide +kernel
theorem dX4_readNot_97 : decode cX4_readNot 97 = .ok (.ifCond .eq 7, 3) := by decide +kernel
theorem dX4_readNot_100 : decode cX4_readNot 100 = .ok (.iconst 1, 1) := by decide +kernel
theorem dX4_readNot_101 : decode cX4_readNot 101 = .ok (.goto 4, 3) := by decide +kernel
theorem dX4_readNot_104 : decode cX4_readNot 104 = .ok (.iconst 0, 1) := by decide +kernel
theorem dX4_readNot_105 : decode cX4_readNot 105 = .ok (.ireturn, 1) := by decide +kernel
theorem dX4_readSum_0 : decode cX4_readSum 0 = .ok (.aload_n 0, 1) := by decide +kernel
theorem dX4_readSum_1 : decode cX4_readSum 1 = .ok (.iload_n 1, 1) := by decide +kernel
theorem dX4_readSum_2 : decode cX4_readSum 2 = .ok (.invokevirtual 142, 3) := by decide +kernel
theorem dX4_readSum_5 : decode cX4_readSum 5 = .ok (.istore_n 2, 1) := by decide +kernel
theorem dX4_readSum_6 : decode cX4_readSum 6 = .ok (.iconst 0, 1) := by decide +kernel
theorem dX4_readSum_7 : decode cX4_readSum 7 = .ok (.istore_n 3, 1) := by decide +kernel
theorem dX4_readSum_8 : decode cX4_readSum 8 = .ok (.iload_n 3, 1) := by decide +kernel
theorem dX4_readSum_9 : decode cX4_readSum 9 = .ok (.sipush 160, 3) := by decide +kernel
theorem dX4_readSum_12 : decode cX4_readSum 12 = .ok (.if_icmp .ge 67, 3) := by decide +kernel
theorem dX4_readSum_15 : decode cX4_readSum 15 = .ok (.iload_n 2, 1) := by decide +kernel
theorem dX4_readSum_16 : decode cX4_readSum 16 = .ok (.ifCond .eq 63, 3) := by decide +kernel
theorem dX4_readSum_19 : decode cX4_readSum 19 = .ok (.aload_n 0, 1) := by decide +kernel
theorem dX4_readSum_20 : decode cX4_readSum 20 = .ok (.getfield 51, 3) := by decide +kernel
theorem dX4_readSum_23 : decode cX4_readSum 23 = .ok (.bipush (-43), 2) := by decide +kernel
theorem dX4_readSum_25 : decode cX4_readSum 25 = .ok (.if_icmp .eq 12, 3) := by decide +kernel
theorem dX4_readSum_28 : decode cX4_readSum 28 = .ok (.aload_n 0, 1) := by decide +kernel
theorem dX4_readSum_29 : decode cX4_readSum 29 = .ok (.getfield 51, 3) := by decide +kernel
theorem dX4_readSum_32 : decode cX4_readSum 32 = .ok (.bipush (-45), 2) := by decide +kernel
theorem dX4_readSum_34 : decode cX4_readSum 34 = .ok (.if_icmp .ne 45, 3) := by decide +kernel
theorem dX4_readSum_37 : decode cX4_readSum 37 = .ok (.aload_n 0, 1) := by decide +kernel
theorem dX4_readSum_38 : decode cX4_readSum 38 = .ok (.getfield 51, 3) := by decide +kernel
theorem dX4_readSum_41 : decode cX4_readSum 41 = .ok (.istore 4, 2) := by decide +kernel
theorem dX4_readSum_43 : decode cX4_readSum 43 = .ok (.aload_n 0, 1) := by decide +kernel
theorem dX4_readSum_44 : decode cX4_readSum 44 = .ok (.invokevirtual 39, 3) := by decide +kernel
theorem dX4_readSum_47 : decode cX4_readSum 47 = .ok (.aload_n 0, 1) := by decide +kernel
theorem dX4_readSum_48 : decode cX4_readSum 48 = .ok (.iload_n 1, 1) := by decide +kernel
theorem dX4_readSum_49 : decode cX4_readSum 49 = .ok (.invokevirtual 142, 3) := by decide +kernel
theorem dX4_readSum_52 : decode cX4_readSum 52 = .ok (.ifCond .eq 19, 3) := by decide +kernel
theorem dX4_readSum_55 : decode cX4_readSum 55 = .ok (.aload_n 0, 1) := by decide +kernel
theorem dX4_readSum_56 : decode cX4_readSum 56 = .ok (.getfield 21, 3) := by decide +kernel
theorem dX4_readSum_59 : decode cX4_readSum 59 = .ok (.iload 4, 2) := by decide +kernel
theorem dX4_readSum_61 : decode cX4_readSum 61 = .ok (.invokevirtual 133, 3) := by decide +kernel
theorem dX4_readSum_64 : decode cX4_readSum 64 = .ok (.ifCond .eq 7, 3) := by decide +kernel
theorem dX4_readSum_67 : decode cX4_readSum 67 = .ok (.iconst 1, 1) := by decide +kernel
theorem dX4_readSum_68 : decode cX4_readSum 68 = .ok (.goto 4, 3) := by decide +kernel
theorem dX4_readSum_71 : decode cX4_readSum 71 = .ok (.iconst 0, 1) := by decide +kernel
theorem dX4_readSum_72 : decode cX4_readSum 72 = .ok (.istore_n 2, 1) := by decide +kernel
theorem dX4_readSum_73 : decode cX4_readSum 73 = .ok (.iinc 3 1, 3) := by decide +kernel
theorem dX4_readSum_76 : decode cX4_readSum 76 = .ok (.goto (-68), 3) := by decide +kernel
theorem dX4_readSum_79 : decode cX4_readSum 79 = .ok (.iload_n 2, 1) := by decide +kernel
theorem dX4_readSum_80 : decode cX4_readSum 80 = .ok (.ireturn, 1) := by decide +kernel
theorem dX4_readTerm_0 : decode cX4_readTerm 0 = .ok (.aload_n 0, 1) := by decide +kernel
theorem dX4_readTerm_1 : decode cX4_readTerm 1 = .ok (.iload_n 1, 1) := by decide +kernel
theorem dX4_readTerm_2 : decode cX4_readTerm 2 = .ok (.invokevirtual 145, 3) := by decide +kernel
theorem dX4_readTerm_5 : decode cX4_readTerm 5 = .ok (.istore_n 2, 1) := by decide +kernel
theorem dX4_readTerm_6 : decode cX4_readTerm 6 = .ok (.iconst 0, 1) := by decide +kernel
theorem dX4_readTerm_7 : decode cX4_readTerm 7 = .ok (.istore_n 3, 1) := by decide +kernel
theorem dX4_readTerm_8 : decode cX4_readTerm 8 = .ok (.iload_n 3, 1) := by decide +kernel
theorem dX4_readTerm_9 : decode cX4_readTerm 9 = .ok (.sipush 160, 3) := by decide +kernel
theorem dX4_readTerm_12 : decode cX4_readTerm 12 = .ok (.if_icmp .ge 48, 3) := by decide +kernel
theorem dX4_readTerm_15 : decode cX4_readTerm 15 = .ok (.iload_n 2, 1) := by decide +kernel
theorem dX4_readTerm_16 : decode cX4_readTerm 16 = .ok (.ifCond .eq 44, 3) := by decide +kernel
theorem dX4_readTerm_19 : decode cX4_readTerm 19 = .ok (.aload_n 0, 1) := by decide +kernel
theorem dX4_readTerm_20 : decode cX4_readTerm 20 = .ok (.bipush (-42), 2) := by decide +kernel
theorem dX4_readTerm_22 : decode cX4_readTerm 22 = .ok (.invokevirtual 120, 3) := by decide +kernel
theorem dX4_readTerm_25 : decode cX4_readTerm 25 = .ok (.ifCond .eq 35, 3) := by decide +kernel
theorem dX4_readTerm_28 : decode cX4_readTerm 28 = .ok (.aload_n 0, 1) := by decide +kernel
theorem dX4_readTerm_29 : decode cX4_readTerm 29 = .ok (.iload_n 1, 1) := by decide +kernel
theorem dX4_readTerm_30 : decode cX4_readTerm 30 = .ok (.invokevirtual 145, 3) := by decide +kernel
theorem dX4_readTerm_33 : decode cX4_readTerm 33 = .ok (.ifCond .eq 19, 3) := by decide +kernel
theorem dX4_readTerm_36 : decode cX4_readTerm 36 = .ok (.aload_n 0, 1) := by decide +kernel
theorem dX4_readTerm_37 : decode cX4_readTerm 37 = .ok (.getfield 21, 3) := by decide +kernel
theorem dX4_readTerm_40 : decode cX4_readTerm 40 = .ok (.bipush (-42), 2) := by decide +kernel
theorem dX4_readTerm_42 : decode cX4_readTerm 42 = .ok (.invokevirtual 133, 3) := by decide +kernel
theorem dX4_readTerm_45 : decode cX4_readTerm 45 = .ok (.ifCond .eq 7, 3) := by decide +kernel
theorem dX4_readTerm_48 : decode cX4_readTerm 48 = .ok (.iconst 1, 1) := by decide +kernel
theorem dX4_readTerm_49 : decode cX4_readTerm 49 = .ok (.goto 4, 3) := by decide +kernel
theorem dX4_readTerm_52 : decode cX4_readTerm 52 = .ok (.iconst 0, 1) := by decide +kernel
theorem dX4_readTerm_53 : decode cX4_readTerm 53 = .ok (.istore_n 2, 1) := by decide +kernel
theorem dX4_readTerm_54 : decode cX4_readTerm 54 = .ok (.iinc 3 1, 3) := by decide +kernel
theorem dX4_readTerm_57 : decode cX4_readTerm 57 = .ok (.goto (-49), 3) := by decide +kernel
theorem dX4_readTerm_60 : decode cX4_readTerm 60 = .ok (.iload_n 2, 1) := by decide +kernel
theorem dX4_readTerm_61 : decode cX4_readTerm 61 = .ok (.ireturn, 1) := by decide +kernel
theorem dX4_readOne_0 : decode cX4_readOne 0 = .ok (.aload_n 0, 1) := by decide +kernel
theorem dX4_readOne_1 : decode cX4_readOne 1 = .ok (.getfield 51, 3) := by decide +kernel
theorem dX4_readOne_4 : decode cX4_readOne 4 = .ok (.istore_n 2, 1) := by decide +kernel
theorem dX4_readOne_5 : decode cX4_readOne 5 = .ok (.iload_n 2, 1) := by decide +kernel
theorem dX4_readOne_6 : decode cX4_readOne 6 = .ok (.ifCond .ge 10, 3) := by decide +kernel
theorem dX4_readOne_9 : decode cX4_readOne 9 = .ok (.iload_n 2, 1) := by decide +kernel
theorem dX4_readOne_10 : decode cX4_readOne 10 = .ok (.invokestatic 148, 3) := by decide +kernel
theorem dX4_readOne_13 : decode cX4_readOne 13 = .ok (.ifCond .eq 16, 3) := by decide +kernel
theorem dX4_readOne_16 : decode cX4_readOne 16 = .ok (.aload_n 0, 1) := by decide +kernel
theorem dX4_readOne_17 : decode cX4_readOne 17 = .ok (.invokevirtual 39, 3) := by decide +kernel
theorem dX4_readOne_20 : decode cX4_readOne 20 = .ok (.aload_n 0, 1) := by decide +kernel
theorem dX4_readOne_21 : decode cX4_readOne 21 = .ok (.getfield 21, 3) := by decide +kernel
theorem dX4_readOne_24 : decode cX4_readOne 24 = .ok (.iload_n 2, 1) := by decide +kernel
theorem dX4_readOne_25 : decode cX4_readOne 25 = .ok (.invokevirtual 133, 3) := by decide +kernel
theorem dX4_readOne_28 : decode cX4_readOne 28 = .ok (.ireturn, 1) := by decide +kernel
theorem dX4_readOne_29 : decode cX4_readOne 29 = .ok (.iload_n 1, 1) := by decide +kernel
theorem dX4_readOne_30 : decode cX4_readOne 30 = .ok (.iconst 5, 1) := by decide +kernel
theorem dX4_readOne_31 : decode cX4_readOne 31 = .ok (.if_icmp .lt 5, 3) := by decide +kernel
theorem dX4_readOne_34 : decode cX4_readOne 34 = .ok (.iconst 0, 1) := by decide +kernel
theorem dX4_readOne_35 : decode cX4_readOne 35 = .ok (.ireturn, 1) := by decide +kernel
theorem dX4_readOne_36 : decode cX4_readOne 36 = .ok (.aload_n 0, 1) := by decide +kernel
theorem dX4_readOne_37 : decode cX4_readOne 37 = .ok (.bipush (-45), 2) := by decide +kernel
theorem dX4_readOne_39 : decode cX4_readOne 39 = .ok (.invokevirtual 120, 3) := by decide +kernel
theorem dX4_readOne_42 : decode cX4_readOne 42 = .ok (.ifCond .eq 31, 3) := by decide +kernel
theorem dX4_readOne_45 : decode cX4_readOne 45 = .ok (.aload_n 0, 1) := by decide +kernel
theorem dX4_readOne_46 : decode cX4_readOne 46 = .ok (.iload_n 1, 1) := by decide +kernel
theorem dX4_readOne_47 : decode cX4_readOne 47 = .ok (.iconst 1, 1) := by decide +kernel
theorem dX4_readOne_48 : decode cX4_readOne 48 = .ok (.iadd, 1) := by decide +kernel
theorem dX4_readOne_49 : decode cX4_readOne 49 = .ok (.invokevirtual 145, 3) := by decide +kernel
theorem dX4_readOne_52 : decode cX4_readOne 52 = .ok (.ifCond .eq 19, 3) := by decide +kernel
theorem dX4_readOne_55 : decode cX4_readOne 55 = .ok (.aload_n 0, 1) := by decide +kernel
theorem dX4_readOne_56 : decode cX4_readOne 56 = .ok (.getfield 21, 3) := by decide +kernel
theorem dX4_readOne_59 : decode cX4_readOne 59 = .ok (.bipush (-9), 2) := by decide +kernel
theorem dX4_readOne_61 : decode cX4_readOne 61 = .ok (.invokevirtual 133, 3) := by decide +kernel
theorem dX4_readOne_64 : decode cX4_readOne 64 = .ok (.ifCond .eq 7, 3) := by decide +kernel
theorem dX4_readOne_67 : decode cX4_readOne 67 = .ok (.iconst 1, 1) := by decide +kernel
theorem dX4_readOne_68 : decode cX4_readOne 68 = .ok (.goto 4, 3) := by decide +kernel
theorem dX4_readOne_71 : decode cX4_readOne 71 = .ok (.iconst 0, 1) := by decide +kernel
theorem dX4_readOne_72 : decode cX4_readOne 72 = .ok (.ireturn, 1) := by decide +kernel
theorem dX4_readOne_73 : decode cX4_readOne 73 = .ok (.aload_n 0, 1) := by decide +kernel
theorem dX4_readOne_74 : decode cX4_readOne 74 = .ok (.bipush (-40), 2) := by decide +kernel
theorem dX4_readOne_76 : decode cX4_readOne 76 = .ok (.invokevirtual 120, 3) := by decide +kernel
theorem dX4_readOne_79 : decode cX4_readOne 79 = .ok (.ifCond .eq 26, 3) := by decide +kernel
theorem dX4_readOne_82 : decode cX4_readOne 82 = .ok (.aload_n 0, 1) := by decide +kernel
theorem dX4_readOne_83 : decode cX4_readOne 83 = .ok (.iload_n 1, 1) := by decide +kernel
theorem dX4_readOne_84 : decode cX4_readOne 84 = .ok (.iconst 1, 1) := by decide +kernel
theorem dX4_readOne_85 : decode cX4_readOne 85 = .ok (.iadd, 1) := by decide +kernel
theorem dX4_readOne_86 : decode cX4_readOne 86 = .ok (.invokevirtual 123, 3) := by decide +kernel
theorem dX4_readOne_89 : decode cX4_readOne 89 = .ok (.ifCond .eq 16, 3) := by decide +kernel
theorem dX4_readOne_92 : decode cX4_readOne 92 = .ok (.aload_n 0, 1) := by decide +kernel
theorem dX4_readOne_93 : decode cX4_readOne 93 = .ok (.bipush (-41), 2) := by decide +kernel
theorem dX4_readOne_95 : decode cX4_readOne 95 = .ok (.invokevirtual 120, 3) := by decide +kernel
theorem dX4_readOne_98 : decode cX4_readOne 98 = .ok (.ifCond .eq 7, 3) := by decide +kernel
theorem dX4_readOne_101 : decode cX4_readOne 101 = .ok (.iconst 1, 1) := by decide +kernel
theorem dX4_readOne_102 : decode cX4_readOne 102 = .ok (.goto 4, 3) := by decide +kernel
theorem dX4_readOne_105 : decode cX4_readOne 105 = .ok (.iconst 0, 1) := by decide +kernel
theorem dX4_readOne_106 : decode cX4_readOne 106 = .ok (.ireturn, 1) := by decide +kernel
theorem dX5_init_0 : decode cX5_init 0 = .ok (.aload_n 0, 1) := by decide +kernel
theorem dX5_init_1 : decode cX5_init 1 = .ok (.invokespecial 3, 3) := by decide +kernel
theorem dX5_init_4 : decode cX5_init 4 = .ok (.aload_n 0, 1) := by decide +kernel
theorem dX5_init_5 : decode cX5_init 5 = .ok (.sipush 160, 3) := by decide +kernel
theorem dX5_init_8 : decode cX5_init 8 = .ok (.newarray .int, 2) := by decide +kernel
theorem dX5_init_10 : decode cX5_init 10 = .ok (.putfield 9, 3) := by decide +kernel
theorem dX5_init_13 : decode cX5_init 13 = .ok (.aload_n 0, 1) := by decide +kernel
theorem dX5_init_14 : decode cX5_init 14 = .ok (.iconst 4, 1) := by decide +kernel
theorem dX5_init_15 : decode cX5_init 15 = .ok (.newarray .int, 2) := by decide +kernel
theorem dX5_init_17 : decode cX5_init 17 = .ok (.dup, 1) := by decide +kernel
theorem dX5_init_18 : decode cX5_init 18 = .ok (.iconst 0, 1) := by decide +kernel
theorem dX5_init_19 : decode cX5_init 19 = .ok (.iconst (-1), 1) := by decide +kernel
theorem dX5_init_20 : decode cX5_init 20 = .ok (.iastore, 1) := by decide +kernel
theorem dX5_init_21 : decode cX5_init 21 = .ok (.dup, 1) := by decide +kernel
theorem dX5_init_22 : decode cX5_init 22 = .ok (.iconst 1, 1) := by decide +kernel
theorem dX5_init_23 : decode cX5_init 23 = .ok (.iconst (-1), 1) := by decide +kernel
theorem dX5_init_24 : decode cX5_init 24 = .ok (.iastore, 1) := by decide +kernel
theorem dX5_init_25 : decode cX5_init 25 = .ok (.dup, 1) := by decide +kernel
theorem dX5_init_26 : decode cX5_init 26 = .ok (.iconst 2, 1) := by decide +kernel
theorem dX5_init_27 : decode cX5_init 27 = .ok (.iconst (-1), 1) := by decide +kernel
theorem dX5_init_28 : decode cX5_init 28 = .ok (.iastore, 1) := by decide +kernel
theorem dX5_init_29 : decode cX5_init 29 = .ok (.dup, 1) := by decide +kernel
theorem dX5_init_30 : decode cX5_init 30 = .ok (.iconst 3, 1) := by decide +kernel
theorem dX5_init_31 : decode cX5_init 31 = .ok (.iconst (-1), 1) := by decide +kernel
theorem dX5_init_32 : decode cX5_init 32 = .ok (.iastore, 1) := by decide +kernel
theorem dX5_init_33 : decode cX5_init 33 = .ok (.putfield 15, 3) := by decide +kernel
theorem dX5_init_36 : decode cX5_init 36 = .ok (.aload_n 0, 1) := by decide +kernel
theorem dX5_init_37 : decode cX5_init 37 = .ok (.iconst 4, 1) := by decide +kernel
theorem dX5_init_38 : decode cX5_init 38 = .ok (.newarray .int, 2) := by decide +kernel
theorem dX5_init_40 : decode cX5_init 40 = .ok (.putfield 18, 3) := by decide +kernel
theorem dX5_init_43 : decode cX5_init 43 = .ok (.return_, 1) := by decide +kernel
theorem dX5_sort_0 : decode cX5_sort 0 = .ok (.aload_n 0, 1) := by decide +kernel
theorem dX5_sort_1 : decode cX5_sort 1 = .ok (.getfield 15, 3) := by decide +kernel
theorem dX5_sort_4 : decode cX5_sort 4 = .ok (.iload_n 1, 1) := by decide +kernel
theorem dX5_sort_5 : decode cX5_sort 5 = .ok (.invokestatic 21, 3) := by decide +kernel
theorem dX5_sort_8 : decode cX5_sort 8 = .ok (.ireturn, 1) := by decide +kernel
theorem dX5_isMissing_0 : decode cX5_isMissing 0 = .ok (.aload_n 0, 1) := by decide +kernel
theorem dX5_isMissing_1 : decode cX5_isMissing 1 = .ok (.getfield 15, 3) := by decide +kernel
theorem dX5_isMissing_4 : decode cX5_isMissing 4 = .ok (.iload_n 1, 1) := by decide +kernel
theorem dX5_isMissing_5 : decode cX5_isMissing 5 = .ok (.invokestatic 21, 3) := by decide +kernel
theorem dX5_isMissing_8 : decode cX5_isMissing 8 = .ok (.iconst (-1), 1) := by decide +kernel
theorem dX5_isMissing_9 : decode cX5_isMissing 9 = .ok (.if_icmp .ne 7, 3) := by decide +kernel
theorem dX5_isMissing_12 : decode cX5_isMissing 12 = .ok (.iconst 1, 1) := by decide +kernel
theorem dX5_isMissing_13 : decode cX5_isMissing 13 = .ok (.goto 4, 3) := by decide +kernel
theorem dX5_isMissing_16 : decode cX5_isMissing 16 = .ok (.iconst 0, 1) := by decide +kernel
theorem dX5_isMissing_17 : decode cX5_isMissing 17 = .ok (.ireturn, 1) := by decide +kernel
theorem dX5_size_0 : decode cX5_size 0 = .ok (.aload_n 0, 1) := by decide +kernel
theorem dX5_size_1 : decode cX5_size 1 = .ok (.getfield 18, 3) := by decide +kernel
theorem dX5_size_4 : decode cX5_size 4 = .ok (.iload_n 1, 1) := by decide +kernel
theorem dX5_size_5 : decode cX5_size 5 = .ok (.invokestatic 21, 3) := by decide +kernel
theorem dX5_size_8 : decode cX5_size 8 = .ok (.ireturn, 1) := by decide +kernel
theorem dX5_lay_0 : decode cX5_lay 0 = .ok (.aload_n 0, 1) := by decide +kernel
theorem dX5_lay_1 : decode cX5_lay 1 = .ok (.getfield 15, 3) := by decide +kernel
theorem dX5_lay_4 : decode cX5_lay 4 = .ok (.iload_n 1, 1) := by decide +kernel
theorem dX5_lay_5 : decode cX5_lay 5 = .ok (.iload_n 2, 1) := by decide +kernel
theorem dX5_lay_6 : decode cX5_lay 6 = .ok (.invokestatic 25, 3) := by decide +kernel
theorem dX5_lay_9 : decode cX5_lay 9 = .ok (.aload_n 0, 1) := by decide +kernel
theorem dX5_lay_10 : decode cX5_lay 10 = .ok (.getfield 18, 3) := by decide +kernel
theorem dX5_lay_13 : decode cX5_lay 13 = .ok (.iload_n 1, 1) := by decide +kernel
theorem dX5_lay_14 : decode cX5_lay 14 = .ok (.iload_n 3, 1) := by decide +kernel
theorem dX5_lay_15 : decode cX5_lay 15 = .ok (.invokestatic 25, 3) := by decide +kernel
theorem dX5_lay_18 : decode cX5_lay 18 = .ok (.iconst 0, 1) := by decide +kernel
theorem dX5_lay_19 : decode cX5_lay 19 = .ok (.istore 4, 2) := by decide +kernel
theorem dX5_lay_21 : decode cX5_lay 21 = .ok (.iload 4, 2) := by decide +kernel
theorem dX5_lay_23 : decode cX5_lay 23 = .ok (.iload_n 3, 1) := by decide +kernel
theorem dX5_lay_24 : decode cX5_lay 24 = .ok (.if_icmp .ge 24, 3) := by decide +kernel
theorem dX5_lay_27 : decode cX5_lay 27 = .ok (.aload_n 0, 1) := by decide +kernel
theorem dX5_lay_28 : decode cX5_lay 28 = .ok (.getfield 9, 3) := by decide +kernel
theorem dX5_lay_31 : decode cX5_lay 31 = .ok (.iload_n 1, 1) := by decide +kernel
theorem dX5_lay_32 : decode cX5_lay 32 = .ok (.bipush 40, 2) := by decide +kernel
theorem dX5_lay_34 : decode cX5_lay 34 = .ok (.imul, 1) := by decide +kernel
theorem dX5_lay_35 : decode cX5_lay 35 = .ok (.iload 4, 2) := by decide +kernel
theorem dX5_lay_37 : decode cX5_lay 37 = .ok (.iadd, 1) := by decide +kernel
theorem dX5_lay_38 : decode cX5_lay 38 = .ok (.iconst 0, 1) := by decide +kernel
theorem dX5_lay_39 : decode cX5_lay 39 = .ok (.invokestatic 25, 3) := by decide +kernel
theorem dX5_lay_42 : decode cX5_lay 42 = .ok (.iinc 4 1, 3) := by decide +kernel
theorem dX5_lay_45 : decode cX5_lay 45 = .ok (.goto (-24), 3) := by decide +kernel
theorem dX5_lay_48 : decode cX5_lay 48 = .ok (.return_, 1) := by decide +kernel
theorem dX5_read_0 : decode cX5_read 0 = .ok (.aload_n 0, 1) := by decide +kernel
theorem dX5_read_1 : decode cX5_read 1 = .ok (.getfield 9, 3) := by decide +kernel
theorem dX5_read_4 : decode cX5_read 4 = .ok (.iload_n 1, 1) := by decide +kernel
theorem dX5_read_5 : decode cX5_read 5 = .ok (.bipush 40, 2) := by decide +kernel
theorem dX5_read_7 : decode cX5_read 7 = .ok (.imul, 1) := by decide +kernel
theorem dX5_read_8 : decode cX5_read 8 = .ok (.iload_n 2, 1) := by decide +kernel
theorem dX5_read_9 : decode cX5_read 9 = .ok (.iadd, 1) := by decide +kernel
theorem dX5_read_10 : decode cX5_read 10 = .ok (.invokestatic 21, 3) := by decide +kernel
theorem dX5_read_13 : decode cX5_read 13 = .ok (.ireturn, 1) := by decide +kernel
theorem dX5_write_0 : decode cX5_write 0 = .ok (.aload_n 0, 1) := by decide +kernel
theorem dX5_write_1 : decode cX5_write 1 = .ok (.getfield 15, 3) := by decide +kernel
theorem dX5_write_4 : decode cX5_write 4 = .ok (.iload_n 1, 1) := by decide +kernel
theorem dX5_write_5 : decode cX5_write 5 = .ok (.invokestatic 21, 3) := by decide +kernel
theorem dX5_write_8 : decode cX5_write 8 = .ok (.istore 4, 2) := by decide +kernel
theorem dX5_write_10 : decode cX5_write 10 = .ok (.aload_n 0, 1) := by decide +kernel
theorem dX5_write_11 : decode cX5_write 11 = .ok (.getfield 9, 3) := by decide +kernel
theorem dX5_write_14 : decode cX5_write 14 = .ok (.iload_n 1, 1) := by decide +kernel
theorem dX5_write_15 : decode cX5_write 15 = .ok (.bipush 40, 2) := by decide +kernel
theorem dX5_write_17 : decode cX5_write 17 = .ok (.imul, 1) := by decide +kernel
theorem dX5_write_18 : decode cX5_write 18 = .ok (.iload_n 2, 1) := by decide +kernel
theorem dX5_write_19 : decode cX5_write 19 = .ok (.iadd, 1) := by decide +kernel
theorem dX5_write_20 : decode cX5_write 20 = .ok (.iload 4, 2) := by decide +kernel
theorem dX5_write_22 : decode cX5_write 22 = .ok (.ifCond .ne 8, 3) := by decide +kernel
theorem dX5_write_25 : decode cX5_write 25 = .ok (.iload_n 3, 1) := by decide +kernel
theorem dX5_write_26 : decode cX5_write 26 = .ok (.i2b, 1) := by decide +kernel
theorem dX5_write_27 : decode cX5_write 27 = .ok (.goto 15, 3) := by decide +kernel
theorem dX5_write_30 : decode cX5_write 30 = .ok (.iload 4, 2) := by decide +kernel
theorem dX5_write_32 : decode cX5_write 32 = .ok (.iconst 1, 1) := by decide +kernel
theorem dX5_write_33 : decode cX5_write 33 = .ok (.if_icmp .ne 8, 3) := by decide +kernel
theorem dX5_write_36 : decode cX5_write 36 = .ok (.iload_n 3, 1) := by decide +kernel
theorem dX5_write_37 : decode cX5_write 37 = .ok (.i2s, 1) := by decide +kernel
theorem dX5_write_38 : decode cX5_write 38 = .ok (.goto 4, 3) := by decide +kernel
theorem dX5_write_41 : decode cX5_write 41 = .ok (.iload_n 3, 1) := by decide +kernel
theorem dX5_write_42 : decode cX5_write 42 = .ok (.invokestatic 25, 3) := by decide +kernel
theorem dX5_write_45 : decode cX5_write 45 = .ok (.return_, 1) := by decide +kernel
theorem dX5_has_0 : decode cX5_has 0 = .ok (.iload_n 2, 1) := by decide +kernel
theorem dX5_has_1 : decode cX5_has 1 = .ok (.ifCond .lt 31, 3) := by decide +kernel
theorem dX5_has_4 : decode cX5_has 4 = .ok (.iload_n 3, 1) := by decide +kernel
theorem dX5_has_5 : decode cX5_has 5 = .ok (.ifCond .lt 27, 3) := by decide +kernel
theorem dX5_has_8 : decode cX5_has 8 = .ok (.iload_n 3, 1) := by decide +kernel
theorem dX5_has_9 : decode cX5_has 9 = .ok (.aload_n 0, 1) := by decide +kernel
theorem dX5_has_10 : decode cX5_has 10 = .ok (.iload_n 1, 1) := by decide +kernel
theorem dX5_has_11 : decode cX5_has 11 = .ok (.invokevirtual 29, 3) := by decide +kernel
theorem dX5_has_14 : decode cX5_has 14 = .ok (.if_icmp .gt 18, 3) := by decide +kernel
theorem dX5_has_17 : decode cX5_has 17 = .ok (.iload_n 2, 1) := by decide +kernel
theorem dX5_has_18 : decode cX5_has 18 = .ok (.aload_n 0, 1) := by decide +kernel
theorem dX5_has_19 : decode cX5_has 19 = .ok (.iload_n 1, 1) := by decide +kernel
theorem dX5_has_20 : decode cX5_has 20 = .ok (.invokevirtual 29, 3) := by decide +kernel
theorem dX5_has_23 : decode cX5_has 23 = .ok (.iload_n 3, 1) := by decide +kernel
theorem dX5_has_24 : decode cX5_has 24 = .ok (.isub, 1) := by decide +kernel
theorem dX5_has_25 : decode cX5_has 25 = .ok (.if_icmp .gt 7, 3) := by decide +kernel
theorem dX5_has_28 : decode cX5_has 28 = .ok (.iconst 1, 1) := by decide +kernel
theorem dX5_has_29 : decode cX5_has 29 = .ok (.goto 4, 3) := by decide +kernel
theorem dX5_has_32 : decode cX5_has 32 = .ok (.iconst 0, 1) := by decide +kernel
theorem dX5_has_33 : decode cX5_has 33 = .ok (.ireturn, 1) := by decide +kernel
theorem dX5_move_0 : decode cX5_move 0 = .ok (.iload_n 1, 1) := by decide +kernel
theorem dX5_move_1 : decode cX5_move 1 = .ok (.bipush 40, 2) := by decide +kernel
theorem dX5_move_3 : decode cX5_move 3 = .ok (.imul, 1) := by decide +kernel
theorem dX5_move_4 : decode cX5_move 4 = .ok (.iload_n 2, 1) := by decide +kernel
theorem dX5_move_5 : decode cX5_move 5 = .ok (.iadd, 1) := by decide +kernel
theorem dX5_move_6 : decode cX5_move 6 = .ok (.istore 6, 2) := by decide +kernel
theorem dX5_move_8 : decode cX5_move 8 = .ok (.iload_n 3, 1) := by decide +kernel
theorem dX5_move_9 : decode cX5_move 9 = .ok (.bipush 40, 2) := by decide +kernel
theorem dX5_move_11 : decode cX5_move 11 = .ok (.imul, 1) := by decide +kernel
theorem dX5_move_12 : decode cX5_move 12 = .ok (.iload 4, 2) := by decide +kernel
theorem dX5_move_14 : decode cX5_move 14 = .ok (.iadd, 1) := by decide +kernel
theorem dX5_move_15 : decode cX5_move 15 = .ok (.istore 7, 2) := by decide +kernel
theorem dX5_move_17 : decode cX5_move 17 = .ok (.iload 6, 2) := by decide +kernel
theorem dX5_move_19 : decode cX5_move 19 = .ok (.ifCond .lt 39, 3) := by decide +kernel
theorem dX5_move_22 : decode cX5_move 22 = .ok (.iload 7, 2) := by decide +kernel
theorem dX5_move_24 : decode cX5_move 24 = .ok (.ifCond .lt 34, 3) := by decide +kernel
theorem dX5_move_27 : decode cX5_move 27 = .ok (.iload 5, 2) := by decide +kernel
theorem dX5_move_29 : decode cX5_move 29 = .ok (.ifCond .lt 29, 3) := by decide +kernel
theorem dX5_move_32 : decode cX5_move 32 = .ok (.iload 5, 2) := by decide +kernel
theorem dX5_move_34 : decode cX5_move 34 = .ok (.aload_n 0, 1) := by decide +kernel
theorem dX5_move_35 : decode cX5_move 35 = .ok (.getfield 9, 3) := by decide +kernel
theorem dX5_move_38 : decode cX5_move 38 = .ok (.arraylength, 1) := by decide +kernel
theorem dX5_move_39 : decode cX5_move 39 = .ok (.iload 6, 2) := by decide +kernel
theorem dX5_move_41 : decode cX5_move 41 = .ok (.isub, 1) := by decide +kernel
theorem dX5_move_42 : decode cX5_move 42 = .ok (.if_icmp .gt 16, 3) := by decide +kernel
theorem dX5_move_45 : decode cX5_move 45 = .ok (.iload 5, 2) := by decide +kernel
theorem dX5_move_47 : decode cX5_move 47 = .ok (.aload_n 0, 1) := by decide +kernel
theorem dX5_move_48 : decode cX5_move 48 = .ok (.getfield 9, 3) := by decide +kernel
theorem dX5_move_51 : decode cX5_move 51 = .ok (.arraylength, 1) := by decide +kernel
theorem dX5_move_52 : decode cX5_move 52 = .ok (.iload 7, 2) := by decide +kernel
theorem dX5_move_54 : decode cX5_move 54 = .ok (.isub, 1) := by decide +kernel
theorem dX5_move_55 : decode cX5_move 55 = .ok (.if_icmp .le 4, 3) := by decide +kernel
theorem dX5_move_58 : decode cX5_move 58 = .ok (.return_, 1) := by decide +kernel
theorem dX5_move_59 : decode cX5_move 59 = .ok (.aload_n 0, 1) := by decide +kernel
theorem dX5_move_60 : decode cX5_move 60 = .ok (.getfield 9, 3) := by decide +kernel
theorem dX5_move_63 : decode cX5_move 63 = .ok (.iload 6, 2) := by decide +kernel
theorem dX5_move_65 : decode cX5_move 65 = .ok (.aload_n 0, 1) := by decide +kernel
theorem dX5_move_66 : decode cX5_move 66 = .ok (.getfield 9, 3) := by decide +kernel
theorem dX5_move_69 : decode cX5_move 69 = .ok (.iload 7, 2) := by decide +kernel
theorem dX5_move_71 : decode cX5_move 71 = .ok (.iload 5, 2) := by decide +kernel
theorem dX5_move_73 : decode cX5_move 73 = .ok (.invokestatic 33, 3) := by decide +kernel
theorem dX5_move_76 : decode cX5_move 76 = .ok (.return_, 1) := by decide +kernel
theorem dX5_tellsTour_0 : decode cX5_tellsTour 0 = .ok (.iconst 0, 1) := by decide +kernel
theorem dX5_tellsTour_1 : decode cX5_tellsTour 1 = .ok (.istore_n 2, 1) := by decide +kernel
theorem dX5_tellsTour_2 : decode cX5_tellsTour 2 = .ok (.iconst 0, 1) := by decide +kernel
theorem dX5_tellsTour_3 : decode cX5_tellsTour 3 = .ok (.istore_n 3, 1) := by decide +kernel
theorem dX5_tellsTour_4 : decode cX5_tellsTour 4 = .ok (.iload_n 3, 1) := by decide +kernel
theorem dX5_tellsTour_5 : decode cX5_tellsTour 5 = .ok (.aload_n 0, 1) := by decide +kernel
theorem dX5_tellsTour_6 : decode cX5_tellsTour 6 = .ok (.iload_n 1, 1) := by decide +kernel
theorem dX5_tellsTour_7 : decode cX5_tellsTour 7 = .ok (.invokevirtual 29, 3) := by decide +kernel
theorem dX5_tellsTour_10 : decode cX5_tellsTour 10 = .ok (.if_icmp .ge 45, 3) := by decide +kernel
theorem dX5_tellsTour_13 : decode cX5_tellsTour 13 = .ok (.aload_n 0, 1) := by decide +kernel
theorem dX5_tellsTour_14 : decode cX5_tellsTour 14 = .ok (.iload_n 1, 1) := by decide +kernel
theorem dX5_tellsTour_15 : decode cX5_tellsTour 15 = .ok (.iload_n 3, 1) := by decide +kernel
theorem dX5_tellsTour_16 : decode cX5_tellsTour 16 = .ok (.invokevirtual 39, 3) := by decide +kernel
theorem dX5_tellsTour_19 : decode cX5_tellsTour 19 = .ok (.istore 4, 2) := by decide +kernel
theorem dX5_tellsTour_21 : decode cX5_tellsTour 21 = .ok (.iload 4, 2) := by decide +kernel
theorem dX5_tellsTour_23 : decode cX5_tellsTour 23 = .ok (.bipush 6, 2) := by decide +kernel
theorem dX5_tellsTour_25 : decode cX5_tellsTour 25 = .ok (.invokestatic 43, 3) := by decide +kernel
theorem dX5_tellsTour_28 : decode cX5_tellsTour 28 = .ok (.ifCond .eq 12, 3) := by decide +kernel
theorem dX5_tellsTour_31 : decode cX5_tellsTour 31 = .ok (.iload_n 2, 1) := by decide +kernel
theorem dX5_tellsTour_32 : decode cX5_tellsTour 32 = .ok (.iload 4, 2) := by decide +kernel
theorem dX5_tellsTour_34 : decode cX5_tellsTour 34 = .ok (.ishr, 1) := by decide +kernel
theorem dX5_tellsTour_35 : decode cX5_tellsTour 35 = .ok (.iconst 1, 1) := by decide +kernel
theorem dX5_tellsTour_36 : decode cX5_tellsTour 36 = .ok (.iand, 1) := by decide +kernel
theorem dX5_tellsTour_37 : decode cX5_tellsTour 37 = .ok (.ifCond .eq 5, 3) := by decide +kernel
theorem dX5_tellsTour_40 : decode cX5_tellsTour 40 = .ok (.iconst 0, 1) := by decide +kernel
theorem dX5_tellsTour_41 : decode cX5_tellsTour 41 = .ok (.ireturn, 1) := by decide +kernel
theorem dX5_tellsTour_42 : decode cX5_tellsTour 42 = .ok (.iload_n 2, 1) := by decide +kernel
theorem dX5_tellsTour_43 : decode cX5_tellsTour 43 = .ok (.iconst 1, 1) := by decide +kernel
theorem dX5_tellsTour_44 : decode cX5_tellsTour 44 = .ok (.iload 4, 2) := by decide +kernel
theorem dX5_tellsTour_46 : decode cX5_tellsTour 46 = .ok (.ishl, 1) := by decide +kernel
theorem dX5_tellsTour_47 : decode cX5_tellsTour 47 = .ok (.ior, 1) := by decide +kernel
theorem dX5_tellsTour_48 : decode cX5_tellsTour 48 = .ok (.istore_n 2, 1) := by decide +kernel
theorem dX5_tellsTour_49 : decode cX5_tellsTour 49 = .ok (.iinc 3 1, 3) := by decide +kernel
theorem dX5_tellsTour_52 : decode cX5_tellsTour 52 = .ok (.goto (-48), 3) := by decide +kernel
theorem dX5_tellsTour_55 : decode cX5_tellsTour 55 = .ok (.iconst 1, 1) := by decide +kernel
theorem dX5_tellsTour_56 : decode cX5_tellsTour 56 = .ok (.ireturn, 1) := by decide +kernel
theorem dX6_init_0 : decode cX6_init 0 = .ok (.aload_n 0, 1) := by decide +kernel
theorem dX6_init_1 : decode cX6_init 1 = .ok (.invokespecial 3, 3) := by decide +kernel
theorem dX6_init_4 : decode cX6_init 4 = .ok (.aload_n 0, 1) := by decide +kernel
theorem dX6_init_5 : decode cX6_init 5 = .ok (.bipush 6, 2) := by decide +kernel
theorem dX6_init_7 : decode cX6_init 7 = .ok (.newarray .int, 2) := by decide +kernel
theorem dX6_init_9 : decode cX6_init 9 = .ok (.putfield 9, 3) := by decide +kernel
theorem dX6_init_12 : decode cX6_init 12 = .ok (.aload_n 0, 1) := by decide +kernel
theorem dX6_init_13 : decode cX6_init 13 = .ok (.bipush 6, 2) := by decide +kernel
theorem dX6_init_15 : decode cX6_init 15 = .ok (.newarray .int, 2) := by decide +kernel
theorem dX6_init_17 : decode cX6_init 17 = .ok (.putfield 15, 3) := by decide +kernel
theorem dX6_init_20 : decode cX6_init 20 = .ok (.aload_n 0, 1) := by decide +kernel
theorem dX6_init_21 : decode cX6_init 21 = .ok (.bipush 8, 2) := by decide +kernel
theorem dX6_init_23 : decode cX6_init 23 = .ok (.newarray .int, 2) := by decide +kernel
theorem dX6_init_25 : decode cX6_init 25 = .ok (.putfield 18, 3) := by decide +kernel
theorem dX6_init_28 : decode cX6_init 28 = .ok (.aload_n 0, 1) := by decide +kernel
theorem dX6_init_29 : decode cX6_init 29 = .ok (.bipush 8, 2) := by decide +kernel
theorem dX6_init_31 : decode cX6_init 31 = .ok (.newarray .int, 2) := by decide +kernel
theorem dX6_init_33 : decode cX6_init 33 = .ok (.putfield 21, 3) := by decide +kernel
theorem dX6_init_36 : decode cX6_init 36 = .ok (.aload_n 0, 1) := by decide +kernel
theorem dX6_init_37 : decode cX6_init 37 = .ok (.bipush 6, 2) := by decide +kernel
theorem dX6_init_39 : decode cX6_init 39 = .ok (.putfield 24, 3) := by decide +kernel
theorem dX6_init_42 : decode cX6_init 42 = .ok (.return_, 1) := by decide +kernel
theorem dX6_become_0 : decode cX6_become 0 = .ok (.iconst 0, 1) := by decide +kernel
theorem dX6_become_1 : decode cX6_become 1 = .ok (.istore_n 2, 1) := by decide +kernel
theorem dX6_become_2 : decode cX6_become 2 = .ok (.iload_n 2, 1) := by decide +kernel
theorem dX6_become_3 : decode cX6_become 3 = .ok (.bipush 6, 2) := by decide +kernel
theorem dX6_become_5 : decode cX6_become 5 = .ok (.if_icmp .ge 41, 3) := by decide +kernel
theorem dX6_become_8 : decode cX6_become 8 = .ok (.aload_n 0, 1) := by decide +kernel
theorem dX6_become_9 : decode cX6_become 9 = .ok (.getfield 9, 3) := by decide +kernel
theorem dX6_become_12 : decode cX6_become 12 = .ok (.iload_n 2, 1) := by decide +kernel
theorem dX6_become_13 : decode cX6_become 13 = .ok (.aload_n 1, 1) := by decide +kernel
theorem dX6_become_14 : decode cX6_become 14 = .ok (.getfield 9, 3) := by decide +kernel
theorem dX6_become_17 : decode cX6_become 17 = .ok (.iload_n 2, 1) := by decide +kernel
theorem dX6_become_18 : decode cX6_become 18 = .ok (.invokestatic 28, 3) := by decide +kernel
theorem dX6_become_21 : decode cX6_become 21 = .ok (.invokestatic 32, 3) := by decide +kernel
theorem dX6_become_24 : decode cX6_become 24 = .ok (.aload_n 0, 1) := by decide +kernel
theorem dX6_become_25 : decode cX6_become 25 = .ok (.getfield 15, 3) := by decide +kernel
theorem dX6_become_28 : decode cX6_become 28 = .ok (.iload_n 2, 1) := by decide +kernel
theorem dX6_become_29 : decode cX6_become 29 = .ok (.aload_n 1, 1) := by decide +kernel
theorem dX6_become_30 : decode cX6_become 30 = .ok (.getfield 15, 3) := by decide +kernel
theorem dX6_become_33 : decode cX6_become 33 = .ok (.iload_n 2, 1) := by decide +kernel
theorem dX6_become_34 : decode cX6_become 34 = .ok (.invokestatic 28, 3) := by decide +kernel
theorem dX6_become_37 : decode cX6_become 37 = .ok (.invokestatic 32, 3) := by decide +kernel
theorem dX6_become_40 : decode cX6_become 40 = .ok (.iinc 2 1, 3) := by decide +kernel
theorem dX6_become_43 : decode cX6_become 43 = .ok (.goto (-41), 3) := by decide +kernel
theorem dX6_become_46 : decode cX6_become 46 = .ok (.iconst 0, 1) := by decide +kernel
theorem dX6_become_47 : decode cX6_become 47 = .ok (.istore_n 2, 1) := by decide +kernel
theorem dX6_become_48 : decode cX6_become 48 = .ok (.iload_n 2, 1) := by decide +kernel
theorem dX6_become_49 : decode cX6_become 49 = .ok (.bipush 8, 2) := by decide +kernel
theorem dX6_become_51 : decode cX6_become 51 = .ok (.if_icmp .ge 41, 3) := by decide +kernel
theorem dX6_become_54 : decode cX6_become 54 = .ok (.aload_n 0, 1) := by decide +kernel
theorem dX6_become_55 : decode cX6_become 55 = .ok (.getfield 18, 3) := by decide +kernel
theorem dX6_become_58 : decode cX6_become 58 = .ok (.iload_n 2, 1) := by decide +kernel
theorem dX6_become_59 : decode cX6_become 59 = .ok (.aload_n 1, 1) := by decide +kernel
theorem dX6_become_60 : decode cX6_become 60 = .ok (.getfield 18, 3) := by decide +kernel
theorem dX6_become_63 : decode cX6_become 63 = .ok (.iload_n 2, 1) := by decide +kernel
theorem dX6_become_64 : decode cX6_become 64 = .ok (.invokestatic 28, 3) := by decide +kernel
theorem dX6_become_67 : decode cX6_become 67 = .ok (.invokestatic 32, 3) := by decide +kernel
theorem dX6_become_70 : decode cX6_become 70 = .ok (.aload_n 0, 1) := by decide +kernel
theorem dX6_become_71 : decode cX6_become 71 = .ok (.getfield 21, 3) := by decide +kernel
theorem dX6_become_74 : decode cX6_become 74 = .ok (.iload_n 2, 1) := by decide +kernel
theorem dX6_become_75 : decode cX6_become 75 = .ok (.aload_n 1, 1) := by decide +kernel
theorem dX6_become_76 : decode cX6_become 76 = .ok (.getfield 21, 3) := by decide +kernel
theorem dX6_become_79 : decode cX6_become 79 = .ok (.iload_n 2, 1) := by decide +kernel
theorem dX6_become_80 : decode cX6_become 80 = .ok (.invokestatic 28, 3) := by decide +kernel
theorem dX6_become_83 : decode cX6_become 83 = .ok (.invokestatic 32, 3) := by decide +kernel
theorem dX6_become_86 : decode cX6_become 86 = .ok (.iinc 2 1, 3) := by decide +kernel
theorem dX6_become_89 : decode cX6_become 89 = .ok (.goto (-41), 3) := by decide +kernel
theorem dX6_become_92 : decode cX6_become 92 = .ok (.aload_n 0, 1) := by decide +kernel
theorem dX6_become_93 : decode cX6_become 93 = .ok (.aload_n 1, 1) := by decide +kernel
theorem dX6_become_94 : decode cX6_become 94 = .ok (.getfield 36, 3) := by decide +kernel
theorem dX6_become_97 : decode cX6_become 97 = .ok (.putfield 36, 3) := by decide +kernel
theorem dX6_become_100 : decode cX6_become 100 = .ok (.aload_n 0, 1) := by decide +kernel
theorem dX6_become_101 : decode cX6_become 101 = .ok (.aload_n 1, 1) := by decide +kernel
theorem dX6_become_102 : decode cX6_become 102 = .ok (.getfield 24, 3) := by decide +kernel
theorem dX6_become_105 : decode cX6_become 105 = .ok (.putfield 24, 3) := by decide +kernel
theorem dX6_become_108 : decode cX6_become 108 = .ok (.aload_n 0, 1) := by decide +kernel
theorem dX6_become_109 : decode cX6_become 109 = .ok (.aload_n 1, 1) := by decide +kernel
theorem dX6_become_110 : decode cX6_become 110 = .ok (.getfield 39, 3) := by decide +kernel
theorem dX6_become_113 : decode cX6_become 113 = .ok (.putfield 39, 3) := by decide +kernel
theorem dX6_become_116 : decode cX6_become 116 = .ok (.return_, 1) := by decide +kernel
theorem dX7_init_0 : decode cX7_init 0 = .ok (.aload_n 0, 1) := by decide +kernel
theorem dX7_init_1 : decode cX7_init 1 = .ok (.invokespecial 1, 3) := by decide +kernel
theorem dX7_init_4 : decode cX7_init 4 = .ok (.return_, 1) := by decide +kernel
theorem dX7_keeps_0 : decode cX7_keeps 0 = .ok (.iload 5, 2) := by decide +kernel
theorem dX7_keeps_2 : decode cX7_keeps 2 = .ok (.ifCond .eq 9, 3) := by decide +kernel
theorem dX7_keeps_5 : decode cX7_keeps 5 = .ok (.iload_n 1, 1) := by decide +kernel
theorem dX7_keeps_6 : decode cX7_keeps 6 = .ok (.iload_n 3, 1) := by decide +kernel
theorem dX7_keeps_7 : decode cX7_keeps 7 = .ok (.iadd, 1) := by decide +kernel
theorem dX7_keeps_8 : decode cX7_keeps 8 = .ok (.goto 4, 3) := by decide +kernel
theorem dX7_keeps_11 : decode cX7_keeps 11 = .ok (.iload_n 1, 1) := by decide +kernel
theorem dX7_keeps_12 : decode cX7_keeps 12 = .ok (.ireturn, 1) := by decide +kernel
theorem dX7_offers_0 : decode cX7_offers 0 = .ok (.aload_n 0, 1) := by decide +kernel
theorem dX7_offers_1 : decode cX7_offers 1 = .ok (.iload_n 1, 1) := by decide +kernel
theorem dX7_offers_2 : decode cX7_offers 2 = .ok (.iload_n 2, 1) := by decide +kernel
theorem dX7_offers_3 : decode cX7_offers 3 = .ok (.iload_n 3, 1) := by decide +kernel
theorem dX7_offers_4 : decode cX7_offers 4 = .ok (.invokespecial 7, 3) := by decide +kernel
theorem dX7_offers_7 : decode cX7_offers 7 = .ok (.istore 4, 2) := by decide +kernel
theorem dX7_offers_9 : decode cX7_offers 9 = .ok (.iload_n 3, 1) := by decide +kernel
theorem dX7_offers_10 : decode cX7_offers 10 = .ok (.iconst 2, 1) := by decide +kernel
theorem dX7_offers_11 : decode cX7_offers 11 = .ok (.if_icmp .le 13, 3) := by decide +kernel
theorem dX7_offers_14 : decode cX7_offers 14 = .ok (.iload 4, 2) := by decide +kernel
theorem dX7_offers_16 : decode cX7_offers 16 = .ok (.bipush 10, 2) := by decide +kernel
theorem dX7_offers_18 : decode cX7_offers 18 = .ok (.iload_n 3, 1) := by decide +kernel
theorem dX7_offers_19 : decode cX7_offers 19 = .ok (.imul, 1) := by decide +kernel
theorem dX7_offers_20 : decode cX7_offers 20 = .ok (.iadd, 1) := by decide +kernel
theorem dX7_offers_21 : decode cX7_offers 21 = .ok (.goto 5, 3) := by decide +kernel
theorem dX7_offers_24 : decode cX7_offers 24 = .ok (.iload 4, 2) := by decide +kernel
theorem dX7_offers_26 : decode cX7_offers 26 = .ok (.ireturn, 1) := by decide +kernel
theorem dX8_init_0 : decode cX8_init 0 = .ok (.aload_n 0, 1) := by decide +kernel
theorem dX8_init_1 : decode cX8_init 1 = .ok (.invokespecial 3, 3) := by decide +kernel
theorem dX8_init_4 : decode cX8_init 4 = .ok (.aload_n 0, 1) := by decide +kernel
theorem dX8_init_5 : decode cX8_init 5 = .ok (.sipush 960, 3) := by decide +kernel
theorem dX8_init_8 : decode cX8_init 8 = .ok (.newarray .int, 2) := by decide +kernel
theorem dX8_init_10 : decode cX8_init 10 = .ok (.putfield 9, 3) := by decide +kernel
theorem dX8_init_13 : decode cX8_init 13 = .ok (.aload_n 0, 1) := by decide +kernel
theorem dX8_init_14 : decode cX8_init 14 = .ok (.bipush 18, 2) := by decide +kernel
theorem dX8_init_16 : decode cX8_init 16 = .ok (.newarray .int, 2) := by decide +kernel
theorem dX8_init_18 : decode cX8_init 18 = .ok (.putfield 15, 3) := by decide +kernel
theorem dX8_init_21 : decode cX8_init 21 = .ok (.aload_n 0, 1) := by decide +kernel
theorem dX8_init_22 : decode cX8_init 22 = .ok (.bipush 18, 2) := by decide +kernel
theorem dX8_init_24 : decode cX8_init 24 = .ok (.newarray .int, 2) := by decide +kernel
theorem dX8_init_26 : decode cX8_init 26 = .ok (.putfield 18, 3) := by decide +kernel
theorem dX8_init_29 : decode cX8_init 29 = .ok (.aload_n 0, 1) := by decide +kernel
theorem dX8_init_30 : decode cX8_init 30 = .ok (.sipush 160, 3) := by decide +kernel
theorem dX8_init_33 : decode cX8_init 33 = .ok (.newarray .int, 2) := by decide +kernel
theorem dX8_init_35 : decode cX8_init 35 = .ok (.putfield 21, 3) := by decide +kernel
theorem dX8_init_38 : decode cX8_init 38 = .ok (.return_, 1) := by decide +kernel
theorem dX8_start_0 : decode cX8_start 0 = .ok (.aload_n 0, 1) := by decide +kernel
theorem dX8_start_1 : decode cX8_start 1 = .ok (.aload_n 0, 1) := by decide +kernel
theorem dX8_start_2 : decode cX8_start 2 = .ok (.getfield 24, 3) := by decide +kernel
theorem dX8_start_5 : decode cX8_start 5 = .ok (.sipush 160, 3) := by decide +kernel
theorem dX8_start_8 : decode cX8_start 8 = .ok (.imul, 1) := by decide +kernel
theorem dX8_start_9 : decode cX8_start 9 = .ok (.putfield 28, 3) := by decide +kernel
theorem dX8_start_12 : decode cX8_start 12 = .ok (.aload_n 0, 1) := by decide +kernel
theorem dX8_start_13 : decode cX8_start 13 = .ok (.iconst 0, 1) := by decide +kernel
theorem dX8_start_14 : decode cX8_start 14 = .ok (.putfield 31, 3) := by decide +kernel
theorem dX8_start_17 : decode cX8_start 17 = .ok (.return_, 1) := by decide +kernel
theorem dX8_add_0 : decode cX8_add 0 = .ok (.aload_n 0, 1) := by decide +kernel
theorem dX8_add_1 : decode cX8_add 1 = .ok (.getfield 24, 3) := by decide +kernel
theorem dX8_add_4 : decode cX8_add 4 = .ok (.bipush 6, 2) := by decide +kernel
theorem dX8_add_6 : decode cX8_add 6 = .ok (.invokestatic 34, 3) := by decide +kernel
theorem dX8_add_9 : decode cX8_add 9 = .ok (.ifCond .eq 20, 3) := by decide +kernel
theorem dX8_add_12 : decode cX8_add 12 = .ok (.aload_n 0, 1) := by decide +kernel
theorem dX8_add_13 : decode cX8_add 13 = .ok (.getfield 28, 3) := by decide +kernel
theorem dX8_add_16 : decode cX8_add 16 = .ok (.aload_n 0, 1) := by decide +kernel
theorem dX8_add_17 : decode cX8_add 17 = .ok (.getfield 24, 3) := by decide +kernel
theorem dX8_add_20 : decode cX8_add 20 = .ok (.iconst 1, 1) := by decide +kernel
theorem dX8_add_21 : decode cX8_add 21 = .ok (.iadd, 1) := by decide +kernel
theorem dX8_add_22 : decode cX8_add 22 = .ok (.sipush 160, 3) := by decide +kernel
theorem dX8_add_25 : decode cX8_add 25 = .ok (.imul, 1) := by decide +kernel
theorem dX8_add_26 : decode cX8_add 26 = .ok (.if_icmp .lt 5, 3) := by decide +kernel
theorem dX8_add_29 : decode cX8_add 29 = .ok (.iconst 0, 1) := by decide +kernel
theorem dX8_add_30 : decode cX8_add 30 = .ok (.ireturn, 1) := by decide +kernel
theorem dX8_add_31 : decode cX8_add 31 = .ok (.aload_n 0, 1) := by decide +kernel
theorem dX8_add_32 : decode cX8_add 32 = .ok (.getfield 9, 3) := by decide +kernel
theorem dX8_add_35 : decode cX8_add 35 = .ok (.aload_n 0, 1) := by decide +kernel
theorem dX8_add_36 : decode cX8_add 36 = .ok (.getfield 28, 3) := by decide +kernel
theorem dX8_add_39 : decode cX8_add 39 = .ok (.iload_n 1, 1) := by decide +kernel
theorem dX8_add_40 : decode cX8_add 40 = .ok (.invokestatic 38, 3) := by decide +kernel
theorem dX8_add_43 : decode cX8_add 43 = .ok (.aload_n 0, 1) := by decide +kernel
theorem dX8_add_44 : decode cX8_add 44 = .ok (.dup, 1) := by decide +kernel
theorem dX8_add_45 : decode cX8_add 45 = .ok (.getfield 28, 3) := by decide +kernel
theorem dX8_add_48 : decode cX8_add 48 = .ok (.iconst 1, 1) := by decide +kernel
theorem dX8_add_49 : decode cX8_add 49 = .ok (.iadd, 1) := by decide +kernel
theorem dX8_add_50 : decode cX8_add 50 = .ok (.putfield 28, 3) := by decide +kernel
theorem dX8_add_53 : decode cX8_add 53 = .ok (.iload_n 1, 1) := by decide +kernel
theorem dX8_add_54 : decode cX8_add 54 = .ok (.invokestatic 42, 3) := by decide +kernel
theorem dX8_add_57 : decode cX8_add 57 = .ok (.ifCond .eq 18, 3) := by decide +kernel
theorem dX8_add_60 : decode cX8_add 60 = .ok (.aload_n 0, 1) := by decide +kernel
theorem dX8_add_61 : decode cX8_add 61 = .ok (.dup, 1) := by decide +kernel
theorem dX8_add_62 : decode cX8_add 62 = .ok (.getfield 31, 3) := by decide +kernel
theorem dX8_add_65 : decode cX8_add 65 = .ok (.iconst 1, 1) := by decide +kernel
theorem dX8_add_66 : decode cX8_add 66 = .ok (.bipush (-10), 2) := by decide +kernel
theorem dX8_add_68 : decode cX8_add 68 = .ok (.iload_n 1, 1) := by decide +kernel
theorem dX8_add_69 : decode cX8_add 69 = .ok (.isub, 1) := by decide +kernel
theorem dX8_add_70 : decode cX8_add 70 = .ok (.ishl, 1) := by decide +kernel
theorem dX8_add_71 : decode cX8_add 71 = .ok (.ior, 1) := by decide +kernel
theorem dX8_add_72 : decode cX8_add 72 = .ok (.putfield 31, 3) := by decide +kernel
theorem dX8_add_75 : decode cX8_add 75 = .ok (.iconst 1, 1) := by decide +kernel
theorem dX8_add_76 : decode cX8_add 76 = .ok (.ireturn, 1) := by decide +kernel
theorem dX8_endPart_0 : decode cX8_endPart 0 = .ok (.aload_n 0, 1) := by decide +kernel
theorem dX8_endPart_1 : decode cX8_endPart 1 = .ok (.getfield 15, 3) := by decide +kernel
theorem dX8_endPart_4 : decode cX8_endPart 4 = .ok (.aload_n 0, 1) := by decide +kernel
theorem dX8_endPart_5 : decode cX8_endPart 5 = .ok (.getfield 24, 3) := by decide +kernel
theorem dX8_endPart_8 : decode cX8_endPart 8 = .ok (.iconst 3, 1) := by decide +kernel
theorem dX8_endPart_9 : decode cX8_endPart 9 = .ok (.imul, 1) := by decide +kernel
theorem dX8_endPart_10 : decode cX8_endPart 10 = .ok (.iload_n 1, 1) := by decide +kernel
theorem dX8_endPart_11 : decode cX8_endPart 11 = .ok (.iadd, 1) := by decide +kernel
theorem dX8_endPart_12 : decode cX8_endPart 12 = .ok (.aload_n 0, 1) := by decide +kernel
theorem dX8_endPart_13 : decode cX8_endPart 13 = .ok (.getfield 28, 3) := by decide +kernel
theorem dX8_endPart_16 : decode cX8_endPart 16 = .ok (.invokestatic 38, 3) := by decide +kernel
theorem dX8_endPart_19 : decode cX8_endPart 19 = .ok (.aload_n 0, 1) := by decide +kernel
theorem dX8_endPart_20 : decode cX8_endPart 20 = .ok (.getfield 18, 3) := by decide +kernel
theorem dX8_endPart_23 : decode cX8_endPart 23 = .ok (.aload_n 0, 1) := by decide +kernel
theorem dX8_endPart_24 : decode cX8_endPart 24 = .ok (.getfield 24, 3) := by decide +kernel
theorem dX8_endPart_27 : decode cX8_endPart 27 = .ok (.iconst 3, 1) := by decide +kernel
theorem dX8_endPart_28 : decode cX8_endPart 28 = .ok (.imul, 1) := by decide +kernel
theorem dX8_endPart_29 : decode cX8_endPart 29 = .ok (.iload_n 1, 1) := by decide +kernel
theorem dX8_endPart_30 : decode cX8_endPart 30 = .ok (.iadd, 1) := by decide +kernel
theorem dX8_endPart_31 : decode cX8_endPart 31 = .ok (.aload_n 0, 1) := by decide +kernel
theorem dX8_endPart_32 : decode cX8_endPart 32 = .ok (.getfield 31, 3) := by decide +kernel
theorem dX8_endPart_35 : decode cX8_endPart 35 = .ok (.invokestatic 38, 3) := by decide +kernel
theorem dX8_endPart_38 : decode cX8_endPart 38 = .ok (.aload_n 0, 1) := by decide +kernel
theorem dX8_endPart_39 : decode cX8_endPart 39 = .ok (.iconst 0, 1) := by decide +kernel
theorem dX8_endPart_40 : decode cX8_endPart 40 = .ok (.putfield 31, 3) := by decide +kernel
theorem dX8_endPart_43 : decode cX8_endPart 43 = .ok (.return_, 1) := by decide +kernel
theorem dX8_mindNames_0 : decode cX8_mindNames 0 = .ok (.aload_n 0, 1) := by decide +kernel
theorem dX8_mindNames_1 : decode cX8_mindNames 1 = .ok (.getfield 18, 3) := by decide +kernel
theorem dX8_mindNames_4 : decode cX8_mindNames 4 = .ok (.iload_n 1, 1) := by decide +kernel
theorem dX8_mindNames_5 : decode cX8_mindNames 5 = .ok (.iconst 3, 1) := by decide +kernel
theorem dX8_mindNames_6 : decode cX8_mindNames 6 = .ok (.imul, 1) := by decide +kernel
theorem dX8_mindNames_7 : decode cX8_mindNames 7 = .ok (.iconst 0, 1) := by decide +kernel
theorem dX8_mindNames_8 : decode cX8_mindNames 8 = .ok (.iadd, 1) := by decide +kernel
theorem dX8_mindNames_9 : decode cX8_mindNames 9 = .ok (.invokestatic 46, 3) := by decide +kernel
theorem dX8_mindNames_12 : decode cX8_mindNames 12 = .ok (.aload_n 0, 1) := by decide +kernel
theorem dX8_mindNames_13 : decode cX8_mindNames 13 = .ok (.getfield 18, 3) := by decide +kernel
theorem dX8_mindNames_16 : decode cX8_mindNames 16 = .ok (.iload_n 1, 1) := by decide +kernel
theorem dX8_mindNames_17 : decode cX8_mindNames 17 = .ok (.iconst 3, 1) := by decide +kernel
theorem dX8_mindNames_18 : decode cX8_mindNames 18 = .ok (.imul, 1) := by decide +kernel
theorem dX8_mindNames_19 : decode cX8_mindNames 19 = .ok (.iconst 1, 1) := by decide +kernel
theorem dX8_mindNames_20 : decode cX8_mindNames 20 = .ok (.iadd, 1) := by decide +kernel
theorem dX8_mindNames_21 : decode cX8_mindNames 21 = .ok (.invokestatic 46, 3) := by decide +kernel
theorem dX8_mindNames_24 : decode cX8_mindNames 24 = .ok (.ior, 1) := by decide +kernel
theorem dX8_mindNames_25 : decode cX8_mindNames 25 = .ok (.istore_n 3, 1) := by decide +kernel
theorem dX8_mindNames_26 : decode cX8_mindNames 26 = .ok (.iload_n 3, 1) := by decide +kernel
theorem dX8_mindNames_27 : decode cX8_mindNames 27 = .ok (.bipush (-10), 2) := by decide +kernel
theorem dX8_mindNames_29 : decode cX8_mindNames 29 = .ok (.iload_n 2, 1) := by decide +kernel
theorem dX8_mindNames_30 : decode cX8_mindNames 30 = .ok (.isub, 1) := by decide +kernel
theorem dX8_mindNames_31 : decode cX8_mindNames 31 = .ok (.ishr, 1) := by decide +kernel
theorem dX8_mindNames_32 : decode cX8_mindNames 32 = .ok (.iconst 1, 1) := by decide +kernel
theorem dX8_mindNames_33 : decode cX8_mindNames 33 = .ok (.iand, 1) := by decide +kernel
theorem dX8_mindNames_34 : decode cX8_mindNames 34 = .ok (.ifCond .eq 7, 3) := by decide +kernel
theorem dX8_mindNames_37 : decode cX8_mindNames 37 = .ok (.iconst 1, 1) := by decide +kernel
theorem dX8_mindNames_38 : decode cX8_mindNames 38 = .ok (.goto 4, 3) := by decide +kernel
theorem dX8_mindNames_41 : decode cX8_mindNames 41 = .ok (.iconst 0, 1) := by decide +kernel
theorem dX8_mindNames_42 : decode cX8_mindNames 42 = .ok (.ireturn, 1) := by decide +kernel
theorem dX8_isName_0 : decode cX8_isName 0 = .ok (.iload_n 0, 1) := by decide +kernel
theorem dX8_isName_1 : decode cX8_isName 1 = .ok (.bipush (-10), 2) := by decide +kernel
theorem dX8_isName_3 : decode cX8_isName 3 = .ok (.if_icmp .gt 13, 3) := by decide +kernel
theorem dX8_isName_6 : decode cX8_isName 6 = .ok (.iload_n 0, 1) := by decide +kernel
theorem dX8_isName_7 : decode cX8_isName 7 = .ok (.bipush (-15), 2) := by decide +kernel
theorem dX8_isName_9 : decode cX8_isName 9 = .ok (.if_icmp .lt 7, 3) := by decide +kernel
theorem dX8_isName_12 : decode cX8_isName 12 = .ok (.iconst 1, 1) := by decide +kernel
theorem dX8_isName_13 : decode cX8_isName 13 = .ok (.goto 4, 3) := by decide +kernel
theorem dX8_isName_16 : decode cX8_isName 16 = .ok (.iconst 0, 1) := by decide +kernel
theorem dX8_isName_17 : decode cX8_isName 17 = .ok (.ireturn, 1) := by decide +kernel
theorem dX8_said_0 : decode cX8_said 0 = .ok (.iload_n 2, 1) := by decide +kernel
theorem dX8_said_1 : decode cX8_said 1 = .ok (.ifCond .ne 11, 3) := by decide +kernel
theorem dX8_said_4 : decode cX8_said 4 = .ok (.iload_n 1, 1) := by decide +kernel
theorem dX8_said_5 : decode cX8_said 5 = .ok (.sipush 160, 3) := by decide +kernel
theorem dX8_said_8 : decode cX8_said 8 = .ok (.imul, 1) := by decide +kernel
theorem dX8_said_9 : decode cX8_said 9 = .ok (.goto 17, 3) := by decide +kernel
theorem dX8_said_12 : decode cX8_said 12 = .ok (.aload_n 0, 1) := by decide +kernel
theorem dX8_said_13 : decode cX8_said 13 = .ok (.getfield 15, 3) := by decide +kernel
theorem dX8_said_16 : decode cX8_said 16 = .ok (.iload_n 1, 1) := by decide +kernel
theorem dX8_said_17 : decode cX8_said 17 = .ok (.iconst 3, 1) := by decide +kernel
theorem dX8_said_18 : decode cX8_said 18 = .ok (.imul, 1) := by decide +kernel
theorem dX8_said_19 : decode cX8_said 19 = .ok (.iload_n 2, 1) := by decide +kernel
theorem dX8_said_20 : decode cX8_said 20 = .ok (.iadd, 1) := by decide +kernel
theorem dX8_said_21 : decode cX8_said 21 = .ok (.iconst 1, 1) := by decide +kernel
theorem dX8_said_22 : decode cX8_said 22 = .ok (.isub, 1) := by decide +kernel
theorem dX8_said_23 : decode cX8_said 23 = .ok (.invokestatic 46, 3) := by decide +kernel
theorem dX8_said_26 : decode cX8_said 26 = .ok (.istore 4, 2) := by decide +kernel
theorem dX8_said_28 : decode cX8_said 28 = .ok (.aload_n 0, 1) := by decide +kernel
theorem dX8_said_29 : decode cX8_said 29 = .ok (.getfield 15, 3) := by decide +kernel
theorem dX8_said_32 : decode cX8_said 32 = .ok (.iload_n 1, 1) := by decide +kernel
theorem dX8_said_33 : decode cX8_said 33 = .ok (.iconst 3, 1) := by decide +kernel
theorem dX8_said_34 : decode cX8_said 34 = .ok (.imul, 1) := by decide +kernel
theorem dX8_said_35 : decode cX8_said 35 = .ok (.iload_n 2, 1) := by decide +kernel
theorem dX8_said_36 : decode cX8_said 36 = .ok (.iadd, 1) := by decide +kernel
theorem dX8_said_37 : decode cX8_said 37 = .ok (.invokestatic 46, 3) := by decide +kernel
theorem dX8_said_40 : decode cX8_said 40 = .ok (.istore 5, 2) := by decide +kernel
theorem dX8_said_42 : decode cX8_said 42 = .ok (.iconst (-1), 1) := by decide +kernel
theorem dX8_said_43 : decode cX8_said 43 = .ok (.istore 6, 2) := by decide +kernel
theorem dX8_said_45 : decode cX8_said 45 = .ok (.iload 4, 2) := by decide +kernel
theorem dX8_said_47 : decode cX8_said 47 = .ok (.istore 7, 2) := by decide +kernel
theorem dX8_said_49 : decode cX8_said 49 = .ok (.iload 7, 2) := by decide +kernel
theorem dX8_said_51 : decode cX8_said 51 = .ok (.iload 5, 2) := by decide +kernel
theorem dX8_said_53 : decode cX8_said 53 = .ok (.if_icmp .ge 169, 3) := by decide +kernel
theorem dX8_said_56 : decode cX8_said 56 = .ok (.aload_n 0, 1) := by decide +kernel
theorem dX8_said_57 : decode cX8_said 57 = .ok (.getfield 9, 3) := by decide +kernel
theorem dX8_said_60 : decode cX8_said 60 = .ok (.iload 7, 2) := by decide +kernel
theorem dX8_said_62 : decode cX8_said 62 = .ok (.invokestatic 46, 3) := by decide +kernel
theorem dX8_said_65 : decode cX8_said 65 = .ok (.istore 8, 2) := by decide +kernel
theorem dX8_said_67 : decode cX8_said 67 = .ok (.iload 8, 2) := by decide +kernel
theorem dX8_said_69 : decode cX8_said 69 = .ok (.ifCond .ge 11, 3) := by decide +kernel
theorem dX8_said_72 : decode cX8_said 72 = .ok (.iload 8, 2) := by decide +kernel
theorem dX8_said_74 : decode cX8_said 74 = .ok (.invokestatic 42, 3) := by decide +kernel
theorem dX8_said_77 : decode cX8_said 77 = .ok (.ifCond .eq 37, 3) := by decide +kernel
theorem dX8_said_80 : decode cX8_said 80 = .ok (.iinc 6 1, 3) := by decide +kernel
theorem dX8_said_83 : decode cX8_said 83 = .ok (.aload_n 0, 1) := by decide +kernel
theorem dX8_said_84 : decode cX8_said 84 = .ok (.getfield 21, 3) := by decide +kernel
theorem dX8_said_87 : decode cX8_said 87 = .ok (.iload 6, 2) := by decide +kernel
theorem dX8_said_89 : decode cX8_said 89 = .ok (.iload 8, 2) := by decide +kernel
theorem dX8_said_91 : decode cX8_said 91 = .ok (.ifCond .lt 8, 3) := by decide +kernel
theorem dX8_said_94 : decode cX8_said 94 = .ok (.iload 8, 2) := by decide +kernel
theorem dX8_said_96 : decode cX8_said 96 = .ok (.goto 12, 3) := by decide +kernel
theorem dX8_said_99 : decode cX8_said 99 = .ok (.aload_n 3, 1) := by decide +kernel
theorem dX8_said_100 : decode cX8_said 100 = .ok (.bipush (-10), 2) := by decide +kernel
theorem dX8_said_102 : decode cX8_said 102 = .ok (.iload 8, 2) := by decide +kernel
theorem dX8_said_104 : decode cX8_said 104 = .ok (.isub, 1) := by decide +kernel
theorem dX8_said_105 : decode cX8_said 105 = .ok (.invokestatic 46, 3) := by decide +kernel
theorem dX8_said_108 : decode cX8_said 108 = .ok (.invokestatic 38, 3) := by decide +kernel
theorem dX8_said_111 : decode cX8_said 111 = .ok (.goto 105, 3) := by decide +kernel
theorem dX8_said_114 : decode cX8_said 114 = .ok (.iload 8, 2) := by decide +kernel
theorem dX8_said_116 : decode cX8_said 116 = .ok (.bipush (-8), 2) := by decide +kernel
theorem dX8_said_118 : decode cX8_said 118 = .ok (.if_icmp .ne 32, 3) := by decide +kernel
theorem dX8_said_121 : decode cX8_said 121 = .ok (.aload_n 0, 1) := by decide +kernel
theorem dX8_said_122 : decode cX8_said 122 = .ok (.getfield 21, 3) := by decide +kernel
theorem dX8_said_125 : decode cX8_said 125 = .ok (.iload 6, 2) := by decide +kernel
theorem dX8_said_127 : decode cX8_said 127 = .ok (.aload_n 0, 1) := by decide +kernel
theorem dX8_said_128 : decode cX8_said 128 = .ok (.getfield 21, 3) := by decide +kernel
theorem dX8_said_131 : decode cX8_said 131 = .ok (.iload 6, 2) := by decide +kernel
theorem dX8_said_133 : decode cX8_said 133 = .ok (.invokestatic 46, 3) := by decide +kernel
theorem dX8_said_136 : decode cX8_said 136 = .ok (.ifCond .ne 7, 3) := by decide +kernel
theorem dX8_said_139 : decode cX8_said 139 = .ok (.iconst 1, 1) := by decide +kernel
theorem dX8_said_140 : decode cX8_said 140 = .ok (.goto 4, 3) := by decide +kernel
theorem dX8_said_143 : decode cX8_said 143 = .ok (.iconst 0, 1) := by decide +kernel
theorem dX8_said_144 : decode cX8_said 144 = .ok (.invokestatic 38, 3) := by decide +kernel
theorem dX8_said_147 : decode cX8_said 147 = .ok (.goto 69, 3) := by decide +kernel
theorem dX8_said_150 : decode cX8_said 150 = .ok (.iload 8, 2) := by decide +kernel
theorem dX8_said_152 : decode cX8_said 152 = .ok (.bipush (-9), 2) := by decide +kernel
theorem dX8_said_154 : decode cX8_said 154 = .ok (.if_icmp .ne 25, 3) := by decide +kernel
theorem dX8_said_157 : decode cX8_said 157 = .ok (.aload_n 0, 1) := by decide +kernel
theorem dX8_said_158 : decode cX8_said 158 = .ok (.getfield 21, 3) := by decide +kernel
theorem dX8_said_161 : decode cX8_said 161 = .ok (.iload 6, 2) := by decide +kernel
theorem dX8_said_163 : decode cX8_said 163 = .ok (.aload_n 0, 1) := by decide +kernel
theorem dX8_said_164 : decode cX8_said 164 = .ok (.getfield 21, 3) := by decide +kernel
theorem dX8_said_167 : decode cX8_said 167 = .ok (.iload 6, 2) := by decide +kernel
theorem dX8_said_169 : decode cX8_said 169 = .ok (.invokestatic 46, 3) := by decide +kernel
theorem dX8_said_172 : decode cX8_said 172 = .ok (.ineg, 1) := by decide +kernel
theorem dX8_said_173 : decode cX8_said 173 = .ok (.invokestatic 38, 3) := by decide +kernel
theorem dX8_said_176 : decode cX8_said 176 = .ok (.goto 40, 3) := by decide +kernel
theorem dX8_said_179 : decode cX8_said 179 = .ok (.iinc 6 (-1), 3) := by decide +kernel
theorem dX8_said_182 : decode cX8_said 182 = .ok (.aload_n 0, 1) := by decide +kernel
theorem dX8_said_183 : decode cX8_said 183 = .ok (.getfield 21, 3) := by decide +kernel
theorem dX8_said_186 : decode cX8_said 186 = .ok (.iload 6, 2) := by decide +kernel
theorem dX8_said_188 : decode cX8_said 188 = .ok (.iload 8, 2) := by decide +kernel
theorem dX8_said_190 : decode cX8_said 190 = .ok (.aload_n 0, 1) := by decide +kernel
theorem dX8_said_191 : decode cX8_said 191 = .ok (.getfield 21, 3) := by decide +kernel
theorem dX8_said_194 : decode cX8_said 194 = .ok (.iload 6, 2) := by decide +kernel
theorem dX8_said_196 : decode cX8_said 196 = .ok (.invokestatic 46, 3) := by decide +kernel
theorem dX8_said_199 : decode cX8_said 199 = .ok (.aload_n 0, 1) := by decide +kernel
theorem dX8_said_200 : decode cX8_said 200 = .ok (.getfield 21, 3) := by decide +kernel
theorem dX8_said_203 : decode cX8_said 203 = .ok (.iload 6, 2) := by decide +kernel
theorem dX8_said_205 : decode cX8_said 205 = .ok (.iconst 1, 1) := by decide +kernel
theorem dX8_said_206 : decode cX8_said 206 = .ok (.iadd, 1) := by decide +kernel
theorem dX8_said_207 : decode cX8_said 207 = .ok (.invokestatic 46, 3) := by decide +kernel
theorem dX8_said_210 : decode cX8_said 210 = .ok (.invokestatic 50, 3) := by decide +kernel
theorem dX8_said_213 : decode cX8_said 213 = .ok (.invokestatic 38, 3) := by decide +kernel
theorem dX8_said_216 : decode cX8_said 216 = .ok (.iinc 7 1, 3) := by decide +kernel
theorem dX8_said_219 : decode cX8_said 219 = .ok (.goto (-170), 3) := by decide +kernel
theorem dX8_said_222 : decode cX8_said 222 = .ok (.aload_n 0, 1) := by decide +kernel
theorem dX8_said_223 : decode cX8_said 223 = .ok (.getfield 21, 3) := by decide +kernel
theorem dX8_said_226 : decode cX8_said 226 = .ok (.iconst 0, 1) := by decide +kernel
theorem dX8_said_227 : decode cX8_said 227 = .ok (.invokestatic 46, 3) := by decide +kernel
theorem dX8_said_230 : decode cX8_said 230 = .ok (.istore 7, 2) := by decide +kernel
theorem dX8_said_232 : decode cX8_said 232 = .ok (.iload_n 2, 1) := by decide +kernel
theorem dX8_said_233 : decode cX8_said 233 = .ok (.ifCond .ne 13, 3) := by decide +kernel
theorem dX8_said_236 : decode cX8_said 236 = .ok (.iload 7, 2) := by decide +kernel
theorem dX8_said_238 : decode cX8_said 238 = .ok (.bipush (-99), 2) := by decide +kernel
theorem dX8_said_240 : decode cX8_said 240 = .ok (.bipush 99, 2) := by decide +kernel
theorem dX8_said_242 : decode cX8_said 242 = .ok (.invokestatic 54, 3) := by decide +kernel
theorem dX8_said_245 : decode cX8_said 245 = .ok (.ireturn, 1) := by decide +kernel
theorem dX8_said_246 : decode cX8_said 246 = .ok (.iload 7, 2) := by decide +kernel
theorem dX8_said_248 : decode cX8_said 248 = .ok (.iconst 0, 1) := by decide +kernel
theorem dX8_said_249 : decode cX8_said 249 = .ok (.iload_n 2, 1) := by decide +kernel
theorem dX8_said_250 : decode cX8_said 250 = .ok (.iconst 1, 1) := by decide +kernel
theorem dX8_said_251 : decode cX8_said 251 = .ok (.if_icmp .ne 8, 3) := by decide +kernel
theorem dX8_said_254 : decode cX8_said 254 = .ok (.bipush 9, 2) := by decide +kernel
theorem dX8_said_256 : decode cX8_said 256 = .ok (.goto 6, 3) := by decide +kernel
theorem dX8_said_259 : decode cX8_said 259 = .ok (.sipush 999, 3) := by decide +kernel
theorem dX8_said_262 : decode cX8_said 262 = .ok (.invokestatic 54, 3) := by decide +kernel
theorem dX8_said_265 : decode cX8_said 265 = .ok (.ireturn, 1) := by decide +kernel
theorem dX8_joined_0 : decode cX8_joined 0 = .ok (.iload_n 0, 1) := by decide +kernel
theorem dX8_joined_1 : decode cX8_joined 1 = .ok (.lookupswitch 107 #[(-61, 82), (-60, 71), (-45, 63), (-43, 59), (-42, 67), (-7, 93)], 59) := by decide +kernel
theorem dX8_joined_60 : decode cX8_joined 60 = .ok (.iload_n 1, 1) := by decide +kernel
theorem dX8_joined_61 : decode cX8_joined 61 = .ok (.iload_n 2, 1) := by decide +kernel
theorem dX8_joined_62 : decode cX8_joined 62 = .ok (.iadd, 1) := by decide +kernel
theorem dX8_joined_63 : decode cX8_joined 63 = .ok (.ireturn, 1) := by decide +kernel
theorem dX8_joined_64 : decode cX8_joined 64 = .ok (.iload_n 1, 1) := by decide +kernel
theorem dX8_joined_65 : decode cX8_joined 65 = .ok (.iload_n 2, 1) := by decide +kernel
theorem dX8_joined_66 : decode cX8_joined 66 = .ok (.isub, 1) := by decide +kernel
theorem dX8_joined_67 : decode cX8_joined 67 = .ok (.ireturn, 1) := by decide +kernel
theorem dX8_joined_68 : decode cX8_joined 68 = .ok (.iload_n 1, 1) := by decide +kernel
theorem dX8_joined_69 : decode cX8_joined 69 = .ok (.iload_n 2, 1) := by decide +kernel
theorem dX8_joined_70 : decode cX8_joined 70 = .ok (.imul, 1) := by decide +kernel
theorem dX8_joined_71 : decode cX8_joined 71 = .ok (.ireturn, 1) := by decide +kernel
theorem dX8_joined_72 : decode cX8_joined 72 = .ok (.iload_n 1, 1) := by decide +kernel
theorem dX8_joined_73 : decode cX8_joined 73 = .ok (.iload_n 2, 1) := by decide +kernel
theorem dX8_joined_74 : decode cX8_joined 74 = .ok (.if_icmp .ge 7, 3) := by decide +kernel
theorem dX8_joined_77 : decode cX8_joined 77 = .ok (.iconst 1, 1) := by decide +kernel
theorem dX8_joined_78 : decode cX8_joined 78 = .ok (.goto 4, 3) := by decide +kernel
theorem dX8_joined_81 : decode cX8_joined 81 = .ok (.iconst 0, 1) := by decide +kernel
theorem dX8_joined_82 : decode cX8_joined 82 = .ok (.ireturn, 1) := by decide +kernel
theorem dX8_joined_83 : decode cX8_joined 83 = .ok (.iload_n 1, 1) := by decide +kernel
theorem dX8_joined_84 : decode cX8_joined 84 = .ok (.iload_n 2, 1) := by decide +kernel
theorem dX8_joined_85 : decode cX8_joined 85 = .ok (.if_icmp .ne 7, 3) := by decide +kernel
theorem dX8_joined_88 : decode cX8_joined 88 = .ok (.iconst 1, 1) := by decide +kernel
theorem dX8_joined_89 : decode cX8_joined 89 = .ok (.goto 4, 3) := by decide +kernel
theorem dX8_joined_92 : decode cX8_joined 92 = .ok (.iconst 0, 1) := by decide +kernel
theorem dX8_joined_93 : decode cX8_joined 93 = .ok (.ireturn, 1) := by decide +kernel
theorem dX8_joined_94 : decode cX8_joined 94 = .ok (.iload_n 1, 1) := by decide +kernel
theorem dX8_joined_95 : decode cX8_joined 95 = .ok (.ifCond .eq 11, 3) := by decide +kernel
theorem dX8_joined_98 : decode cX8_joined 98 = .ok (.iload_n 2, 1) := by decide +kernel
theorem dX8_joined_99 : decode cX8_joined 99 = .ok (.ifCond .eq 7, 3) := by decide +kernel
theorem dX8_joined_102 : decode cX8_joined 102 = .ok (.iconst 1, 1) := by decide +kernel
theorem dX8_joined_103 : decode cX8_joined 103 = .ok (.goto 4, 3) := by decide +kernel
theorem dX8_joined_106 : decode cX8_joined 106 = .ok (.iconst 0, 1) := by decide +kernel
theorem dX8_joined_107 : decode cX8_joined 107 = .ok (.ireturn, 1) := by decide +kernel
theorem dX8_joined_108 : decode cX8_joined 108 = .ok (.iload_n 1, 1) := by decide +kernel
theorem dX8_joined_109 : decode cX8_joined 109 = .ok (.ifCond .ne 7, 3) := by decide +kernel
theorem dX8_joined_112 : decode cX8_joined 112 = .ok (.iload_n 2, 1) := by decide +kernel
theorem dX8_joined_113 : decode cX8_joined 113 = .ok (.ifCond .eq 7, 3) := by decide +kernel
theorem dX8_joined_116 : decode cX8_joined 116 = .ok (.iconst 1, 1) := by decide +kernel
theorem dX8_joined_117 : decode cX8_joined 117 = .ok (.goto 4, 3) := by decide +kernel
theorem dX8_joined_120 : decode cX8_joined 120 = .ok (.iconst 0, 1) := by decide +kernel
theorem dX8_joined_121 : decode cX8_joined 121 = .ok (.ireturn, 1) := by decide +kernel
theorem dX9_init_0 : decode cX9_init 0 = .ok (.aload_n 0, 1) := by decide +kernel
theorem dX9_init_1 : decode cX9_init 1 = .ok (.invokespecial 1, 3) := by decide +kernel
theorem dX9_init_4 : decode cX9_init 4 = .ok (.return_, 1) := by decide +kernel
theorem dX9_likes_0 : decode cX9_likes 0 = .ok (.iload_n 2, 1) := by decide +kernel
theorem dX9_likes_1 : decode cX9_likes 1 = .ok (.ireturn, 1) := by decide +kernel
theorem dX9_keeps_0 : decode cX9_keeps 0 = .ok (.iload_n 1, 1) := by decide +kernel
theorem dX9_keeps_1 : decode cX9_keeps 1 = .ok (.ireturn, 1) := by decide +kernel
theorem dX9_offers_0 : decode cX9_offers 0 = .ok (.iload_n 2, 1) := by decide +kernel
theorem dX9_offers_1 : decode cX9_offers 1 = .ok (.ifCond .le 7, 3) := by decide +kernel
theorem dX9_offers_4 : decode cX9_offers 4 = .ok (.iload_n 1, 1) := by decide +kernel
theorem dX9_offers_5 : decode cX9_offers 5 = .ok (.goto 4, 3) := by decide +kernel
theorem dX9_offers_8 : decode cX9_offers 8 = .ok (.iconst 0, 1) := by decide +kernel
theorem dX9_offers_9 : decode cX9_offers 9 = .ok (.ireturn, 1) := by decide +kernel
theorem dX10_init_0 : decode cX10_init 0 = .ok (.aload_n 0, 1) := by decide +kernel
theorem dX10_init_1 : decode cX10_init 1 = .ok (.invokespecial 3, 3) := by decide +kernel
theorem dX10_init_4 : decode cX10_init 4 = .ok (.aload_n 0, 1) := by decide +kernel
theorem dX10_init_5 : decode cX10_init 5 = .ok (.bipush 6, 2) := by decide +kernel
theorem dX10_init_7 : decode cX10_init 7 = .ok (.newarray .int, 2) := by decide +kernel
theorem dX10_init_9 : decode cX10_init 9 = .ok (.putfield 9, 3) := by decide +kernel
theorem dX10_init_12 : decode cX10_init 12 = .ok (.aload_n 0, 1) := by decide +kernel
theorem dX10_init_13 : decode cX10_init 13 = .ok (.bipush 6, 2) := by decide +kernel
theorem dX10_init_15 : decode cX10_init 15 = .ok (.newarray .int, 2) := by decide +kernel
theorem dX10_init_17 : decode cX10_init 17 = .ok (.putfield 15, 3) := by decide +kernel
theorem dX10_init_20 : decode cX10_init 20 = .ok (.aload_n 0, 1) := by decide +kernel
theorem dX10_init_21 : decode cX10_init 21 = .ok (.bipush 6, 2) := by decide +kernel
theorem dX10_init_23 : decode cX10_init 23 = .ok (.newarray .int, 2) := by decide +kernel
theorem dX10_init_25 : decode cX10_init 25 = .ok (.putfield 18, 3) := by decide +kernel
theorem dX10_init_28 : decode cX10_init 28 = .ok (.aload_n 0, 1) := by decide +kernel
theorem dX10_init_29 : decode cX10_init 29 = .ok (.bipush 6, 2) := by decide +kernel
theorem dX10_init_31 : decode cX10_init 31 = .ok (.newarray .int, 2) := by decide +kernel
theorem dX10_init_33 : decode cX10_init 33 = .ok (.putfield 21, 3) := by decide +kernel
theorem dX10_init_36 : decode cX10_init 36 = .ok (.aload_n 0, 1) := by decide +kernel
theorem dX10_init_37 : decode cX10_init 37 = .ok (.new 24, 3) := by decide +kernel
theorem dX10_init_40 : decode cX10_init 40 = .ok (.dup, 1) := by decide +kernel
theorem dX10_init_41 : decode cX10_init 41 = .ok (.invokespecial 26, 3) := by decide +kernel
theorem dX10_init_44 : decode cX10_init 44 = .ok (.putfield 27, 3) := by decide +kernel
theorem dX10_init_47 : decode cX10_init 47 = .ok (.aload_n 0, 1) := by decide +kernel
theorem dX10_init_48 : decode cX10_init 48 = .ok (.bipush 12, 2) := by decide +kernel
theorem dX10_init_50 : decode cX10_init 50 = .ok (.newarray .int, 2) := by decide +kernel
theorem dX10_init_52 : decode cX10_init 52 = .ok (.putfield 31, 3) := by decide +kernel
theorem dX10_init_55 : decode cX10_init 55 = .ok (.aload_n 0, 1) := by decide +kernel
theorem dX10_init_56 : decode cX10_init 56 = .ok (.aload_n 1, 1) := by decide +kernel
theorem dX10_init_57 : decode cX10_init 57 = .ok (.putfield 34, 3) := by decide +kernel
theorem dX10_init_60 : decode cX10_init 60 = .ok (.return_, 1) := by decide +kernel
theorem dX10_suppose_0 : decode cX10_suppose 0 = .ok (.iconst 0, 1) := by decide +kernel
theorem dX10_suppose_1 : decode cX10_suppose 1 = .ok (.istore_n 2, 1) := by decide +kernel
theorem dX10_suppose_2 : decode cX10_suppose 2 = .ok (.iload_n 2, 1) := by decide +kernel
theorem dX10_suppose_3 : decode cX10_suppose 3 = .ok (.bipush 6, 2) := by decide +kernel
theorem dX10_suppose_5 : decode cX10_suppose 5 = .ok (.if_icmp .ge 41, 3) := by decide +kernel
theorem dX10_suppose_8 : decode cX10_suppose 8 = .ok (.aload_n 0, 1) := by decide +kernel
theorem dX10_suppose_9 : decode cX10_suppose 9 = .ok (.getfield 9, 3) := by decide +kernel
theorem dX10_suppose_12 : decode cX10_suppose 12 = .ok (.iload_n 2, 1) := by decide +kernel
theorem dX10_suppose_13 : decode cX10_suppose 13 = .ok (.aload_n 1, 1) := by decide +kernel
theorem dX10_suppose_14 : decode cX10_suppose 14 = .ok (.getfield 38, 3) := by decide +kernel
theorem dX10_suppose_17 : decode cX10_suppose 17 = .ok (.iload_n 2, 1) := by decide +kernel
theorem dX10_suppose_18 : decode cX10_suppose 18 = .ok (.invokestatic 41, 3) := by decide +kernel
theorem dX10_suppose_21 : decode cX10_suppose 21 = .ok (.invokestatic 45, 3) := by decide +kernel
theorem dX10_suppose_24 : decode cX10_suppose 24 = .ok (.aload_n 0, 1) := by decide +kernel
theorem dX10_suppose_25 : decode cX10_suppose 25 = .ok (.getfield 15, 3) := by decide +kernel
theorem dX10_suppose_28 : decode cX10_suppose 28 = .ok (.iload_n 2, 1) := by decide +kernel
theorem dX10_suppose_29 : decode cX10_suppose 29 = .ok (.aload_n 1, 1) := by decide +kernel
theorem dX10_suppose_30 : decode cX10_suppose 30 = .ok (.getfield 49, 3) := by decide +kernel
theorem dX10_suppose_33 : decode cX10_suppose 33 = .ok (.iload_n 2, 1) := by decide +kernel
theorem dX10_suppose_34 : decode cX10_suppose 34 = .ok (.invokestatic 41, 3) := by decide +kernel
theorem dX10_suppose_37 : decode cX10_suppose 37 = .ok (.invokestatic 45, 3) := by decide +kernel
theorem dX10_suppose_40 : decode cX10_suppose 40 = .ok (.iinc 2 1, 3) := by decide +kernel
theorem dX10_suppose_43 : decode cX10_suppose 43 = .ok (.goto (-41), 3) := by decide +kernel
theorem dX10_suppose_46 : decode cX10_suppose 46 = .ok (.aload_n 0, 1) := by decide +kernel
theorem dX10_suppose_47 : decode cX10_suppose 47 = .ok (.aload_n 1, 1) := by decide +kernel
theorem dX10_suppose_48 : decode cX10_suppose 48 = .ok (.getfield 50, 3) := by decide +kernel
theorem dX10_suppose_51 : decode cX10_suppose 51 = .ok (.invokevirtual 54, 3) := by decide +kernel
theorem dX10_suppose_54 : decode cX10_suppose 54 = .ok (.aload_n 0, 1) := by decide +kernel
theorem dX10_suppose_55 : decode cX10_suppose 55 = .ok (.aload_n 1, 1) := by decide +kernel
theorem dX10_suppose_56 : decode cX10_suppose 56 = .ok (.getfield 58, 3) := by decide +kernel
theorem dX10_suppose_59 : decode cX10_suppose 59 = .ok (.putfield 61, 3) := by decide +kernel
theorem dX10_suppose_62 : decode cX10_suppose 62 = .ok (.aload_n 0, 1) := by decide +kernel
theorem dX10_suppose_63 : decode cX10_suppose 63 = .ok (.iconst 0, 1) := by decide +kernel
theorem dX10_suppose_64 : decode cX10_suppose 64 = .ok (.putfield 62, 3) := by decide +kernel
theorem dX10_suppose_67 : decode cX10_suppose 67 = .ok (.return_, 1) := by decide +kernel
theorem dX10_walk_0 : decode cX10_walk 0 = .ok (.aload_n 0, 1) := by decide +kernel
theorem dX10_walk_1 : decode cX10_walk 1 = .ok (.iconst 0, 1) := by decide +kernel
theorem dX10_walk_2 : decode cX10_walk 2 = .ok (.putfield 65, 3) := by decide +kernel
theorem dX10_walk_5 : decode cX10_walk 5 = .ok (.iconst 0, 1) := by decide +kernel
theorem dX10_walk_6 : decode cX10_walk 6 = .ok (.istore 4, 2) := by decide +kernel
theorem dX10_walk_8 : decode cX10_walk 8 = .ok (.iload 4, 2) := by decide +kernel
theorem dX10_walk_10 : decode cX10_walk 10 = .ok (.iload_n 2, 1) := by decide +kernel
theorem dX10_walk_11 : decode cX10_walk 11 = .ok (.if_icmp .ge 45, 3) := by decide +kernel
theorem dX10_walk_14 : decode cX10_walk 14 = .ok (.iload 4, 2) := by decide +kernel
theorem dX10_walk_16 : decode cX10_walk 16 = .ok (.iload_n 3, 1) := by decide +kernel
theorem dX10_walk_17 : decode cX10_walk 17 = .ok (.if_icmp .ne 6, 3) := by decide +kernel
theorem dX10_walk_20 : decode cX10_walk 20 = .ok (.goto 30, 3) := by decide +kernel
theorem dX10_walk_23 : decode cX10_walk 23 = .ok (.aload_n 0, 1) := by decide +kernel
theorem dX10_walk_24 : decode cX10_walk 24 = .ok (.getfield 18, 3) := by decide +kernel
theorem dX10_walk_27 : decode cX10_walk 27 = .ok (.aload_n 0, 1) := by decide +kernel
theorem dX10_walk_28 : decode cX10_walk 28 = .ok (.getfield 65, 3) := by decide +kernel
theorem dX10_walk_31 : decode cX10_walk 31 = .ok (.aload_n 1, 1) := by decide +kernel
theorem dX10_walk_32 : decode cX10_walk 32 = .ok (.iload 4, 2) := by decide +kernel
theorem dX10_walk_34 : decode cX10_walk 34 = .ok (.invokestatic 41, 3) := by decide +kernel
theorem dX10_walk_37 : decode cX10_walk 37 = .ok (.invokestatic 45, 3) := by decide +kernel
theorem dX10_walk_40 : decode cX10_walk 40 = .ok (.aload_n 0, 1) := by decide +kernel
theorem dX10_walk_41 : decode cX10_walk 41 = .ok (.dup, 1) := by decide +kernel
theorem dX10_walk_42 : decode cX10_walk 42 = .ok (.getfield 65, 3) := by decide +kernel
theorem dX10_walk_45 : decode cX10_walk 45 = .ok (.iconst 1, 1) := by decide +kernel
theorem dX10_walk_46 : decode cX10_walk 46 = .ok (.iadd, 1) := by decide +kernel
