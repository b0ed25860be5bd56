theorem dX11_rooms_40 : decode cX11_rooms 40 = .ok (.bipush 10, 2) := by decide +kernel
theorem dX11_rooms_42 : decode cX11_rooms 42 = .ok (.idiv, 1) := by decide +kernel
theorem dX11_rooms_43 : decode cX11_rooms 43 = .ok (.bipush 10, 2) := by decide +kernel
theorem dX11_rooms_45 : decode cX11_rooms 45 = .ok (.irem, 1) := by decide +kernel
theorem dX11_rooms_46 : decode cX11_rooms 46 = .ok (.istore 7, 2) := by decide +kernel
theorem dX11_rooms_48 : decode cX11_rooms 48 = .ok (.iload 4, 2) := by decide +kernel
theorem dX11_rooms_50 : decode cX11_rooms 50 = .ok (.bipush 10, 2) := by decide +kernel
theorem dX11_rooms_52 : decode cX11_rooms 52 = .ok (.irem, 1) := by decide +kernel
theorem dX11_rooms_53 : decode cX11_rooms 53 = .ok (.istore 8, 2) := by decide +kernel
theorem dX11_rooms_55 : decode cX11_rooms 55 = .ok (.iload 7, 2) := by decide +kernel
theorem dX11_rooms_57 : decode cX11_rooms 57 = .ok (.iconst 2, 1) := by decide +kernel
theorem dX11_rooms_58 : decode cX11_rooms 58 = .ok (.invokestatic 129, 3) := by decide +kernel
theorem dX11_rooms_61 : decode cX11_rooms 61 = .ok (.ifCond .eq 12, 3) := by decide +kernel
theorem dX11_rooms_64 : decode cX11_rooms 64 = .ok (.iload 8, 2) := by decide +kernel
theorem dX11_rooms_66 : decode cX11_rooms 66 = .ok (.iconst 2, 1) := by decide +kernel
theorem dX11_rooms_67 : decode cX11_rooms 67 = .ok (.invokestatic 129, 3) := by decide +kernel
theorem dX11_rooms_70 : decode cX11_rooms 70 = .ok (.ifCond .ne 6, 3) := by decide +kernel
theorem dX11_rooms_73 : decode cX11_rooms 73 = .ok (.bipush (-7), 2) := by decide +kernel
theorem dX11_rooms_75 : decode cX11_rooms 75 = .ok (.ireturn, 1) := by decide +kernel
theorem dX11_rooms_76 : decode cX11_rooms 76 = .ok (.iconst 0, 1) := by decide +kernel
theorem dX11_rooms_77 : decode cX11_rooms 77 = .ok (.istore 9, 2) := by decide +kernel
theorem dX11_rooms_79 : decode cX11_rooms 79 = .ok (.iconst (-1), 1) := by decide +kernel
theorem dX11_rooms_80 : decode cX11_rooms 80 = .ok (.istore 10, 2) := by decide +kernel
theorem dX11_rooms_82 : decode cX11_rooms 82 = .ok (.iconst 0, 1) := by decide +kernel
theorem dX11_rooms_83 : decode cX11_rooms 83 = .ok (.istore 11, 2) := by decide +kernel
theorem dX11_rooms_85 : decode cX11_rooms 85 = .ok (.iload 11, 2) := by decide +kernel
theorem dX11_rooms_87 : decode cX11_rooms 87 = .ok (.bipush 100, 2) := by decide +kernel
theorem dX11_rooms_89 : decode cX11_rooms 89 = .ok (.if_icmp .ge 63, 3) := by decide +kernel
theorem dX11_rooms_92 : decode cX11_rooms 92 = .ok (.iload 7, 2) := by decide +kernel
theorem dX11_rooms_94 : decode cX11_rooms 94 = .ok (.ifCond .ne 17, 3) := by decide +kernel
theorem dX11_rooms_97 : decode cX11_rooms 97 = .ok (.aload_n 0, 1) := by decide +kernel
theorem dX11_rooms_98 : decode cX11_rooms 98 = .ok (.getfield 78, 3) := by decide +kernel
theorem dX11_rooms_101 : decode cX11_rooms 101 = .ok (.iload 6, 2) := by decide +kernel
theorem dX11_rooms_103 : decode cX11_rooms 103 = .ok (.iload 11, 2) := by decide +kernel
theorem dX11_rooms_105 : decode cX11_rooms 105 = .ok (.invokevirtual 266, 3) := by decide +kernel
theorem dX11_rooms_108 : decode cX11_rooms 108 = .ok (.goto 14, 3) := by decide +kernel
theorem dX11_rooms_111 : decode cX11_rooms 111 = .ok (.aload_n 0, 1) := by decide +kernel
theorem dX11_rooms_112 : decode cX11_rooms 112 = .ok (.getfield 78, 3) := by decide +kernel
theorem dX11_rooms_115 : decode cX11_rooms 115 = .ok (.iload 6, 2) := by decide +kernel
theorem dX11_rooms_117 : decode cX11_rooms 117 = .ok (.iload 11, 2) := by decide +kernel
theorem dX11_rooms_119 : decode cX11_rooms 119 = .ok (.invokevirtual 233, 3) := by decide +kernel
theorem dX11_rooms_122 : decode cX11_rooms 122 = .ok (.aload_n 0, 1) := by decide +kernel
theorem dX11_rooms_123 : decode cX11_rooms 123 = .ok (.iload_n 2, 1) := by decide +kernel
theorem dX11_rooms_124 : decode cX11_rooms 124 = .ok (.invokevirtual 249, 3) := by decide +kernel
theorem dX11_rooms_127 : decode cX11_rooms 127 = .ok (.iconst (-1), 1) := by decide +kernel
theorem dX11_rooms_128 : decode cX11_rooms 128 = .ok (.if_icmp .eq 6, 3) := by decide +kernel
theorem dX11_rooms_131 : decode cX11_rooms 131 = .ok (.goto 15, 3) := by decide +kernel
theorem dX11_rooms_134 : decode cX11_rooms 134 = .ok (.iload 9, 2) := by decide +kernel
theorem dX11_rooms_136 : decode cX11_rooms 136 = .ok (.ifCond .ne 7, 3) := by decide +kernel
theorem dX11_rooms_139 : decode cX11_rooms 139 = .ok (.iload 11, 2) := by decide +kernel
theorem dX11_rooms_141 : decode cX11_rooms 141 = .ok (.istore 10, 2) := by decide +kernel
theorem dX11_rooms_143 : decode cX11_rooms 143 = .ok (.iinc 9 1, 3) := by decide +kernel
theorem dX11_rooms_146 : decode cX11_rooms 146 = .ok (.iinc 11 1, 3) := by decide +kernel
theorem dX11_rooms_149 : decode cX11_rooms 149 = .ok (.goto (-64), 3) := by decide +kernel
theorem dX11_rooms_152 : decode cX11_rooms 152 = .ok (.iload 8, 2) := by decide +kernel
theorem dX11_rooms_154 : decode cX11_rooms 154 = .ok (.ifCond .ne 8, 3) := by decide +kernel
theorem dX11_rooms_157 : decode cX11_rooms 157 = .ok (.iload 9, 2) := by decide +kernel
theorem dX11_rooms_159 : decode cX11_rooms 159 = .ok (.goto 5, 3) := by decide +kernel
theorem dX11_rooms_162 : decode cX11_rooms 162 = .ok (.iload 10, 2) := by decide +kernel
theorem dX11_rooms_164 : decode cX11_rooms 164 = .ok (.ireturn, 1) := by decide +kernel
theorem dX11_laws_0 : decode cX11_laws 0 = .ok (.aload_n 0, 1) := by decide +kernel
theorem dX11_laws_1 : decode cX11_laws 1 = .ok (.iload_n 1, 1) := by decide +kernel
theorem dX11_laws_2 : decode cX11_laws 2 = .ok (.iload_n 2, 1) := by decide +kernel
theorem dX11_laws_3 : decode cX11_laws 3 = .ok (.iload_n 3, 1) := by decide +kernel
theorem dX11_laws_4 : decode cX11_laws 4 = .ok (.invokevirtual 245, 3) := by decide +kernel
theorem dX11_laws_7 : decode cX11_laws 7 = .ok (.istore 4, 2) := by decide +kernel
theorem dX11_laws_9 : decode cX11_laws 9 = .ok (.iload 4, 2) := by decide +kernel
theorem dX11_laws_11 : decode cX11_laws 11 = .ok (.ifCond .eq 6, 3) := by decide +kernel
theorem dX11_laws_14 : decode cX11_laws 14 = .ok (.iload 4, 2) := by decide +kernel
theorem dX11_laws_16 : decode cX11_laws 16 = .ok (.ireturn, 1) := by decide +kernel
theorem dX11_laws_17 : decode cX11_laws 17 = .ok (.iconst 0, 1) := by decide +kernel
theorem dX11_laws_18 : decode cX11_laws 18 = .ok (.istore 5, 2) := by decide +kernel
theorem dX11_laws_20 : decode cX11_laws 20 = .ok (.iconst 0, 1) := by decide +kernel
theorem dX11_laws_21 : decode cX11_laws 21 = .ok (.istore 6, 2) := by decide +kernel
theorem dX11_laws_23 : decode cX11_laws 23 = .ok (.iload 6, 2) := by decide +kernel
theorem dX11_laws_25 : decode cX11_laws 25 = .ok (.aload_n 0, 1) := by decide +kernel
theorem dX11_laws_26 : decode cX11_laws 26 = .ok (.getfield 55, 3) := by decide +kernel
theorem dX11_laws_29 : decode cX11_laws 29 = .ok (.getfield 117, 3) := by decide +kernel
theorem dX11_laws_32 : decode cX11_laws 32 = .ok (.if_icmp .ge 36, 3) := by decide +kernel
theorem dX11_laws_35 : decode cX11_laws 35 = .ok (.aload_n 0, 1) := by decide +kernel
theorem dX11_laws_36 : decode cX11_laws 36 = .ok (.getfield 78, 3) := by decide +kernel
theorem dX11_laws_39 : decode cX11_laws 39 = .ok (.iload 6, 2) := by decide +kernel
theorem dX11_laws_41 : decode cX11_laws 41 = .ok (.invokevirtual 269, 3) := by decide +kernel
theorem dX11_laws_44 : decode cX11_laws 44 = .ok (.aload_n 0, 1) := by decide +kernel
theorem dX11_laws_45 : decode cX11_laws 45 = .ok (.iload_n 2, 1) := by decide +kernel
theorem dX11_laws_46 : decode cX11_laws 46 = .ok (.invokevirtual 249, 3) := by decide +kernel
theorem dX11_laws_49 : decode cX11_laws 49 = .ok (.iconst (-1), 1) := by decide +kernel
theorem dX11_laws_50 : decode cX11_laws 50 = .ok (.if_icmp .ne 12, 3) := by decide +kernel
theorem dX11_laws_53 : decode cX11_laws 53 = .ok (.iload 5, 2) := by decide +kernel
theorem dX11_laws_55 : decode cX11_laws 55 = .ok (.iconst 1, 1) := by decide +kernel
theorem dX11_laws_56 : decode cX11_laws 56 = .ok (.iload 6, 2) := by decide +kernel
theorem dX11_laws_58 : decode cX11_laws 58 = .ok (.ishl, 1) := by decide +kernel
theorem dX11_laws_59 : decode cX11_laws 59 = .ok (.ior, 1) := by decide +kernel
theorem dX11_laws_60 : decode cX11_laws 60 = .ok (.istore 5, 2) := by decide +kernel
theorem dX11_laws_62 : decode cX11_laws 62 = .ok (.iinc 6 1, 3) := by decide +kernel
theorem dX11_laws_65 : decode cX11_laws 65 = .ok (.goto (-42), 3) := by decide +kernel
theorem dX11_laws_68 : decode cX11_laws 68 = .ok (.iload 5, 2) := by decide +kernel
theorem dX11_laws_70 : decode cX11_laws 70 = .ok (.ireturn, 1) := by decide +kernel
theorem dX11_film_0 : decode cX11_film 0 = .ok (.iload_n 1, 1) := by decide +kernel
theorem dX11_film_1 : decode cX11_film 1 = .ok (.iconst 4, 1) := by decide +kernel
theorem dX11_film_2 : decode cX11_film 2 = .ok (.invokestatic 129, 3) := by decide +kernel
theorem dX11_film_5 : decode cX11_film 5 = .ok (.ifCond .eq 16, 3) := by decide +kernel
theorem dX11_film_8 : decode cX11_film 8 = .ok (.iload_n 2, 1) := by decide +kernel
theorem dX11_film_9 : decode cX11_film 9 = .ok (.iconst 4, 1) := by decide +kernel
theorem dX11_film_10 : decode cX11_film 10 = .ok (.invokestatic 129, 3) := by decide +kernel
theorem dX11_film_13 : decode cX11_film 13 = .ok (.ifCond .eq 8, 3) := by decide +kernel
theorem dX11_film_16 : decode cX11_film 16 = .ok (.iload_n 1, 1) := by decide +kernel
theorem dX11_film_17 : decode cX11_film 17 = .ok (.iload_n 2, 1) := by decide +kernel
theorem dX11_film_18 : decode cX11_film 18 = .ok (.if_icmp .ne 6, 3) := by decide +kernel
theorem dX11_film_21 : decode cX11_film 21 = .ok (.bipush (-2), 2) := by decide +kernel
theorem dX11_film_23 : decode cX11_film 23 = .ok (.ireturn, 1) := by decide +kernel
theorem dX11_film_24 : decode cX11_film 24 = .ok (.aload_n 0, 1) := by decide +kernel
theorem dX11_film_25 : decode cX11_film 25 = .ok (.iload_n 1, 1) := by decide +kernel
theorem dX11_film_26 : decode cX11_film 26 = .ok (.invokevirtual 176, 3) := by decide +kernel
theorem dX11_film_29 : decode cX11_film 29 = .ok (.istore 4, 2) := by decide +kernel
theorem dX11_film_31 : decode cX11_film 31 = .ok (.iload 4, 2) := by decide +kernel
theorem dX11_film_33 : decode cX11_film 33 = .ok (.ifCond .eq 6, 3) := by decide +kernel
theorem dX11_film_36 : decode cX11_film 36 = .ok (.iload 4, 2) := by decide +kernel
theorem dX11_film_38 : decode cX11_film 38 = .ok (.ireturn, 1) := by decide +kernel
theorem dX11_film_39 : decode cX11_film 39 = .ok (.aload_n 0, 1) := by decide +kernel
theorem dX11_film_40 : decode cX11_film 40 = .ok (.iload_n 3, 1) := by decide +kernel
theorem dX11_film_41 : decode cX11_film 41 = .ok (.invokevirtual 151, 3) := by decide +kernel
theorem dX11_film_44 : decode cX11_film 44 = .ok (.ifCond .ne 6, 3) := by decide +kernel
theorem dX11_film_47 : decode cX11_film 47 = .ok (.bipush (-5), 2) := by decide +kernel
theorem dX11_film_49 : decode cX11_film 49 = .ok (.ireturn, 1) := by decide +kernel
theorem dX11_film_50 : decode cX11_film 50 = .ok (.aload_n 0, 1) := by decide +kernel
theorem dX11_film_51 : decode cX11_film 51 = .ok (.iload_n 3, 1) := by decide +kernel
theorem dX11_film_52 : decode cX11_film 52 = .ok (.iconst 1, 1) := by decide +kernel
theorem dX11_film_53 : decode cX11_film 53 = .ok (.invokevirtual 161, 3) := by decide +kernel
theorem dX11_film_56 : decode cX11_film 56 = .ok (.aload_n 0, 1) := by decide +kernel
theorem dX11_film_57 : decode cX11_film 57 = .ok (.getfield 71, 3) := by decide +kernel
theorem dX11_film_60 : decode cX11_film 60 = .ok (.iload_n 2, 1) := by decide +kernel
theorem dX11_film_61 : decode cX11_film 61 = .ok (.iconst 2, 1) := by decide +kernel
theorem dX11_film_62 : decode cX11_film 62 = .ok (.bipush 12, 2) := by decide +kernel
theorem dX11_film_64 : decode cX11_film 64 = .ok (.invokevirtual 272, 3) := by decide +kernel
theorem dX11_film_67 : decode cX11_film 67 = .ok (.iconst 0, 1) := by decide +kernel
theorem dX11_film_68 : decode cX11_film 68 = .ok (.istore 5, 2) := by decide +kernel
theorem dX11_film_70 : decode cX11_film 70 = .ok (.iload 5, 2) := by decide +kernel
theorem dX11_film_72 : decode cX11_film 72 = .ok (.bipush 12, 2) := by decide +kernel
theorem dX11_film_74 : decode cX11_film 74 = .ok (.if_icmp .ge 35, 3) := by decide +kernel
theorem dX11_film_77 : decode cX11_film 77 = .ok (.aload_n 0, 1) := by decide +kernel
theorem dX11_film_78 : decode cX11_film 78 = .ok (.getfield 78, 3) := by decide +kernel
theorem dX11_film_81 : decode cX11_film 81 = .ok (.iload 5, 2) := by decide +kernel
theorem dX11_film_83 : decode cX11_film 83 = .ok (.invokevirtual 227, 3) := by decide +kernel
theorem dX11_film_86 : decode cX11_film 86 = .ok (.aload_n 0, 1) := by decide +kernel
theorem dX11_film_87 : decode cX11_film 87 = .ok (.getfield 71, 3) := by decide +kernel
theorem dX11_film_90 : decode cX11_film 90 = .ok (.iload_n 2, 1) := by decide +kernel
theorem dX11_film_91 : decode cX11_film 91 = .ok (.iload 5, 2) := by decide +kernel
theorem dX11_film_93 : decode cX11_film 93 = .ok (.aload_n 0, 1) := by decide +kernel
theorem dX11_film_94 : decode cX11_film 94 = .ok (.getfield 78, 3) := by decide +kernel
theorem dX11_film_97 : decode cX11_film 97 = .ok (.invokevirtual 185, 3) := by decide +kernel
theorem dX11_film_100 : decode cX11_film 100 = .ok (.invokevirtual 276, 3) := by decide +kernel
theorem dX11_film_103 : decode cX11_film 103 = .ok (.iinc 5 1, 3) := by decide +kernel
theorem dX11_film_106 : decode cX11_film 106 = .ok (.goto (-36), 3) := by decide +kernel
theorem dX11_film_109 : decode cX11_film 109 = .ok (.aload_n 0, 1) := by decide +kernel
theorem dX11_film_110 : decode cX11_film 110 = .ok (.getfield 71, 3) := by decide +kernel
theorem dX11_film_113 : decode cX11_film 113 = .ok (.iload_n 2, 1) := by decide +kernel
theorem dX11_film_114 : decode cX11_film 114 = .ok (.aload_n 0, 1) := by decide +kernel
theorem dX11_film_115 : decode cX11_film 115 = .ok (.getfield 10, 3) := by decide +kernel
theorem dX11_film_118 : decode cX11_film 118 = .ok (.getfield 123, 3) := by decide +kernel
theorem dX11_film_121 : decode cX11_film 121 = .ok (.invokevirtual 279, 3) := by decide +kernel
theorem dX11_film_124 : decode cX11_film 124 = .ok (.ireturn, 1) := by decide +kernel
theorem dX11_drawn_0 : decode cX11_drawn 0 = .ok (.iload_n 1, 1) := by decide +kernel
theorem dX11_drawn_1 : decode cX11_drawn 1 = .ok (.ldc 169, 2) := by decide +kernel
theorem dX11_drawn_3 : decode cX11_drawn 3 = .ok (.invokestatic 129, 3) := by decide +kernel
theorem dX11_drawn_6 : decode cX11_drawn 6 = .ok (.ifCond .eq 19, 3) := by decide +kernel
theorem dX11_drawn_9 : decode cX11_drawn 9 = .ok (.aload_n 0, 1) := by decide +kernel
theorem dX11_drawn_10 : decode cX11_drawn 10 = .ok (.iload_n 2, 1) := by decide +kernel
theorem dX11_drawn_11 : decode cX11_drawn 11 = .ok (.invokevirtual 151, 3) := by decide +kernel
theorem dX11_drawn_14 : decode cX11_drawn 14 = .ok (.ifCond .eq 11, 3) := by decide +kernel
theorem dX11_drawn_17 : decode cX11_drawn 17 = .ok (.iload_n 3, 1) := by decide +kernel
theorem dX11_drawn_18 : decode cX11_drawn 18 = .ok (.iconst 3, 1) := by decide +kernel
theorem dX11_drawn_19 : decode cX11_drawn 19 = .ok (.invokestatic 129, 3) := by decide +kernel
theorem dX11_drawn_22 : decode cX11_drawn 22 = .ok (.ifCond .ne 6, 3) := by decide +kernel
theorem dX11_drawn_25 : decode cX11_drawn 25 = .ok (.ldc 181, 2) := by decide +kernel
theorem dX11_drawn_27 : decode cX11_drawn 27 = .ok (.ireturn, 1) := by decide +kernel
theorem dX11_drawn_28 : decode cX11_drawn 28 = .ok (.aload_n 0, 1) := by decide +kernel
theorem dX11_drawn_29 : decode cX11_drawn 29 = .ok (.iload_n 1, 1) := by decide +kernel
theorem dX11_drawn_30 : decode cX11_drawn 30 = .ok (.invokevirtual 282, 3) := by decide +kernel
theorem dX11_drawn_33 : decode cX11_drawn 33 = .ok (.iload_n 3, 1) := by decide +kernel
theorem dX11_drawn_34 : decode cX11_drawn 34 = .ok (.ifCond .ne 8, 3) := by decide +kernel
theorem dX11_drawn_37 : decode cX11_drawn 37 = .ok (.aload_n 0, 1) := by decide +kernel
theorem dX11_drawn_38 : decode cX11_drawn 38 = .ok (.invokevirtual 221, 3) := by decide +kernel
theorem dX11_drawn_41 : decode cX11_drawn 41 = .ok (.ireturn, 1) := by decide +kernel
theorem dX11_drawn_42 : decode cX11_drawn 42 = .ok (.aload_n 0, 1) := by decide +kernel
theorem dX11_drawn_43 : decode cX11_drawn 43 = .ok (.getfield 78, 3) := by decide +kernel
theorem dX11_drawn_46 : decode cX11_drawn 46 = .ok (.aload_n 0, 1) := by decide +kernel
theorem dX11_drawn_47 : decode cX11_drawn 47 = .ok (.getfield 10, 3) := by decide +kernel
theorem dX11_drawn_50 : decode cX11_drawn 50 = .ok (.invokevirtual 157, 3) := by decide +kernel
theorem dX11_drawn_53 : decode cX11_drawn 53 = .ok (.aload_n 0, 1) := by decide +kernel
theorem dX11_drawn_54 : decode cX11_drawn 54 = .ok (.iload_n 2, 1) := by decide +kernel
theorem dX11_drawn_55 : decode cX11_drawn 55 = .ok (.iconst 1, 1) := by decide +kernel
theorem dX11_drawn_56 : decode cX11_drawn 56 = .ok (.invokevirtual 161, 3) := by decide +kernel
theorem dX11_drawn_59 : decode cX11_drawn 59 = .ok (.aload_n 0, 1) := by decide +kernel
theorem dX11_drawn_60 : decode cX11_drawn 60 = .ok (.getfield 78, 3) := by decide +kernel
theorem dX11_drawn_63 : decode cX11_drawn 63 = .ok (.aload_n 0, 1) := by decide +kernel
theorem dX11_drawn_64 : decode cX11_drawn 64 = .ok (.getfield 82, 3) := by decide +kernel
theorem dX11_drawn_67 : decode cX11_drawn 67 = .ok (.bipush 6, 2) := by decide +kernel
theorem dX11_drawn_69 : decode cX11_drawn 69 = .ok (.iconst (-1), 1) := by decide +kernel
theorem dX11_drawn_70 : decode cX11_drawn 70 = .ok (.invokevirtual 230, 3) := by decide +kernel
theorem dX11_drawn_73 : decode cX11_drawn 73 = .ok (.iload_n 3, 1) := by decide +kernel
theorem dX11_drawn_74 : decode cX11_drawn 74 = .ok (.iconst 1, 1) := by decide +kernel
theorem dX11_drawn_75 : decode cX11_drawn 75 = .ok (.if_icmp .ne 13, 3) := by decide +kernel
theorem dX11_drawn_78 : decode cX11_drawn 78 = .ok (.aload_n 0, 1) := by decide +kernel
theorem dX11_drawn_79 : decode cX11_drawn 79 = .ok (.getfield 78, 3) := by decide +kernel
theorem dX11_drawn_82 : decode cX11_drawn 82 = .ok (.invokevirtual 182, 3) := by decide +kernel
theorem dX11_drawn_85 : decode cX11_drawn 85 = .ok (.goto 10, 3) := by decide +kernel
theorem dX11_drawn_88 : decode cX11_drawn 88 = .ok (.aload_n 0, 1) := by decide +kernel
theorem dX11_drawn_89 : decode cX11_drawn 89 = .ok (.getfield 78, 3) := by decide +kernel
theorem dX11_drawn_92 : decode cX11_drawn 92 = .ok (.invokevirtual 185, 3) := by decide +kernel
theorem dX11_drawn_95 : decode cX11_drawn 95 = .ok (.ireturn, 1) := by decide +kernel
theorem dX11_odds_0 : decode cX11_odds 0 = .ok (.iload_n 1, 1) := by decide +kernel
theorem dX11_odds_1 : decode cX11_odds 1 = .ok (.ldc 169, 2) := by decide +kernel
theorem dX11_odds_3 : decode cX11_odds 3 = .ok (.invokestatic 129, 3) := by decide +kernel
theorem dX11_odds_6 : decode cX11_odds 6 = .ok (.ifCond .eq 14, 3) := by decide +kernel
theorem dX11_odds_9 : decode cX11_odds 9 = .ok (.iload_n 2, 1) := by decide +kernel
theorem dX11_odds_10 : decode cX11_odds 10 = .ok (.iconst 1, 1) := by decide +kernel
theorem dX11_odds_11 : decode cX11_odds 11 = .ok (.if_icmp .lt 9, 3) := by decide +kernel
theorem dX11_odds_14 : decode cX11_odds 14 = .ok (.iload_n 2, 1) := by decide +kernel
theorem dX11_odds_15 : decode cX11_odds 15 = .ok (.bipush 40, 2) := by decide +kernel
theorem dX11_odds_17 : decode cX11_odds 17 = .ok (.if_icmp .le 7, 3) := by decide +kernel
theorem dX11_odds_20 : decode cX11_odds 20 = .ok (.ldc2_w 236, 3) := by decide +kernel
theorem dX11_odds_23 : decode cX11_odds 23 = .ok (.lreturn, 1) := by decide +kernel
theorem dX11_odds_24 : decode cX11_odds 24 = .ok (.iload_n 3, 1) := by decide +kernel
theorem dX11_odds_25 : decode cX11_odds 25 = .ok (.ifCond .lt 24, 3) := by decide +kernel
theorem dX11_odds_28 : decode cX11_odds 28 = .ok (.aload_n 0, 1) := by decide +kernel
theorem dX11_odds_29 : decode cX11_odds 29 = .ok (.iload_n 3, 1) := by decide +kernel
theorem dX11_odds_30 : decode cX11_odds 30 = .ok (.sipush 10000, 3) := by decide +kernel
theorem dX11_odds_33 : decode cX11_odds 33 = .ok (.idiv, 1) := by decide +kernel
theorem dX11_odds_34 : decode cX11_odds 34 = .ok (.invokevirtual 151, 3) := by decide +kernel
theorem dX11_odds_37 : decode cX11_odds 37 = .ok (.ifCond .eq 12, 3) := by decide +kernel
theorem dX11_odds_40 : decode cX11_odds 40 = .ok (.iload 4, 2) := by decide +kernel
theorem dX11_odds_42 : decode cX11_odds 42 = .ok (.iconst 2, 1) := by decide +kernel
theorem dX11_odds_43 : decode cX11_odds 43 = .ok (.invokestatic 129, 3) := by decide +kernel
theorem dX11_odds_46 : decode cX11_odds 46 = .ok (.ifCond .ne 7, 3) := by decide +kernel
theorem dX11_odds_49 : decode cX11_odds 49 = .ok (.ldc2_w 236, 3) := by decide +kernel
theorem dX11_odds_52 : decode cX11_odds 52 = .ok (.lreturn, 1) := by decide +kernel
theorem dX11_odds_53 : decode cX11_odds 53 = .ok (.aload_n 0, 1) := by decide +kernel
theorem dX11_odds_54 : decode cX11_odds 54 = .ok (.getfield 78, 3) := by decide +kernel
theorem dX11_odds_57 : decode cX11_odds 57 = .ok (.aload_n 0, 1) := by decide +kernel
theorem dX11_odds_58 : decode cX11_odds 58 = .ok (.getfield 10, 3) := by decide +kernel
theorem dX11_odds_61 : decode cX11_odds 61 = .ok (.invokevirtual 157, 3) := by decide +kernel
theorem dX11_odds_64 : decode cX11_odds 64 = .ok (.aload_n 0, 1) := by decide +kernel
theorem dX11_odds_65 : decode cX11_odds 65 = .ok (.iload_n 3, 1) := by decide +kernel
theorem dX11_odds_66 : decode cX11_odds 66 = .ok (.sipush 10000, 3) := by decide +kernel
theorem dX11_odds_69 : decode cX11_odds 69 = .ok (.idiv, 1) := by decide +kernel
theorem dX11_odds_70 : decode cX11_odds 70 = .ok (.iconst 1, 1) := by decide +kernel
theorem dX11_odds_71 : decode cX11_odds 71 = .ok (.invokevirtual 161, 3) := by decide +kernel
theorem dX11_odds_74 : decode cX11_odds 74 = .ok (.iconst 0, 1) := by decide +kernel
theorem dX11_odds_75 : decode cX11_odds 75 = .ok (.istore 5, 2) := by decide +kernel
theorem dX11_odds_77 : decode cX11_odds 77 = .ok (.iconst 0, 1) := by decide +kernel
theorem dX11_odds_78 : decode cX11_odds 78 = .ok (.istore 6, 2) := by decide +kernel
theorem dX11_odds_80 : decode cX11_odds 80 = .ok (.iload 6, 2) := by decide +kernel
theorem dX11_odds_82 : decode cX11_odds 82 = .ok (.iload_n 2, 1) := by decide +kernel
theorem dX11_odds_83 : decode cX11_odds 83 = .ok (.if_icmp .ge 49, 3) := by decide +kernel
theorem dX11_odds_86 : decode cX11_odds 86 = .ok (.aload_n 0, 1) := by decide +kernel
theorem dX11_odds_87 : decode cX11_odds 87 = .ok (.iload_n 1, 1) := by decide +kernel
theorem dX11_odds_88 : decode cX11_odds 88 = .ok (.iload 6, 2) := by decide +kernel
theorem dX11_odds_90 : decode cX11_odds 90 = .ok (.iadd, 1) := by decide +kernel
theorem dX11_odds_91 : decode cX11_odds 91 = .ok (.invokevirtual 282, 3) := by decide +kernel
theorem dX11_odds_94 : decode cX11_odds 94 = .ok (.aload_n 0, 1) := by decide +kernel
theorem dX11_odds_95 : decode cX11_odds 95 = .ok (.getfield 78, 3) := by decide +kernel
theorem dX11_odds_98 : decode cX11_odds 98 = .ok (.aload_n 0, 1) := by decide +kernel
theorem dX11_odds_99 : decode cX11_odds 99 = .ok (.getfield 82, 3) := by decide +kernel
theorem dX11_odds_102 : decode cX11_odds 102 = .ok (.bipush 6, 2) := by decide +kernel
theorem dX11_odds_104 : decode cX11_odds 104 = .ok (.iconst (-1), 1) := by decide +kernel
theorem dX11_odds_105 : decode cX11_odds 105 = .ok (.invokevirtual 230, 3) := by decide +kernel
theorem dX11_odds_108 : decode cX11_odds 108 = .ok (.aload_n 0, 1) := by decide +kernel
theorem dX11_odds_109 : decode cX11_odds 109 = .ok (.getfield 78, 3) := by decide +kernel
theorem dX11_odds_112 : decode cX11_odds 112 = .ok (.invokevirtual 185, 3) := by decide +kernel
theorem dX11_odds_115 : decode cX11_odds 115 = .ok (.iload_n 3, 1) := by decide +kernel
theorem dX11_odds_116 : decode cX11_odds 116 = .ok (.sipush 10000, 3) := by decide +kernel
theorem dX11_odds_119 : decode cX11_odds 119 = .ok (.irem, 1) := by decide +kernel
theorem dX11_odds_120 : decode cX11_odds 120 = .ok (.if_icmp .lt 6, 3) := by decide +kernel
theorem dX11_odds_123 : decode cX11_odds 123 = .ok (.iinc 5 1, 3) := by decide +kernel
theorem dX11_odds_126 : decode cX11_odds 126 = .ok (.iinc 6 1, 3) := by decide +kernel
theorem dX11_odds_129 : decode cX11_odds 129 = .ok (.goto (-49), 3) := by decide +kernel
theorem dX11_odds_132 : decode cX11_odds 132 = .ok (.iload 5, 2) := by decide +kernel
theorem dX11_odds_134 : decode cX11_odds 134 = .ok (.iload_n 2, 1) := by decide +kernel
theorem dX11_odds_135 : decode cX11_odds 135 = .ok (.iload 4, 2) := by decide +kernel
theorem dX11_odds_137 : decode cX11_odds 137 = .ok (.invokestatic 241, 3) := by decide +kernel
theorem dX11_odds_140 : decode cX11_odds 140 = .ok (.lreturn, 1) := by decide +kernel
theorem dX11_image_0 : decode cX11_image 0 = .ok (.aload_n 0, 1) := by decide +kernel
theorem dX11_image_1 : decode cX11_image 1 = .ok (.getfield 16, 3) := by decide +kernel
theorem dX11_image_4 : decode cX11_image 4 = .ok (.aload_n 0, 1) := by decide +kernel
theorem dX11_image_5 : decode cX11_image 5 = .ok (.getfield 10, 3) := by decide +kernel
theorem dX11_image_8 : decode cX11_image 8 = .ok (.invokevirtual 285, 3) := by decide +kernel
theorem dX11_image_11 : decode cX11_image 11 = .ok (.aload_n 0, 1) := by decide +kernel
theorem dX11_image_12 : decode cX11_image 12 = .ok (.iconst 1, 1) := by decide +kernel
theorem dX11_image_13 : decode cX11_image 13 = .ok (.putfield 288, 3) := by decide +kernel
theorem dX11_image_16 : decode cX11_image 16 = .ok (.aload_n 0, 1) := by decide +kernel
theorem dX11_image_17 : decode cX11_image 17 = .ok (.getfield 10, 3) := by decide +kernel
theorem dX11_image_20 : decode cX11_image 20 = .ok (.getfield 120, 3) := by decide +kernel
theorem dX11_image_23 : decode cX11_image 23 = .ok (.ireturn, 1) := by decide +kernel
theorem dX11_back_0 : decode cX11_back 0 = .ok (.aload_n 0, 1) := by decide +kernel
theorem dX11_back_1 : decode cX11_back 1 = .ok (.getfield 288, 3) := by decide +kernel
theorem dX11_back_4 : decode cX11_back 4 = .ok (.ifCond .ne 6, 3) := by decide +kernel
theorem dX11_back_7 : decode cX11_back 7 = .ok (.bipush (-3), 2) := by decide +kernel
theorem dX11_back_9 : decode cX11_back 9 = .ok (.ireturn, 1) := by decide +kernel
theorem dX11_back_10 : decode cX11_back 10 = .ok (.aload_n 0, 1) := by decide +kernel
theorem dX11_back_11 : decode cX11_back 11 = .ok (.getfield 10, 3) := by decide +kernel
theorem dX11_back_14 : decode cX11_back 14 = .ok (.aload_n 0, 1) := by decide +kernel
theorem dX11_back_15 : decode cX11_back 15 = .ok (.getfield 16, 3) := by decide +kernel
theorem dX11_back_18 : decode cX11_back 18 = .ok (.invokevirtual 285, 3) := by decide +kernel
theorem dX11_back_21 : decode cX11_back 21 = .ok (.aload_n 0, 1) := by decide +kernel
theorem dX11_back_22 : decode cX11_back 22 = .ok (.getfield 10, 3) := by decide +kernel
theorem dX11_back_25 : decode cX11_back 25 = .ok (.getfield 120, 3) := by decide +kernel
theorem dX11_back_28 : decode cX11_back 28 = .ok (.ireturn, 1) := by decide +kernel
theorem dX11_sheet_0 : decode cX11_sheet 0 = .ok (.iload_n 1, 1) := by decide +kernel
theorem dX11_sheet_1 : decode cX11_sheet 1 = .ok (.iconst 4, 1) := by decide +kernel
theorem dX11_sheet_2 : decode cX11_sheet 2 = .ok (.invokestatic 129, 3) := by decide +kernel
theorem dX11_sheet_5 : decode cX11_sheet 5 = .ok (.ifCond .eq 13, 3) := by decide +kernel
theorem dX11_sheet_8 : decode cX11_sheet 8 = .ok (.iload_n 2, 1) := by decide +kernel
theorem dX11_sheet_9 : decode cX11_sheet 9 = .ok (.iconst (-1), 1) := by decide +kernel
theorem dX11_sheet_10 : decode cX11_sheet 10 = .ok (.if_icmp .lt 8, 3) := by decide +kernel
theorem dX11_sheet_13 : decode cX11_sheet 13 = .ok (.iload_n 2, 1) := by decide +kernel
theorem dX11_sheet_14 : decode cX11_sheet 14 = .ok (.iconst 2, 1) := by decide +kernel
theorem dX11_sheet_15 : decode cX11_sheet 15 = .ok (.if_icmp .le 6, 3) := by decide +kernel
theorem dX11_sheet_18 : decode cX11_sheet 18 = .ok (.bipush (-2), 2) := by decide +kernel
theorem dX11_sheet_20 : decode cX11_sheet 20 = .ok (.ireturn, 1) := by decide +kernel
theorem dX11_sheet_21 : decode cX11_sheet 21 = .ok (.iload_n 2, 1) := by decide +kernel
theorem dX11_sheet_22 : decode cX11_sheet 22 = .ok (.iconst (-1), 1) := by decide +kernel
theorem dX11_sheet_23 : decode cX11_sheet 23 = .ok (.if_icmp .ne 15, 3) := by decide +kernel
theorem dX11_sheet_26 : decode cX11_sheet 26 = .ok (.aload_n 0, 1) := by decide +kernel
theorem dX11_sheet_27 : decode cX11_sheet 27 = .ok (.getfield 71, 3) := by decide +kernel
theorem dX11_sheet_30 : decode cX11_sheet 30 = .ok (.iload_n 1, 1) := by decide +kernel
theorem dX11_sheet_31 : decode cX11_sheet 31 = .ok (.iconst (-1), 1) := by decide +kernel
theorem dX11_sheet_32 : decode cX11_sheet 32 = .ok (.iconst 0, 1) := by decide +kernel
theorem dX11_sheet_33 : decode cX11_sheet 33 = .ok (.invokevirtual 272, 3) := by decide +kernel
theorem dX11_sheet_36 : decode cX11_sheet 36 = .ok (.iconst 1, 1) := by decide +kernel
theorem dX11_sheet_37 : decode cX11_sheet 37 = .ok (.ireturn, 1) := by decide +kernel
theorem dX11_sheet_38 : decode cX11_sheet 38 = .ok (.iload_n 3, 1) := by decide +kernel
theorem dX11_sheet_39 : decode cX11_sheet 39 = .ok (.bipush 40, 2) := by decide +kernel
theorem dX11_sheet_41 : decode cX11_sheet 41 = .ok (.if_icmp .le 6, 3) := by decide +kernel
theorem dX11_sheet_44 : decode cX11_sheet 44 = .ok (.bipush (-2), 2) := by decide +kernel
theorem dX11_sheet_46 : decode cX11_sheet 46 = .ok (.ireturn, 1) := by decide +kernel
theorem dX11_sheet_47 : decode cX11_sheet 47 = .ok (.iload_n 3, 1) := by decide +kernel
theorem dX11_sheet_48 : decode cX11_sheet 48 = .ok (.ifCond .ge 6, 3) := by decide +kernel
theorem dX11_sheet_51 : decode cX11_sheet 51 = .ok (.bipush (-14), 2) := by decide +kernel
theorem dX11_sheet_53 : decode cX11_sheet 53 = .ok (.ireturn, 1) := by decide +kernel
theorem dX11_sheet_54 : decode cX11_sheet 54 = .ok (.aload_n 0, 1) := by decide +kernel
theorem dX11_sheet_55 : decode cX11_sheet 55 = .ok (.getfield 71, 3) := by decide +kernel
theorem dX11_sheet_58 : decode cX11_sheet 58 = .ok (.iload_n 1, 1) := by decide +kernel
theorem dX11_sheet_59 : decode cX11_sheet 59 = .ok (.iload_n 2, 1) := by decide +kernel
theorem dX11_sheet_60 : decode cX11_sheet 60 = .ok (.iload_n 3, 1) := by decide +kernel
theorem dX11_sheet_61 : decode cX11_sheet 61 = .ok (.invokevirtual 272, 3) := by decide +kernel
theorem dX11_sheet_64 : decode cX11_sheet 64 = .ok (.iconst 1, 1) := by decide +kernel
theorem dX11_sheet_65 : decode cX11_sheet 65 = .ok (.ireturn, 1) := by decide +kernel
theorem dX11_cell_0 : decode cX11_cell 0 = .ok (.iload_n 1, 1) := by decide +kernel
theorem dX11_cell_1 : decode cX11_cell 1 = .ok (.iconst 4, 1) := by decide +kernel
theorem dX11_cell_2 : decode cX11_cell 2 = .ok (.invokestatic 129, 3) := by decide +kernel
theorem dX11_cell_5 : decode cX11_cell 5 = .ok (.ifCond .ne 6, 3) := by decide +kernel
theorem dX11_cell_8 : decode cX11_cell 8 = .ok (.bipush (-2), 2) := by decide +kernel
theorem dX11_cell_10 : decode cX11_cell 10 = .ok (.ireturn, 1) := by decide +kernel
theorem dX11_cell_11 : decode cX11_cell 11 = .ok (.aload_n 0, 1) := by decide +kernel
theorem dX11_cell_12 : decode cX11_cell 12 = .ok (.getfield 71, 3) := by decide +kernel
theorem dX11_cell_15 : decode cX11_cell 15 = .ok (.iload_n 1, 1) := by decide +kernel
theorem dX11_cell_16 : decode cX11_cell 16 = .ok (.invokevirtual 292, 3) := by decide +kernel
theorem dX11_cell_19 : decode cX11_cell 19 = .ok (.ifCond .eq 6, 3) := by decide +kernel
theorem dX11_cell_22 : decode cX11_cell 22 = .ok (.bipush (-11), 2) := by decide +kernel
theorem dX11_cell_24 : decode cX11_cell 24 = .ok (.ireturn, 1) := by decide +kernel
theorem dX11_cell_25 : decode cX11_cell 25 = .ok (.iload_n 2, 1) := by decide +kernel
theorem dX11_cell_26 : decode cX11_cell 26 = .ok (.aload_n 0, 1) := by decide +kernel
theorem dX11_cell_27 : decode cX11_cell 27 = .ok (.getfield 71, 3) := by decide +kernel
theorem dX11_cell_30 : decode cX11_cell 30 = .ok (.iload_n 1, 1) := by decide +kernel
theorem dX11_cell_31 : decode cX11_cell 31 = .ok (.invokevirtual 295, 3) := by decide +kernel
theorem dX11_cell_34 : decode cX11_cell 34 = .ok (.invokestatic 129, 3) := by decide +kernel
theorem dX11_cell_37 : decode cX11_cell 37 = .ok (.ifCond .ne 6, 3) := by decide +kernel
theorem dX11_cell_40 : decode cX11_cell 40 = .ok (.bipush (-12), 2) := by decide +kernel
theorem dX11_cell_42 : decode cX11_cell 42 = .ok (.ireturn, 1) := by decide +kernel
theorem dX11_cell_43 : decode cX11_cell 43 = .ok (.aload_n 0, 1) := by decide +kernel
theorem dX11_cell_44 : decode cX11_cell 44 = .ok (.getfield 71, 3) := by decide +kernel
theorem dX11_cell_47 : decode cX11_cell 47 = .ok (.iload_n 1, 1) := by decide +kernel
theorem dX11_cell_48 : decode cX11_cell 48 = .ok (.iload_n 2, 1) := by decide +kernel
theorem dX11_cell_49 : decode cX11_cell 49 = .ok (.iload_n 3, 1) := by decide +kernel
theorem dX11_cell_50 : decode cX11_cell 50 = .ok (.invokevirtual 276, 3) := by decide +kernel
theorem dX11_cell_53 : decode cX11_cell 53 = .ok (.iconst 1, 1) := by decide +kernel
theorem dX11_cell_54 : decode cX11_cell 54 = .ok (.ireturn, 1) := by decide +kernel
theorem dX11_copy_0 : decode cX11_copy 0 = .ok (.iload_n 1, 1) := by decide +kernel
theorem dX11_copy_1 : decode cX11_copy 1 = .ok (.iconst 4, 1) := by decide +kernel
theorem dX11_copy_2 : decode cX11_copy 2 = .ok (.invokestatic 129, 3) := by decide +kernel
theorem dX11_copy_5 : decode cX11_copy 5 = .ok (.ifCond .eq 11, 3) := by decide +kernel
theorem dX11_copy_8 : decode cX11_copy 8 = .ok (.iload_n 3, 1) := by decide +kernel
theorem dX11_copy_9 : decode cX11_copy 9 = .ok (.iconst 4, 1) := by decide +kernel
theorem dX11_copy_10 : decode cX11_copy 10 = .ok (.invokestatic 129, 3) := by decide +kernel
theorem dX11_copy_13 : decode cX11_copy 13 = .ok (.ifCond .ne 6, 3) := by decide +kernel
theorem dX11_copy_16 : decode cX11_copy 16 = .ok (.bipush (-2), 2) := by decide +kernel
theorem dX11_copy_18 : decode cX11_copy 18 = .ok (.ireturn, 1) := by decide +kernel
theorem dX11_copy_19 : decode cX11_copy 19 = .ok (.aload_n 0, 1) := by decide +kernel
theorem dX11_copy_20 : decode cX11_copy 20 = .ok (.getfield 71, 3) := by decide +kernel
theorem dX11_copy_23 : decode cX11_copy 23 = .ok (.iload_n 1, 1) := by decide +kernel
theorem dX11_copy_24 : decode cX11_copy 24 = .ok (.invokevirtual 292, 3) := by decide +kernel
theorem dX11_copy_27 : decode cX11_copy 27 = .ok (.ifCond .ne 14, 3) := by decide +kernel
theorem dX11_copy_30 : decode cX11_copy 30 = .ok (.aload_n 0, 1) := by decide +kernel
theorem dX11_copy_31 : decode cX11_copy 31 = .ok (.getfield 71, 3) := by decide +kernel
theorem dX11_copy_34 : decode cX11_copy 34 = .ok (.iload_n 3, 1) := by decide +kernel
theorem dX11_copy_35 : decode cX11_copy 35 = .ok (.invokevirtual 292, 3) := by decide +kernel
theorem dX11_copy_38 : decode cX11_copy 38 = .ok (.ifCond .eq 6, 3) := by decide +kernel
theorem dX11_copy_41 : decode cX11_copy 41 = .ok (.bipush (-11), 2) := by decide +kernel
theorem dX11_copy_43 : decode cX11_copy 43 = .ok (.ireturn, 1) := by decide +kernel
theorem dX11_copy_44 : decode cX11_copy 44 = .ok (.aload_n 0, 1) := by decide +kernel
theorem dX11_copy_45 : decode cX11_copy 45 = .ok (.getfield 71, 3) := by decide +kernel
theorem dX11_copy_48 : decode cX11_copy 48 = .ok (.iload_n 1, 1) := by decide +kernel
theorem dX11_copy_49 : decode cX11_copy 49 = .ok (.invokevirtual 297, 3) := by decide +kernel
theorem dX11_copy_52 : decode cX11_copy 52 = .ok (.aload_n 0, 1) := by decide +kernel
theorem dX11_copy_53 : decode cX11_copy 53 = .ok (.getfield 71, 3) := by decide +kernel
theorem dX11_copy_56 : decode cX11_copy 56 = .ok (.iload_n 3, 1) := by decide +kernel
theorem dX11_copy_57 : decode cX11_copy 57 = .ok (.invokevirtual 297, 3) := by decide +kernel
theorem dX11_copy_60 : decode cX11_copy 60 = .ok (.if_icmp .eq 6, 3) := by decide +kernel
theorem dX11_copy_63 : decode cX11_copy 63 = .ok (.bipush (-13), 2) := by decide +kernel
theorem dX11_copy_65 : decode cX11_copy 65 = .ok (.ireturn, 1) := by decide +kernel
theorem dX11_copy_66 : decode cX11_copy 66 = .ok (.aload_n 0, 1) := by decide +kernel
theorem dX11_copy_67 : decode cX11_copy 67 = .ok (.getfield 71, 3) := by decide +kernel
theorem dX11_copy_70 : decode cX11_copy 70 = .ok (.iload_n 1, 1) := by decide +kernel
theorem dX11_copy_71 : decode cX11_copy 71 = .ok (.iload_n 2, 1) := by decide +kernel
theorem dX11_copy_72 : decode cX11_copy 72 = .ok (.iload 5, 2) := by decide +kernel
theorem dX11_copy_74 : decode cX11_copy 74 = .ok (.invokevirtual 300, 3) := by decide +kernel
theorem dX11_copy_77 : decode cX11_copy 77 = .ok (.ifCond .eq 18, 3) := by decide +kernel
theorem dX11_copy_80 : decode cX11_copy 80 = .ok (.aload_n 0, 1) := by decide +kernel
theorem dX11_copy_81 : decode cX11_copy 81 = .ok (.getfield 71, 3) := by decide +kernel
theorem dX11_copy_84 : decode cX11_copy 84 = .ok (.iload_n 3, 1) := by decide +kernel
theorem dX11_copy_85 : decode cX11_copy 85 = .ok (.iload 4, 2) := by decide +kernel
theorem dX11_copy_87 : decode cX11_copy 87 = .ok (.iload 5, 2) := by decide +kernel
theorem dX11_copy_89 : decode cX11_copy 89 = .ok (.invokevirtual 300, 3) := by decide +kernel
theorem dX11_copy_92 : decode cX11_copy 92 = .ok (.ifCond .ne 6, 3) := by decide +kernel
theorem dX11_copy_95 : decode cX11_copy 95 = .ok (.bipush (-12), 2) := by decide +kernel
theorem dX11_copy_97 : decode cX11_copy 97 = .ok (.ireturn, 1) := by decide +kernel
theorem dX11_copy_98 : decode cX11_copy 98 = .ok (.aload_n 0, 1) := by decide +kernel
theorem dX11_copy_99 : decode cX11_copy 99 = .ok (.getfield 71, 3) := by decide +kernel
theorem dX11_copy_102 : decode cX11_copy 102 = .ok (.iload_n 1, 1) := by decide +kernel
theorem dX11_copy_103 : decode cX11_copy 103 = .ok (.iload_n 2, 1) := by decide +kernel
theorem dX11_copy_104 : decode cX11_copy 104 = .ok (.iload_n 3, 1) := by decide +kernel
theorem dX11_copy_105 : decode cX11_copy 105 = .ok (.iload 4, 2) := by decide +kernel
theorem dX11_copy_107 : decode cX11_copy 107 = .ok (.iload 5, 2) := by decide +kernel
theorem dX11_copy_109 : decode cX11_copy 109 = .ok (.invokevirtual 304, 3) := by decide +kernel
theorem dX11_copy_112 : decode cX11_copy 112 = .ok (.iload 5, 2) := by decide +kernel
theorem dX11_copy_114 : decode cX11_copy 114 = .ok (.ireturn, 1) := by decide +kernel
theorem dX11_viewersBy_0 : decode cX11_viewersBy 0 = .ok (.iload_n 1, 1) := by decide +kernel
theorem dX11_viewersBy_1 : decode cX11_viewersBy 1 = .ok (.iconst 4, 1) := by decide +kernel
theorem dX11_viewersBy_2 : decode cX11_viewersBy 2 = .ok (.invokestatic 129, 3) := by decide +kernel
theorem dX11_viewersBy_5 : decode cX11_viewersBy 5 = .ok (.ifCond .eq 23, 3) := by decide +kernel
theorem dX11_viewersBy_8 : decode cX11_viewersBy 8 = .ok (.iload_n 2, 1) := by decide +kernel
theorem dX11_viewersBy_9 : decode cX11_viewersBy 9 = .ok (.iconst 3, 1) := by decide +kernel
theorem dX11_viewersBy_10 : decode cX11_viewersBy 10 = .ok (.invokestatic 129, 3) := by decide +kernel
theorem dX11_viewersBy_13 : decode cX11_viewersBy 13 = .ok (.ifCond .eq 15, 3) := by decide +kernel
theorem dX11_viewersBy_16 : decode cX11_viewersBy 16 = .ok (.iload 4, 2) := by decide +kernel
theorem dX11_viewersBy_18 : decode cX11_viewersBy 18 = .ok (.ifCond .lt 10, 3) := by decide +kernel
theorem dX11_viewersBy_21 : decode cX11_viewersBy 21 = .ok (.iload 4, 2) := by decide +kernel
theorem dX11_viewersBy_23 : decode cX11_viewersBy 23 = .ok (.bipush 8, 2) := by decide +kernel
theorem dX11_viewersBy_25 : decode cX11_viewersBy 25 = .ok (.if_icmp .le 6, 3) := by decide +kernel
theorem dX11_viewersBy_28 : decode cX11_viewersBy 28 = .ok (.bipush (-2), 2) := by decide +kernel
theorem dX11_viewersBy_30 : decode cX11_viewersBy 30 = .ok (.ireturn, 1) := by decide +kernel
theorem dX11_viewersBy_31 : decode cX11_viewersBy 31 = .ok (.aload_n 0, 1) := by decide +kernel
theorem dX11_viewersBy_32 : decode cX11_viewersBy 32 = .ok (.getfield 71, 3) := by decide +kernel
theorem dX11_viewersBy_35 : decode cX11_viewersBy 35 = .ok (.iload_n 1, 1) := by decide +kernel
theorem dX11_viewersBy_36 : decode cX11_viewersBy 36 = .ok (.invokevirtual 292, 3) := by decide +kernel
theorem dX11_viewersBy_39 : decode cX11_viewersBy 39 = .ok (.ifCond .eq 6, 3) := by decide +kernel
theorem dX11_viewersBy_42 : decode cX11_viewersBy 42 = .ok (.bipush (-11), 2) := by decide +kernel
theorem dX11_viewersBy_44 : decode cX11_viewersBy 44 = .ok (.ireturn, 1) := by decide +kernel
theorem dX11_viewersBy_45 : decode cX11_viewersBy 45 = .ok (.aload_n 0, 1) := by decide +kernel
theorem dX11_viewersBy_46 : decode cX11_viewersBy 46 = .ok (.getfield 71, 3) := by decide +kernel
theorem dX11_viewersBy_49 : decode cX11_viewersBy 49 = .ok (.iload_n 1, 1) := by decide +kernel
theorem dX11_viewersBy_50 : decode cX11_viewersBy 50 = .ok (.invokevirtual 297, 3) := by decide +kernel
theorem dX11_viewersBy_53 : decode cX11_viewersBy 53 = .ok (.iload_n 2, 1) := by decide +kernel
theorem dX11_viewersBy_54 : decode cX11_viewersBy 54 = .ok (.if_icmp .eq 6, 3) := by decide +kernel
theorem dX11_viewersBy_57 : decode cX11_viewersBy 57 = .ok (.bipush (-13), 2) := by decide +kernel
theorem dX11_viewersBy_59 : decode cX11_viewersBy 59 = .ok (.ireturn, 1) := by decide +kernel
theorem dX11_viewersBy_60 : decode cX11_viewersBy 60 = .ok (.iconst 0, 1) := by decide +kernel
theorem dX11_viewersBy_61 : decode cX11_viewersBy 61 = .ok (.istore 5, 2) := by decide +kernel
theorem dX11_viewersBy_63 : decode cX11_viewersBy 63 = .ok (.iconst 0, 1) := by decide +kernel
theorem dX11_viewersBy_64 : decode cX11_viewersBy 64 = .ok (.istore 6, 2) := by decide +kernel
theorem dX11_viewersBy_66 : decode cX11_viewersBy 66 = .ok (.iload 6, 2) := by decide +kernel
theorem dX11_viewersBy_68 : decode cX11_viewersBy 68 = .ok (.iload 4, 2) := by decide +kernel
theorem dX11_viewersBy_70 : decode cX11_viewersBy 70 = .ok (.if_icmp .ge 70, 3) := by decide +kernel
theorem dX11_viewersBy_73 : decode cX11_viewersBy 73 = .ok (.aload_n 0, 1) := by decide +kernel
theorem dX11_viewersBy_74 : decode cX11_viewersBy 74 = .ok (.getfield 71, 3) := by decide +kernel
theorem dX11_viewersBy_77 : decode cX11_viewersBy 77 = .ok (.iload_n 1, 1) := by decide +kernel
theorem dX11_viewersBy_78 : decode cX11_viewersBy 78 = .ok (.iload_n 3, 1) := by decide +kernel
theorem dX11_viewersBy_79 : decode cX11_viewersBy 79 = .ok (.iconst 2, 1) := by decide +kernel
theorem dX11_viewersBy_80 : decode cX11_viewersBy 80 = .ok (.iload 6, 2) := by decide +kernel
theorem dX11_viewersBy_82 : decode cX11_viewersBy 82 = .ok (.imul, 1) := by decide +kernel
theorem dX11_viewersBy_83 : decode cX11_viewersBy 83 = .ok (.iconst 2, 1) := by decide +kernel
theorem dX11_viewersBy_84 : decode cX11_viewersBy 84 = .ok (.iadd, 1) := by decide +kernel
theorem dX11_viewersBy_85 : decode cX11_viewersBy 85 = .ok (.invokevirtual 300, 3) := by decide +kernel
theorem dX11_viewersBy_88 : decode cX11_viewersBy 88 = .ok (.ifCond .ne 6, 3) := by decide +kernel
theorem dX11_viewersBy_91 : decode cX11_viewersBy 91 = .ok (.bipush (-12), 2) := by decide +kernel
theorem dX11_viewersBy_93 : decode cX11_viewersBy 93 = .ok (.ireturn, 1) := by decide +kernel
theorem dX11_viewersBy_94 : decode cX11_viewersBy 94 = .ok (.iload_n 3, 1) := by decide +kernel
theorem dX11_viewersBy_95 : decode cX11_viewersBy 95 = .ok (.iconst 2, 1) := by decide +kernel
theorem dX11_viewersBy_96 : decode cX11_viewersBy 96 = .ok (.iload 6, 2) := by decide +kernel
theorem dX11_viewersBy_98 : decode cX11_viewersBy 98 = .ok (.imul, 1) := by decide +kernel
theorem dX11_viewersBy_99 : decode cX11_viewersBy 99 = .ok (.iadd, 1) := by decide +kernel
theorem dX11_viewersBy_100 : decode cX11_viewersBy 100 = .ok (.istore 7, 2) := by decide +kernel
theorem dX11_viewersBy_102 : decode cX11_viewersBy 102 = .ok (.aload_n 0, 1) := by decide +kernel
theorem dX11_viewersBy_103 : decode cX11_viewersBy 103 = .ok (.aload_n 0, 1) := by decide +kernel
theorem dX11_viewersBy_104 : decode cX11_viewersBy 104 = .ok (.getfield 71, 3) := by decide +kernel
theorem dX11_viewersBy_107 : decode cX11_viewersBy 107 = .ok (.iload_n 1, 1) := by decide +kernel
theorem dX11_viewersBy_108 : decode cX11_viewersBy 108 = .ok (.iload 7, 2) := by decide +kernel
theorem dX11_viewersBy_110 : decode cX11_viewersBy 110 = .ok (.invokevirtual 279, 3) := by decide +kernel
theorem dX11_viewersBy_113 : decode cX11_viewersBy 113 = .ok (.aload_n 0, 1) := by decide +kernel
theorem dX11_viewersBy_114 : decode cX11_viewersBy 114 = .ok (.getfield 71, 3) := by decide +kernel
theorem dX11_viewersBy_117 : decode cX11_viewersBy 117 = .ok (.iload_n 1, 1) := by decide +kernel
theorem dX11_viewersBy_118 : decode cX11_viewersBy 118 = .ok (.iload 7, 2) := by decide +kernel
theorem dX11_viewersBy_120 : decode cX11_viewersBy 120 = .ok (.iconst 1, 1) := by decide +kernel
theorem dX11_viewersBy_121 : decode cX11_viewersBy 121 = .ok (.iadd, 1) := by decide +kernel
theorem dX11_viewersBy_122 : decode cX11_viewersBy 122 = .ok (.invokevirtual 279, 3) := by decide +kernel
theorem dX11_viewersBy_125 : decode cX11_viewersBy 125 = .ok (.invokevirtual 308, 3) := by decide +kernel
theorem dX11_viewersBy_128 : decode cX11_viewersBy 128 = .ok (.ifCond .lt 6, 3) := by decide +kernel
theorem dX11_viewersBy_131 : decode cX11_viewersBy 131 = .ok (.iinc 5 1, 3) := by decide +kernel
theorem dX11_viewersBy_134 : decode cX11_viewersBy 134 = .ok (.iinc 6 1, 3) := by decide +kernel
theorem dX11_viewersBy_137 : decode cX11_viewersBy 137 = .ok (.goto (-71), 3) := by decide +kernel
theorem dX11_viewersBy_140 : decode cX11_viewersBy 140 = .ok (.iload 5, 2) := by decide +kernel
theorem dX11_viewersBy_142 : decode cX11_viewersBy 142 = .ok (.ireturn, 1) := by decide +kernel
theorem dX11_taken_0 : decode cX11_taken 0 = .ok (.iload_n 2, 1) := by decide +kernel
theorem dX11_taken_1 : decode cX11_taken 1 = .ok (.bipush 7, 2) := by decide +kernel
theorem dX11_taken_3 : decode cX11_taken 3 = .ok (.invokestatic 129, 3) := by decide +kernel
theorem dX11_taken_6 : decode cX11_taken 6 = .ok (.ifCond .ne 6, 3) := by decide +kernel
theorem dX11_taken_9 : decode cX11_taken 9 = .ok (.bipush (-2), 2) := by decide +kernel
theorem dX11_taken_11 : decode cX11_taken 11 = .ok (.ireturn, 1) := by decide +kernel
theorem dX11_taken_12 : decode cX11_taken 12 = .ok (.iload_n 1, 1) := by decide +kernel
theorem dX11_taken_13 : decode cX11_taken 13 = .ok (.bipush 16, 2) := by decide +kernel
theorem dX11_taken_15 : decode cX11_taken 15 = .ok (.invokestatic 129, 3) := by decide +kernel
theorem dX11_taken_18 : decode cX11_taken 18 = .ok (.ifCond .ne 6, 3) := by decide +kernel
theorem dX11_taken_21 : decode cX11_taken 21 = .ok (.bipush (-12), 2) := by decide +kernel
theorem dX11_taken_23 : decode cX11_taken 23 = .ok (.ireturn, 1) := by decide +kernel
theorem dX11_taken_24 : decode cX11_taken 24 = .ok (.iload_n 1, 1) := by decide +kernel
theorem dX11_taken_25 : decode cX11_taken 25 = .ok (.bipush 8, 2) := by decide +kernel
theorem dX11_taken_27 : decode cX11_taken 27 = .ok (.if_icmp .lt 7, 3) := by decide +kernel
theorem dX11_taken_30 : decode cX11_taken 30 = .ok (.iconst 1, 1) := by decide +kernel
theorem dX11_taken_31 : decode cX11_taken 31 = .ok (.goto 4, 3) := by decide +kernel
theorem dX11_taken_34 : decode cX11_taken 34 = .ok (.iconst 0, 1) := by decide +kernel
theorem dX11_taken_35 : decode cX11_taken 35 = .ok (.istore_n 3, 1) := by decide +kernel
theorem dX11_taken_36 : decode cX11_taken 36 = .ok (.iload_n 3, 1) := by decide +kernel
theorem dX11_taken_37 : decode cX11_taken 37 = .ok (.ifCond .eq 10, 3) := by decide +kernel
theorem dX11_taken_40 : decode cX11_taken 40 = .ok (.iload_n 1, 1) := by decide +kernel
theorem dX11_taken_41 : decode cX11_taken 41 = .ok (.bipush 8, 2) := by decide +kernel
theorem dX11_taken_43 : decode cX11_taken 43 = .ok (.isub, 1) := by decide +kernel
theorem dX11_taken_44 : decode cX11_taken 44 = .ok (.goto 4, 3) := by decide +kernel
theorem dX11_taken_47 : decode cX11_taken 47 = .ok (.iload_n 1, 1) := by decide +kernel
theorem dX11_taken_48 : decode cX11_taken 48 = .ok (.istore 4, 2) := by decide +kernel
theorem dX11_taken_50 : decode cX11_taken 50 = .ok (.aload_n 0, 1) := by decide +kernel
theorem dX11_taken_51 : decode cX11_taken 51 = .ok (.iload 4, 2) := by decide +kernel
theorem dX11_taken_53 : decode cX11_taken 53 = .ok (.invokevirtual 151, 3) := by decide +kernel
theorem dX11_taken_56 : decode cX11_taken 56 = .ok (.ifCond .ne 6, 3) := by decide +kernel
theorem dX11_taken_59 : decode cX11_taken 59 = .ok (.bipush (-11), 2) := by decide +kernel
theorem dX11_taken_61 : decode cX11_taken 61 = .ok (.ireturn, 1) := by decide +kernel
theorem dX11_taken_62 : decode cX11_taken 62 = .ok (.iload_n 2, 1) := by decide +kernel
theorem dX11_taken_63 : decode cX11_taken 63 = .ok (.bipush 6, 2) := by decide +kernel
theorem dX11_taken_65 : decode cX11_taken 65 = .ok (.if_icmp .ne 25, 3) := by decide +kernel
theorem dX11_taken_68 : decode cX11_taken 68 = .ok (.iload_n 3, 1) := by decide +kernel
theorem dX11_taken_69 : decode cX11_taken 69 = .ok (.ifCond .eq 18, 3) := by decide +kernel
theorem dX11_taken_72 : decode cX11_taken 72 = .ok (.aload_n 0, 1) := by decide +kernel
theorem dX11_taken_73 : decode cX11_taken 73 = .ok (.getfield 10, 3) := by decide +kernel
theorem dX11_taken_76 : decode cX11_taken 76 = .ok (.getfield 173, 3) := by decide +kernel
theorem dX11_taken_79 : decode cX11_taken 79 = .ok (.iload 4, 2) := by decide +kernel
theorem dX11_taken_81 : decode cX11_taken 81 = .ok (.invokestatic 139, 3) := by decide +kernel
theorem dX11_taken_84 : decode cX11_taken 84 = .ok (.goto 5, 3) := by decide +kernel
theorem dX11_taken_87 : decode cX11_taken 87 = .ok (.bipush (-13), 2) := by decide +kernel
theorem dX11_taken_89 : decode cX11_taken 89 = .ok (.ireturn, 1) := by decide +kernel
theorem dX11_taken_90 : decode cX11_taken 90 = .ok (.iload_n 3, 1) := by decide +kernel
theorem dX11_taken_91 : decode cX11_taken 91 = .ok (.ifCond .ne 28, 3) := by decide +kernel
theorem dX11_taken_94 : decode cX11_taken 94 = .ok (.aload_n 0, 1) := by decide +kernel
theorem dX11_taken_95 : decode cX11_taken 95 = .ok (.aload_n 0, 1) := by decide +kernel
theorem dX11_taken_96 : decode cX11_taken 96 = .ok (.getfield 45, 3) := by decide +kernel
theorem dX11_taken_99 : decode cX11_taken 99 = .ok (.iload 4, 2) := by decide +kernel
theorem dX11_taken_101 : decode cX11_taken 101 = .ok (.invokestatic 139, 3) := by decide +kernel
theorem dX11_taken_104 : decode cX11_taken 104 = .ok (.invokevirtual 252, 3) := by decide +kernel
theorem dX11_taken_107 : decode cX11_taken 107 = .ok (.iload_n 2, 1) := by decide +kernel
theorem dX11_taken_108 : decode cX11_taken 108 = .ok (.invokestatic 311, 3) := by decide +kernel
theorem dX11_taken_111 : decode cX11_taken 111 = .ok (.ifCond .eq 8, 3) := by decide +kernel
theorem dX11_taken_114 : decode cX11_taken 114 = .ok (.iload 4, 2) := by decide +kernel
theorem dX11_taken_116 : decode cX11_taken 116 = .ok (.goto 5, 3) := by decide +kernel
theorem dX11_taken_119 : decode cX11_taken 119 = .ok (.bipush (-13), 2) := by decide +kernel
theorem dX11_taken_121 : decode cX11_taken 121 = .ok (.ireturn, 1) := by decide +kernel
theorem dX11_within_0 : decode cX11_within 0 = .ok (.iload_n 0, 1) := by decide +kernel
theorem dX11_within_1 : decode cX11_within 1 = .ok (.ifCond .lt 12, 3) := by decide +kernel
theorem dX11_within_4 : decode cX11_within 4 = .ok (.iload_n 0, 1) := by decide +kernel
theorem dX11_within_5 : decode cX11_within 5 = .ok (.iload_n 1, 1) := by decide +kernel
theorem dX11_within_6 : decode cX11_within 6 = .ok (.if_icmp .ge 7, 3) := by decide +kernel
theorem dX11_within_9 : decode cX11_within 9 = .ok (.iconst 1, 1) := by decide +kernel
theorem dX11_within_10 : decode cX11_within 10 = .ok (.goto 4, 3) := by decide +kernel
theorem dX11_within_13 : decode cX11_within 13 = .ok (.iconst 0, 1) := by decide +kernel
theorem dX11_within_14 : decode cX11_within 14 = .ok (.ireturn, 1) := by decide +kernel
theorem dX11_isByte_0 : decode cX11_isByte 0 = .ok (.iload_n 0, 1) := by decide +kernel
theorem dX11_isByte_1 : decode cX11_isByte 1 = .ok (.sipush 256, 3) := by decide +kernel
theorem dX11_isByte_4 : decode cX11_isByte 4 = .ok (.invokestatic 129, 3) := by decide +kernel
theorem dX11_isByte_7 : decode cX11_isByte 7 = .ok (.ireturn, 1) := by decide +kernel
theorem dX11_isCrowd_0 : decode cX11_isCrowd 0 = .ok (.iload_n 0, 1) := by decide +kernel
theorem dX11_isCrowd_1 : decode cX11_isCrowd 1 = .ok (.iconst 1, 1) := by decide +kernel
theorem dX11_isCrowd_2 : decode cX11_isCrowd 2 = .ok (.if_icmp .lt 13, 3) := by decide +kernel
theorem dX11_isCrowd_5 : decode cX11_isCrowd 5 = .ok (.iload_n 0, 1) := by decide +kernel
theorem dX11_isCrowd_6 : decode cX11_isCrowd 6 = .ok (.bipush 8, 2) := by decide +kernel
theorem dX11_isCrowd_8 : decode cX11_isCrowd 8 = .ok (.if_icmp .gt 7, 3) := by decide +kernel
theorem dX11_isCrowd_11 : decode cX11_isCrowd 11 = .ok (.iconst 1, 1) := by decide +kernel
theorem dX11_isCrowd_12 : decode cX11_isCrowd 12 = .ok (.goto 4, 3) := by decide +kernel
theorem dX11_isCrowd_15 : decode cX11_isCrowd 15 = .ok (.iconst 0, 1) := by decide +kernel
theorem dX11_isCrowd_16 : decode cX11_isCrowd 16 = .ok (.ireturn, 1) := by decide +kernel
theorem dX11_isViewer_0 : decode cX11_isViewer 0 = .ok (.iload_n 1, 1) := by decide +kernel
theorem dX11_isViewer_1 : decode cX11_isViewer 1 = .ok (.aload_n 0, 1) := by decide +kernel
theorem dX11_isViewer_2 : decode cX11_isViewer 2 = .ok (.getfield 10, 3) := by decide +kernel
theorem dX11_isViewer_5 : decode cX11_isViewer 5 = .ok (.getfield 120, 3) := by decide +kernel
theorem dX11_isViewer_8 : decode cX11_isViewer 8 = .ok (.invokestatic 129, 3) := by decide +kernel
theorem dX11_isViewer_11 : decode cX11_isViewer 11 = .ok (.ireturn, 1) := by decide +kernel
theorem dX11_areViewers_0 : decode cX11_areViewers 0 = .ok (.iload_n 1, 1) := by decide +kernel
theorem dX11_areViewers_1 : decode cX11_areViewers 1 = .ok (.iconst 1, 1) := by decide +kernel
theorem dX11_areViewers_2 : decode cX11_areViewers 2 = .ok (.aload_n 0, 1) := by decide +kernel
theorem dX11_areViewers_3 : decode cX11_areViewers 3 = .ok (.getfield 10, 3) := by decide +kernel
theorem dX11_areViewers_6 : decode cX11_areViewers 6 = .ok (.getfield 120, 3) := by decide +kernel
theorem dX11_areViewers_9 : decode cX11_areViewers 9 = .ok (.ishl, 1) := by decide +kernel
theorem dX11_areViewers_10 : decode cX11_areViewers 10 = .ok (.invokestatic 129, 3) := by decide +kernel
theorem dX11_areViewers_13 : decode cX11_areViewers 13 = .ok (.ireturn, 1) := by decide +kernel
theorem dX11_bound_0 : decode cX11_bound 0 = .ok (.iload_n 0, 1) := by decide +kernel
theorem dX11_bound_1 : decode cX11_bound 1 = .ok (.iload_n 1, 1) := by decide +kernel
theorem dX11_bound_2 : decode cX11_bound 2 = .ok (.if_icmp .ge 7, 3) := by decide +kernel
theorem dX11_bound_5 : decode cX11_bound 5 = .ok (.iload_n 1, 1) := by decide +kernel
theorem dX11_bound_6 : decode cX11_bound 6 = .ok (.goto 13, 3) := by decide +kernel
theorem dX11_bound_9 : decode cX11_bound 9 = .ok (.iload_n 0, 1) := by decide +kernel
theorem dX11_bound_10 : decode cX11_bound 10 = .ok (.iload_n 2, 1) := by decide +kernel
theorem dX11_bound_11 : decode cX11_bound 11 = .ok (.if_icmp .le 7, 3) := by decide +kernel
theorem dX11_bound_14 : decode cX11_bound 14 = .ok (.iload_n 2, 1) := by decide +kernel
theorem dX11_bound_15 : decode cX11_bound 15 = .ok (.goto 4, 3) := by decide +kernel
theorem dX11_bound_18 : decode cX11_bound 18 = .ok (.iload_n 0, 1) := by decide +kernel
theorem dX11_bound_19 : decode cX11_bound 19 = .ok (.ireturn, 1) := by decide +kernel
theorem dX11_at_0 : decode cX11_at 0 = .ok (.iload_n 1, 1) := by decide +kernel
theorem dX11_at_1 : decode cX11_at 1 = .ok (.ifCond .lt 15, 3) := by decide +kernel
theorem dX11_at_4 : decode cX11_at 4 = .ok (.iload_n 1, 1) := by decide +kernel
theorem dX11_at_5 : decode cX11_at 5 = .ok (.aload_n 0, 1) := by decide +kernel
theorem dX11_at_6 : decode cX11_at 6 = .ok (.arraylength, 1) := by decide +kernel
theorem dX11_at_7 : decode cX11_at 7 = .ok (.if_icmp .ge 9, 3) := by decide +kernel
theorem dX11_at_10 : decode cX11_at 10 = .ok (.aload_n 0, 1) := by decide +kernel
theorem dX11_at_11 : decode cX11_at 11 = .ok (.iload_n 1, 1) := by decide +kernel
theorem dX11_at_12 : decode cX11_at 12 = .ok (.iaload, 1) := by decide +kernel
theorem dX11_at_13 : decode cX11_at 13 = .ok (.goto 4, 3) := by decide +kernel
theorem dX11_at_16 : decode cX11_at 16 = .ok (.iconst 0, 1) := by decide +kernel
theorem dX11_at_17 : decode cX11_at 17 = .ok (.ireturn, 1) := by decide +kernel
theorem dX11_set_0 : decode cX11_set 0 = .ok (.iload_n 1, 1) := by decide +kernel
theorem dX11_set_1 : decode cX11_set 1 = .ok (.ifCond .lt 13, 3) := by decide +kernel
theorem dX11_set_4 : decode cX11_set 4 = .ok (.iload_n 1, 1) := by decide +kernel
theorem dX11_set_5 : decode cX11_set 5 = .ok (.aload_n 0, 1) := by decide +kernel
theorem dX11_set_6 : decode cX11_set 6 = .ok (.arraylength, 1) := by decide +kernel
theorem dX11_set_7 : decode cX11_set 7 = .ok (.if_icmp .ge 7, 3) := by decide +kernel
theorem dX11_set_10 : decode cX11_set 10 = .ok (.aload_n 0, 1) := by decide +kernel
theorem dX11_set_11 : decode cX11_set 11 = .ok (.iload_n 1, 1) := by decide +kernel
theorem dX11_set_12 : decode cX11_set 12 = .ok (.iload_n 2, 1) := by decide +kernel
theorem dX11_set_13 : decode cX11_set 13 = .ok (.iastore, 1) := by decide +kernel
theorem dX11_set_14 : decode cX11_set 14 = .ok (.return_, 1) := by decide +kernel
theorem dX11_kindAt_0 : decode cX11_kindAt 0 = .ok (.iload_n 1, 1) := by decide +kernel
theorem dX11_kindAt_1 : decode cX11_kindAt 1 = .ok (.ifCond .lt 21, 3) := by decide +kernel
theorem dX11_kindAt_4 : decode cX11_kindAt 4 = .ok (.iload_n 1, 1) := by decide +kernel
theorem dX11_kindAt_5 : decode cX11_kindAt 5 = .ok (.aload_n 0, 1) := by decide +kernel
theorem dX11_kindAt_6 : decode cX11_kindAt 6 = .ok (.getfield 37, 3) := by decide +kernel
theorem dX11_kindAt_9 : decode cX11_kindAt 9 = .ok (.arraylength, 1) := by decide +kernel
theorem dX11_kindAt_10 : decode cX11_kindAt 10 = .ok (.if_icmp .ge 12, 3) := by decide +kernel
theorem dX11_kindAt_13 : decode cX11_kindAt 13 = .ok (.aload_n 0, 1) := by decide +kernel
theorem dX11_kindAt_14 : decode cX11_kindAt 14 = .ok (.getfield 37, 3) := by decide +kernel
theorem dX11_kindAt_17 : decode cX11_kindAt 17 = .ok (.iload_n 1, 1) := by decide +kernel
theorem dX11_kindAt_18 : decode cX11_kindAt 18 = .ok (.aaload, 1) := by decide +kernel
theorem dX11_kindAt_19 : decode cX11_kindAt 19 = .ok (.goto 7, 3) := by decide +kernel
theorem dX11_kindAt_22 : decode cX11_kindAt 22 = .ok (.aload_n 0, 1) := by decide +kernel
theorem dX11_kindAt_23 : decode cX11_kindAt 23 = .ok (.getfield 41, 3) := by decide +kernel
theorem dX11_kindAt_26 : decode cX11_kindAt 26 = .ok (.astore_n 2, 1) := by decide +kernel
theorem dX11_kindAt_27 : decode cX11_kindAt 27 = .ok (.aload_n 2, 1) := by decide +kernel
theorem dX11_kindAt_28 : decode cX11_kindAt 28 = .ok (.ifnonnull 10, 3) := by decide +kernel
theorem dX11_kindAt_31 : decode cX11_kindAt 31 = .ok (.aload_n 0, 1) := by decide +kernel
theorem dX11_kindAt_32 : decode cX11_kindAt 32 = .ok (.getfield 41, 3) := by decide +kernel
theorem dX11_kindAt_35 : decode cX11_kindAt 35 = .ok (.goto 4, 3) := by decide +kernel
theorem dX11_kindAt_38 : decode cX11_kindAt 38 = .ok (.aload_n 2, 1) := by decide +kernel
theorem dX11_kindAt_39 : decode cX11_kindAt 39 = .ok (.areturn, 1) := by decide +kernel
theorem dX11_isOfKind_0 : decode cX11_isOfKind 0 = .ok (.iload_n 1, 1) := by decide +kernel
theorem dX11_isOfKind_1 : decode cX11_isOfKind 1 = .ok (.tableswitch 66 0 5 #[39, 41, 46, 51, 56, 61], 39) := by decide +kernel
theorem dX11_isOfKind_40 : decode cX11_isOfKind 40 = .ok (.iconst 1, 1) := by decide +kernel
theorem dX11_isOfKind_41 : decode cX11_isOfKind 41 = .ok (.ireturn, 1) := by decide +kernel
theorem dX11_isOfKind_42 : decode cX11_isOfKind 42 = .ok (.aload_n 0, 1) := by decide +kernel
theorem dX11_isOfKind_43 : decode cX11_isOfKind 43 = .ok (.instanceof 22, 3) := by decide +kernel
theorem dX11_isOfKind_46 : decode cX11_isOfKind 46 = .ok (.ireturn, 1) := by decide +kernel
theorem dX11_isOfKind_47 : decode cX11_isOfKind 47 = .ok (.aload_n 0, 1) := by decide +kernel
theorem dX11_isOfKind_48 : decode cX11_isOfKind 48 = .ok (.instanceof 25, 3) := by decide +kernel
theorem dX11_isOfKind_51 : decode cX11_isOfKind 51 = .ok (.ireturn, 1) := by decide +kernel
theorem dX11_isOfKind_52 : decode cX11_isOfKind 52 = .ok (.aload_n 0, 1) := by decide +kernel
theorem dX11_isOfKind_53 : decode cX11_isOfKind 53 = .ok (.instanceof 28, 3) := by decide +kernel
theorem dX11_isOfKind_56 : decode cX11_isOfKind 56 = .ok (.ireturn, 1) := by decide +kernel
theorem dX11_isOfKind_57 : decode cX11_isOfKind 57 = .ok (.aload_n 0, 1) := by decide +kernel
theorem dX11_isOfKind_58 : decode cX11_isOfKind 58 = .ok (.instanceof 31, 3) := by decide +kernel
theorem dX11_isOfKind_61 : decode cX11_isOfKind 61 = .ok (.ireturn, 1) := by decide +kernel
theorem dX11_isOfKind_62 : decode cX11_isOfKind 62 = .ok (.aload_n 0, 1) := by decide +kernel
theorem dX11_isOfKind_63 : decode cX11_isOfKind 63 = .ok (.instanceof 34, 3) := by decide +kernel
theorem dX11_isOfKind_66 : decode cX11_isOfKind 66 = .ok (.ireturn, 1) := by decide +kernel
theorem dX11_isOfKind_67 : decode cX11_isOfKind 67 = .ok (.iconst 0, 1) := by decide +kernel
theorem dX11_isOfKind_68 : decode cX11_isOfKind 68 = .ok (.ireturn, 1) := by decide +kernel
theorem dX11_startTour_0 : decode cX11_startTour 0 = .ok (.iload_n 1, 1) := by decide +kernel
theorem dX11_startTour_1 : decode cX11_startTour 1 = .ok (.iconst 4, 1) := by decide +kernel
theorem dX11_startTour_2 : decode cX11_startTour 2 = .ok (.invokestatic 129, 3) := by decide +kernel
theorem dX11_startTour_5 : decode cX11_startTour 5 = .ok (.ifCond .ne 6, 3) := by decide +kernel
theorem dX11_startTour_8 : decode cX11_startTour 8 = .ok (.bipush (-2), 2) := by decide +kernel
theorem dX11_startTour_10 : decode cX11_startTour 10 = .ok (.ireturn, 1) := by decide +kernel
theorem dX11_startTour_11 : decode cX11_startTour 11 = .ok (.aload_n 0, 1) := by decide +kernel
theorem dX11_startTour_12 : decode cX11_startTour 12 = .ok (.getfield 71, 3) := by decide +kernel
theorem dX11_startTour_15 : decode cX11_startTour 15 = .ok (.iload_n 1, 1) := by decide +kernel
theorem dX11_startTour_16 : decode cX11_startTour 16 = .ok (.invokevirtual 292, 3) := by decide +kernel
theorem dX11_startTour_19 : decode cX11_startTour 19 = .ok (.ifCond .eq 6, 3) := by decide +kernel
theorem dX11_startTour_22 : decode cX11_startTour 22 = .ok (.bipush (-11), 2) := by decide +kernel
theorem dX11_startTour_24 : decode cX11_startTour 24 = .ok (.ireturn, 1) := by decide +kernel
theorem dX11_startTour_25 : decode cX11_startTour 25 = .ok (.aload_n 0, 1) := by decide +kernel
theorem dX11_startTour_26 : decode cX11_startTour 26 = .ok (.getfield 71, 3) := by decide +kernel
theorem dX11_startTour_29 : decode cX11_startTour 29 = .ok (.iload_n 1, 1) := by decide +kernel
theorem dX11_startTour_30 : decode cX11_startTour 30 = .ok (.invokevirtual 315, 3) := by decide +kernel
theorem dX11_startTour_33 : decode cX11_startTour 33 = .ok (.ifCond .ne 6, 3) := by decide +kernel
theorem dX11_startTour_36 : decode cX11_startTour 36 = .ok (.bipush (-2), 2) := by decide +kernel
theorem dX11_startTour_38 : decode cX11_startTour 38 = .ok (.ireturn, 1) := by decide +kernel
theorem dX11_startTour_39 : decode cX11_startTour 39 = .ok (.aload_n 0, 1) := by decide +kernel
theorem dX11_startTour_40 : decode cX11_startTour 40 = .ok (.aload_n 0, 1) := by decide +kernel
theorem dX11_startTour_41 : decode cX11_startTour 41 = .ok (.getfield 71, 3) := by decide +kernel
theorem dX11_startTour_44 : decode cX11_startTour 44 = .ok (.iload_n 1, 1) := by decide +kernel
theorem dX11_startTour_45 : decode cX11_startTour 45 = .ok (.invokevirtual 295, 3) := by decide +kernel
theorem dX11_startTour_48 : decode cX11_startTour 48 = .ok (.putfield 188, 3) := by decide +kernel
theorem dX11_startTour_51 : decode cX11_startTour 51 = .ok (.iconst 0, 1) := by decide +kernel
theorem dX11_startTour_52 : decode cX11_startTour 52 = .ok (.istore_n 2, 1) := by decide +kernel
theorem dX11_startTour_53 : decode cX11_startTour 53 = .ok (.iload_n 2, 1) := by decide +kernel
theorem dX11_startTour_54 : decode cX11_startTour 54 = .ok (.aload_n 0, 1) := by decide +kernel
theorem dX11_startTour_55 : decode cX11_startTour 55 = .ok (.getfield 188, 3) := by decide +kernel
theorem dX11_startTour_58 : decode cX11_startTour 58 = .ok (.if_icmp .ge 26, 3) := by decide +kernel
theorem dX11_startTour_61 : decode cX11_startTour 61 = .ok (.aload_n 0, 1) := by decide +kernel
theorem dX11_startTour_62 : decode cX11_startTour 62 = .ok (.getfield 85, 3) := by decide +kernel
theorem dX11_startTour_65 : decode cX11_startTour 65 = .ok (.iload_n 2, 1) := by decide +kernel
theorem dX11_startTour_66 : decode cX11_startTour 66 = .ok (.aload_n 0, 1) := by decide +kernel
theorem dX11_startTour_67 : decode cX11_startTour 67 = .ok (.getfield 71, 3) := by decide +kernel
theorem dX11_startTour_70 : decode cX11_startTour 70 = .ok (.iload_n 1, 1) := by decide +kernel
theorem dX11_startTour_71 : decode cX11_startTour 71 = .ok (.iload_n 2, 1) := by decide +kernel
theorem dX11_startTour_72 : decode cX11_startTour 72 = .ok (.invokevirtual 279, 3) := by decide +kernel
theorem dX11_startTour_75 : decode cX11_startTour 75 = .ok (.invokestatic 143, 3) := by decide +kernel
theorem dX11_startTour_78 : decode cX11_startTour 78 = .ok (.iinc 2 1, 3) := by decide +kernel
theorem dX11_startTour_81 : decode cX11_startTour 81 = .ok (.goto (-28), 3) := by decide +kernel
theorem dX11_startTour_84 : decode cX11_startTour 84 = .ok (.aload_n 0, 1) := by decide +kernel
theorem dX11_startTour_85 : decode cX11_startTour 85 = .ok (.getfield 78, 3) := by decide +kernel
theorem dX11_startTour_88 : decode cX11_startTour 88 = .ok (.aload_n 0, 1) := by decide +kernel
theorem dX11_startTour_89 : decode cX11_startTour 89 = .ok (.getfield 10, 3) := by decide +kernel
theorem dX11_startTour_92 : decode cX11_startTour 92 = .ok (.invokevirtual 157, 3) := by decide +kernel
theorem dX11_startTour_95 : decode cX11_startTour 95 = .ok (.aload_n 0, 1) := by decide +kernel
theorem dX11_startTour_96 : decode cX11_startTour 96 = .ok (.getfield 78, 3) := by decide +kernel
theorem dX11_startTour_99 : decode cX11_startTour 99 = .ok (.aload_n 0, 1) := by decide +kernel
theorem dX11_startTour_100 : decode cX11_startTour 100 = .ok (.getfield 85, 3) := by decide +kernel
theorem dX11_startTour_103 : decode cX11_startTour 103 = .ok (.aload_n 0, 1) := by decide +kernel
theorem dX11_startTour_104 : decode cX11_startTour 104 = .ok (.getfield 188, 3) := by decide +kernel
theorem dX11_startTour_107 : decode cX11_startTour 107 = .ok (.iconst (-1), 1) := by decide +kernel
theorem dX11_startTour_108 : decode cX11_startTour 108 = .ok (.invokevirtual 230, 3) := by decide +kernel
theorem dX11_startTour_111 : decode cX11_startTour 111 = .ok (.iconst 0, 1) := by decide +kernel
theorem dX11_startTour_112 : decode cX11_startTour 112 = .ok (.ireturn, 1) := by decide +kernel
theorem dX11_startTold_0 : decode cX11_startTold 0 = .ok (.iload_n 1, 1) := by decide +kernel
theorem dX11_startTold_1 : decode cX11_startTold 1 = .ok (.iconst 4, 1) := by decide +kernel
theorem dX11_startTold_2 : decode cX11_startTold 2 = .ok (.invokestatic 129, 3) := by decide +kernel
theorem dX11_startTold_5 : decode cX11_startTold 5 = .ok (.ifCond .eq 11, 3) := by decide +kernel
theorem dX11_startTold_8 : decode cX11_startTold 8 = .ok (.iload_n 2, 1) := by decide +kernel
theorem dX11_startTold_9 : decode cX11_startTold 9 = .ok (.iconst 4, 1) := by decide +kernel
theorem dX11_startTold_10 : decode cX11_startTold 10 = .ok (.invokestatic 129, 3) := by decide +kernel
theorem dX11_startTold_13 : decode cX11_startTold 13 = .ok (.ifCond .ne 6, 3) := by decide +kernel
theorem dX11_startTold_16 : decode cX11_startTold 16 = .ok (.bipush (-2), 2) := by decide +kernel
theorem dX11_startTold_18 : decode cX11_startTold 18 = .ok (.ireturn, 1) := by decide +kernel
theorem dX11_startTold_19 : decode cX11_startTold 19 = .ok (.aload_n 0, 1) := by decide +kernel
theorem dX11_startTold_20 : decode cX11_startTold 20 = .ok (.getfield 71, 3) := by decide +kernel
theorem dX11_startTold_23 : decode cX11_startTold 23 = .ok (.iload_n 1, 1) := by decide +kernel
theorem dX11_startTold_24 : decode cX11_startTold 24 = .ok (.invokevirtual 292, 3) := by decide +kernel
theorem dX11_startTold_27 : decode cX11_startTold 27 = .ok (.ifCond .ne 14, 3) := by decide +kernel
theorem dX11_startTold_30 : decode cX11_startTold 30 = .ok (.aload_n 0, 1) := by decide +kernel
theorem dX11_startTold_31 : decode cX11_startTold 31 = .ok (.getfield 71, 3) := by decide +kernel
theorem dX11_startTold_34 : decode cX11_startTold 34 = .ok (.iload_n 2, 1) := by decide +kernel
theorem dX11_startTold_35 : decode cX11_startTold 35 = .ok (.invokevirtual 292, 3) := by decide +kernel
theorem dX11_startTold_38 : decode cX11_startTold 38 = .ok (.ifCond .eq 6, 3) := by decide +kernel
theorem dX11_startTold_41 : decode cX11_startTold 41 = .ok (.bipush (-11), 2) := by decide +kernel
theorem dX11_startTold_43 : decode cX11_startTold 43 = .ok (.ireturn, 1) := by decide +kernel
theorem dX11_startTold_44 : decode cX11_startTold 44 = .ok (.aload_n 0, 1) := by decide +kernel
theorem dX11_startTold_45 : decode cX11_startTold 45 = .ok (.iload_n 1, 1) := by decide +kernel
theorem dX11_startTold_46 : decode cX11_startTold 46 = .ok (.invokevirtual 176, 3) := by decide +kernel
theorem dX11_startTold_49 : decode cX11_startTold 49 = .ok (.istore 4, 2) := by decide +kernel
theorem dX11_startTold_51 : decode cX11_startTold 51 = .ok (.iload 4, 2) := by decide +kernel
theorem dX11_startTold_53 : decode cX11_startTold 53 = .ok (.ifCond .eq 6, 3) := by decide +kernel
theorem dX11_startTold_56 : decode cX11_startTold 56 = .ok (.iload 4, 2) := by decide +kernel
theorem dX11_startTold_58 : decode cX11_startTold 58 = .ok (.ireturn, 1) := by decide +kernel
theorem dX11_startTold_59 : decode cX11_startTold 59 = .ok (.aload_n 0, 1) := by decide +kernel
theorem dX11_startTold_60 : decode cX11_startTold 60 = .ok (.getfield 71, 3) := by decide +kernel
theorem dX11_startTold_63 : decode cX11_startTold 63 = .ok (.iload_n 2, 1) := by decide +kernel
theorem dX11_startTold_64 : decode cX11_startTold 64 = .ok (.invokevirtual 295, 3) := by decide +kernel
theorem dX11_startTold_67 : decode cX11_startTold 67 = .ok (.bipush 12, 2) := by decide +kernel
theorem dX11_startTold_69 : decode cX11_startTold 69 = .ok (.if_icmp .le 6, 3) := by decide +kernel
theorem dX11_startTold_72 : decode cX11_startTold 72 = .ok (.bipush (-2), 2) := by decide +kernel
theorem dX11_startTold_74 : decode cX11_startTold 74 = .ok (.ireturn, 1) := by decide +kernel
theorem dX11_startTold_75 : decode cX11_startTold 75 = .ok (.aload_n 0, 1) := by decide +kernel
theorem dX11_startTold_76 : decode cX11_startTold 76 = .ok (.iload_n 3, 1) := by decide +kernel
theorem dX11_startTold_77 : decode cX11_startTold 77 = .ok (.invokevirtual 151, 3) := by decide +kernel
theorem dX11_startTold_80 : decode cX11_startTold 80 = .ok (.ifCond .ne 6, 3) := by decide +kernel
theorem dX11_startTold_83 : decode cX11_startTold 83 = .ok (.bipush (-5), 2) := by decide +kernel
theorem dX11_startTold_85 : decode cX11_startTold 85 = .ok (.ireturn, 1) := by decide +kernel
theorem dX11_startTold_86 : decode cX11_startTold 86 = .ok (.aload_n 0, 1) := by decide +kernel
theorem dX11_startTold_87 : decode cX11_startTold 87 = .ok (.iload_n 3, 1) := by decide +kernel
theorem dX11_startTold_88 : decode cX11_startTold 88 = .ok (.iconst 1, 1) := by decide +kernel
theorem dX11_startTold_89 : decode cX11_startTold 89 = .ok (.invokevirtual 161, 3) := by decide +kernel
theorem dX11_startTold_92 : decode cX11_startTold 92 = .ok (.iconst 0, 1) := by decide +kernel
theorem dX11_startTold_93 : decode cX11_startTold 93 = .ok (.ireturn, 1) := by decide +kernel
theorem dX11_letCome_0 : decode cX11_letCome 0 = .ok (.aload_n 0, 1) := by decide +kernel
theorem dX11_letCome_1 : decode cX11_letCome 1 = .ok (.getfield 78, 3) := by decide +kernel
theorem dX11_letCome_4 : decode cX11_letCome 4 = .ok (.aload_n 0, 1) := by decide +kernel
theorem dX11_letCome_5 : decode cX11_letCome 5 = .ok (.aload_n 0, 1) := by decide +kernel
theorem dX11_letCome_6 : decode cX11_letCome 6 = .ok (.getfield 45, 3) := by decide +kernel
theorem dX11_letCome_9 : decode cX11_letCome 9 = .ok (.iload_n 1, 1) := by decide +kernel
theorem dX11_letCome_10 : decode cX11_letCome 10 = .ok (.invokestatic 139, 3) := by decide +kernel
theorem dX11_letCome_13 : decode cX11_letCome 13 = .ok (.invokevirtual 252, 3) := by decide +kernel
theorem dX11_letCome_16 : decode cX11_letCome 16 = .ok (.invokevirtual 256, 3) := by decide +kernel
theorem dX11_letCome_19 : decode cX11_letCome 19 = .ok (.aload_n 0, 1) := by decide +kernel
theorem dX11_letCome_20 : decode cX11_letCome 20 = .ok (.getfield 78, 3) := by decide +kernel
theorem dX11_letCome_23 : decode cX11_letCome 23 = .ok (.aload_n 0, 1) := by decide +kernel
theorem dX11_letCome_24 : decode cX11_letCome 24 = .ok (.getfield 49, 3) := by decide +kernel
theorem dX11_letCome_27 : decode cX11_letCome 27 = .ok (.iload_n 1, 1) := by decide +kernel
theorem dX11_letCome_28 : decode cX11_letCome 28 = .ok (.invokestatic 139, 3) := by decide +kernel
theorem dX11_letCome_31 : decode cX11_letCome 31 = .ok (.invokevirtual 260, 3) := by decide +kernel
theorem dX11_letCome_34 : decode cX11_letCome 34 = .ok (.aload_n 0, 1) := by decide +kernel
theorem dX11_letCome_35 : decode cX11_letCome 35 = .ok (.getfield 78, 3) := by decide +kernel
theorem dX11_letCome_38 : decode cX11_letCome 38 = .ok (.aload_n 0, 1) := by decide +kernel
theorem dX11_letCome_39 : decode cX11_letCome 39 = .ok (.getfield 10, 3) := by decide +kernel
theorem dX11_letCome_42 : decode cX11_letCome 42 = .ok (.getfield 170, 3) := by decide +kernel
theorem dX11_letCome_45 : decode cX11_letCome 45 = .ok (.iload_n 1, 1) := by decide +kernel
theorem dX11_letCome_46 : decode cX11_letCome 46 = .ok (.invokestatic 139, 3) := by decide +kernel
theorem dX11_letCome_49 : decode cX11_letCome 49 = .ok (.invokevirtual 263, 3) := by decide +kernel
theorem dX11_letCome_52 : decode cX11_letCome 52 = .ok (.aload_n 0, 1) := by decide +kernel
theorem dX11_letCome_53 : decode cX11_letCome 53 = .ok (.getfield 78, 3) := by decide +kernel
theorem dX11_letCome_56 : decode cX11_letCome 56 = .ok (.iload_n 2, 1) := by decide +kernel
theorem dX11_letCome_57 : decode cX11_letCome 57 = .ok (.invokevirtual 318, 3) := by decide +kernel
theorem dX11_letCome_60 : decode cX11_letCome 60 = .ok (.return_, 1) := by decide +kernel
theorem dX11_firstOtherwise_0 : decode cX11_firstOtherwise 0 = .ok (.aload_n 0, 1) := by decide +kernel
theorem dX11_firstOtherwise_1 : decode cX11_firstOtherwise 1 = .ok (.getfield 71, 3) := by decide +kernel
theorem dX11_firstOtherwise_4 : decode cX11_firstOtherwise 4 = .ok (.iload_n 1, 1) := by decide +kernel
theorem dX11_firstOtherwise_5 : decode cX11_firstOtherwise 5 = .ok (.invokevirtual 295, 3) := by decide +kernel
theorem dX11_firstOtherwise_8 : decode cX11_firstOtherwise 8 = .ok (.istore_n 2, 1) := by decide +kernel
theorem dX11_firstOtherwise_9 : decode cX11_firstOtherwise 9 = .ok (.iconst 0, 1) := by decide +kernel
theorem dX11_firstOtherwise_10 : decode cX11_firstOtherwise 10 = .ok (.istore_n 3, 1) := by decide +kernel
theorem dX11_firstOtherwise_11 : decode cX11_firstOtherwise 11 = .ok (.iload_n 3, 1) := by decide +kernel
theorem dX11_firstOtherwise_12 : decode cX11_firstOtherwise 12 = .ok (.iload_n 2, 1) := by decide +kernel
theorem dX11_firstOtherwise_13 : decode cX11_firstOtherwise 13 = .ok (.if_icmp .ge 38, 3) := by decide +kernel
theorem dX11_firstOtherwise_16 : decode cX11_firstOtherwise 16 = .ok (.aload_n 0, 1) := by decide +kernel
theorem dX11_firstOtherwise_17 : decode cX11_firstOtherwise 17 = .ok (.getfield 78, 3) := by decide +kernel
theorem dX11_firstOtherwise_20 : decode cX11_firstOtherwise 20 = .ok (.iload_n 3, 1) := by decide +kernel
theorem dX11_firstOtherwise_21 : decode cX11_firstOtherwise 21 = .ok (.invokevirtual 227, 3) := by decide +kernel
theorem dX11_firstOtherwise_24 : decode cX11_firstOtherwise 24 = .ok (.aload_n 0, 1) := by decide +kernel
theorem dX11_firstOtherwise_25 : decode cX11_firstOtherwise 25 = .ok (.getfield 78, 3) := by decide +kernel
theorem dX11_firstOtherwise_28 : decode cX11_firstOtherwise 28 = .ok (.invokevirtual 185, 3) := by decide +kernel
theorem dX11_firstOtherwise_31 : decode cX11_firstOtherwise 31 = .ok (.aload_n 0, 1) := by decide +kernel
theorem dX11_firstOtherwise_32 : decode cX11_firstOtherwise 32 = .ok (.getfield 71, 3) := by decide +kernel
theorem dX11_firstOtherwise_35 : decode cX11_firstOtherwise 35 = .ok (.iload_n 1, 1) := by decide +kernel
theorem dX11_firstOtherwise_36 : decode cX11_firstOtherwise 36 = .ok (.iload_n 3, 1) := by decide +kernel
theorem dX11_firstOtherwise_37 : decode cX11_firstOtherwise 37 = .ok (.invokevirtual 279, 3) := by decide +kernel
theorem dX11_firstOtherwise_40 : decode cX11_firstOtherwise 40 = .ok (.if_icmp .eq 5, 3) := by decide +kernel
theorem dX11_firstOtherwise_43 : decode cX11_firstOtherwise 43 = .ok (.iload_n 3, 1) := by decide +kernel
theorem dX11_firstOtherwise_44 : decode cX11_firstOtherwise 44 = .ok (.ireturn, 1) := by decide +kernel
theorem dX11_firstOtherwise_45 : decode cX11_firstOtherwise 45 = .ok (.iinc 3 1, 3) := by decide +kernel
theorem dX11_firstOtherwise_48 : decode cX11_firstOtherwise 48 = .ok (.goto (-37), 3) := by decide +kernel
theorem dX11_firstOtherwise_51 : decode cX11_firstOtherwise 51 = .ok (.iconst (-1), 1) := by decide +kernel
theorem dX11_firstOtherwise_52 : decode cX11_firstOtherwise 52 = .ok (.ireturn, 1) := by decide +kernel
theorem dX11_fillOffers_0 : decode cX11_fillOffers 0 = .ok (.iconst 0, 1) := by decide +kernel
theorem dX11_fillOffers_1 : decode cX11_fillOffers 1 = .ok (.istore_n 3, 1) := by decide +kernel
theorem dX11_fillOffers_2 : decode cX11_fillOffers 2 = .ok (.iload_n 3, 1) := by decide +kernel
theorem dX11_fillOffers_3 : decode cX11_fillOffers 3 = .ok (.aload_n 0, 1) := by decide +kernel
theorem dX11_fillOffers_4 : decode cX11_fillOffers 4 = .ok (.getfield 10, 3) := by decide +kernel
theorem dX11_fillOffers_7 : decode cX11_fillOffers 7 = .ok (.getfield 120, 3) := by decide +kernel
theorem dX11_fillOffers_10 : decode cX11_fillOffers 10 = .ok (.if_icmp .ge 41, 3) := by decide +kernel
theorem dX11_fillOffers_13 : decode cX11_fillOffers 13 = .ok (.iload_n 1, 1) := by decide +kernel
theorem dX11_fillOffers_14 : decode cX11_fillOffers 14 = .ok (.iload_n 3, 1) := by decide +kernel
theorem dX11_fillOffers_15 : decode cX11_fillOffers 15 = .ok (.ishr, 1) := by decide +kernel
theorem dX11_fillOffers_16 : decode cX11_fillOffers 16 = .ok (.iconst 1, 1) := by decide +kernel
theorem dX11_fillOffers_17 : decode cX11_fillOffers 17 = .ok (.iand, 1) := by decide +kernel
theorem dX11_fillOffers_18 : decode cX11_fillOffers 18 = .ok (.ifCond .ne 6, 3) := by decide +kernel
theorem dX11_fillOffers_21 : decode cX11_fillOffers 21 = .ok (.goto 24, 3) := by decide +kernel
theorem dX11_fillOffers_24 : decode cX11_fillOffers 24 = .ok (.aload_n 0, 1) := by decide +kernel
theorem dX11_fillOffers_25 : decode cX11_fillOffers 25 = .ok (.iload_n 3, 1) := by decide +kernel
theorem dX11_fillOffers_26 : decode cX11_fillOffers 26 = .ok (.iload_n 2, 1) := by decide +kernel
theorem dX11_fillOffers_27 : decode cX11_fillOffers 27 = .ok (.invokevirtual 161, 3) := by decide +kernel
theorem dX11_fillOffers_30 : decode cX11_fillOffers 30 = .ok (.aload_n 0, 1) := by decide +kernel
theorem dX11_fillOffers_31 : decode cX11_fillOffers 31 = .ok (.getfield 91, 3) := by decide +kernel
theorem dX11_fillOffers_34 : decode cX11_fillOffers 34 = .ok (.iload_n 3, 1) := by decide +kernel
theorem dX11_fillOffers_35 : decode cX11_fillOffers 35 = .ok (.aload_n 0, 1) := by decide +kernel
theorem dX11_fillOffers_36 : decode cX11_fillOffers 36 = .ok (.getfield 78, 3) := by decide +kernel
theorem dX11_fillOffers_39 : decode cX11_fillOffers 39 = .ok (.invokevirtual 185, 3) := by decide +kernel
theorem dX11_fillOffers_42 : decode cX11_fillOffers 42 = .ok (.invokestatic 143, 3) := by decide +kernel
theorem dX11_fillOffers_45 : decode cX11_fillOffers 45 = .ok (.iinc 3 1, 3) := by decide +kernel
theorem dX11_fillOffers_48 : decode cX11_fillOffers 48 = .ok (.goto (-46), 3) := by decide +kernel
theorem dX11_fillOffers_51 : decode cX11_fillOffers 51 = .ok (.return_, 1) := by decide +kernel
theorem dX11_firstOfMost_0 : decode cX11_firstOfMost 0 = .ok (.iconst (-1), 1) := by decide +kernel
theorem dX11_firstOfMost_1 : decode cX11_firstOfMost 1 = .ok (.istore_n 2, 1) := by decide +kernel
theorem dX11_firstOfMost_2 : decode cX11_firstOfMost 2 = .ok (.iconst 0, 1) := by decide +kernel
theorem dX11_firstOfMost_3 : decode cX11_firstOfMost 3 = .ok (.istore_n 3, 1) := by decide +kernel
theorem dX11_firstOfMost_4 : decode cX11_firstOfMost 4 = .ok (.iload_n 3, 1) := by decide +kernel
theorem dX11_firstOfMost_5 : decode cX11_firstOfMost 5 = .ok (.aload_n 0, 1) := by decide +kernel
theorem dX11_firstOfMost_6 : decode cX11_firstOfMost 6 = .ok (.getfield 10, 3) := by decide +kernel
theorem dX11_firstOfMost_9 : decode cX11_firstOfMost 9 = .ok (.getfield 120, 3) := by decide +kernel
theorem dX11_firstOfMost_12 : decode cX11_firstOfMost 12 = .ok (.if_icmp .ge 46, 3) := by decide +kernel
theorem dX11_firstOfMost_15 : decode cX11_firstOfMost 15 = .ok (.iload_n 1, 1) := by decide +kernel
theorem dX11_firstOfMost_16 : decode cX11_firstOfMost 16 = .ok (.iload_n 3, 1) := by decide +kernel
theorem dX11_firstOfMost_17 : decode cX11_firstOfMost 17 = .ok (.ishr, 1) := by decide +kernel
theorem dX11_firstOfMost_18 : decode cX11_firstOfMost 18 = .ok (.iconst 1, 1) := by decide +kernel
theorem dX11_firstOfMost_19 : decode cX11_firstOfMost 19 = .ok (.iand, 1) := by decide +kernel
theorem dX11_firstOfMost_20 : decode cX11_firstOfMost 20 = .ok (.ifCond .ne 6, 3) := by decide +kernel
theorem dX11_firstOfMost_23 : decode cX11_firstOfMost 23 = .ok (.goto 29, 3) := by decide +kernel
theorem dX11_firstOfMost_26 : decode cX11_firstOfMost 26 = .ok (.iload_n 2, 1) := by decide +kernel
theorem dX11_firstOfMost_27 : decode cX11_firstOfMost 27 = .ok (.iconst (-1), 1) := by decide +kernel
theorem dX11_firstOfMost_28 : decode cX11_firstOfMost 28 = .ok (.if_icmp .eq 22, 3) := by decide +kernel
theorem dX11_firstOfMost_31 : decode cX11_firstOfMost 31 = .ok (.aload_n 0, 1) := by decide +kernel
theorem dX11_firstOfMost_32 : decode cX11_firstOfMost 32 = .ok (.getfield 91, 3) := by decide +kernel
theorem dX11_firstOfMost_35 : decode cX11_firstOfMost 35 = .ok (.iload_n 3, 1) := by decide +kernel
theorem dX11_firstOfMost_36 : decode cX11_firstOfMost 36 = .ok (.invokestatic 139, 3) := by decide +kernel
theorem dX11_firstOfMost_39 : decode cX11_firstOfMost 39 = .ok (.aload_n 0, 1) := by decide +kernel
theorem dX11_firstOfMost_40 : decode cX11_firstOfMost 40 = .ok (.getfield 91, 3) := by decide +kernel
theorem dX11_firstOfMost_43 : decode cX11_firstOfMost 43 = .ok (.iload_n 2, 1) := by decide +kernel
theorem dX11_firstOfMost_44 : decode cX11_firstOfMost 44 = .ok (.invokestatic 139, 3) := by decide +kernel
theorem dX11_firstOfMost_47 : decode cX11_firstOfMost 47 = .ok (.if_icmp .le 5, 3) := by decide +kernel
theorem dX11_firstOfMost_50 : decode cX11_firstOfMost 50 = .ok (.iload_n 3, 1) := by decide +kernel
theorem dX11_firstOfMost_51 : decode cX11_firstOfMost 51 = .ok (.istore_n 2, 1) := by decide +kernel
theorem dX11_firstOfMost_52 : decode cX11_firstOfMost 52 = .ok (.iinc 3 1, 3) := by decide +kernel
theorem dX11_firstOfMost_55 : decode cX11_firstOfMost 55 = .ok (.goto (-51), 3) := by decide +kernel
theorem dX11_firstOfMost_58 : decode cX11_firstOfMost 58 = .ok (.iload_n 2, 1) := by decide +kernel
theorem dX11_firstOfMost_59 : decode cX11_firstOfMost 59 = .ok (.ireturn, 1) := by decide +kernel
theorem dX11_mostOffered_0 : decode cX11_mostOffered 0 = .ok (.aload_n 0, 1) := by decide +kernel
theorem dX11_mostOffered_1 : decode cX11_mostOffered 1 = .ok (.iload_n 1, 1) := by decide +kernel
theorem dX11_mostOffered_2 : decode cX11_mostOffered 2 = .ok (.invokevirtual 205, 3) := by decide +kernel
theorem dX11_mostOffered_5 : decode cX11_mostOffered 5 = .ok (.istore_n 2, 1) := by decide +kernel
theorem dX11_mostOffered_6 : decode cX11_mostOffered 6 = .ok (.iload_n 2, 1) := by decide +kernel
theorem dX11_mostOffered_7 : decode cX11_mostOffered 7 = .ok (.iconst (-1), 1) := by decide +kernel
theorem dX11_mostOffered_8 : decode cX11_mostOffered 8 = .ok (.if_icmp .ne 7, 3) := by decide +kernel
theorem dX11_mostOffered_11 : decode cX11_mostOffered 11 = .ok (.iconst 0, 1) := by decide +kernel
theorem dX11_mostOffered_12 : decode cX11_mostOffered 12 = .ok (.goto 11, 3) := by decide +kernel
theorem dX11_mostOffered_15 : decode cX11_mostOffered 15 = .ok (.aload_n 0, 1) := by decide +kernel
theorem dX11_mostOffered_16 : decode cX11_mostOffered 16 = .ok (.getfield 91, 3) := by decide +kernel
theorem dX11_mostOffered_19 : decode cX11_mostOffered 19 = .ok (.iload_n 2, 1) := by decide +kernel
theorem dX11_mostOffered_20 : decode cX11_mostOffered 20 = .ok (.invokestatic 139, 3) := by decide +kernel
theorem dX11_mostOffered_23 : decode cX11_mostOffered 23 = .ok (.ireturn, 1) := by decide +kernel
theorem dX11_firstOrder_0 : decode cX11_firstOrder 0 = .ok (.iconst 0, 1) := by decide +kernel
theorem dX11_firstOrder_1 : decode cX11_firstOrder 1 = .ok (.istore_n 2, 1) := by decide +kernel
theorem dX11_firstOrder_2 : decode cX11_firstOrder 2 = .ok (.iload_n 2, 1) := by decide +kernel
theorem dX11_firstOrder_3 : decode cX11_firstOrder 3 = .ok (.iload_n 1, 1) := by decide +kernel
theorem dX11_firstOrder_4 : decode cX11_firstOrder 4 = .ok (.if_icmp .ge 18, 3) := by decide +kernel
theorem dX11_firstOrder_7 : decode cX11_firstOrder 7 = .ok (.aload_n 0, 1) := by decide +kernel
theorem dX11_firstOrder_8 : decode cX11_firstOrder 8 = .ok (.getfield 82, 3) := by decide +kernel
theorem dX11_firstOrder_11 : decode cX11_firstOrder 11 = .ok (.iload_n 2, 1) := by decide +kernel
theorem dX11_firstOrder_12 : decode cX11_firstOrder 12 = .ok (.iload_n 2, 1) := by decide +kernel
theorem dX11_firstOrder_13 : decode cX11_firstOrder 13 = .ok (.invokestatic 143, 3) := by decide +kernel
theorem dX11_firstOrder_16 : decode cX11_firstOrder 16 = .ok (.iinc 2 1, 3) := by decide +kernel
theorem dX11_firstOrder_19 : decode cX11_firstOrder 19 = .ok (.goto (-17), 3) := by decide +kernel
theorem dX11_firstOrder_22 : decode cX11_firstOrder 22 = .ok (.return_, 1) := by decide +kernel
theorem dX11_nextOrder_0 : decode cX11_nextOrder 0 = .ok (.iload_n 1, 1) := by decide +kernel
theorem dX11_nextOrder_1 : decode cX11_nextOrder 1 = .ok (.iconst 2, 1) := by decide +kernel
theorem dX11_nextOrder_2 : decode cX11_nextOrder 2 = .ok (.isub, 1) := by decide +kernel
theorem dX11_nextOrder_3 : decode cX11_nextOrder 3 = .ok (.istore_n 2, 1) := by decide +kernel
theorem dX11_nextOrder_4 : decode cX11_nextOrder 4 = .ok (.iload_n 2, 1) := by decide +kernel
theorem dX11_nextOrder_5 : decode cX11_nextOrder 5 = .ok (.ifCond .lt 30, 3) := by decide +kernel
theorem dX11_nextOrder_8 : decode cX11_nextOrder 8 = .ok (.aload_n 0, 1) := by decide +kernel
theorem dX11_nextOrder_9 : decode cX11_nextOrder 9 = .ok (.getfield 82, 3) := by decide +kernel
theorem dX11_nextOrder_12 : decode cX11_nextOrder 12 = .ok (.iload_n 2, 1) := by decide +kernel
theorem dX11_nextOrder_13 : decode cX11_nextOrder 13 = .ok (.invokestatic 139, 3) := by decide +kernel
theorem dX11_nextOrder_16 : decode cX11_nextOrder 16 = .ok (.aload_n 0, 1) := by decide +kernel
theorem dX11_nextOrder_17 : decode cX11_nextOrder 17 = .ok (.getfield 82, 3) := by decide +kernel
theorem dX11_nextOrder_20 : decode cX11_nextOrder 20 = .ok (.iload_n 2, 1) := by decide +kernel
theorem dX11_nextOrder_21 : decode cX11_nextOrder 21 = .ok (.iconst 1, 1) := by decide +kernel
theorem dX11_nextOrder_22 : decode cX11_nextOrder 22 = .ok (.iadd, 1) := by decide +kernel
theorem dX11_nextOrder_23 : decode cX11_nextOrder 23 = .ok (.invokestatic 139, 3) := by decide +kernel
theorem dX11_nextOrder_26 : decode cX11_nextOrder 26 = .ok (.if_icmp .le 9, 3) := by decide +kernel
theorem dX11_nextOrder_29 : decode cX11_nextOrder 29 = .ok (.iinc 2 (-1), 3) := by decide +kernel
theorem dX11_nextOrder_32 : decode cX11_nextOrder 32 = .ok (.goto (-28), 3) := by decide +kernel
theorem dX11_nextOrder_35 : decode cX11_nextOrder 35 = .ok (.iload_n 2, 1) := by decide +kernel
theorem dX11_nextOrder_36 : decode cX11_nextOrder 36 = .ok (.ifCond .ge 5, 3) := by decide +kernel
theorem dX11_nextOrder_39 : decode cX11_nextOrder 39 = .ok (.iconst 0, 1) := by decide +kernel
theorem dX11_nextOrder_40 : decode cX11_nextOrder 40 = .ok (.ireturn, 1) := by decide +kernel
theorem dX11_nextOrder_41 : decode cX11_nextOrder 41 = .ok (.iload_n 1, 1) := by decide +kernel
theorem dX11_nextOrder_42 : decode cX11_nextOrder 42 = .ok (.iconst 1, 1) := by decide +kernel
theorem dX11_nextOrder_43 : decode cX11_nextOrder 43 = .ok (.isub, 1) := by decide +kernel
theorem dX11_nextOrder_44 : decode cX11_nextOrder 44 = .ok (.istore_n 3, 1) := by decide +kernel
theorem dX11_nextOrder_45 : decode cX11_nextOrder 45 = .ok (.iload_n 3, 1) := by decide +kernel
theorem dX11_nextOrder_46 : decode cX11_nextOrder 46 = .ok (.iload_n 2, 1) := by decide +kernel
theorem dX11_nextOrder_47 : decode cX11_nextOrder 47 = .ok (.if_icmp .le 28, 3) := by decide +kernel
theorem dX11_nextOrder_50 : decode cX11_nextOrder 50 = .ok (.aload_n 0, 1) := by decide +kernel
theorem dX11_nextOrder_51 : decode cX11_nextOrder 51 = .ok (.getfield 82, 3) := by decide +kernel
theorem dX11_nextOrder_54 : decode cX11_nextOrder 54 = .ok (.iload_n 3, 1) := by decide +kernel
theorem dX11_nextOrder_55 : decode cX11_nextOrder 55 = .ok (.invokestatic 139, 3) := by decide +kernel
theorem dX11_nextOrder_58 : decode cX11_nextOrder 58 = .ok (.aload_n 0, 1) := by decide +kernel
theorem dX11_nextOrder_59 : decode cX11_nextOrder 59 = .ok (.getfield 82, 3) := by decide +kernel
theorem dX11_nextOrder_62 : decode cX11_nextOrder 62 = .ok (.iload_n 2, 1) := by decide +kernel
theorem dX11_nextOrder_63 : decode cX11_nextOrder 63 = .ok (.invokestatic 139, 3) := by decide +kernel
theorem dX11_nextOrder_66 : decode cX11_nextOrder 66 = .ok (.if_icmp .ge 9, 3) := by decide +kernel
theorem dX11_nextOrder_69 : decode cX11_nextOrder 69 = .ok (.iinc 3 (-1), 3) := by decide +kernel
theorem dX11_nextOrder_72 : decode cX11_nextOrder 72 = .ok (.goto (-27), 3) := by decide +kernel
theorem dX11_nextOrder_75 : decode cX11_nextOrder 75 = .ok (.aload_n 0, 1) := by decide +kernel
theorem dX11_nextOrder_76 : decode cX11_nextOrder 76 = .ok (.iload_n 2, 1) := by decide +kernel
theorem dX11_nextOrder_77 : decode cX11_nextOrder 77 = .ok (.iload_n 3, 1) := by decide +kernel
theorem dX11_nextOrder_78 : decode cX11_nextOrder 78 = .ok (.invokevirtual 321, 3) := by decide +kernel
theorem dX11_nextOrder_81 : decode cX11_nextOrder 81 = .ok (.iload_n 2, 1) := by decide +kernel
theorem dX11_nextOrder_82 : decode cX11_nextOrder 82 = .ok (.iconst 1, 1) := by decide +kernel
theorem dX11_nextOrder_83 : decode cX11_nextOrder 83 = .ok (.iadd, 1) := by decide +kernel
theorem dX11_nextOrder_84 : decode cX11_nextOrder 84 = .ok (.istore 4, 2) := by decide +kernel
theorem dX11_nextOrder_86 : decode cX11_nextOrder 86 = .ok (.iload_n 1, 1) := by decide +kernel
theorem dX11_nextOrder_87 : decode cX11_nextOrder 87 = .ok (.iconst 1, 1) := by decide +kernel
theorem dX11_nextOrder_88 : decode cX11_nextOrder 88 = .ok (.isub, 1) := by decide +kernel
theorem dX11_nextOrder_89 : decode cX11_nextOrder 89 = .ok (.istore 5, 2) := by decide +kernel
theorem dX11_nextOrder_91 : decode cX11_nextOrder 91 = .ok (.iload 4, 2) := by decide +kernel
theorem dX11_nextOrder_93 : decode cX11_nextOrder 93 = .ok (.iload 5, 2) := by decide +kernel
theorem dX11_nextOrder_95 : decode cX11_nextOrder 95 = .ok (.if_icmp .ge 20, 3) := by decide +kernel
theorem dX11_nextOrder_98 : decode cX11_nextOrder 98 = .ok (.aload_n 0, 1) := by decide +kernel
theorem dX11_nextOrder_99 : decode cX11_nextOrder 99 = .ok (.iload 4, 2) := by decide +kernel
theorem dX11_nextOrder_101 : decode cX11_nextOrder 101 = .ok (.iload 5, 2) := by decide +kernel
theorem dX11_nextOrder_103 : decode cX11_nextOrder 103 = .ok (.invokevirtual 321, 3) := by decide +kernel
theorem dX11_nextOrder_106 : decode cX11_nextOrder 106 = .ok (.iinc 4 1, 3) := by decide +kernel
theorem dX11_nextOrder_109 : decode cX11_nextOrder 109 = .ok (.iinc 5 (-1), 3) := by decide +kernel
theorem dX11_nextOrder_112 : decode cX11_nextOrder 112 = .ok (.goto (-21), 3) := by decide +kernel
theorem dX11_nextOrder_115 : decode cX11_nextOrder 115 = .ok (.iconst 1, 1) := by decide +kernel
theorem dX11_nextOrder_116 : decode cX11_nextOrder 116 = .ok (.ireturn, 1) := by decide +kernel
theorem dX11_swap_0 : decode cX11_swap 0 = .ok (.aload_n 0, 1) := by decide +kernel
theorem dX11_swap_1 : decode cX11_swap 1 = .ok (.getfield 82, 3) := by decide +kernel
theorem dX11_swap_4 : decode cX11_swap 4 = .ok (.iload_n 1, 1) := by decide +kernel
theorem dX11_swap_5 : decode cX11_swap 5 = .ok (.invokestatic 139, 3) := by decide +kernel
theorem dX11_swap_8 : decode cX11_swap 8 = .ok (.istore_n 3, 1) := by decide +kernel
theorem dX11_swap_9 : decode cX11_swap 9 = .ok (.aload_n 0, 1) := by decide +kernel
theorem dX11_swap_10 : decode cX11_swap 10 = .ok (.getfield 82, 3) := by decide +kernel
theorem dX11_swap_13 : decode cX11_swap 13 = .ok (.iload_n 1, 1) := by decide +kernel
theorem dX11_swap_14 : decode cX11_swap 14 = .ok (.aload_n 0, 1) := by decide +kernel
theorem dX11_swap_15 : decode cX11_swap 15 = .ok (.getfield 82, 3) := by decide +kernel
theorem dX11_swap_18 : decode cX11_swap 18 = .ok (.iload_n 2, 1) := by decide +kernel
theorem dX11_swap_19 : decode cX11_swap 19 = .ok (.invokestatic 139, 3) := by decide +kernel
theorem dX11_swap_22 : decode cX11_swap 22 = .ok (.invokestatic 143, 3) := by decide +kernel
theorem dX11_swap_25 : decode cX11_swap 25 = .ok (.aload_n 0, 1) := by decide +kernel
theorem dX11_swap_26 : decode cX11_swap 26 = .ok (.getfield 82, 3) := by decide +kernel
theorem dX11_swap_29 : decode cX11_swap 29 = .ok (.iload_n 2, 1) := by decide +kernel
theorem dX11_swap_30 : decode cX11_swap 30 = .ok (.iload_n 3, 1) := by decide +kernel
theorem dX11_swap_31 : decode cX11_swap 31 = .ok (.invokestatic 143, 3) := by decide +kernel
theorem dX11_swap_34 : decode cX11_swap 34 = .ok (.return_, 1) := by decide +kernel
theorem dX11_digitsOfOrder_0 : decode cX11_digitsOfOrder 0 = .ok (.iconst 0, 1) := by decide +kernel
theorem dX11_digitsOfOrder_1 : decode cX11_digitsOfOrder 1 = .ok (.istore_n 1, 1) := by decide +kernel
theorem dX11_digitsOfOrder_2 : decode cX11_digitsOfOrder 2 = .ok (.iconst 0, 1) := by decide +kernel
theorem dX11_digitsOfOrder_3 : decode cX11_digitsOfOrder 3 = .ok (.istore_n 2, 1) := by decide +kernel
theorem dX11_digitsOfOrder_4 : decode cX11_digitsOfOrder 4 = .ok (.iload_n 2, 1) := by decide +kernel
theorem dX11_digitsOfOrder_5 : decode cX11_digitsOfOrder 5 = .ok (.bipush 6, 2) := by decide +kernel
theorem dX11_digitsOfOrder_7 : decode cX11_digitsOfOrder 7 = .ok (.if_icmp .ge 25, 3) := by decide +kernel
theorem dX11_digitsOfOrder_10 : decode cX11_digitsOfOrder 10 = .ok (.bipush 10, 2) := by decide +kernel
theorem dX11_digitsOfOrder_12 : decode cX11_digitsOfOrder 12 = .ok (.iload_n 1, 1) := by decide +kernel
theorem dX11_digitsOfOrder_13 : decode cX11_digitsOfOrder 13 = .ok (.imul, 1) := by decide +kernel
theorem dX11_digitsOfOrder_14 : decode cX11_digitsOfOrder 14 = .ok (.aload_n 0, 1) := by decide +kernel
theorem dX11_digitsOfOrder_15 : decode cX11_digitsOfOrder 15 = .ok (.getfield 82, 3) := by decide +kernel
theorem dX11_digitsOfOrder_18 : decode cX11_digitsOfOrder 18 = .ok (.iload_n 2, 1) := by decide +kernel
theorem dX11_digitsOfOrder_19 : decode cX11_digitsOfOrder 19 = .ok (.invokestatic 139, 3) := by decide +kernel
theorem dX11_digitsOfOrder_22 : decode cX11_digitsOfOrder 22 = .ok (.iadd, 1) := by decide +kernel
theorem dX11_digitsOfOrder_23 : decode cX11_digitsOfOrder 23 = .ok (.iconst 1, 1) := by decide +kernel
theorem dX11_digitsOfOrder_24 : decode cX11_digitsOfOrder 24 = .ok (.iadd, 1) := by decide +kernel
theorem dX11_digitsOfOrder_25 : decode cX11_digitsOfOrder 25 = .ok (.istore_n 1, 1) := by decide +kernel
theorem dX11_digitsOfOrder_26 : decode cX11_digitsOfOrder 26 = .ok (.iinc 2 1, 3) := by decide +kernel
theorem dX11_digitsOfOrder_29 : decode cX11_digitsOfOrder 29 = .ok (.goto (-25), 3) := by decide +kernel
theorem dX11_digitsOfOrder_32 : decode cX11_digitsOfOrder 32 = .ok (.iload_n 1, 1) := by decide +kernel
theorem dX11_digitsOfOrder_33 : decode cX11_digitsOfOrder 33 = .ok (.ireturn, 1) := by decide +kernel
theorem dX11_drawOrder_0 : decode cX11_drawOrder 0 = .ok (.aload_n 0, 1) := by decide +kernel
theorem dX11_drawOrder_1 : decode cX11_drawOrder 1 = .ok (.bipush 6, 2) := by decide +kernel
theorem dX11_drawOrder_3 : decode cX11_drawOrder 3 = .ok (.invokevirtual 215, 3) := by decide +kernel
theorem dX11_drawOrder_6 : decode cX11_drawOrder 6 = .ok (.iload_n 1, 1) := by decide +kernel
theorem dX11_drawOrder_7 : decode cX11_drawOrder 7 = .ok (.i2l, 1) := by decide +kernel
theorem dX11_drawOrder_8 : decode cX11_drawOrder 8 = .ok (.lconst 1, 1) := by decide +kernel
theorem dX11_drawOrder_9 : decode cX11_drawOrder 9 = .ok (.ladd, 1) := by decide +kernel
theorem dX11_drawOrder_10 : decode cX11_drawOrder 10 = .ok (.lstore_n 2, 1) := by decide +kernel
theorem dX11_drawOrder_11 : decode cX11_drawOrder 11 = .ok (.iconst 5, 1) := by decide +kernel
theorem dX11_drawOrder_12 : decode cX11_drawOrder 12 = .ok (.istore 4, 2) := by decide +kernel
theorem dX11_drawOrder_14 : decode cX11_drawOrder 14 = .ok (.iload 4, 2) := by decide +kernel
theorem dX11_drawOrder_16 : decode cX11_drawOrder 16 = .ok (.iconst 1, 1) := by decide +kernel
theorem dX11_drawOrder_17 : decode cX11_drawOrder 17 = .ok (.if_icmp .lt 33, 3) := by decide +kernel
theorem dX11_drawOrder_20 : decode cX11_drawOrder 20 = .ok (.lload_n 2, 1) := by decide +kernel
theorem dX11_drawOrder_21 : decode cX11_drawOrder 21 = .ok (.ldc2_w 324, 3) := by decide +kernel
theorem dX11_drawOrder_24 : decode cX11_drawOrder 24 = .ok (.lmul, 1) := by decide +kernel
theorem dX11_drawOrder_25 : decode cX11_drawOrder 25 = .ok (.ldc2_w 326, 3) := by decide +kernel
theorem dX11_drawOrder_28 : decode cX11_drawOrder 28 = .ok (.lrem, 1) := by decide +kernel
theorem dX11_drawOrder_29 : decode cX11_drawOrder 29 = .ok (.lstore_n 2, 1) := by decide +kernel
theorem dX11_drawOrder_30 : decode cX11_drawOrder 30 = .ok (.aload_n 0, 1) := by decide +kernel
theorem dX11_drawOrder_31 : decode cX11_drawOrder 31 = .ok (.iload 4, 2) := by decide +kernel
theorem dX11_drawOrder_33 : decode cX11_drawOrder 33 = .ok (.lload_n 2, 1) := by decide +kernel
theorem dX11_drawOrder_34 : decode cX11_drawOrder 34 = .ok (.iload 4, 2) := by decide +kernel
theorem dX11_drawOrder_36 : decode cX11_drawOrder 36 = .ok (.iconst 1, 1) := by decide +kernel
theorem dX11_drawOrder_37 : decode cX11_drawOrder 37 = .ok (.iadd, 1) := by decide +kernel
theorem dX11_drawOrder_38 : decode cX11_drawOrder 38 = .ok (.i2l, 1) := by decide +kernel
theorem dX11_drawOrder_39 : decode cX11_drawOrder 39 = .ok (.lrem, 1) := by decide +kernel
theorem dX11_drawOrder_40 : decode cX11_drawOrder 40 = .ok (.l2i, 1) := by decide +kernel
theorem dX11_drawOrder_41 : decode cX11_drawOrder 41 = .ok (.invokevirtual 321, 3) := by decide +kernel
theorem dX11_drawOrder_44 : decode cX11_drawOrder 44 = .ok (.iinc 4 (-1), 3) := by decide +kernel
theorem dX11_drawOrder_47 : decode cX11_drawOrder 47 = .ok (.goto (-33), 3) := by decide +kernel
theorem dX11_drawOrder_50 : decode cX11_drawOrder 50 = .ok (.return_, 1) := by decide +kernel
theorem dX11_fillGains_0 : decode cX11_fillGains 0 = .ok (.iconst 0, 1) := by decide +kernel
theorem dX11_fillGains_1 : decode cX11_fillGains 1 = .ok (.istore_n 3, 1) := by decide +kernel
theorem dX11_fillGains_2 : decode cX11_fillGains 2 = .ok (.iload_n 3, 1) := by decide +kernel
theorem dX11_fillGains_3 : decode cX11_fillGains 3 = .ok (.aload_n 0, 1) := by decide +kernel
theorem dX11_fillGains_4 : decode cX11_fillGains 4 = .ok (.getfield 88, 3) := by decide +kernel
theorem dX11_fillGains_7 : decode cX11_fillGains 7 = .ok (.arraylength, 1) := by decide +kernel
theorem dX11_fillGains_8 : decode cX11_fillGains 8 = .ok (.if_icmp .ge 18, 3) := by decide +kernel
theorem dX11_fillGains_11 : decode cX11_fillGains 11 = .ok (.aload_n 0, 1) := by decide +kernel
theorem dX11_fillGains_12 : decode cX11_fillGains 12 = .ok (.getfield 88, 3) := by decide +kernel
theorem dX11_fillGains_15 : decode cX11_fillGains 15 = .ok (.iload_n 3, 1) := by decide +kernel
theorem dX11_fillGains_16 : decode cX11_fillGains 16 = .ok (.iconst 0, 1) := by decide +kernel
theorem dX11_fillGains_17 : decode cX11_fillGains 17 = .ok (.invokestatic 143, 3) := by decide +kernel
theorem dX11_fillGains_20 : decode cX11_fillGains 20 = .ok (.iinc 3 1, 3) := by decide +kernel
theorem dX11_fillGains_23 : decode cX11_fillGains 23 = .ok (.goto (-21), 3) := by decide +kernel
theorem dX11_fillGains_26 : decode cX11_fillGains 26 = .ok (.iconst 0, 1) := by decide +kernel
theorem dX11_fillGains_27 : decode cX11_fillGains 27 = .ok (.istore_n 3, 1) := by decide +kernel
theorem dX11_fillGains_28 : decode cX11_fillGains 28 = .ok (.iload_n 3, 1) := by decide +kernel
theorem dX11_fillGains_29 : decode cX11_fillGains 29 = .ok (.aload_n 0, 1) := by decide +kernel
theorem dX11_fillGains_30 : decode cX11_fillGains 30 = .ok (.getfield 10, 3) := by decide +kernel
theorem dX11_fillGains_33 : decode cX11_fillGains 33 = .ok (.getfield 120, 3) := by decide +kernel
theorem dX11_fillGains_36 : decode cX11_fillGains 36 = .ok (.if_icmp .ge 98, 3) := by decide +kernel
theorem dX11_fillGains_39 : decode cX11_fillGains 39 = .ok (.iload_n 1, 1) := by decide +kernel
theorem dX11_fillGains_40 : decode cX11_fillGains 40 = .ok (.iconst (-1), 1) := by decide +kernel
theorem dX11_fillGains_41 : decode cX11_fillGains 41 = .ok (.if_icmp .eq 11, 3) := by decide +kernel
theorem dX11_fillGains_44 : decode cX11_fillGains 44 = .ok (.iload_n 1, 1) := by decide +kernel
theorem dX11_fillGains_45 : decode cX11_fillGains 45 = .ok (.iload_n 3, 1) := by decide +kernel
theorem dX11_fillGains_46 : decode cX11_fillGains 46 = .ok (.if_icmp .eq 6, 3) := by decide +kernel
theorem dX11_fillGains_49 : decode cX11_fillGains 49 = .ok (.goto 79, 3) := by decide +kernel
theorem dX11_fillGains_52 : decode cX11_fillGains 52 = .ok (.aload_n 0, 1) := by decide +kernel
theorem dX11_fillGains_53 : decode cX11_fillGains 53 = .ok (.iload_n 3, 1) := by decide +kernel
theorem dX11_fillGains_54 : decode cX11_fillGains 54 = .ok (.iload_n 2, 1) := by decide +kernel
theorem dX11_fillGains_55 : decode cX11_fillGains 55 = .ok (.invokevirtual 161, 3) := by decide +kernel
theorem dX11_fillGains_58 : decode cX11_fillGains 58 = .ok (.iconst 0, 1) := by decide +kernel
theorem dX11_fillGains_59 : decode cX11_fillGains 59 = .ok (.istore 4, 2) := by decide +kernel
theorem dX11_fillGains_61 : decode cX11_fillGains 61 = .ok (.iload 4, 2) := by decide +kernel
theorem dX11_fillGains_63 : decode cX11_fillGains 63 = .ok (.bipush 6, 2) := by decide +kernel
theorem dX11_fillGains_65 : decode cX11_fillGains 65 = .ok (.if_icmp .ge 63, 3) := by decide +kernel
theorem dX11_fillGains_68 : decode cX11_fillGains 68 = .ok (.aload_n 0, 1) := by decide +kernel
theorem dX11_fillGains_69 : decode cX11_fillGains 69 = .ok (.iconst 0, 1) := by decide +kernel
theorem dX11_fillGains_70 : decode cX11_fillGains 70 = .ok (.iload 4, 2) := by decide +kernel
theorem dX11_fillGains_72 : decode cX11_fillGains 72 = .ok (.aload_n 0, 1) := by decide +kernel
theorem dX11_fillGains_73 : decode cX11_fillGains 73 = .ok (.getfield 78, 3) := by decide +kernel
theorem dX11_fillGains_76 : decode cX11_fillGains 76 = .ok (.iload 4, 2) := by decide +kernel
theorem dX11_fillGains_78 : decode cX11_fillGains 78 = .ok (.iconst 1, 1) := by decide +kernel
theorem dX11_fillGains_79 : decode cX11_fillGains 79 = .ok (.iconst 0, 1) := by decide +kernel
theorem dX11_fillGains_80 : decode cX11_fillGains 80 = .ok (.invokevirtual 328, 3) := by decide +kernel
theorem dX11_fillGains_83 : decode cX11_fillGains 83 = .ok (.invokevirtual 332, 3) := by decide +kernel
theorem dX11_fillGains_86 : decode cX11_fillGains 86 = .ok (.aload_n 0, 1) := by decide +kernel
theorem dX11_fillGains_87 : decode cX11_fillGains 87 = .ok (.iconst 1, 1) := by decide +kernel
theorem dX11_fillGains_88 : decode cX11_fillGains 88 = .ok (.iload 4, 2) := by decide +kernel
theorem dX11_fillGains_90 : decode cX11_fillGains 90 = .ok (.aload_n 0, 1) := by decide +kernel
theorem dX11_fillGains_91 : decode cX11_fillGains 91 = .ok (.getfield 78, 3) := by decide +kernel
theorem dX11_fillGains_94 : decode cX11_fillGains 94 = .ok (.iload 4, 2) := by decide +kernel
theorem dX11_fillGains_96 : decode cX11_fillGains 96 = .ok (.iconst 0, 1) := by decide +kernel
theorem dX11_fillGains_97 : decode cX11_fillGains 97 = .ok (.iconst 0, 1) := by decide +kernel
theorem dX11_fillGains_98 : decode cX11_fillGains 98 = .ok (.invokevirtual 328, 3) := by decide +kernel
theorem dX11_fillGains_101 : decode cX11_fillGains 101 = .ok (.invokevirtual 332, 3) := by decide +kernel
theorem dX11_fillGains_104 : decode cX11_fillGains 104 = .ok (.aload_n 0, 1) := by decide +kernel
theorem dX11_fillGains_105 : decode cX11_fillGains 105 = .ok (.iconst 2, 1) := by decide +kernel
theorem dX11_fillGains_106 : decode cX11_fillGains 106 = .ok (.iload 4, 2) := by decide +kernel
theorem dX11_fillGains_108 : decode cX11_fillGains 108 = .ok (.aload_n 0, 1) := by decide +kernel
theorem dX11_fillGains_109 : decode cX11_fillGains 109 = .ok (.getfield 78, 3) := by decide +kernel
theorem dX11_fillGains_112 : decode cX11_fillGains 112 = .ok (.iload 4, 2) := by decide +kernel
theorem dX11_fillGains_114 : decode cX11_fillGains 114 = .ok (.iconst 0, 1) := by decide +kernel
theorem dX11_fillGains_115 : decode cX11_fillGains 115 = .ok (.iconst 1, 1) := by decide +kernel
theorem dX11_fillGains_116 : decode cX11_fillGains 116 = .ok (.invokevirtual 328, 3) := by decide +kernel
theorem dX11_fillGains_119 : decode cX11_fillGains 119 = .ok (.invokevirtual 332, 3) := by decide +kernel
theorem dX11_fillGains_122 : decode cX11_fillGains 122 = .ok (.iinc 4 1, 3) := by decide +kernel
theorem dX11_fillGains_125 : decode cX11_fillGains 125 = .ok (.goto (-64), 3) := by decide +kernel
theorem dX11_fillGains_128 : decode cX11_fillGains 128 = .ok (.iinc 3 1, 3) := by decide +kernel
theorem dX11_fillGains_131 : decode cX11_fillGains 131 = .ok (.goto (-103), 3) := by decide +kernel
theorem dX11_fillGains_134 : decode cX11_fillGains 134 = .ok (.return_, 1) := by decide +kernel
theorem dX11_addGain_0 : decode cX11_addGain 0 = .ok (.iload_n 1, 1) := by decide +kernel
theorem dX11_addGain_1 : decode cX11_addGain 1 = .ok (.bipush 6, 2) := by decide +kernel
theorem dX11_addGain_3 : decode cX11_addGain 3 = .ok (.imul, 1) := by decide +kernel
theorem dX11_addGain_4 : decode cX11_addGain 4 = .ok (.iload_n 2, 1) := by decide +kernel
theorem dX11_addGain_5 : decode cX11_addGain 5 = .ok (.iadd, 1) := by decide +kernel
theorem dX11_addGain_6 : decode cX11_addGain 6 = .ok (.istore 4, 2) := by decide +kernel
theorem dX11_addGain_8 : decode cX11_addGain 8 = .ok (.aload_n 0, 1) := by decide +kernel
theorem dX11_addGain_9 : decode cX11_addGain 9 = .ok (.getfield 88, 3) := by decide +kernel
theorem dX11_addGain_12 : decode cX11_addGain 12 = .ok (.iload 4, 2) := by decide +kernel
theorem dX11_addGain_14 : decode cX11_addGain 14 = .ok (.aload_n 0, 1) := by decide +kernel
theorem dX11_addGain_15 : decode cX11_addGain 15 = .ok (.getfield 88, 3) := by decide +kernel
theorem dX11_addGain_18 : decode cX11_addGain 18 = .ok (.iload 4, 2) := by decide +kernel
theorem dX11_addGain_20 : decode cX11_addGain 20 = .ok (.invokestatic 139, 3) := by decide +kernel
theorem dX11_addGain_23 : decode cX11_addGain 23 = .ok (.iload_n 3, 1) := by decide +kernel
theorem dX11_addGain_24 : decode cX11_addGain 24 = .ok (.iadd, 1) := by decide +kernel
theorem dX11_addGain_25 : decode cX11_addGain 25 = .ok (.invokestatic 143, 3) := by decide +kernel
theorem dX11_addGain_28 : decode cX11_addGain 28 = .ok (.return_, 1) := by decide +kernel
theorem dX11_gainOfOrder_0 : decode cX11_gainOfOrder 0 = .ok (.iconst 0, 1) := by decide +kernel
theorem dX11_gainOfOrder_1 : decode cX11_gainOfOrder 1 = .ok (.istore_n 1, 1) := by decide +kernel
theorem dX11_gainOfOrder_2 : decode cX11_gainOfOrder 2 = .ok (.iconst 0, 1) := by decide +kernel
theorem dX11_gainOfOrder_3 : decode cX11_gainOfOrder 3 = .ok (.istore_n 2, 1) := by decide +kernel
theorem dX11_gainOfOrder_4 : decode cX11_gainOfOrder 4 = .ok (.iload_n 2, 1) := by decide +kernel
theorem dX11_gainOfOrder_5 : decode cX11_gainOfOrder 5 = .ok (.bipush 6, 2) := by decide +kernel
theorem dX11_gainOfOrder_7 : decode cX11_gainOfOrder 7 = .ok (.if_icmp .ge 51, 3) := by decide +kernel
theorem dX11_gainOfOrder_10 : decode cX11_gainOfOrder 10 = .ok (.iload_n 2, 1) := by decide +kernel
theorem dX11_gainOfOrder_11 : decode cX11_gainOfOrder 11 = .ok (.ifCond .ne 7, 3) := by decide +kernel
theorem dX11_gainOfOrder_14 : decode cX11_gainOfOrder 14 = .ok (.iconst 0, 1) := by decide +kernel
theorem dX11_gainOfOrder_15 : decode cX11_gainOfOrder 15 = .ok (.goto 13, 3) := by decide +kernel
theorem dX11_gainOfOrder_18 : decode cX11_gainOfOrder 18 = .ok (.iload_n 2, 1) := by decide +kernel
theorem dX11_gainOfOrder_19 : decode cX11_gainOfOrder 19 = .ok (.iconst 5, 1) := by decide +kernel
theorem dX11_gainOfOrder_20 : decode cX11_gainOfOrder 20 = .ok (.if_icmp .ne 7, 3) := by decide +kernel
theorem dX11_gainOfOrder_23 : decode cX11_gainOfOrder 23 = .ok (.iconst 2, 1) := by decide +kernel
theorem dX11_gainOfOrder_24 : decode cX11_gainOfOrder 24 = .ok (.goto 4, 3) := by decide +kernel
theorem dX11_gainOfOrder_27 : decode cX11_gainOfOrder 27 = .ok (.iconst 1, 1) := by decide +kernel
theorem dX11_gainOfOrder_28 : decode cX11_gainOfOrder 28 = .ok (.istore_n 3, 1) := by decide +kernel
theorem dX11_gainOfOrder_29 : decode cX11_gainOfOrder 29 = .ok (.iload_n 1, 1) := by decide +kernel
theorem dX11_gainOfOrder_30 : decode cX11_gainOfOrder 30 = .ok (.aload_n 0, 1) := by decide +kernel
theorem dX11_gainOfOrder_31 : decode cX11_gainOfOrder 31 = .ok (.getfield 88, 3) := by decide +kernel
theorem dX11_gainOfOrder_34 : decode cX11_gainOfOrder 34 = .ok (.iload_n 3, 1) := by decide +kernel
theorem dX11_gainOfOrder_35 : decode cX11_gainOfOrder 35 = .ok (.bipush 6, 2) := by decide +kernel
theorem dX11_gainOfOrder_37 : decode cX11_gainOfOrder 37 = .ok (.imul, 1) := by decide +kernel
theorem dX11_gainOfOrder_38 : decode cX11_gainOfOrder 38 = .ok (.aload_n 0, 1) := by decide +kernel
theorem dX11_gainOfOrder_39 : decode cX11_gainOfOrder 39 = .ok (.getfield 82, 3) := by decide +kernel
theorem dX11_gainOfOrder_42 : decode cX11_gainOfOrder 42 = .ok (.iload_n 2, 1) := by decide +kernel
theorem dX11_gainOfOrder_43 : decode cX11_gainOfOrder 43 = .ok (.invokestatic 139, 3) := by decide +kernel
theorem dX11_gainOfOrder_46 : decode cX11_gainOfOrder 46 = .ok (.iadd, 1) := by decide +kernel
theorem dX11_gainOfOrder_47 : decode cX11_gainOfOrder 47 = .ok (.invokestatic 139, 3) := by decide +kernel
theorem dX11_gainOfOrder_50 : decode cX11_gainOfOrder 50 = .ok (.iadd, 1) := by decide +kernel
theorem dX11_gainOfOrder_51 : decode cX11_gainOfOrder 51 = .ok (.istore_n 1, 1) := by decide +kernel
theorem dX11_gainOfOrder_52 : decode cX11_gainOfOrder 52 = .ok (.iinc 2 1, 3) := by decide +kernel
theorem dX11_gainOfOrder_55 : decode cX11_gainOfOrder 55 = .ok (.goto (-51), 3) := by decide +kernel
theorem dX11_gainOfOrder_58 : decode cX11_gainOfOrder 58 = .ok (.iload_n 1, 1) := by decide +kernel
theorem dX11_gainOfOrder_59 : decode cX11_gainOfOrder 59 = .ok (.ireturn, 1) := by decide +kernel
theorem dX11_takenOfOrder_0 : decode cX11_takenOfOrder 0 = .ok (.iconst (-1), 1) := by decide +kernel
theorem dX11_takenOfOrder_1 : decode cX11_takenOfOrder 1 = .ok (.istore_n 3, 1) := by decide +kernel
theorem dX11_takenOfOrder_2 : decode cX11_takenOfOrder 2 = .ok (.iconst 0, 1) := by decide +kernel
theorem dX11_takenOfOrder_3 : decode cX11_takenOfOrder 3 = .ok (.istore 4, 2) := by decide +kernel
theorem dX11_takenOfOrder_5 : decode cX11_takenOfOrder 5 = .ok (.iload 4, 2) := by decide +kernel
theorem dX11_takenOfOrder_7 : decode cX11_takenOfOrder 7 = .ok (.iload_n 1, 1) := by decide +kernel
theorem dX11_takenOfOrder_8 : decode cX11_takenOfOrder 8 = .ok (.if_icmp .ge 56, 3) := by decide +kernel
theorem dX11_takenOfOrder_11 : decode cX11_takenOfOrder 11 = .ok (.aload_n 0, 1) := by decide +kernel
theorem dX11_takenOfOrder_12 : decode cX11_takenOfOrder 12 = .ok (.getfield 91, 3) := by decide +kernel
theorem dX11_takenOfOrder_15 : decode cX11_takenOfOrder 15 = .ok (.aload_n 0, 1) := by decide +kernel
theorem dX11_takenOfOrder_16 : decode cX11_takenOfOrder 16 = .ok (.getfield 82, 3) := by decide +kernel
theorem dX11_takenOfOrder_19 : decode cX11_takenOfOrder 19 = .ok (.iload 4, 2) := by decide +kernel
theorem dX11_takenOfOrder_21 : decode cX11_takenOfOrder 21 = .ok (.invokestatic 139, 3) := by decide +kernel
theorem dX11_takenOfOrder_24 : decode cX11_takenOfOrder 24 = .ok (.invokestatic 139, 3) := by decide +kernel
theorem dX11_takenOfOrder_27 : decode cX11_takenOfOrder 27 = .ok (.istore 5, 2) := by decide +kernel
theorem dX11_takenOfOrder_29 : decode cX11_takenOfOrder 29 = .ok (.iload 4, 2) := by decide +kernel
theorem dX11_takenOfOrder_31 : decode cX11_takenOfOrder 31 = .ok (.iload_n 2, 1) := by decide +kernel
theorem dX11_takenOfOrder_32 : decode cX11_takenOfOrder 32 = .ok (.if_icmp .lt 19, 3) := by decide +kernel
theorem dX11_takenOfOrder_35 : decode cX11_takenOfOrder 35 = .ok (.iload 5, 2) := by decide +kernel
theorem dX11_takenOfOrder_37 : decode cX11_takenOfOrder 37 = .ok (.iload_n 3, 1) := by decide +kernel
theorem dX11_takenOfOrder_38 : decode cX11_takenOfOrder 38 = .ok (.if_icmp .le 13, 3) := by decide +kernel
theorem dX11_takenOfOrder_41 : decode cX11_takenOfOrder 41 = .ok (.aload_n 0, 1) := by decide +kernel
theorem dX11_takenOfOrder_42 : decode cX11_takenOfOrder 42 = .ok (.getfield 82, 3) := by decide +kernel
theorem dX11_takenOfOrder_45 : decode cX11_takenOfOrder 45 = .ok (.iload 4, 2) := by decide +kernel
theorem dX11_takenOfOrder_47 : decode cX11_takenOfOrder 47 = .ok (.invokestatic 139, 3) := by decide +kernel
theorem dX11_takenOfOrder_50 : decode cX11_takenOfOrder 50 = .ok (.ireturn, 1) := by decide +kernel
theorem dX11_takenOfOrder_51 : decode cX11_takenOfOrder 51 = .ok (.iload_n 3, 1) := by decide +kernel
theorem dX11_takenOfOrder_52 : decode cX11_takenOfOrder 52 = .ok (.iload 5, 2) := by decide +kernel
theorem dX11_takenOfOrder_54 : decode cX11_takenOfOrder 54 = .ok (.invokestatic 335, 3) := by decide +kernel
theorem dX11_takenOfOrder_57 : decode cX11_takenOfOrder 57 = .ok (.istore_n 3, 1) := by decide +kernel
theorem dX11_takenOfOrder_58 : decode cX11_takenOfOrder 58 = .ok (.iinc 4 1, 3) := by decide +kernel
theorem dX11_takenOfOrder_61 : decode cX11_takenOfOrder 61 = .ok (.goto (-56), 3) := by decide +kernel
theorem dX11_takenOfOrder_64 : decode cX11_takenOfOrder 64 = .ok (.aload_n 0, 1) := by decide +kernel
theorem dX11_takenOfOrder_65 : decode cX11_takenOfOrder 65 = .ok (.getfield 82, 3) := by decide +kernel
theorem dX11_takenOfOrder_68 : decode cX11_takenOfOrder 68 = .ok (.iload_n 1, 1) := by decide +kernel
theorem dX11_takenOfOrder_69 : decode cX11_takenOfOrder 69 = .ok (.iconst 1, 1) := by decide +kernel
theorem dX11_takenOfOrder_70 : decode cX11_takenOfOrder 70 = .ok (.isub, 1) := by decide +kernel
theorem dX11_takenOfOrder_71 : decode cX11_takenOfOrder 71 = .ok (.invokestatic 139, 3) := by decide +kernel
theorem dX11_takenOfOrder_74 : decode cX11_takenOfOrder 74 = .ok (.ireturn, 1) := by decide +kernel
theorem dX11_inLowestTerms_0 : decode cX11_inLowestTerms 0 = .ok (.iload_n 0, 1) := by decide +kernel
theorem dX11_inLowestTerms_1 : decode cX11_inLowestTerms 1 = .ok (.istore_n 3, 1) := by decide +kernel
theorem dX11_inLowestTerms_2 : decode cX11_inLowestTerms 2 = .ok (.iload_n 1, 1) := by decide +kernel
theorem dX11_inLowestTerms_3 : decode cX11_inLowestTerms 3 = .ok (.istore 4, 2) := by decide +kernel
theorem dX11_inLowestTerms_5 : decode cX11_inLowestTerms 5 = .ok (.iconst 0, 1) := by decide +kernel
theorem dX11_inLowestTerms_6 : decode cX11_inLowestTerms 6 = .ok (.istore 5, 2) := by decide +kernel
theorem dX11_inLowestTerms_8 : decode cX11_inLowestTerms 8 = .ok (.iload 5, 2) := by decide +kernel
theorem dX11_inLowestTerms_10 : decode cX11_inLowestTerms 10 = .ok (.bipush 64, 2) := by decide +kernel
theorem dX11_inLowestTerms_12 : decode cX11_inLowestTerms 12 = .ok (.if_icmp .ge 27, 3) := by decide +kernel
theorem dX11_inLowestTerms_15 : decode cX11_inLowestTerms 15 = .ok (.iload 4, 2) := by decide +kernel
theorem dX11_inLowestTerms_17 : decode cX11_inLowestTerms 17 = .ok (.ifCond .eq 22, 3) := by decide +kernel
theorem dX11_inLowestTerms_20 : decode cX11_inLowestTerms 20 = .ok (.iload_n 3, 1) := by decide +kernel
theorem dX11_inLowestTerms_21 : decode cX11_inLowestTerms 21 = .ok (.iload 4, 2) := by decide +kernel
theorem dX11_inLowestTerms_23 : decode cX11_inLowestTerms 23 = .ok (.irem, 1) := by decide +kernel
theorem dX11_inLowestTerms_24 : decode cX11_inLowestTerms 24 = .ok (.istore 6, 2) := by decide +kernel
theorem dX11_inLowestTerms_26 : decode cX11_inLowestTerms 26 = .ok (.iload 4, 2) := by decide +kernel
theorem dX11_inLowestTerms_28 : decode cX11_inLowestTerms 28 = .ok (.istore_n 3, 1) := by decide +kernel
theorem dX11_inLowestTerms_29 : decode cX11_inLowestTerms 29 = .ok (.iload 6, 2) := by decide +kernel
theorem dX11_inLowestTerms_31 : decode cX11_inLowestTerms 31 = .ok (.istore 4, 2) := by decide +kernel
theorem dX11_inLowestTerms_33 : decode cX11_inLowestTerms 33 = .ok (.iinc 5 1, 3) := by decide +kernel
theorem dX11_inLowestTerms_36 : decode cX11_inLowestTerms 36 = .ok (.goto (-28), 3) := by decide +kernel
theorem dX11_inLowestTerms_39 : decode cX11_inLowestTerms 39 = .ok (.iload_n 3, 1) := by decide +kernel
theorem dX11_inLowestTerms_40 : decode cX11_inLowestTerms 40 = .ok (.ifCond .ne 7, 3) := by decide +kernel
theorem dX11_inLowestTerms_43 : decode cX11_inLowestTerms 43 = .ok (.ldc2_w 236, 3) := by decide +kernel
theorem dX11_inLowestTerms_46 : decode cX11_inLowestTerms 46 = .ok (.lreturn, 1) := by decide +kernel
theorem dX11_inLowestTerms_47 : decode cX11_inLowestTerms 47 = .ok (.iload_n 2, 1) := by decide +kernel
theorem dX11_inLowestTerms_48 : decode cX11_inLowestTerms 48 = .ok (.ifCond .ne 10, 3) := by decide +kernel
theorem dX11_inLowestTerms_51 : decode cX11_inLowestTerms 51 = .ok (.iload_n 0, 1) := by decide +kernel
theorem dX11_inLowestTerms_52 : decode cX11_inLowestTerms 52 = .ok (.iload_n 3, 1) := by decide +kernel
theorem dX11_inLowestTerms_53 : decode cX11_inLowestTerms 53 = .ok (.idiv, 1) := by decide +kernel
theorem dX11_inLowestTerms_54 : decode cX11_inLowestTerms 54 = .ok (.i2l, 1) := by decide +kernel
theorem dX11_inLowestTerms_55 : decode cX11_inLowestTerms 55 = .ok (.goto 7, 3) := by decide +kernel
theorem dX11_inLowestTerms_58 : decode cX11_inLowestTerms 58 = .ok (.iload_n 1, 1) := by decide +kernel
theorem dX11_inLowestTerms_59 : decode cX11_inLowestTerms 59 = .ok (.iload_n 3, 1) := by decide +kernel
theorem dX11_inLowestTerms_60 : decode cX11_inLowestTerms 60 = .ok (.idiv, 1) := by decide +kernel
theorem dX11_inLowestTerms_61 : decode cX11_inLowestTerms 61 = .ok (.i2l, 1) := by decide +kernel
theorem dX11_inLowestTerms_62 : decode cX11_inLowestTerms 62 = .ok (.lreturn, 1) := by decide +kernel
theorem dX12_init_0 : decode cX12_init 0 = .ok (.aload_n 0, 1) := by decide +kernel
theorem dX12_init_1 : decode cX12_init 1 = .ok (.invokespecial 1, 3) := by decide +kernel
theorem dX12_init_4 : decode cX12_init 4 = .ok (.aload_n 0, 1) := by decide +kernel
theorem dX12_init_5 : decode cX12_init 5 = .ok (.bipush 8, 2) := by decide +kernel
theorem dX12_init_7 : decode cX12_init 7 = .ok (.newarray .int, 2) := by decide +kernel
theorem dX12_init_9 : decode cX12_init 9 = .ok (.putfield 7, 3) := by decide +kernel
theorem dX12_init_12 : decode cX12_init 12 = .ok (.aload_n 0, 1) := by decide +kernel
theorem dX12_init_13 : decode cX12_init 13 = .ok (.bipush 8, 2) := by decide +kernel
theorem dX12_init_15 : decode cX12_init 15 = .ok (.newarray .int, 2) := by decide +kernel
theorem dX12_init_17 : decode cX12_init 17 = .ok (.putfield 13, 3) := by decide +kernel
theorem dX12_init_20 : decode cX12_init 20 = .ok (.aload_n 0, 1) := by decide +kernel
theorem dX12_init_21 : decode cX12_init 21 = .ok (.bipush 16, 2) := by decide +kernel
theorem dX12_init_23 : decode cX12_init 23 = .ok (.newarray .int, 2) := by decide +kernel
theorem dX12_init_25 : decode cX12_init 25 = .ok (.putfield 16, 3) := by decide +kernel
theorem dX12_init_28 : decode cX12_init 28 = .ok (.aload_n 0, 1) := by decide +kernel
theorem dX12_init_29 : decode cX12_init 29 = .ok (.bipush 12, 2) := by decide +kernel
theorem dX12_init_31 : decode cX12_init 31 = .ok (.newarray .int, 2) := by decide +kernel
theorem dX12_init_33 : decode cX12_init 33 = .ok (.putfield 19, 3) := by decide +kernel
theorem dX12_init_36 : decode cX12_init 36 = .ok (.aload_n 0, 1) := by decide +kernel
theorem dX12_init_37 : decode cX12_init 37 = .ok (.bipush 6, 2) := by decide +kernel
theorem dX12_init_39 : decode cX12_init 39 = .ok (.putfield 22, 3) := by decide +kernel
theorem dX12_init_42 : decode cX12_init 42 = .ok (.aload_n 0, 1) := by decide +kernel
theorem dX12_init_43 : decode cX12_init 43 = .ok (.sipush 160, 3) := by decide +kernel
theorem dX12_init_46 : decode cX12_init 46 = .ok (.newarray .int, 2) := by decide +kernel
theorem dX12_init_48 : decode cX12_init 48 = .ok (.putfield 26, 3) := by decide +kernel
theorem dX12_init_51 : decode cX12_init 51 = .ok (.aload_n 0, 1) := by decide +kernel
theorem dX12_init_52 : decode cX12_init 52 = .ok (.sipush 1200, 3) := by decide +kernel
theorem dX12_init_55 : decode cX12_init 55 = .ok (.newarray .int, 2) := by decide +kernel
theorem dX12_init_57 : decode cX12_init 57 = .ok (.putfield 29, 3) := by decide +kernel
theorem dX12_init_60 : decode cX12_init 60 = .ok (.aload_n 0, 1) := by decide +kernel
theorem dX12_init_61 : decode cX12_init 61 = .ok (.bipush 24, 2) := by decide +kernel
theorem dX12_init_63 : decode cX12_init 63 = .ok (.newarray .int, 2) := by decide +kernel
theorem dX12_init_65 : decode cX12_init 65 = .ok (.putfield 32, 3) := by decide +kernel
theorem dX12_init_68 : decode cX12_init 68 = .ok (.aload_n 0, 1) := by decide +kernel
theorem dX12_init_69 : decode cX12_init 69 = .ok (.bipush 28, 2) := by decide +kernel
theorem dX12_init_71 : decode cX12_init 71 = .ok (.newarray .int, 2) := by decide +kernel
theorem dX12_init_73 : decode cX12_init 73 = .ok (.putfield 35, 3) := by decide +kernel
theorem dX12_init_76 : decode cX12_init 76 = .ok (.aload_n 0, 1) := by decide +kernel
theorem dX12_init_77 : decode cX12_init 77 = .ok (.iconst 3, 1) := by decide +kernel
theorem dX12_init_78 : decode cX12_init 78 = .ok (.newarray .int, 2) := by decide +kernel
theorem dX12_init_80 : decode cX12_init 80 = .ok (.putfield 38, 3) := by decide +kernel
theorem dX12_init_83 : decode cX12_init 83 = .ok (.aload_n 0, 1) := by decide +kernel
theorem dX12_init_84 : decode cX12_init 84 = .ok (.iconst 4, 1) := by decide +kernel
theorem dX12_init_85 : decode cX12_init 85 = .ok (.newarray .int, 2) := by decide +kernel
theorem dX12_init_87 : decode cX12_init 87 = .ok (.dup, 1) := by decide +kernel
theorem dX12_init_88 : decode cX12_init 88 = .ok (.iconst 0, 1) := by decide +kernel
theorem dX12_init_89 : decode cX12_init 89 = .ok (.iconst (-1), 1) := by decide +kernel
theorem dX12_init_90 : decode cX12_init 90 = .ok (.iastore, 1) := by decide +kernel
theorem dX12_init_91 : decode cX12_init 91 = .ok (.dup, 1) := by decide +kernel
theorem dX12_init_92 : decode cX12_init 92 = .ok (.iconst 1, 1) := by decide +kernel
theorem dX12_init_93 : decode cX12_init 93 = .ok (.iconst (-1), 1) := by decide +kernel
theorem dX12_init_94 : decode cX12_init 94 = .ok (.iastore, 1) := by decide +kernel
theorem dX12_init_95 : decode cX12_init 95 = .ok (.dup, 1) := by decide +kernel
theorem dX12_init_96 : decode cX12_init 96 = .ok (.iconst 2, 1) := by decide +kernel
theorem dX12_init_97 : decode cX12_init 97 = .ok (.iconst (-1), 1) := by decide +kernel
theorem dX12_init_98 : decode cX12_init 98 = .ok (.iastore, 1) := by decide +kernel
theorem dX12_init_99 : decode cX12_init 99 = .ok (.dup, 1) := by decide +kernel
theorem dX12_init_100 : decode cX12_init 100 = .ok (.iconst 3, 1) := by decide +kernel
theorem dX12_init_101 : decode cX12_init 101 = .ok (.iconst (-1), 1) := by decide +kernel
theorem dX12_init_102 : decode cX12_init 102 = .ok (.iastore, 1) := by decide +kernel
theorem dX12_init_103 : decode cX12_init 103 = .ok (.putfield 41, 3) := by decide +kernel
theorem dX12_init_106 : decode cX12_init 106 = .ok (.aload_n 0, 1) := by decide +kernel
theorem dX12_init_107 : decode cX12_init 107 = .ok (.iconst 4, 1) := by decide +kernel
theorem dX12_init_108 : decode cX12_init 108 = .ok (.newarray .int, 2) := by decide +kernel
theorem dX12_init_110 : decode cX12_init 110 = .ok (.putfield 44, 3) := by decide +kernel
theorem dX12_init_113 : decode cX12_init 113 = .ok (.aload_n 0, 1) := by decide +kernel
theorem dX12_init_114 : decode cX12_init 114 = .ok (.sipush 160, 3) := by decide +kernel
theorem dX12_init_117 : decode cX12_init 117 = .ok (.newarray .int, 2) := by decide +kernel
theorem dX12_init_119 : decode cX12_init 119 = .ok (.putfield 47, 3) := by decide +kernel
theorem dX12_init_122 : decode cX12_init 122 = .ok (.aload_n 0, 1) := by decide +kernel
theorem dX12_init_123 : decode cX12_init 123 = .ok (.bipush 44, 2) := by decide +kernel
theorem dX12_init_125 : decode cX12_init 125 = .ok (.newarray .int, 2) := by decide +kernel
theorem dX12_init_127 : decode cX12_init 127 = .ok (.dup, 1) := by decide +kernel
theorem dX12_init_128 : decode cX12_init 128 = .ok (.iconst 0, 1) := by decide +kernel
theorem dX12_init_129 : decode cX12_init 129 = .ok (.bipush 108, 2) := by decide +kernel
theorem dX12_init_131 : decode cX12_init 131 = .ok (.iastore, 1) := by decide +kernel
theorem dX12_init_132 : decode cX12_init 132 = .ok (.dup, 1) := by decide +kernel
theorem dX12_init_133 : decode cX12_init 133 = .ok (.iconst 1, 1) := by decide +kernel
theorem dX12_init_134 : decode cX12_init 134 = .ok (.bipush 105, 2) := by decide +kernel
theorem dX12_init_136 : decode cX12_init 136 = .ok (.iastore, 1) := by decide +kernel
theorem dX12_init_137 : decode cX12_init 137 = .ok (.dup, 1) := by decide +kernel
theorem dX12_init_138 : decode cX12_init 138 = .ok (.iconst 2, 1) := by decide +kernel
theorem dX12_init_139 : decode cX12_init 139 = .ok (.bipush 107, 2) := by decide +kernel
theorem dX12_init_141 : decode cX12_init 141 = .ok (.iastore, 1) := by decide +kernel
theorem dX12_init_142 : decode cX12_init 142 = .ok (.dup, 1) := by decide +kernel
theorem dX12_init_143 : decode cX12_init 143 = .ok (.iconst 3, 1) := by decide +kernel
theorem dX12_init_144 : decode cX12_init 144 = .ok (.bipush 101, 2) := by decide +kernel
theorem dX12_init_146 : decode cX12_init 146 = .ok (.iastore, 1) := by decide +kernel
theorem dX12_init_147 : decode cX12_init 147 = .ok (.dup, 1) := by decide +kernel
theorem dX12_init_148 : decode cX12_init 148 = .ok (.iconst 4, 1) := by decide +kernel
theorem dX12_init_149 : decode cX12_init 149 = .ok (.bipush 115, 2) := by decide +kernel
theorem dX12_init_151 : decode cX12_init 151 = .ok (.iastore, 1) := by decide +kernel
theorem dX12_init_152 : decode cX12_init 152 = .ok (.dup, 1) := by decide +kernel
theorem dX12_init_153 : decode cX12_init 153 = .ok (.iconst 5, 1) := by decide +kernel
theorem dX12_init_154 : decode cX12_init 154 = .ok (.bipush 32, 2) := by decide +kernel
theorem dX12_init_156 : decode cX12_init 156 = .ok (.iastore, 1) := by decide +kernel
theorem dX12_init_157 : decode cX12_init 157 = .ok (.dup, 1) := by decide +kernel
theorem dX12_init_158 : decode cX12_init 158 = .ok (.bipush 6, 2) := by decide +kernel
theorem dX12_init_160 : decode cX12_init 160 = .ok (.bipush 108, 2) := by decide +kernel
theorem dX12_init_162 : decode cX12_init 162 = .ok (.iastore, 1) := by decide +kernel
theorem dX12_init_163 : decode cX12_init 163 = .ok (.dup, 1) := by decide +kernel
theorem dX12_init_164 : decode cX12_init 164 = .ok (.bipush 7, 2) := by decide +kernel
theorem dX12_init_166 : decode cX12_init 166 = .ok (.bipush 105, 2) := by decide +kernel
theorem dX12_init_168 : decode cX12_init 168 = .ok (.iastore, 1) := by decide +kernel
theorem dX12_init_169 : decode cX12_init 169 = .ok (.dup, 1) := by decide +kernel
theorem dX12_init_170 : decode cX12_init 170 = .ok (.bipush 8, 2) := by decide +kernel
theorem dX12_init_172 : decode cX12_init 172 = .ok (.bipush 103, 2) := by decide +kernel
theorem dX12_init_174 : decode cX12_init 174 = .ok (.iastore, 1) := by decide +kernel
theorem dX12_init_175 : decode cX12_init 175 = .ok (.dup, 1) := by decide +kernel
theorem dX12_init_176 : decode cX12_init 176 = .ok (.bipush 9, 2) := by decide +kernel
theorem dX12_init_178 : decode cX12_init 178 = .ok (.bipush 104, 2) := by decide +kernel
theorem dX12_init_180 : decode cX12_init 180 = .ok (.iastore, 1) := by decide +kernel
theorem dX12_init_181 : decode cX12_init 181 = .ok (.dup, 1) := by decide +kernel
theorem dX12_init_182 : decode cX12_init 182 = .ok (.bipush 10, 2) := by decide +kernel
theorem dX12_init_184 : decode cX12_init 184 = .ok (.bipush 116, 2) := by decide +kernel
theorem dX12_init_186 : decode cX12_init 186 = .ok (.iastore, 1) := by decide +kernel
theorem dX12_init_187 : decode cX12_init 187 = .ok (.dup, 1) := by decide +kernel
theorem dX12_init_188 : decode cX12_init 188 = .ok (.bipush 11, 2) := by decide +kernel
theorem dX12_init_190 : decode cX12_init 190 = .ok (.bipush 32, 2) := by decide +kernel
theorem dX12_init_192 : decode cX12_init 192 = .ok (.iastore, 1) := by decide +kernel
theorem dX12_init_193 : decode cX12_init 193 = .ok (.dup, 1) := by decide +kernel
theorem dX12_init_194 : decode cX12_init 194 = .ok (.bipush 12, 2) := by decide +kernel
theorem dX12_init_196 : decode cX12_init 196 = .ok (.bipush 45, 2) := by decide +kernel
theorem dX12_init_198 : decode cX12_init 198 = .ok (.iastore, 1) := by decide +kernel
theorem dX12_init_199 : decode cX12_init 199 = .ok (.dup, 1) := by decide +kernel
theorem dX12_init_200 : decode cX12_init 200 = .ok (.bipush 13, 2) := by decide +kernel
theorem dX12_init_202 : decode cX12_init 202 = .ok (.bipush 32, 2) := by decide +kernel
theorem dX12_init_204 : decode cX12_init 204 = .ok (.iastore, 1) := by decide +kernel
theorem dX12_init_205 : decode cX12_init 205 = .ok (.dup, 1) := by decide +kernel
theorem dX12_init_206 : decode cX12_init 206 = .ok (.bipush 14, 2) := by decide +kernel
theorem dX12_init_208 : decode cX12_init 208 = .ok (.bipush 100, 2) := by decide +kernel
theorem dX12_init_210 : decode cX12_init 210 = .ok (.iastore, 1) := by decide +kernel
theorem dX12_init_211 : decode cX12_init 211 = .ok (.dup, 1) := by decide +kernel
theorem dX12_init_212 : decode cX12_init 212 = .ok (.bipush 15, 2) := by decide +kernel
theorem dX12_init_214 : decode cX12_init 214 = .ok (.bipush 97, 2) := by decide +kernel
theorem dX12_init_216 : decode cX12_init 216 = .ok (.iastore, 1) := by decide +kernel
theorem dX12_init_217 : decode cX12_init 217 = .ok (.dup, 1) := by decide +kernel
theorem dX12_init_218 : decode cX12_init 218 = .ok (.bipush 16, 2) := by decide +kernel
theorem dX12_init_220 : decode cX12_init 220 = .ok (.bipush 109, 2) := by decide +kernel
theorem dX12_init_222 : decode cX12_init 222 = .ok (.iastore, 1) := by decide +kernel
theorem dX12_init_223 : decode cX12_init 223 = .ok (.dup, 1) := by decide +kernel
theorem dX12_init_224 : decode cX12_init 224 = .ok (.bipush 17, 2) := by decide +kernel
theorem dX12_init_226 : decode cX12_init 226 = .ok (.bipush 112, 2) := by decide +kernel
theorem dX12_init_228 : decode cX12_init 228 = .ok (.iastore, 1) := by decide +kernel
theorem dX12_init_229 : decode cX12_init 229 = .ok (.dup, 1) := by decide +kernel
theorem dX12_init_230 : decode cX12_init 230 = .ok (.bipush 18, 2) := by decide +kernel
theorem dX12_init_232 : decode cX12_init 232 = .ok (.bipush 32, 2) := by decide +kernel
theorem dX12_init_234 : decode cX12_init 234 = .ok (.iastore, 1) := by decide +kernel
theorem dX12_init_235 : decode cX12_init 235 = .ok (.dup, 1) := by decide +kernel
theorem dX12_init_236 : decode cX12_init 236 = .ok (.bipush 19, 2) := by decide +kernel
theorem dX12_init_238 : decode cX12_init 238 = .ok (.bipush 59, 2) := by decide +kernel
theorem dX12_init_240 : decode cX12_init 240 = .ok (.iastore, 1) := by decide +kernel
theorem dX12_init_241 : decode cX12_init 241 = .ok (.dup, 1) := by decide +kernel
theorem dX12_init_242 : decode cX12_init 242 = .ok (.bipush 20, 2) := by decide +kernel
theorem dX12_init_244 : decode cX12_init 244 = .ok (.bipush 32, 2) := by decide +kernel
theorem dX12_init_246 : decode cX12_init 246 = .ok (.iastore, 1) := by decide +kernel
theorem dX12_init_247 : decode cX12_init 247 = .ok (.dup, 1) := by decide +kernel
theorem dX12_init_248 : decode cX12_init 248 = .ok (.bipush 21, 2) := by decide +kernel
theorem dX12_init_250 : decode cX12_init 250 = .ok (.bipush 107, 2) := by decide +kernel
theorem dX12_init_252 : decode cX12_init 252 = .ok (.iastore, 1) := by decide +kernel
theorem dX12_init_253 : decode cX12_init 253 = .ok (.dup, 1) := by decide +kernel
theorem dX12_init_254 : decode cX12_init 254 = .ok (.bipush 22, 2) := by decide +kernel
theorem dX12_init_256 : decode cX12_init 256 = .ok (.bipush 101, 2) := by decide +kernel
theorem dX12_init_258 : decode cX12_init 258 = .ok (.iastore, 1) := by decide +kernel
theorem dX12_init_259 : decode cX12_init 259 = .ok (.dup, 1) := by decide +kernel
theorem dX12_init_260 : decode cX12_init 260 = .ok (.bipush 23, 2) := by decide +kernel
theorem dX12_init_262 : decode cX12_init 262 = .ok (.bipush 101, 2) := by decide +kernel
theorem dX12_init_264 : decode cX12_init 264 = .ok (.iastore, 1) := by decide +kernel
theorem dX12_init_265 : decode cX12_init 265 = .ok (.dup, 1) := by decide +kernel
theorem dX12_init_266 : decode cX12_init 266 = .ok (.bipush 24, 2) := by decide +kernel
theorem dX12_init_268 : decode cX12_init 268 = .ok (.bipush 112, 2) := by decide +kernel
theorem dX12_init_270 : decode cX12_init 270 = .ok (.iastore, 1) := by decide +kernel
theorem dX12_init_271 : decode cX12_init 271 = .ok (.dup, 1) := by decide +kernel
theorem dX12_init_272 : decode cX12_init 272 = .ok (.bipush 25, 2) := by decide +kernel
theorem dX12_init_274 : decode cX12_init 274 = .ok (.bipush 115, 2) := by decide +kernel
theorem dX12_init_276 : decode cX12_init 276 = .ok (.iastore, 1) := by decide +kernel
theorem dX12_init_277 : decode cX12_init 277 = .ok (.dup, 1) := by decide +kernel
theorem dX12_init_278 : decode cX12_init 278 = .ok (.bipush 26, 2) := by decide +kernel
theorem dX12_init_280 : decode cX12_init 280 = .ok (.bipush 32, 2) := by decide +kernel
theorem dX12_init_282 : decode cX12_init 282 = .ok (.iastore, 1) := by decide +kernel
theorem dX12_init_283 : decode cX12_init 283 = .ok (.dup, 1) := by decide +kernel
theorem dX12_init_284 : decode cX12_init 284 = .ok (.bipush 27, 2) := by decide +kernel
theorem dX12_init_286 : decode cX12_init 286 = .ok (.bipush 49, 2) := by decide +kernel
theorem dX12_init_288 : decode cX12_init 288 = .ok (.iastore, 1) := by decide +kernel
theorem dX12_init_289 : decode cX12_init 289 = .ok (.dup, 1) := by decide +kernel
theorem dX12_init_290 : decode cX12_init 290 = .ok (.bipush 28, 2) := by decide +kernel
theorem dX12_init_292 : decode cX12_init 292 = .ok (.bipush 32, 2) := by decide +kernel
theorem dX12_init_294 : decode cX12_init 294 = .ok (.iastore, 1) := by decide +kernel
theorem dX12_init_295 : decode cX12_init 295 = .ok (.dup, 1) := by decide +kernel
theorem dX12_init_296 : decode cX12_init 296 = .ok (.bipush 29, 2) := by decide +kernel
theorem dX12_init_298 : decode cX12_init 298 = .ok (.bipush 59, 2) := by decide +kernel
theorem dX12_init_300 : decode cX12_init 300 = .ok (.iastore, 1) := by decide +kernel
theorem dX12_init_301 : decode cX12_init 301 = .ok (.dup, 1) := by decide +kernel
theorem dX12_init_302 : decode cX12_init 302 = .ok (.bipush 30, 2) := by decide +kernel
theorem dX12_init_304 : decode cX12_init 304 = .ok (.bipush 32, 2) := by decide +kernel
theorem dX12_init_306 : decode cX12_init 306 = .ok (.iastore, 1) := by decide +kernel
theorem dX12_init_307 : decode cX12_init 307 = .ok (.dup, 1) := by decide +kernel
theorem dX12_init_308 : decode cX12_init 308 = .ok (.bipush 31, 2) := by decide +kernel
theorem dX12_init_310 : decode cX12_init 310 = .ok (.bipush 111, 2) := by decide +kernel
theorem dX12_init_312 : decode cX12_init 312 = .ok (.iastore, 1) := by decide +kernel
theorem dX12_init_313 : decode cX12_init 313 = .ok (.dup, 1) := by decide +kernel
theorem dX12_init_314 : decode cX12_init 314 = .ok (.bipush 32, 2) := by decide +kernel
theorem dX12_init_316 : decode cX12_init 316 = .ok (.bipush 102, 2) := by decide +kernel
theorem dX12_init_318 : decode cX12_init 318 = .ok (.iastore, 1) := by decide +kernel
theorem dX12_init_319 : decode cX12_init 319 = .ok (.dup, 1) := by decide +kernel
theorem dX12_init_320 : decode cX12_init 320 = .ok (.bipush 33, 2) := by decide +kernel
theorem dX12_init_322 : decode cX12_init 322 = .ok (.bipush 102, 2) := by decide +kernel
theorem dX12_init_324 : decode cX12_init 324 = .ok (.iastore, 1) := by decide +kernel
theorem dX12_init_325 : decode cX12_init 325 = .ok (.dup, 1) := by decide +kernel
theorem dX12_init_326 : decode cX12_init 326 = .ok (.bipush 34, 2) := by decide +kernel
theorem dX12_init_328 : decode cX12_init 328 = .ok (.bipush 101, 2) := by decide +kernel
theorem dX12_init_330 : decode cX12_init 330 = .ok (.iastore, 1) := by decide +kernel
theorem dX12_init_331 : decode cX12_init 331 = .ok (.dup, 1) := by decide +kernel
theorem dX12_init_332 : decode cX12_init 332 = .ok (.bipush 35, 2) := by decide +kernel
theorem dX12_init_334 : decode cX12_init 334 = .ok (.bipush 114, 2) := by decide +kernel
theorem dX12_init_336 : decode cX12_init 336 = .ok (.iastore, 1) := by decide +kernel
theorem dX12_init_337 : decode cX12_init 337 = .ok (.dup, 1) := by decide +kernel
