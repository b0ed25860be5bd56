theorem dX12_tenant_63 : decode cX12_tenant 63 = .ok (.iconst 1, 1) := by decide +kernel
theorem dX12_tenant_64 : decode cX12_tenant 64 = .ok (.invokevirtual 202, 3) := by decide +kernel
theorem dX12_tenant_67 : decode cX12_tenant 67 = .ok (.istore 9, 2) := by decide +kernel
theorem dX12_tenant_69 : decode cX12_tenant 69 = .ok (.aload_n 0, 1) := by decide +kernel
theorem dX12_tenant_70 : decode cX12_tenant 70 = .ok (.getfield 16, 3) := by decide +kernel
theorem dX12_tenant_73 : decode cX12_tenant 73 = .ok (.iconst 2, 1) := by decide +kernel
theorem dX12_tenant_74 : decode cX12_tenant 74 = .ok (.iload 8, 2) := by decide +kernel
theorem dX12_tenant_76 : decode cX12_tenant 76 = .ok (.imul, 1) := by decide +kernel
theorem dX12_tenant_77 : decode cX12_tenant 77 = .ok (.iconst 1, 1) := by decide +kernel
theorem dX12_tenant_78 : decode cX12_tenant 78 = .ok (.iadd, 1) := by decide +kernel
theorem dX12_tenant_79 : decode cX12_tenant 79 = .ok (.iaload, 1) := by decide +kernel
theorem dX12_tenant_80 : decode cX12_tenant 80 = .ok (.istore 10, 2) := by decide +kernel
theorem dX12_tenant_82 : decode cX12_tenant 82 = .ok (.iload 10, 2) := by decide +kernel
theorem dX12_tenant_84 : decode cX12_tenant 84 = .ok (.iload_n 2, 1) := by decide +kernel
theorem dX12_tenant_85 : decode cX12_tenant 85 = .ok (.if_icmp .lt 13, 3) := by decide +kernel
theorem dX12_tenant_88 : decode cX12_tenant 88 = .ok (.iload 9, 2) := by decide +kernel
theorem dX12_tenant_90 : decode cX12_tenant 90 = .ok (.iload_n 3, 1) := by decide +kernel
theorem dX12_tenant_91 : decode cX12_tenant 91 = .ok (.if_icmp .lt 7, 3) := by decide +kernel
theorem dX12_tenant_94 : decode cX12_tenant 94 = .ok (.iconst 1, 1) := by decide +kernel
theorem dX12_tenant_95 : decode cX12_tenant 95 = .ok (.goto 4, 3) := by decide +kernel
theorem dX12_tenant_98 : decode cX12_tenant 98 = .ok (.iconst 0, 1) := by decide +kernel
theorem dX12_tenant_99 : decode cX12_tenant 99 = .ok (.istore 11, 2) := by decide +kernel
theorem dX12_tenant_101 : decode cX12_tenant 101 = .ok (.iload 11, 2) := by decide +kernel
theorem dX12_tenant_103 : decode cX12_tenant 103 = .ok (.ifCond .eq 34, 3) := by decide +kernel
theorem dX12_tenant_106 : decode cX12_tenant 106 = .ok (.iload 5, 2) := by decide +kernel
theorem dX12_tenant_108 : decode cX12_tenant 108 = .ok (.iconst (-1), 1) := by decide +kernel
theorem dX12_tenant_109 : decode cX12_tenant 109 = .ok (.if_icmp .eq 24, 3) := by decide +kernel
theorem dX12_tenant_112 : decode cX12_tenant 112 = .ok (.iload 9, 2) := by decide +kernel
theorem dX12_tenant_114 : decode cX12_tenant 114 = .ok (.iload 6, 2) := by decide +kernel
theorem dX12_tenant_116 : decode cX12_tenant 116 = .ok (.if_icmp .gt 17, 3) := by decide +kernel
theorem dX12_tenant_119 : decode cX12_tenant 119 = .ok (.iload 9, 2) := by decide +kernel
theorem dX12_tenant_121 : decode cX12_tenant 121 = .ok (.iload 6, 2) := by decide +kernel
theorem dX12_tenant_123 : decode cX12_tenant 123 = .ok (.if_icmp .ne 14, 3) := by decide +kernel
theorem dX12_tenant_126 : decode cX12_tenant 126 = .ok (.iload 10, 2) := by decide +kernel
theorem dX12_tenant_128 : decode cX12_tenant 128 = .ok (.iload 7, 2) := by decide +kernel
theorem dX12_tenant_130 : decode cX12_tenant 130 = .ok (.if_icmp .le 7, 3) := by decide +kernel
theorem dX12_tenant_133 : decode cX12_tenant 133 = .ok (.iconst 1, 1) := by decide +kernel
theorem dX12_tenant_134 : decode cX12_tenant 134 = .ok (.goto 4, 3) := by decide +kernel
theorem dX12_tenant_137 : decode cX12_tenant 137 = .ok (.iconst 0, 1) := by decide +kernel
theorem dX12_tenant_138 : decode cX12_tenant 138 = .ok (.istore 12, 2) := by decide +kernel
theorem dX12_tenant_140 : decode cX12_tenant 140 = .ok (.iload 12, 2) := by decide +kernel
theorem dX12_tenant_142 : decode cX12_tenant 142 = .ok (.ifCond .eq 8, 3) := by decide +kernel
theorem dX12_tenant_145 : decode cX12_tenant 145 = .ok (.iload 8, 2) := by decide +kernel
theorem dX12_tenant_147 : decode cX12_tenant 147 = .ok (.goto 5, 3) := by decide +kernel
theorem dX12_tenant_150 : decode cX12_tenant 150 = .ok (.iload 5, 2) := by decide +kernel
theorem dX12_tenant_152 : decode cX12_tenant 152 = .ok (.istore 5, 2) := by decide +kernel
theorem dX12_tenant_154 : decode cX12_tenant 154 = .ok (.iload 12, 2) := by decide +kernel
theorem dX12_tenant_156 : decode cX12_tenant 156 = .ok (.ifCond .eq 8, 3) := by decide +kernel
theorem dX12_tenant_159 : decode cX12_tenant 159 = .ok (.iload 9, 2) := by decide +kernel
theorem dX12_tenant_161 : decode cX12_tenant 161 = .ok (.goto 5, 3) := by decide +kernel
theorem dX12_tenant_164 : decode cX12_tenant 164 = .ok (.iload 6, 2) := by decide +kernel
theorem dX12_tenant_166 : decode cX12_tenant 166 = .ok (.istore 6, 2) := by decide +kernel
theorem dX12_tenant_168 : decode cX12_tenant 168 = .ok (.iload 12, 2) := by decide +kernel
theorem dX12_tenant_170 : decode cX12_tenant 170 = .ok (.ifCond .eq 8, 3) := by decide +kernel
theorem dX12_tenant_173 : decode cX12_tenant 173 = .ok (.iload 10, 2) := by decide +kernel
theorem dX12_tenant_175 : decode cX12_tenant 175 = .ok (.goto 5, 3) := by decide +kernel
theorem dX12_tenant_178 : decode cX12_tenant 178 = .ok (.iload 7, 2) := by decide +kernel
theorem dX12_tenant_180 : decode cX12_tenant 180 = .ok (.istore 7, 2) := by decide +kernel
theorem dX12_tenant_182 : decode cX12_tenant 182 = .ok (.iinc 8 1, 3) := by decide +kernel
theorem dX12_tenant_185 : decode cX12_tenant 185 = .ok (.goto (-134), 3) := by decide +kernel
theorem dX12_tenant_188 : decode cX12_tenant 188 = .ok (.iload 5, 2) := by decide +kernel
theorem dX12_tenant_190 : decode cX12_tenant 190 = .ok (.ireturn, 1) := by decide +kernel
theorem dX12_lowest_0 : decode cX12_lowest 0 = .ok (.lload_n 0, 1) := by decide +kernel
theorem dX12_lowest_1 : decode cX12_lowest 1 = .ok (.lconst 0, 1) := by decide +kernel
theorem dX12_lowest_2 : decode cX12_lowest 2 = .ok (.lcmp, 1) := by decide +kernel
theorem dX12_lowest_3 : decode cX12_lowest 3 = .ok (.ifCond .ne 7, 3) := by decide +kernel
theorem dX12_lowest_6 : decode cX12_lowest 6 = .ok (.iload 4, 2) := by decide +kernel
theorem dX12_lowest_8 : decode cX12_lowest 8 = .ok (.i2l, 1) := by decide +kernel
theorem dX12_lowest_9 : decode cX12_lowest 9 = .ok (.lreturn, 1) := by decide +kernel
theorem dX12_lowest_10 : decode cX12_lowest 10 = .ok (.lload_n 0, 1) := by decide +kernel
theorem dX12_lowest_11 : decode cX12_lowest 11 = .ok (.lstore 5, 2) := by decide +kernel
theorem dX12_lowest_13 : decode cX12_lowest 13 = .ok (.lload_n 2, 1) := by decide +kernel
theorem dX12_lowest_14 : decode cX12_lowest 14 = .ok (.lstore 7, 2) := by decide +kernel
theorem dX12_lowest_16 : decode cX12_lowest 16 = .ok (.lload 7, 2) := by decide +kernel
theorem dX12_lowest_18 : decode cX12_lowest 18 = .ok (.lconst 0, 1) := by decide +kernel
theorem dX12_lowest_19 : decode cX12_lowest 19 = .ok (.lcmp, 1) := by decide +kernel
theorem dX12_lowest_20 : decode cX12_lowest 20 = .ok (.ifCond .eq 21, 3) := by decide +kernel
theorem dX12_lowest_23 : decode cX12_lowest 23 = .ok (.lload 5, 2) := by decide +kernel
theorem dX12_lowest_25 : decode cX12_lowest 25 = .ok (.lload 7, 2) := by decide +kernel
theorem dX12_lowest_27 : decode cX12_lowest 27 = .ok (.lrem, 1) := by decide +kernel
theorem dX12_lowest_28 : decode cX12_lowest 28 = .ok (.lstore 9, 2) := by decide +kernel
theorem dX12_lowest_30 : decode cX12_lowest 30 = .ok (.lload 7, 2) := by decide +kernel
theorem dX12_lowest_32 : decode cX12_lowest 32 = .ok (.lstore 5, 2) := by decide +kernel
theorem dX12_lowest_34 : decode cX12_lowest 34 = .ok (.lload 9, 2) := by decide +kernel
theorem dX12_lowest_36 : decode cX12_lowest 36 = .ok (.lstore 7, 2) := by decide +kernel
theorem dX12_lowest_38 : decode cX12_lowest 38 = .ok (.goto (-22), 3) := by decide +kernel
theorem dX12_lowest_41 : decode cX12_lowest 41 = .ok (.iload 4, 2) := by decide +kernel
theorem dX12_lowest_43 : decode cX12_lowest 43 = .ok (.ifCond .ne 7, 3) := by decide +kernel
theorem dX12_lowest_46 : decode cX12_lowest 46 = .ok (.lload_n 0, 1) := by decide +kernel
theorem dX12_lowest_47 : decode cX12_lowest 47 = .ok (.goto 4, 3) := by decide +kernel
theorem dX12_lowest_50 : decode cX12_lowest 50 = .ok (.lload_n 2, 1) := by decide +kernel
theorem dX12_lowest_51 : decode cX12_lowest 51 = .ok (.lload 5, 2) := by decide +kernel
theorem dX12_lowest_53 : decode cX12_lowest 53 = .ok (.ldiv, 1) := by decide +kernel
theorem dX12_lowest_54 : decode cX12_lowest 54 = .ok (.lreturn, 1) := by decide +kernel
theorem dX12_isOrder_0 : decode cX12_isOrder 0 = .ok (.iconst 0, 1) := by decide +kernel
theorem dX12_isOrder_1 : decode cX12_isOrder 1 = .ok (.istore_n 3, 1) := by decide +kernel
theorem dX12_isOrder_2 : decode cX12_isOrder 2 = .ok (.iload_n 1, 1) := by decide +kernel
theorem dX12_isOrder_3 : decode cX12_isOrder 3 = .ok (.istore 4, 2) := by decide +kernel
theorem dX12_isOrder_5 : decode cX12_isOrder 5 = .ok (.iload_n 2, 1) := by decide +kernel
theorem dX12_isOrder_6 : decode cX12_isOrder 6 = .ok (.iconst 1, 1) := by decide +kernel
theorem dX12_isOrder_7 : decode cX12_isOrder 7 = .ok (.isub, 1) := by decide +kernel
theorem dX12_isOrder_8 : decode cX12_isOrder 8 = .ok (.istore 5, 2) := by decide +kernel
theorem dX12_isOrder_10 : decode cX12_isOrder 10 = .ok (.iload 5, 2) := by decide +kernel
theorem dX12_isOrder_12 : decode cX12_isOrder 12 = .ok (.ifCond .lt 55, 3) := by decide +kernel
theorem dX12_isOrder_15 : decode cX12_isOrder 15 = .ok (.aload_n 0, 1) := by decide +kernel
theorem dX12_isOrder_16 : decode cX12_isOrder 16 = .ok (.getfield 77, 3) := by decide +kernel
theorem dX12_isOrder_19 : decode cX12_isOrder 19 = .ok (.iload 5, 2) := by decide +kernel
theorem dX12_isOrder_21 : decode cX12_isOrder 21 = .ok (.iload 4, 2) := by decide +kernel
theorem dX12_isOrder_23 : decode cX12_isOrder 23 = .ok (.iload_n 2, 1) := by decide +kernel
theorem dX12_isOrder_24 : decode cX12_isOrder 24 = .ok (.irem, 1) := by decide +kernel
theorem dX12_isOrder_25 : decode cX12_isOrder 25 = .ok (.iastore, 1) := by decide +kernel
theorem dX12_isOrder_26 : decode cX12_isOrder 26 = .ok (.iload 4, 2) := by decide +kernel
theorem dX12_isOrder_28 : decode cX12_isOrder 28 = .ok (.iload_n 2, 1) := by decide +kernel
theorem dX12_isOrder_29 : decode cX12_isOrder 29 = .ok (.idiv, 1) := by decide +kernel
theorem dX12_isOrder_30 : decode cX12_isOrder 30 = .ok (.istore 4, 2) := by decide +kernel
theorem dX12_isOrder_32 : decode cX12_isOrder 32 = .ok (.iload_n 3, 1) := by decide +kernel
theorem dX12_isOrder_33 : decode cX12_isOrder 33 = .ok (.aload_n 0, 1) := by decide +kernel
theorem dX12_isOrder_34 : decode cX12_isOrder 34 = .ok (.getfield 77, 3) := by decide +kernel
theorem dX12_isOrder_37 : decode cX12_isOrder 37 = .ok (.iload 5, 2) := by decide +kernel
theorem dX12_isOrder_39 : decode cX12_isOrder 39 = .ok (.iaload, 1) := by decide +kernel
theorem dX12_isOrder_40 : decode cX12_isOrder 40 = .ok (.ishr, 1) := by decide +kernel
theorem dX12_isOrder_41 : decode cX12_isOrder 41 = .ok (.iconst 1, 1) := by decide +kernel
theorem dX12_isOrder_42 : decode cX12_isOrder 42 = .ok (.iand, 1) := by decide +kernel
theorem dX12_isOrder_43 : decode cX12_isOrder 43 = .ok (.iconst 1, 1) := by decide +kernel
theorem dX12_isOrder_44 : decode cX12_isOrder 44 = .ok (.if_icmp .ne 5, 3) := by decide +kernel
theorem dX12_isOrder_47 : decode cX12_isOrder 47 = .ok (.iconst 0, 1) := by decide +kernel
theorem dX12_isOrder_48 : decode cX12_isOrder 48 = .ok (.ireturn, 1) := by decide +kernel
theorem dX12_isOrder_49 : decode cX12_isOrder 49 = .ok (.iload_n 3, 1) := by decide +kernel
theorem dX12_isOrder_50 : decode cX12_isOrder 50 = .ok (.iconst 1, 1) := by decide +kernel
theorem dX12_isOrder_51 : decode cX12_isOrder 51 = .ok (.aload_n 0, 1) := by decide +kernel
theorem dX12_isOrder_52 : decode cX12_isOrder 52 = .ok (.getfield 77, 3) := by decide +kernel
theorem dX12_isOrder_55 : decode cX12_isOrder 55 = .ok (.iload 5, 2) := by decide +kernel
theorem dX12_isOrder_57 : decode cX12_isOrder 57 = .ok (.iaload, 1) := by decide +kernel
theorem dX12_isOrder_58 : decode cX12_isOrder 58 = .ok (.ishl, 1) := by decide +kernel
theorem dX12_isOrder_59 : decode cX12_isOrder 59 = .ok (.ior, 1) := by decide +kernel
theorem dX12_isOrder_60 : decode cX12_isOrder 60 = .ok (.istore_n 3, 1) := by decide +kernel
theorem dX12_isOrder_61 : decode cX12_isOrder 61 = .ok (.iinc 5 (-1), 3) := by decide +kernel
theorem dX12_isOrder_64 : decode cX12_isOrder 64 = .ok (.goto (-54), 3) := by decide +kernel
theorem dX12_isOrder_67 : decode cX12_isOrder 67 = .ok (.iconst 1, 1) := by decide +kernel
theorem dX12_isOrder_68 : decode cX12_isOrder 68 = .ok (.ireturn, 1) := by decide +kernel
theorem dX12_takenOf_0 : decode cX12_takenOf 0 = .ok (.iconst (-1), 1) := by decide +kernel
theorem dX12_takenOf_1 : decode cX12_takenOf 1 = .ok (.istore_n 3, 1) := by decide +kernel
theorem dX12_takenOf_2 : decode cX12_takenOf 2 = .ok (.iconst 0, 1) := by decide +kernel
theorem dX12_takenOf_3 : decode cX12_takenOf 3 = .ok (.istore 4, 2) := by decide +kernel
theorem dX12_takenOf_5 : decode cX12_takenOf 5 = .ok (.iload 4, 2) := by decide +kernel
theorem dX12_takenOf_7 : decode cX12_takenOf 7 = .ok (.iload_n 1, 1) := by decide +kernel
theorem dX12_takenOf_8 : decode cX12_takenOf 8 = .ok (.if_icmp .ge 51, 3) := by decide +kernel
theorem dX12_takenOf_11 : decode cX12_takenOf 11 = .ok (.aload_n 0, 1) := by decide +kernel
theorem dX12_takenOf_12 : decode cX12_takenOf 12 = .ok (.getfield 74, 3) := by decide +kernel
theorem dX12_takenOf_15 : decode cX12_takenOf 15 = .ok (.aload_n 0, 1) := by decide +kernel
theorem dX12_takenOf_16 : decode cX12_takenOf 16 = .ok (.getfield 77, 3) := by decide +kernel
theorem dX12_takenOf_19 : decode cX12_takenOf 19 = .ok (.iload 4, 2) := by decide +kernel
theorem dX12_takenOf_21 : decode cX12_takenOf 21 = .ok (.iaload, 1) := by decide +kernel
theorem dX12_takenOf_22 : decode cX12_takenOf 22 = .ok (.iaload, 1) := by decide +kernel
theorem dX12_takenOf_23 : decode cX12_takenOf 23 = .ok (.istore 5, 2) := by decide +kernel
theorem dX12_takenOf_25 : decode cX12_takenOf 25 = .ok (.iload 4, 2) := by decide +kernel
theorem dX12_takenOf_27 : decode cX12_takenOf 27 = .ok (.iload_n 2, 1) := by decide +kernel
theorem dX12_takenOf_28 : decode cX12_takenOf 28 = .ok (.if_icmp .lt 12, 3) := by decide +kernel
theorem dX12_takenOf_31 : decode cX12_takenOf 31 = .ok (.iload 5, 2) := by decide +kernel
theorem dX12_takenOf_33 : decode cX12_takenOf 33 = .ok (.iload_n 3, 1) := by decide +kernel
theorem dX12_takenOf_34 : decode cX12_takenOf 34 = .ok (.if_icmp .le 6, 3) := by decide +kernel
theorem dX12_takenOf_37 : decode cX12_takenOf 37 = .ok (.iload 5, 2) := by decide +kernel
theorem dX12_takenOf_39 : decode cX12_takenOf 39 = .ok (.ireturn, 1) := by decide +kernel
theorem dX12_takenOf_40 : decode cX12_takenOf 40 = .ok (.iload 5, 2) := by decide +kernel
theorem dX12_takenOf_42 : decode cX12_takenOf 42 = .ok (.iload_n 3, 1) := by decide +kernel
theorem dX12_takenOf_43 : decode cX12_takenOf 43 = .ok (.if_icmp .le 8, 3) := by decide +kernel
theorem dX12_takenOf_46 : decode cX12_takenOf 46 = .ok (.iload 5, 2) := by decide +kernel
theorem dX12_takenOf_48 : decode cX12_takenOf 48 = .ok (.goto 4, 3) := by decide +kernel
theorem dX12_takenOf_51 : decode cX12_takenOf 51 = .ok (.iload_n 3, 1) := by decide +kernel
theorem dX12_takenOf_52 : decode cX12_takenOf 52 = .ok (.istore_n 3, 1) := by decide +kernel
theorem dX12_takenOf_53 : decode cX12_takenOf 53 = .ok (.iinc 4 1, 3) := by decide +kernel
theorem dX12_takenOf_56 : decode cX12_takenOf 56 = .ok (.goto (-51), 3) := by decide +kernel
theorem dX12_takenOf_59 : decode cX12_takenOf 59 = .ok (.aload_n 0, 1) := by decide +kernel
theorem dX12_takenOf_60 : decode cX12_takenOf 60 = .ok (.getfield 74, 3) := by decide +kernel
theorem dX12_takenOf_63 : decode cX12_takenOf 63 = .ok (.aload_n 0, 1) := by decide +kernel
theorem dX12_takenOf_64 : decode cX12_takenOf 64 = .ok (.getfield 77, 3) := by decide +kernel
theorem dX12_takenOf_67 : decode cX12_takenOf 67 = .ok (.iload_n 1, 1) := by decide +kernel
theorem dX12_takenOf_68 : decode cX12_takenOf 68 = .ok (.iconst 1, 1) := by decide +kernel
theorem dX12_takenOf_69 : decode cX12_takenOf 69 = .ok (.isub, 1) := by decide +kernel
theorem dX12_takenOf_70 : decode cX12_takenOf 70 = .ok (.iaload, 1) := by decide +kernel
theorem dX12_takenOf_71 : decode cX12_takenOf 71 = .ok (.iaload, 1) := by decide +kernel
theorem dX12_takenOf_72 : decode cX12_takenOf 72 = .ok (.ireturn, 1) := by decide +kernel
theorem dX12_waits_0 : decode cX12_waits 0 = .ok (.aload_n 0, 1) := by decide +kernel
theorem dX12_waits_1 : decode cX12_waits 1 = .ok (.iload_n 1, 1) := by decide +kernel
theorem dX12_waits_2 : decode cX12_waits 2 = .ok (.invokevirtual 197, 3) := by decide +kernel
theorem dX12_waits_5 : decode cX12_waits 5 = .ok (.ifCond .ne 25, 3) := by decide +kernel
theorem dX12_waits_8 : decode cX12_waits 8 = .ok (.iload_n 2, 1) := by decide +kernel
theorem dX12_waits_9 : decode cX12_waits 9 = .ok (.iconst 1, 1) := by decide +kernel
theorem dX12_waits_10 : decode cX12_waits 10 = .ok (.bipush 6, 2) := by decide +kernel
theorem dX12_waits_12 : decode cX12_waits 12 = .ok (.invokestatic 90, 3) := by decide +kernel
theorem dX12_waits_15 : decode cX12_waits 15 = .ok (.ifCond .eq 15, 3) := by decide +kernel
theorem dX12_waits_18 : decode cX12_waits 18 = .ok (.iload_n 2, 1) := by decide +kernel
theorem dX12_waits_19 : decode cX12_waits 19 = .ok (.aload_n 0, 1) := by decide +kernel
theorem dX12_waits_20 : decode cX12_waits 20 = .ok (.getfield 87, 3) := by decide +kernel
theorem dX12_waits_23 : decode cX12_waits 23 = .ok (.if_icmp .gt 7, 3) := by decide +kernel
theorem dX12_waits_26 : decode cX12_waits 26 = .ok (.iconst 1, 1) := by decide +kernel
theorem dX12_waits_27 : decode cX12_waits 27 = .ok (.goto 4, 3) := by decide +kernel
theorem dX12_waits_30 : decode cX12_waits 30 = .ok (.iconst 0, 1) := by decide +kernel
theorem dX12_waits_31 : decode cX12_waits 31 = .ok (.istore 5, 2) := by decide +kernel
theorem dX12_waits_33 : decode cX12_waits 33 = .ok (.iload 5, 2) := by decide +kernel
theorem dX12_waits_35 : decode cX12_waits 35 = .ok (.ifCond .eq 24, 3) := by decide +kernel
theorem dX12_waits_38 : decode cX12_waits 38 = .ok (.iload_n 3, 1) := by decide +kernel
theorem dX12_waits_39 : decode cX12_waits 39 = .ok (.iconst 0, 1) := by decide +kernel
theorem dX12_waits_40 : decode cX12_waits 40 = .ok (.iload_n 2, 1) := by decide +kernel
theorem dX12_waits_41 : decode cX12_waits 41 = .ok (.iconst 1, 1) := by decide +kernel
theorem dX12_waits_42 : decode cX12_waits 42 = .ok (.isub, 1) := by decide +kernel
theorem dX12_waits_43 : decode cX12_waits 43 = .ok (.invokestatic 90, 3) := by decide +kernel
theorem dX12_waits_46 : decode cX12_waits 46 = .ok (.ifCond .eq 13, 3) := by decide +kernel
theorem dX12_waits_49 : decode cX12_waits 49 = .ok (.iload 4, 2) := by decide +kernel
theorem dX12_waits_51 : decode cX12_waits 51 = .ok (.iconst 0, 1) := by decide +kernel
theorem dX12_waits_52 : decode cX12_waits 52 = .ok (.iconst 1, 1) := by decide +kernel
theorem dX12_waits_53 : decode cX12_waits 53 = .ok (.invokestatic 90, 3) := by decide +kernel
theorem dX12_waits_56 : decode cX12_waits 56 = .ok (.ifCond .ne 7, 3) := by decide +kernel
theorem dX12_waits_59 : decode cX12_waits 59 = .ok (.ldc2_w 232, 3) := by decide +kernel
theorem dX12_waits_62 : decode cX12_waits 62 = .ok (.lreturn, 1) := by decide +kernel
theorem dX12_waits_63 : decode cX12_waits 63 = .ok (.iconst 0, 1) := by decide +kernel
theorem dX12_waits_64 : decode cX12_waits 64 = .ok (.istore 6, 2) := by decide +kernel
theorem dX12_waits_66 : decode cX12_waits 66 = .ok (.iconst 1, 1) := by decide +kernel
theorem dX12_waits_67 : decode cX12_waits 67 = .ok (.istore 7, 2) := by decide +kernel
theorem dX12_waits_69 : decode cX12_waits 69 = .ok (.iconst 0, 1) := by decide +kernel
theorem dX12_waits_70 : decode cX12_waits 70 = .ok (.istore 8, 2) := by decide +kernel
theorem dX12_waits_72 : decode cX12_waits 72 = .ok (.iload 8, 2) := by decide +kernel
theorem dX12_waits_74 : decode cX12_waits 74 = .ok (.iload_n 2, 1) := by decide +kernel
theorem dX12_waits_75 : decode cX12_waits 75 = .ok (.if_icmp .ge 55, 3) := by decide +kernel
theorem dX12_waits_78 : decode cX12_waits 78 = .ok (.aload_n 0, 1) := by decide +kernel
theorem dX12_waits_79 : decode cX12_waits 79 = .ok (.getfield 74, 3) := by decide +kernel
theorem dX12_waits_82 : decode cX12_waits 82 = .ok (.iload 8, 2) := by decide +kernel
theorem dX12_waits_84 : decode cX12_waits 84 = .ok (.aload_n 0, 1) := by decide +kernel
theorem dX12_waits_85 : decode cX12_waits 85 = .ok (.iload 8, 2) := by decide +kernel
theorem dX12_waits_87 : decode cX12_waits 87 = .ok (.iconst 1, 1) := by decide +kernel
theorem dX12_waits_88 : decode cX12_waits 88 = .ok (.invokevirtual 202, 3) := by decide +kernel
theorem dX12_waits_91 : decode cX12_waits 91 = .ok (.iastore, 1) := by decide +kernel
theorem dX12_waits_92 : decode cX12_waits 92 = .ok (.aload_n 0, 1) := by decide +kernel
theorem dX12_waits_93 : decode cX12_waits 93 = .ok (.getfield 74, 3) := by decide +kernel
theorem dX12_waits_96 : decode cX12_waits 96 = .ok (.iload 8, 2) := by decide +kernel
theorem dX12_waits_98 : decode cX12_waits 98 = .ok (.iaload, 1) := by decide +kernel
theorem dX12_waits_99 : decode cX12_waits 99 = .ok (.iload 6, 2) := by decide +kernel
theorem dX12_waits_101 : decode cX12_waits 101 = .ok (.if_icmp .le 13, 3) := by decide +kernel
theorem dX12_waits_104 : decode cX12_waits 104 = .ok (.aload_n 0, 1) := by decide +kernel
theorem dX12_waits_105 : decode cX12_waits 105 = .ok (.getfield 74, 3) := by decide +kernel
theorem dX12_waits_108 : decode cX12_waits 108 = .ok (.iload 8, 2) := by decide +kernel
theorem dX12_waits_110 : decode cX12_waits 110 = .ok (.iaload, 1) := by decide +kernel
theorem dX12_waits_111 : decode cX12_waits 111 = .ok (.goto 5, 3) := by decide +kernel
theorem dX12_waits_114 : decode cX12_waits 114 = .ok (.iload 6, 2) := by decide +kernel
theorem dX12_waits_116 : decode cX12_waits 116 = .ok (.istore 6, 2) := by decide +kernel
theorem dX12_waits_118 : decode cX12_waits 118 = .ok (.iload 7, 2) := by decide +kernel
theorem dX12_waits_120 : decode cX12_waits 120 = .ok (.iload_n 2, 1) := by decide +kernel
theorem dX12_waits_121 : decode cX12_waits 121 = .ok (.imul, 1) := by decide +kernel
theorem dX12_waits_122 : decode cX12_waits 122 = .ok (.istore 7, 2) := by decide +kernel
theorem dX12_waits_124 : decode cX12_waits 124 = .ok (.iinc 8 1, 3) := by decide +kernel
theorem dX12_waits_127 : decode cX12_waits 127 = .ok (.goto (-55), 3) := by decide +kernel
theorem dX12_waits_130 : decode cX12_waits 130 = .ok (.lconst 0, 1) := by decide +kernel
theorem dX12_waits_131 : decode cX12_waits 131 = .ok (.lstore 8, 2) := by decide +kernel
theorem dX12_waits_133 : decode cX12_waits 133 = .ok (.lconst 0, 1) := by decide +kernel
theorem dX12_waits_134 : decode cX12_waits 134 = .ok (.lstore 10, 2) := by decide +kernel
theorem dX12_waits_136 : decode cX12_waits 136 = .ok (.iconst 0, 1) := by decide +kernel
theorem dX12_waits_137 : decode cX12_waits 137 = .ok (.istore 12, 2) := by decide +kernel
theorem dX12_waits_139 : decode cX12_waits 139 = .ok (.iload 12, 2) := by decide +kernel
theorem dX12_waits_141 : decode cX12_waits 141 = .ok (.iload 7, 2) := by decide +kernel
theorem dX12_waits_143 : decode cX12_waits 143 = .ok (.if_icmp .ge 46, 3) := by decide +kernel
theorem dX12_waits_146 : decode cX12_waits 146 = .ok (.aload_n 0, 1) := by decide +kernel
theorem dX12_waits_147 : decode cX12_waits 147 = .ok (.iload 12, 2) := by decide +kernel
theorem dX12_waits_149 : decode cX12_waits 149 = .ok (.iload_n 2, 1) := by decide +kernel
theorem dX12_waits_150 : decode cX12_waits 150 = .ok (.invokevirtual 234, 3) := by decide +kernel
theorem dX12_waits_153 : decode cX12_waits 153 = .ok (.ifCond .eq 30, 3) := by decide +kernel
theorem dX12_waits_156 : decode cX12_waits 156 = .ok (.lload 10, 2) := by decide +kernel
theorem dX12_waits_158 : decode cX12_waits 158 = .ok (.lconst 1, 1) := by decide +kernel
theorem dX12_waits_159 : decode cX12_waits 159 = .ok (.ladd, 1) := by decide +kernel
theorem dX12_waits_160 : decode cX12_waits 160 = .ok (.lstore 10, 2) := by decide +kernel
theorem dX12_waits_162 : decode cX12_waits 162 = .ok (.lload 8, 2) := by decide +kernel
theorem dX12_waits_164 : decode cX12_waits 164 = .ok (.aload_n 0, 1) := by decide +kernel
theorem dX12_waits_165 : decode cX12_waits 165 = .ok (.iload_n 2, 1) := by decide +kernel
theorem dX12_waits_166 : decode cX12_waits 166 = .ok (.iload_n 3, 1) := by decide +kernel
theorem dX12_waits_167 : decode cX12_waits 167 = .ok (.invokevirtual 238, 3) := by decide +kernel
theorem dX12_waits_170 : decode cX12_waits 170 = .ok (.iload 6, 2) := by decide +kernel
theorem dX12_waits_172 : decode cX12_waits 172 = .ok (.if_icmp .ne 7, 3) := by decide +kernel
theorem dX12_waits_175 : decode cX12_waits 175 = .ok (.lconst 1, 1) := by decide +kernel
theorem dX12_waits_176 : decode cX12_waits 176 = .ok (.goto 4, 3) := by decide +kernel
theorem dX12_waits_179 : decode cX12_waits 179 = .ok (.lconst 0, 1) := by decide +kernel
theorem dX12_waits_180 : decode cX12_waits 180 = .ok (.ladd, 1) := by decide +kernel
theorem dX12_waits_181 : decode cX12_waits 181 = .ok (.lstore 8, 2) := by decide +kernel
theorem dX12_waits_183 : decode cX12_waits 183 = .ok (.iinc 12 1, 3) := by decide +kernel
theorem dX12_waits_186 : decode cX12_waits 186 = .ok (.goto (-47), 3) := by decide +kernel
theorem dX12_waits_189 : decode cX12_waits 189 = .ok (.lload 8, 2) := by decide +kernel
theorem dX12_waits_191 : decode cX12_waits 191 = .ok (.lload 10, 2) := by decide +kernel
theorem dX12_waits_193 : decode cX12_waits 193 = .ok (.iload 4, 2) := by decide +kernel
theorem dX12_waits_195 : decode cX12_waits 195 = .ok (.invokestatic 241, 3) := by decide +kernel
theorem dX12_waits_198 : decode cX12_waits 198 = .ok (.lreturn, 1) := by decide +kernel
theorem dX12_toldWrong_0 : decode cX12_toldWrong 0 = .ok (.iload_n 1, 1) := by decide +kernel
theorem dX12_toldWrong_1 : decode cX12_toldWrong 1 = .ok (.iconst 0, 1) := by decide +kernel
theorem dX12_toldWrong_2 : decode cX12_toldWrong 2 = .ok (.iconst 3, 1) := by decide +kernel
theorem dX12_toldWrong_3 : decode cX12_toldWrong 3 = .ok (.invokestatic 90, 3) := by decide +kernel
theorem dX12_toldWrong_6 : decode cX12_toldWrong 6 = .ok (.ifCond .eq 12, 3) := by decide +kernel
theorem dX12_toldWrong_9 : decode cX12_toldWrong 9 = .ok (.iload_n 2, 1) := by decide +kernel
theorem dX12_toldWrong_10 : decode cX12_toldWrong 10 = .ok (.iconst 0, 1) := by decide +kernel
theorem dX12_toldWrong_11 : decode cX12_toldWrong 11 = .ok (.iconst 3, 1) := by decide +kernel
theorem dX12_toldWrong_12 : decode cX12_toldWrong 12 = .ok (.invokestatic 90, 3) := by decide +kernel
theorem dX12_toldWrong_15 : decode cX12_toldWrong 15 = .ok (.ifCond .ne 6, 3) := by decide +kernel
theorem dX12_toldWrong_18 : decode cX12_toldWrong 18 = .ok (.bipush (-2), 2) := by decide +kernel
theorem dX12_toldWrong_20 : decode cX12_toldWrong 20 = .ok (.ireturn, 1) := by decide +kernel
theorem dX12_toldWrong_21 : decode cX12_toldWrong 21 = .ok (.aload_n 0, 1) := by decide +kernel
theorem dX12_toldWrong_22 : decode cX12_toldWrong 22 = .ok (.getfield 41, 3) := by decide +kernel
theorem dX12_toldWrong_25 : decode cX12_toldWrong 25 = .ok (.iload_n 1, 1) := by decide +kernel
theorem dX12_toldWrong_26 : decode cX12_toldWrong 26 = .ok (.iaload, 1) := by decide +kernel
theorem dX12_toldWrong_27 : decode cX12_toldWrong 27 = .ok (.iconst (-1), 1) := by decide +kernel
theorem dX12_toldWrong_28 : decode cX12_toldWrong 28 = .ok (.if_icmp .eq 13, 3) := by decide +kernel
theorem dX12_toldWrong_31 : decode cX12_toldWrong 31 = .ok (.aload_n 0, 1) := by decide +kernel
theorem dX12_toldWrong_32 : decode cX12_toldWrong 32 = .ok (.getfield 41, 3) := by decide +kernel
theorem dX12_toldWrong_35 : decode cX12_toldWrong 35 = .ok (.iload_n 2, 1) := by decide +kernel
theorem dX12_toldWrong_36 : decode cX12_toldWrong 36 = .ok (.iaload, 1) := by decide +kernel
theorem dX12_toldWrong_37 : decode cX12_toldWrong 37 = .ok (.iconst (-1), 1) := by decide +kernel
theorem dX12_toldWrong_38 : decode cX12_toldWrong 38 = .ok (.if_icmp .ne 6, 3) := by decide +kernel
theorem dX12_toldWrong_41 : decode cX12_toldWrong 41 = .ok (.bipush (-11), 2) := by decide +kernel
theorem dX12_toldWrong_43 : decode cX12_toldWrong 43 = .ok (.ireturn, 1) := by decide +kernel
theorem dX12_toldWrong_44 : decode cX12_toldWrong 44 = .ok (.aload_n 0, 1) := by decide +kernel
theorem dX12_toldWrong_45 : decode cX12_toldWrong 45 = .ok (.iload_n 1, 1) := by decide +kernel
theorem dX12_toldWrong_46 : decode cX12_toldWrong 46 = .ok (.invokevirtual 197, 3) := by decide +kernel
theorem dX12_toldWrong_49 : decode cX12_toldWrong 49 = .ok (.ifCond .ne 14, 3) := by decide +kernel
theorem dX12_toldWrong_52 : decode cX12_toldWrong 52 = .ok (.aload_n 0, 1) := by decide +kernel
theorem dX12_toldWrong_53 : decode cX12_toldWrong 53 = .ok (.getfield 44, 3) := by decide +kernel
theorem dX12_toldWrong_56 : decode cX12_toldWrong 56 = .ok (.iload_n 2, 1) := by decide +kernel
theorem dX12_toldWrong_57 : decode cX12_toldWrong 57 = .ok (.iaload, 1) := by decide +kernel
theorem dX12_toldWrong_58 : decode cX12_toldWrong 58 = .ok (.bipush 12, 2) := by decide +kernel
theorem dX12_toldWrong_60 : decode cX12_toldWrong 60 = .ok (.if_icmp .le 6, 3) := by decide +kernel
theorem dX12_toldWrong_63 : decode cX12_toldWrong 63 = .ok (.bipush (-2), 2) := by decide +kernel
theorem dX12_toldWrong_65 : decode cX12_toldWrong 65 = .ok (.ireturn, 1) := by decide +kernel
theorem dX12_toldWrong_66 : decode cX12_toldWrong 66 = .ok (.aload_n 0, 1) := by decide +kernel
theorem dX12_toldWrong_67 : decode cX12_toldWrong 67 = .ok (.iload_n 3, 1) := by decide +kernel
theorem dX12_toldWrong_68 : decode cX12_toldWrong 68 = .ok (.invokevirtual 173, 3) := by decide +kernel
theorem dX12_toldWrong_71 : decode cX12_toldWrong 71 = .ok (.ifCond .eq 7, 3) := by decide +kernel
theorem dX12_toldWrong_74 : decode cX12_toldWrong 74 = .ok (.iconst 0, 1) := by decide +kernel
theorem dX12_toldWrong_75 : decode cX12_toldWrong 75 = .ok (.goto 5, 3) := by decide +kernel
theorem dX12_toldWrong_78 : decode cX12_toldWrong 78 = .ok (.bipush (-5), 2) := by decide +kernel
theorem dX12_toldWrong_80 : decode cX12_toldWrong 80 = .ok (.ireturn, 1) := by decide +kernel
theorem dX12_unlike_0 : decode cX12_unlike 0 = .ok (.aload_n 0, 1) := by decide +kernel
theorem dX12_unlike_1 : decode cX12_unlike 1 = .ok (.getfield 22, 3) := by decide +kernel
theorem dX12_unlike_4 : decode cX12_unlike 4 = .ok (.istore_n 3, 1) := by decide +kernel
theorem dX12_unlike_5 : decode cX12_unlike 5 = .ok (.iconst (-1), 1) := by decide +kernel
theorem dX12_unlike_6 : decode cX12_unlike 6 = .ok (.istore 4, 2) := by decide +kernel
theorem dX12_unlike_8 : decode cX12_unlike 8 = .ok (.iconst 0, 1) := by decide +kernel
theorem dX12_unlike_9 : decode cX12_unlike 9 = .ok (.istore 5, 2) := by decide +kernel
theorem dX12_unlike_11 : decode cX12_unlike 11 = .ok (.iload 5, 2) := by decide +kernel
theorem dX12_unlike_13 : decode cX12_unlike 13 = .ok (.aload_n 0, 1) := by decide +kernel
theorem dX12_unlike_14 : decode cX12_unlike 14 = .ok (.getfield 44, 3) := by decide +kernel
theorem dX12_unlike_17 : decode cX12_unlike 17 = .ok (.iload_n 1, 1) := by decide +kernel
theorem dX12_unlike_18 : decode cX12_unlike 18 = .ok (.iaload, 1) := by decide +kernel
theorem dX12_unlike_19 : decode cX12_unlike 19 = .ok (.if_icmp .ge 50, 3) := by decide +kernel
theorem dX12_unlike_22 : decode cX12_unlike 22 = .ok (.iload 4, 2) := by decide +kernel
theorem dX12_unlike_24 : decode cX12_unlike 24 = .ok (.iconst (-1), 1) := by decide +kernel
theorem dX12_unlike_25 : decode cX12_unlike 25 = .ok (.if_icmp .ne 44, 3) := by decide +kernel
theorem dX12_unlike_28 : decode cX12_unlike 28 = .ok (.aload_n 0, 1) := by decide +kernel
theorem dX12_unlike_29 : decode cX12_unlike 29 = .ok (.iload 5, 2) := by decide +kernel
theorem dX12_unlike_31 : decode cX12_unlike 31 = .ok (.putfield 22, 3) := by decide +kernel
theorem dX12_unlike_34 : decode cX12_unlike 34 = .ok (.aload_n 0, 1) := by decide +kernel
theorem dX12_unlike_35 : decode cX12_unlike 35 = .ok (.getfield 47, 3) := by decide +kernel
theorem dX12_unlike_38 : decode cX12_unlike 38 = .ok (.bipush 40, 2) := by decide +kernel
theorem dX12_unlike_40 : decode cX12_unlike 40 = .ok (.iload_n 1, 1) := by decide +kernel
theorem dX12_unlike_41 : decode cX12_unlike 41 = .ok (.imul, 1) := by decide +kernel
theorem dX12_unlike_42 : decode cX12_unlike 42 = .ok (.iload 5, 2) := by decide +kernel
theorem dX12_unlike_44 : decode cX12_unlike 44 = .ok (.iadd, 1) := by decide +kernel
theorem dX12_unlike_45 : decode cX12_unlike 45 = .ok (.iaload, 1) := by decide +kernel
theorem dX12_unlike_46 : decode cX12_unlike 46 = .ok (.aload_n 0, 1) := by decide +kernel
theorem dX12_unlike_47 : decode cX12_unlike 47 = .ok (.iload_n 2, 1) := by decide +kernel
theorem dX12_unlike_48 : decode cX12_unlike 48 = .ok (.iconst 1, 1) := by decide +kernel
theorem dX12_unlike_49 : decode cX12_unlike 49 = .ok (.invokevirtual 202, 3) := by decide +kernel
theorem dX12_unlike_52 : decode cX12_unlike 52 = .ok (.if_icmp .ne 7, 3) := by decide +kernel
theorem dX12_unlike_55 : decode cX12_unlike 55 = .ok (.iconst (-1), 1) := by decide +kernel
theorem dX12_unlike_56 : decode cX12_unlike 56 = .ok (.goto 5, 3) := by decide +kernel
theorem dX12_unlike_59 : decode cX12_unlike 59 = .ok (.iload 5, 2) := by decide +kernel
theorem dX12_unlike_61 : decode cX12_unlike 61 = .ok (.istore 4, 2) := by decide +kernel
theorem dX12_unlike_63 : decode cX12_unlike 63 = .ok (.iinc 5 1, 3) := by decide +kernel
theorem dX12_unlike_66 : decode cX12_unlike 66 = .ok (.goto (-55), 3) := by decide +kernel
theorem dX12_unlike_69 : decode cX12_unlike 69 = .ok (.aload_n 0, 1) := by decide +kernel
theorem dX12_unlike_70 : decode cX12_unlike 70 = .ok (.iload_n 3, 1) := by decide +kernel
theorem dX12_unlike_71 : decode cX12_unlike 71 = .ok (.putfield 22, 3) := by decide +kernel
theorem dX12_unlike_74 : decode cX12_unlike 74 = .ok (.iload 4, 2) := by decide +kernel
theorem dX12_unlike_76 : decode cX12_unlike 76 = .ok (.ireturn, 1) := by decide +kernel
theorem dX12_judge_0 : decode cX12_judge 0 = .ok (.aload_n 0, 1) := by decide +kernel
theorem dX12_judge_1 : decode cX12_judge 1 = .ok (.iload_n 1, 1) := by decide +kernel
theorem dX12_judge_2 : decode cX12_judge 2 = .ok (.iload_n 2, 1) := by decide +kernel
theorem dX12_judge_3 : decode cX12_judge 3 = .ok (.iload_n 3, 1) := by decide +kernel
theorem dX12_judge_4 : decode cX12_judge 4 = .ok (.invokevirtual 245, 3) := by decide +kernel
theorem dX12_judge_7 : decode cX12_judge 7 = .ok (.istore 4, 2) := by decide +kernel
theorem dX12_judge_9 : decode cX12_judge 9 = .ok (.iload 4, 2) := by decide +kernel
theorem dX12_judge_11 : decode cX12_judge 11 = .ok (.ifCond .ne 12, 3) := by decide +kernel
theorem dX12_judge_14 : decode cX12_judge 14 = .ok (.aload_n 0, 1) := by decide +kernel
theorem dX12_judge_15 : decode cX12_judge 15 = .ok (.iload_n 2, 1) := by decide +kernel
theorem dX12_judge_16 : decode cX12_judge 16 = .ok (.iload_n 3, 1) := by decide +kernel
theorem dX12_judge_17 : decode cX12_judge 17 = .ok (.invokevirtual 248, 3) := by decide +kernel
theorem dX12_judge_20 : decode cX12_judge 20 = .ok (.goto 5, 3) := by decide +kernel
theorem dX12_judge_23 : decode cX12_judge 23 = .ok (.iload 4, 2) := by decide +kernel
theorem dX12_judge_25 : decode cX12_judge 25 = .ok (.ireturn, 1) := by decide +kernel
theorem dX12_kinds_0 : decode cX12_kinds 0 = .ok (.aload_n 0, 1) := by decide +kernel
theorem dX12_kinds_1 : decode cX12_kinds 1 = .ok (.iload_n 1, 1) := by decide +kernel
theorem dX12_kinds_2 : decode cX12_kinds 2 = .ok (.iload_n 2, 1) := by decide +kernel
theorem dX12_kinds_3 : decode cX12_kinds 3 = .ok (.iload_n 3, 1) := by decide +kernel
theorem dX12_kinds_4 : decode cX12_kinds 4 = .ok (.invokevirtual 245, 3) := by decide +kernel
theorem dX12_kinds_7 : decode cX12_kinds 7 = .ok (.istore 5, 2) := by decide +kernel
theorem dX12_kinds_9 : decode cX12_kinds 9 = .ok (.iload 5, 2) := by decide +kernel
theorem dX12_kinds_11 : decode cX12_kinds 11 = .ok (.ifCond .eq 6, 3) := by decide +kernel
theorem dX12_kinds_14 : decode cX12_kinds 14 = .ok (.iload 5, 2) := by decide +kernel
theorem dX12_kinds_16 : decode cX12_kinds 16 = .ok (.ireturn, 1) := by decide +kernel
theorem dX12_kinds_17 : decode cX12_kinds 17 = .ok (.iload 4, 2) := by decide +kernel
theorem dX12_kinds_19 : decode cX12_kinds 19 = .ok (.iconst 0, 1) := by decide +kernel
theorem dX12_kinds_20 : decode cX12_kinds 20 = .ok (.iconst 1, 1) := by decide +kernel
theorem dX12_kinds_21 : decode cX12_kinds 21 = .ok (.invokestatic 90, 3) := by decide +kernel
theorem dX12_kinds_24 : decode cX12_kinds 24 = .ok (.ifCond .ne 6, 3) := by decide +kernel
theorem dX12_kinds_27 : decode cX12_kinds 27 = .ok (.bipush (-7), 2) := by decide +kernel
theorem dX12_kinds_29 : decode cX12_kinds 29 = .ok (.ireturn, 1) := by decide +kernel
theorem dX12_kinds_30 : decode cX12_kinds 30 = .ok (.aload_n 0, 1) := by decide +kernel
theorem dX12_kinds_31 : decode cX12_kinds 31 = .ok (.getfield 7, 3) := by decide +kernel
theorem dX12_kinds_34 : decode cX12_kinds 34 = .ok (.iload_n 3, 1) := by decide +kernel
theorem dX12_kinds_35 : decode cX12_kinds 35 = .ok (.iaload, 1) := by decide +kernel
theorem dX12_kinds_36 : decode cX12_kinds 36 = .ok (.istore 6, 2) := by decide +kernel
theorem dX12_kinds_38 : decode cX12_kinds 38 = .ok (.aload_n 0, 1) := by decide +kernel
theorem dX12_kinds_39 : decode cX12_kinds 39 = .ok (.getfield 13, 3) := by decide +kernel
theorem dX12_kinds_42 : decode cX12_kinds 42 = .ok (.iload_n 3, 1) := by decide +kernel
theorem dX12_kinds_43 : decode cX12_kinds 43 = .ok (.iaload, 1) := by decide +kernel
theorem dX12_kinds_44 : decode cX12_kinds 44 = .ok (.istore 7, 2) := by decide +kernel
theorem dX12_kinds_46 : decode cX12_kinds 46 = .ok (.iconst 0, 1) := by decide +kernel
theorem dX12_kinds_47 : decode cX12_kinds 47 = .ok (.istore 8, 2) := by decide +kernel
theorem dX12_kinds_49 : decode cX12_kinds 49 = .ok (.iconst 0, 1) := by decide +kernel
theorem dX12_kinds_50 : decode cX12_kinds 50 = .ok (.istore 9, 2) := by decide +kernel
theorem dX12_kinds_52 : decode cX12_kinds 52 = .ok (.iload 9, 2) := by decide +kernel
theorem dX12_kinds_54 : decode cX12_kinds 54 = .ok (.iload 4, 2) := by decide +kernel
theorem dX12_kinds_56 : decode cX12_kinds 56 = .ok (.ifCond .ne 8, 3) := by decide +kernel
theorem dX12_kinds_59 : decode cX12_kinds 59 = .ok (.bipush 6, 2) := by decide +kernel
theorem dX12_kinds_61 : decode cX12_kinds 61 = .ok (.goto 5, 3) := by decide +kernel
theorem dX12_kinds_64 : decode cX12_kinds 64 = .ok (.bipush 10, 2) := by decide +kernel
theorem dX12_kinds_66 : decode cX12_kinds 66 = .ok (.if_icmp .ge 69, 3) := by decide +kernel
theorem dX12_kinds_69 : decode cX12_kinds 69 = .ok (.aload_n 0, 1) := by decide +kernel
theorem dX12_kinds_70 : decode cX12_kinds 70 = .ok (.getfield 7, 3) := by decide +kernel
theorem dX12_kinds_73 : decode cX12_kinds 73 = .ok (.iload_n 3, 1) := by decide +kernel
theorem dX12_kinds_74 : decode cX12_kinds 74 = .ok (.iload 4, 2) := by decide +kernel
theorem dX12_kinds_76 : decode cX12_kinds 76 = .ok (.ifCond .ne 8, 3) := by decide +kernel
theorem dX12_kinds_79 : decode cX12_kinds 79 = .ok (.iload 9, 2) := by decide +kernel
theorem dX12_kinds_81 : decode cX12_kinds 81 = .ok (.goto 5, 3) := by decide +kernel
theorem dX12_kinds_84 : decode cX12_kinds 84 = .ok (.iload 6, 2) := by decide +kernel
theorem dX12_kinds_86 : decode cX12_kinds 86 = .ok (.iastore, 1) := by decide +kernel
theorem dX12_kinds_87 : decode cX12_kinds 87 = .ok (.aload_n 0, 1) := by decide +kernel
theorem dX12_kinds_88 : decode cX12_kinds 88 = .ok (.getfield 13, 3) := by decide +kernel
theorem dX12_kinds_91 : decode cX12_kinds 91 = .ok (.iload_n 3, 1) := by decide +kernel
theorem dX12_kinds_92 : decode cX12_kinds 92 = .ok (.iload 4, 2) := by decide +kernel
theorem dX12_kinds_94 : decode cX12_kinds 94 = .ok (.iconst 1, 1) := by decide +kernel
theorem dX12_kinds_95 : decode cX12_kinds 95 = .ok (.if_icmp .ne 8, 3) := by decide +kernel
theorem dX12_kinds_98 : decode cX12_kinds 98 = .ok (.iload 9, 2) := by decide +kernel
theorem dX12_kinds_100 : decode cX12_kinds 100 = .ok (.goto 5, 3) := by decide +kernel
theorem dX12_kinds_103 : decode cX12_kinds 103 = .ok (.iload 7, 2) := by decide +kernel
theorem dX12_kinds_105 : decode cX12_kinds 105 = .ok (.iastore, 1) := by decide +kernel
theorem dX12_kinds_106 : decode cX12_kinds 106 = .ok (.iload 8, 2) := by decide +kernel
theorem dX12_kinds_108 : decode cX12_kinds 108 = .ok (.aload_n 0, 1) := by decide +kernel
theorem dX12_kinds_109 : decode cX12_kinds 109 = .ok (.iload_n 2, 1) := by decide +kernel
theorem dX12_kinds_110 : decode cX12_kinds 110 = .ok (.iload_n 3, 1) := by decide +kernel
theorem dX12_kinds_111 : decode cX12_kinds 111 = .ok (.invokevirtual 248, 3) := by decide +kernel
theorem dX12_kinds_114 : decode cX12_kinds 114 = .ok (.iconst (-1), 1) := by decide +kernel
theorem dX12_kinds_115 : decode cX12_kinds 115 = .ok (.if_icmp .ne 10, 3) := by decide +kernel
theorem dX12_kinds_118 : decode cX12_kinds 118 = .ok (.iconst 1, 1) := by decide +kernel
theorem dX12_kinds_119 : decode cX12_kinds 119 = .ok (.iload 9, 2) := by decide +kernel
theorem dX12_kinds_121 : decode cX12_kinds 121 = .ok (.ishl, 1) := by decide +kernel
theorem dX12_kinds_122 : decode cX12_kinds 122 = .ok (.goto 4, 3) := by decide +kernel
theorem dX12_kinds_125 : decode cX12_kinds 125 = .ok (.iconst 0, 1) := by decide +kernel
theorem dX12_kinds_126 : decode cX12_kinds 126 = .ok (.ior, 1) := by decide +kernel
theorem dX12_kinds_127 : decode cX12_kinds 127 = .ok (.istore 8, 2) := by decide +kernel
theorem dX12_kinds_129 : decode cX12_kinds 129 = .ok (.iinc 9 1, 3) := by decide +kernel
theorem dX12_kinds_132 : decode cX12_kinds 132 = .ok (.goto (-80), 3) := by decide +kernel
theorem dX12_kinds_135 : decode cX12_kinds 135 = .ok (.aload_n 0, 1) := by decide +kernel
theorem dX12_kinds_136 : decode cX12_kinds 136 = .ok (.getfield 7, 3) := by decide +kernel
theorem dX12_kinds_139 : decode cX12_kinds 139 = .ok (.iload_n 3, 1) := by decide +kernel
theorem dX12_kinds_140 : decode cX12_kinds 140 = .ok (.iload 6, 2) := by decide +kernel
theorem dX12_kinds_142 : decode cX12_kinds 142 = .ok (.iastore, 1) := by decide +kernel
theorem dX12_kinds_143 : decode cX12_kinds 143 = .ok (.aload_n 0, 1) := by decide +kernel
theorem dX12_kinds_144 : decode cX12_kinds 144 = .ok (.getfield 13, 3) := by decide +kernel
theorem dX12_kinds_147 : decode cX12_kinds 147 = .ok (.iload_n 3, 1) := by decide +kernel
theorem dX12_kinds_148 : decode cX12_kinds 148 = .ok (.iload 7, 2) := by decide +kernel
theorem dX12_kinds_150 : decode cX12_kinds 150 = .ok (.iastore, 1) := by decide +kernel
theorem dX12_kinds_151 : decode cX12_kinds 151 = .ok (.iload 8, 2) := by decide +kernel
theorem dX12_kinds_153 : decode cX12_kinds 153 = .ok (.ireturn, 1) := by decide +kernel
theorem dX12_riches_0 : decode cX12_riches 0 = .ok (.aload_n 0, 1) := by decide +kernel
theorem dX12_riches_1 : decode cX12_riches 1 = .ok (.iload_n 1, 1) := by decide +kernel
theorem dX12_riches_2 : decode cX12_riches 2 = .ok (.iload_n 2, 1) := by decide +kernel
theorem dX12_riches_3 : decode cX12_riches 3 = .ok (.iload_n 3, 1) := by decide +kernel
theorem dX12_riches_4 : decode cX12_riches 4 = .ok (.invokevirtual 245, 3) := by decide +kernel
theorem dX12_riches_7 : decode cX12_riches 7 = .ok (.istore 5, 2) := by decide +kernel
theorem dX12_riches_9 : decode cX12_riches 9 = .ok (.iload 5, 2) := by decide +kernel
theorem dX12_riches_11 : decode cX12_riches 11 = .ok (.ifCond .eq 6, 3) := by decide +kernel
theorem dX12_riches_14 : decode cX12_riches 14 = .ok (.iload 5, 2) := by decide +kernel
theorem dX12_riches_16 : decode cX12_riches 16 = .ok (.ireturn, 1) := by decide +kernel
theorem dX12_riches_17 : decode cX12_riches 17 = .ok (.iload 4, 2) := by decide +kernel
theorem dX12_riches_19 : decode cX12_riches 19 = .ok (.iconst 0, 1) := by decide +kernel
theorem dX12_riches_20 : decode cX12_riches 20 = .ok (.iconst 1, 1) := by decide +kernel
theorem dX12_riches_21 : decode cX12_riches 21 = .ok (.invokestatic 90, 3) := by decide +kernel
theorem dX12_riches_24 : decode cX12_riches 24 = .ok (.ifCond .ne 6, 3) := by decide +kernel
theorem dX12_riches_27 : decode cX12_riches 27 = .ok (.bipush (-7), 2) := by decide +kernel
theorem dX12_riches_29 : decode cX12_riches 29 = .ok (.ireturn, 1) := by decide +kernel
theorem dX12_riches_30 : decode cX12_riches 30 = .ok (.aload_n 0, 1) := by decide +kernel
theorem dX12_riches_31 : decode cX12_riches 31 = .ok (.getfield 16, 3) := by decide +kernel
theorem dX12_riches_34 : decode cX12_riches 34 = .ok (.iconst 2, 1) := by decide +kernel
theorem dX12_riches_35 : decode cX12_riches 35 = .ok (.iload_n 3, 1) := by decide +kernel
theorem dX12_riches_36 : decode cX12_riches 36 = .ok (.imul, 1) := by decide +kernel
theorem dX12_riches_37 : decode cX12_riches 37 = .ok (.iaload, 1) := by decide +kernel
theorem dX12_riches_38 : decode cX12_riches 38 = .ok (.istore 6, 2) := by decide +kernel
theorem dX12_riches_40 : decode cX12_riches 40 = .ok (.iconst 0, 1) := by decide +kernel
theorem dX12_riches_41 : decode cX12_riches 41 = .ok (.istore 7, 2) := by decide +kernel
theorem dX12_riches_43 : decode cX12_riches 43 = .ok (.iconst (-1), 1) := by decide +kernel
theorem dX12_riches_44 : decode cX12_riches 44 = .ok (.istore 8, 2) := by decide +kernel
theorem dX12_riches_46 : decode cX12_riches 46 = .ok (.iconst 0, 1) := by decide +kernel
theorem dX12_riches_47 : decode cX12_riches 47 = .ok (.istore 9, 2) := by decide +kernel
theorem dX12_riches_49 : decode cX12_riches 49 = .ok (.iload 9, 2) := by decide +kernel
theorem dX12_riches_51 : decode cX12_riches 51 = .ok (.sipush 999, 3) := by decide +kernel
theorem dX12_riches_54 : decode cX12_riches 54 = .ok (.if_icmp .gt 71, 3) := by decide +kernel
theorem dX12_riches_57 : decode cX12_riches 57 = .ok (.aload_n 0, 1) := by decide +kernel
theorem dX12_riches_58 : decode cX12_riches 58 = .ok (.getfield 16, 3) := by decide +kernel
theorem dX12_riches_61 : decode cX12_riches 61 = .ok (.iconst 2, 1) := by decide +kernel
theorem dX12_riches_62 : decode cX12_riches 62 = .ok (.iload_n 3, 1) := by decide +kernel
theorem dX12_riches_63 : decode cX12_riches 63 = .ok (.imul, 1) := by decide +kernel
theorem dX12_riches_64 : decode cX12_riches 64 = .ok (.iload 9, 2) := by decide +kernel
theorem dX12_riches_66 : decode cX12_riches 66 = .ok (.iastore, 1) := by decide +kernel
theorem dX12_riches_67 : decode cX12_riches 67 = .ok (.aload_n 0, 1) := by decide +kernel
theorem dX12_riches_68 : decode cX12_riches 68 = .ok (.iload_n 2, 1) := by decide +kernel
theorem dX12_riches_69 : decode cX12_riches 69 = .ok (.iload_n 3, 1) := by decide +kernel
theorem dX12_riches_70 : decode cX12_riches 70 = .ok (.invokevirtual 248, 3) := by decide +kernel
theorem dX12_riches_73 : decode cX12_riches 73 = .ok (.iconst (-1), 1) := by decide +kernel
theorem dX12_riches_74 : decode cX12_riches 74 = .ok (.if_icmp .ne 7, 3) := by decide +kernel
theorem dX12_riches_77 : decode cX12_riches 77 = .ok (.iconst 1, 1) := by decide +kernel
theorem dX12_riches_78 : decode cX12_riches 78 = .ok (.goto 4, 3) := by decide +kernel
theorem dX12_riches_81 : decode cX12_riches 81 = .ok (.iconst 0, 1) := by decide +kernel
theorem dX12_riches_82 : decode cX12_riches 82 = .ok (.istore 10, 2) := by decide +kernel
theorem dX12_riches_84 : decode cX12_riches 84 = .ok (.iload 7, 2) := by decide +kernel
theorem dX12_riches_86 : decode cX12_riches 86 = .ok (.iload 10, 2) := by decide +kernel
theorem dX12_riches_88 : decode cX12_riches 88 = .ok (.ifCond .eq 7, 3) := by decide +kernel
theorem dX12_riches_91 : decode cX12_riches 91 = .ok (.iconst 1, 1) := by decide +kernel
theorem dX12_riches_92 : decode cX12_riches 92 = .ok (.goto 4, 3) := by decide +kernel
theorem dX12_riches_95 : decode cX12_riches 95 = .ok (.iconst 0, 1) := by decide +kernel
theorem dX12_riches_96 : decode cX12_riches 96 = .ok (.iadd, 1) := by decide +kernel
theorem dX12_riches_97 : decode cX12_riches 97 = .ok (.istore 7, 2) := by decide +kernel
theorem dX12_riches_99 : decode cX12_riches 99 = .ok (.iload 10, 2) := by decide +kernel
theorem dX12_riches_101 : decode cX12_riches 101 = .ok (.ifCond .eq 14, 3) := by decide +kernel
theorem dX12_riches_104 : decode cX12_riches 104 = .ok (.iload 8, 2) := by decide +kernel
theorem dX12_riches_106 : decode cX12_riches 106 = .ok (.iconst (-1), 1) := by decide +kernel
theorem dX12_riches_107 : decode cX12_riches 107 = .ok (.if_icmp .ne 8, 3) := by decide +kernel
theorem dX12_riches_110 : decode cX12_riches 110 = .ok (.iload 9, 2) := by decide +kernel
theorem dX12_riches_112 : decode cX12_riches 112 = .ok (.goto 5, 3) := by decide +kernel
theorem dX12_riches_115 : decode cX12_riches 115 = .ok (.iload 8, 2) := by decide +kernel
theorem dX12_riches_117 : decode cX12_riches 117 = .ok (.istore 8, 2) := by decide +kernel
theorem dX12_riches_119 : decode cX12_riches 119 = .ok (.iinc 9 1, 3) := by decide +kernel
theorem dX12_riches_122 : decode cX12_riches 122 = .ok (.goto (-73), 3) := by decide +kernel
theorem dX12_riches_125 : decode cX12_riches 125 = .ok (.aload_n 0, 1) := by decide +kernel
theorem dX12_riches_126 : decode cX12_riches 126 = .ok (.getfield 16, 3) := by decide +kernel
theorem dX12_riches_129 : decode cX12_riches 129 = .ok (.iconst 2, 1) := by decide +kernel
theorem dX12_riches_130 : decode cX12_riches 130 = .ok (.iload_n 3, 1) := by decide +kernel
theorem dX12_riches_131 : decode cX12_riches 131 = .ok (.imul, 1) := by decide +kernel
theorem dX12_riches_132 : decode cX12_riches 132 = .ok (.iload 6, 2) := by decide +kernel
theorem dX12_riches_134 : decode cX12_riches 134 = .ok (.iastore, 1) := by decide +kernel
theorem dX12_riches_135 : decode cX12_riches 135 = .ok (.iload 4, 2) := by decide +kernel
theorem dX12_riches_137 : decode cX12_riches 137 = .ok (.ifCond .ne 8, 3) := by decide +kernel
theorem dX12_riches_140 : decode cX12_riches 140 = .ok (.iload 7, 2) := by decide +kernel
theorem dX12_riches_142 : decode cX12_riches 142 = .ok (.goto 5, 3) := by decide +kernel
theorem dX12_riches_145 : decode cX12_riches 145 = .ok (.iload 8, 2) := by decide +kernel
theorem dX12_riches_147 : decode cX12_riches 147 = .ok (.ireturn, 1) := by decide +kernel
theorem dX12_rooms_0 : decode cX12_rooms 0 = .ok (.aload_n 0, 1) := by decide +kernel
theorem dX12_rooms_1 : decode cX12_rooms 1 = .ok (.iload_n 1, 1) := by decide +kernel
theorem dX12_rooms_2 : decode cX12_rooms 2 = .ok (.iload_n 2, 1) := by decide +kernel
theorem dX12_rooms_3 : decode cX12_rooms 3 = .ok (.iload_n 3, 1) := by decide +kernel
theorem dX12_rooms_4 : decode cX12_rooms 4 = .ok (.invokevirtual 245, 3) := by decide +kernel
theorem dX12_rooms_7 : decode cX12_rooms 7 = .ok (.istore 5, 2) := by decide +kernel
theorem dX12_rooms_9 : decode cX12_rooms 9 = .ok (.iload 5, 2) := by decide +kernel
theorem dX12_rooms_11 : decode cX12_rooms 11 = .ok (.ifCond .eq 6, 3) := by decide +kernel
theorem dX12_rooms_14 : decode cX12_rooms 14 = .ok (.iload 5, 2) := by decide +kernel
theorem dX12_rooms_16 : decode cX12_rooms 16 = .ok (.ireturn, 1) := by decide +kernel
theorem dX12_rooms_17 : decode cX12_rooms 17 = .ok (.iload 4, 2) := by decide +kernel
theorem dX12_rooms_19 : decode cX12_rooms 19 = .ok (.bipush 10, 2) := by decide +kernel
theorem dX12_rooms_21 : decode cX12_rooms 21 = .ok (.idiv, 1) := by decide +kernel
theorem dX12_rooms_22 : decode cX12_rooms 22 = .ok (.bipush 10, 2) := by decide +kernel
theorem dX12_rooms_24 : decode cX12_rooms 24 = .ok (.irem, 1) := by decide +kernel
theorem dX12_rooms_25 : decode cX12_rooms 25 = .ok (.istore 6, 2) := by decide +kernel
theorem dX12_rooms_27 : decode cX12_rooms 27 = .ok (.iload 4, 2) := by decide +kernel
theorem dX12_rooms_29 : decode cX12_rooms 29 = .ok (.iconst 0, 1) := by decide +kernel
theorem dX12_rooms_30 : decode cX12_rooms 30 = .ok (.sipush 511, 3) := by decide +kernel
theorem dX12_rooms_33 : decode cX12_rooms 33 = .ok (.invokestatic 90, 3) := by decide +kernel
theorem dX12_rooms_36 : decode cX12_rooms 36 = .ok (.ifCond .eq 18, 3) := by decide +kernel
theorem dX12_rooms_39 : decode cX12_rooms 39 = .ok (.iload 6, 2) := by decide +kernel
theorem dX12_rooms_41 : decode cX12_rooms 41 = .ok (.iconst 1, 1) := by decide +kernel
theorem dX12_rooms_42 : decode cX12_rooms 42 = .ok (.if_icmp .gt 12, 3) := by decide +kernel
theorem dX12_rooms_45 : decode cX12_rooms 45 = .ok (.iload 4, 2) := by decide +kernel
theorem dX12_rooms_47 : decode cX12_rooms 47 = .ok (.bipush 10, 2) := by decide +kernel
theorem dX12_rooms_49 : decode cX12_rooms 49 = .ok (.irem, 1) := by decide +kernel
theorem dX12_rooms_50 : decode cX12_rooms 50 = .ok (.iconst 1, 1) := by decide +kernel
theorem dX12_rooms_51 : decode cX12_rooms 51 = .ok (.if_icmp .le 6, 3) := by decide +kernel
theorem dX12_rooms_54 : decode cX12_rooms 54 = .ok (.bipush (-7), 2) := by decide +kernel
theorem dX12_rooms_56 : decode cX12_rooms 56 = .ok (.ireturn, 1) := by decide +kernel
theorem dX12_rooms_57 : decode cX12_rooms 57 = .ok (.iconst 2, 1) := by decide +kernel
theorem dX12_rooms_58 : decode cX12_rooms 58 = .ok (.iload 4, 2) := by decide +kernel
theorem dX12_rooms_60 : decode cX12_rooms 60 = .ok (.bipush 100, 2) := by decide +kernel
theorem dX12_rooms_62 : decode cX12_rooms 62 = .ok (.idiv, 1) := by decide +kernel
theorem dX12_rooms_63 : decode cX12_rooms 63 = .ok (.imul, 1) := by decide +kernel
theorem dX12_rooms_64 : decode cX12_rooms 64 = .ok (.iload 6, 2) := by decide +kernel
theorem dX12_rooms_66 : decode cX12_rooms 66 = .ok (.iadd, 1) := by decide +kernel
theorem dX12_rooms_67 : decode cX12_rooms 67 = .ok (.istore 7, 2) := by decide +kernel
theorem dX12_rooms_69 : decode cX12_rooms 69 = .ok (.aload_n 0, 1) := by decide +kernel
theorem dX12_rooms_70 : decode cX12_rooms 70 = .ok (.getfield 19, 3) := by decide +kernel
theorem dX12_rooms_73 : decode cX12_rooms 73 = .ok (.iload 7, 2) := by decide +kernel
theorem dX12_rooms_75 : decode cX12_rooms 75 = .ok (.iaload, 1) := by decide +kernel
theorem dX12_rooms_76 : decode cX12_rooms 76 = .ok (.istore 8, 2) := by decide +kernel
theorem dX12_rooms_78 : decode cX12_rooms 78 = .ok (.iconst 0, 1) := by decide +kernel
theorem dX12_rooms_79 : decode cX12_rooms 79 = .ok (.istore 9, 2) := by decide +kernel
theorem dX12_rooms_81 : decode cX12_rooms 81 = .ok (.iconst (-1), 1) := by decide +kernel
theorem dX12_rooms_82 : decode cX12_rooms 82 = .ok (.istore 10, 2) := by decide +kernel
theorem dX12_rooms_84 : decode cX12_rooms 84 = .ok (.iconst 0, 1) := by decide +kernel
theorem dX12_rooms_85 : decode cX12_rooms 85 = .ok (.istore 11, 2) := by decide +kernel
theorem dX12_rooms_87 : decode cX12_rooms 87 = .ok (.iload 11, 2) := by decide +kernel
theorem dX12_rooms_89 : decode cX12_rooms 89 = .ok (.bipush 99, 2) := by decide +kernel
theorem dX12_rooms_91 : decode cX12_rooms 91 = .ok (.if_icmp .gt 70, 3) := by decide +kernel
theorem dX12_rooms_94 : decode cX12_rooms 94 = .ok (.aload_n 0, 1) := by decide +kernel
theorem dX12_rooms_95 : decode cX12_rooms 95 = .ok (.getfield 19, 3) := by decide +kernel
theorem dX12_rooms_98 : decode cX12_rooms 98 = .ok (.iload 7, 2) := by decide +kernel
theorem dX12_rooms_100 : decode cX12_rooms 100 = .ok (.iload 11, 2) := by decide +kernel
theorem dX12_rooms_102 : decode cX12_rooms 102 = .ok (.iastore, 1) := by decide +kernel
theorem dX12_rooms_103 : decode cX12_rooms 103 = .ok (.aload_n 0, 1) := by decide +kernel
theorem dX12_rooms_104 : decode cX12_rooms 104 = .ok (.iload_n 2, 1) := by decide +kernel
theorem dX12_rooms_105 : decode cX12_rooms 105 = .ok (.iload_n 3, 1) := by decide +kernel
theorem dX12_rooms_106 : decode cX12_rooms 106 = .ok (.invokevirtual 248, 3) := by decide +kernel
theorem dX12_rooms_109 : decode cX12_rooms 109 = .ok (.iconst (-1), 1) := by decide +kernel
theorem dX12_rooms_110 : decode cX12_rooms 110 = .ok (.if_icmp .ne 7, 3) := by decide +kernel
theorem dX12_rooms_113 : decode cX12_rooms 113 = .ok (.iconst 1, 1) := by decide +kernel
theorem dX12_rooms_114 : decode cX12_rooms 114 = .ok (.goto 4, 3) := by decide +kernel
theorem dX12_rooms_117 : decode cX12_rooms 117 = .ok (.iconst 0, 1) := by decide +kernel
theorem dX12_rooms_118 : decode cX12_rooms 118 = .ok (.istore 12, 2) := by decide +kernel
theorem dX12_rooms_120 : decode cX12_rooms 120 = .ok (.iload 9, 2) := by decide +kernel
theorem dX12_rooms_122 : decode cX12_rooms 122 = .ok (.iload 12, 2) := by decide +kernel
theorem dX12_rooms_124 : decode cX12_rooms 124 = .ok (.ifCond .eq 7, 3) := by decide +kernel
theorem dX12_rooms_127 : decode cX12_rooms 127 = .ok (.iconst 1, 1) := by decide +kernel
theorem dX12_rooms_128 : decode cX12_rooms 128 = .ok (.goto 4, 3) := by decide +kernel
theorem dX12_rooms_131 : decode cX12_rooms 131 = .ok (.iconst 0, 1) := by decide +kernel
theorem dX12_rooms_132 : decode cX12_rooms 132 = .ok (.iadd, 1) := by decide +kernel
theorem dX12_rooms_133 : decode cX12_rooms 133 = .ok (.istore 9, 2) := by decide +kernel
theorem dX12_rooms_135 : decode cX12_rooms 135 = .ok (.iload 12, 2) := by decide +kernel
theorem dX12_rooms_137 : decode cX12_rooms 137 = .ok (.ifCond .eq 14, 3) := by decide +kernel
theorem dX12_rooms_140 : decode cX12_rooms 140 = .ok (.iload 10, 2) := by decide +kernel
theorem dX12_rooms_142 : decode cX12_rooms 142 = .ok (.iconst (-1), 1) := by decide +kernel
theorem dX12_rooms_143 : decode cX12_rooms 143 = .ok (.if_icmp .ne 8, 3) := by decide +kernel
theorem dX12_rooms_146 : decode cX12_rooms 146 = .ok (.iload 11, 2) := by decide +kernel
theorem dX12_rooms_148 : decode cX12_rooms 148 = .ok (.goto 5, 3) := by decide +kernel
theorem dX12_rooms_151 : decode cX12_rooms 151 = .ok (.iload 10, 2) := by decide +kernel
theorem dX12_rooms_153 : decode cX12_rooms 153 = .ok (.istore 10, 2) := by decide +kernel
theorem dX12_rooms_155 : decode cX12_rooms 155 = .ok (.iinc 11 1, 3) := by decide +kernel
theorem dX12_rooms_158 : decode cX12_rooms 158 = .ok (.goto (-71), 3) := by decide +kernel
theorem dX12_rooms_161 : decode cX12_rooms 161 = .ok (.aload_n 0, 1) := by decide +kernel
theorem dX12_rooms_162 : decode cX12_rooms 162 = .ok (.getfield 19, 3) := by decide +kernel
theorem dX12_rooms_165 : decode cX12_rooms 165 = .ok (.iload 7, 2) := by decide +kernel
theorem dX12_rooms_167 : decode cX12_rooms 167 = .ok (.iload 8, 2) := by decide +kernel
theorem dX12_rooms_169 : decode cX12_rooms 169 = .ok (.iastore, 1) := by decide +kernel
theorem dX12_rooms_170 : decode cX12_rooms 170 = .ok (.iload 4, 2) := by decide +kernel
theorem dX12_rooms_172 : decode cX12_rooms 172 = .ok (.bipush 10, 2) := by decide +kernel
theorem dX12_rooms_174 : decode cX12_rooms 174 = .ok (.irem, 1) := by decide +kernel
theorem dX12_rooms_175 : decode cX12_rooms 175 = .ok (.ifCond .ne 8, 3) := by decide +kernel
theorem dX12_rooms_178 : decode cX12_rooms 178 = .ok (.iload 9, 2) := by decide +kernel
theorem dX12_rooms_180 : decode cX12_rooms 180 = .ok (.goto 5, 3) := by decide +kernel
theorem dX12_rooms_183 : decode cX12_rooms 183 = .ok (.iload 10, 2) := by decide +kernel
theorem dX12_rooms_185 : decode cX12_rooms 185 = .ok (.ireturn, 1) := by decide +kernel
theorem dX12_laws_0 : decode cX12_laws 0 = .ok (.aload_n 0, 1) := by decide +kernel
theorem dX12_laws_1 : decode cX12_laws 1 = .ok (.iload_n 1, 1) := by decide +kernel
theorem dX12_laws_2 : decode cX12_laws 2 = .ok (.iload_n 2, 1) := by decide +kernel
theorem dX12_laws_3 : decode cX12_laws 3 = .ok (.iload_n 3, 1) := by decide +kernel
theorem dX12_laws_4 : decode cX12_laws 4 = .ok (.invokevirtual 245, 3) := by decide +kernel
theorem dX12_laws_7 : decode cX12_laws 7 = .ok (.istore 4, 2) := by decide +kernel
theorem dX12_laws_9 : decode cX12_laws 9 = .ok (.iload 4, 2) := by decide +kernel
theorem dX12_laws_11 : decode cX12_laws 11 = .ok (.ifCond .eq 6, 3) := by decide +kernel
theorem dX12_laws_14 : decode cX12_laws 14 = .ok (.iload 4, 2) := by decide +kernel
theorem dX12_laws_16 : decode cX12_laws 16 = .ok (.ireturn, 1) := by decide +kernel
theorem dX12_laws_17 : decode cX12_laws 17 = .ok (.aload_n 0, 1) := by decide +kernel
theorem dX12_laws_18 : decode cX12_laws 18 = .ok (.getfield 97, 3) := by decide +kernel
theorem dX12_laws_21 : decode cX12_laws 21 = .ok (.istore 5, 2) := by decide +kernel
theorem dX12_laws_23 : decode cX12_laws 23 = .ok (.iconst 0, 1) := by decide +kernel
theorem dX12_laws_24 : decode cX12_laws 24 = .ok (.istore 6, 2) := by decide +kernel
theorem dX12_laws_26 : decode cX12_laws 26 = .ok (.iconst 0, 1) := by decide +kernel
theorem dX12_laws_27 : decode cX12_laws 27 = .ok (.istore 7, 2) := by decide +kernel
theorem dX12_laws_29 : decode cX12_laws 29 = .ok (.iload 7, 2) := by decide +kernel
theorem dX12_laws_31 : decode cX12_laws 31 = .ok (.aload_n 0, 1) := by decide +kernel
theorem dX12_laws_32 : decode cX12_laws 32 = .ok (.getfield 94, 3) := by decide +kernel
theorem dX12_laws_35 : decode cX12_laws 35 = .ok (.if_icmp .ge 38, 3) := by decide +kernel
theorem dX12_laws_38 : decode cX12_laws 38 = .ok (.aload_n 0, 1) := by decide +kernel
theorem dX12_laws_39 : decode cX12_laws 39 = .ok (.iload 7, 2) := by decide +kernel
theorem dX12_laws_41 : decode cX12_laws 41 = .ok (.putfield 97, 3) := by decide +kernel
theorem dX12_laws_44 : decode cX12_laws 44 = .ok (.iload 6, 2) := by decide +kernel
theorem dX12_laws_46 : decode cX12_laws 46 = .ok (.aload_n 0, 1) := by decide +kernel
theorem dX12_laws_47 : decode cX12_laws 47 = .ok (.iload_n 2, 1) := by decide +kernel
theorem dX12_laws_48 : decode cX12_laws 48 = .ok (.iload_n 3, 1) := by decide +kernel
theorem dX12_laws_49 : decode cX12_laws 49 = .ok (.invokevirtual 248, 3) := by decide +kernel
theorem dX12_laws_52 : decode cX12_laws 52 = .ok (.iconst (-1), 1) := by decide +kernel
theorem dX12_laws_53 : decode cX12_laws 53 = .ok (.if_icmp .ne 10, 3) := by decide +kernel
theorem dX12_laws_56 : decode cX12_laws 56 = .ok (.iconst 1, 1) := by decide +kernel
theorem dX12_laws_57 : decode cX12_laws 57 = .ok (.iload 7, 2) := by decide +kernel
theorem dX12_laws_59 : decode cX12_laws 59 = .ok (.ishl, 1) := by decide +kernel
theorem dX12_laws_60 : decode cX12_laws 60 = .ok (.goto 4, 3) := by decide +kernel
theorem dX12_laws_63 : decode cX12_laws 63 = .ok (.iconst 0, 1) := by decide +kernel
theorem dX12_laws_64 : decode cX12_laws 64 = .ok (.ior, 1) := by decide +kernel
theorem dX12_laws_65 : decode cX12_laws 65 = .ok (.istore 6, 2) := by decide +kernel
theorem dX12_laws_67 : decode cX12_laws 67 = .ok (.iinc 7 1, 3) := by decide +kernel
theorem dX12_laws_70 : decode cX12_laws 70 = .ok (.goto (-41), 3) := by decide +kernel
theorem dX12_laws_73 : decode cX12_laws 73 = .ok (.aload_n 0, 1) := by decide +kernel
theorem dX12_laws_74 : decode cX12_laws 74 = .ok (.iload 5, 2) := by decide +kernel
theorem dX12_laws_76 : decode cX12_laws 76 = .ok (.putfield 97, 3) := by decide +kernel
theorem dX12_laws_79 : decode cX12_laws 79 = .ok (.iload 6, 2) := by decide +kernel
theorem dX12_laws_81 : decode cX12_laws 81 = .ok (.ireturn, 1) := by decide +kernel
theorem dX12_film_0 : decode cX12_film 0 = .ok (.iload_n 1, 1) := by decide +kernel
theorem dX12_film_1 : decode cX12_film 1 = .ok (.iconst 0, 1) := by decide +kernel
theorem dX12_film_2 : decode cX12_film 2 = .ok (.iconst 3, 1) := by decide +kernel
theorem dX12_film_3 : decode cX12_film 3 = .ok (.invokestatic 90, 3) := by decide +kernel
theorem dX12_film_6 : decode cX12_film 6 = .ok (.ifCond .eq 17, 3) := by decide +kernel
theorem dX12_film_9 : decode cX12_film 9 = .ok (.iload_n 2, 1) := by decide +kernel
theorem dX12_film_10 : decode cX12_film 10 = .ok (.iconst 0, 1) := by decide +kernel
theorem dX12_film_11 : decode cX12_film 11 = .ok (.iconst 3, 1) := by decide +kernel
theorem dX12_film_12 : decode cX12_film 12 = .ok (.invokestatic 90, 3) := by decide +kernel
theorem dX12_film_15 : decode cX12_film 15 = .ok (.ifCond .eq 8, 3) := by decide +kernel
theorem dX12_film_18 : decode cX12_film 18 = .ok (.iload_n 1, 1) := by decide +kernel
theorem dX12_film_19 : decode cX12_film 19 = .ok (.iload_n 2, 1) := by decide +kernel
theorem dX12_film_20 : decode cX12_film 20 = .ok (.if_icmp .ne 6, 3) := by decide +kernel
theorem dX12_film_23 : decode cX12_film 23 = .ok (.bipush (-2), 2) := by decide +kernel
theorem dX12_film_25 : decode cX12_film 25 = .ok (.ireturn, 1) := by decide +kernel
theorem dX12_film_26 : decode cX12_film 26 = .ok (.aload_n 0, 1) := by decide +kernel
theorem dX12_film_27 : decode cX12_film 27 = .ok (.iload_n 1, 1) := by decide +kernel
theorem dX12_film_28 : decode cX12_film 28 = .ok (.invokevirtual 197, 3) := by decide +kernel
theorem dX12_film_31 : decode cX12_film 31 = .ok (.istore 4, 2) := by decide +kernel
theorem dX12_film_33 : decode cX12_film 33 = .ok (.iload 4, 2) := by decide +kernel
theorem dX12_film_35 : decode cX12_film 35 = .ok (.ifCond .eq 6, 3) := by decide +kernel
theorem dX12_film_38 : decode cX12_film 38 = .ok (.iload 4, 2) := by decide +kernel
theorem dX12_film_40 : decode cX12_film 40 = .ok (.ireturn, 1) := by decide +kernel
theorem dX12_film_41 : decode cX12_film 41 = .ok (.aload_n 0, 1) := by decide +kernel
theorem dX12_film_42 : decode cX12_film 42 = .ok (.iload_n 3, 1) := by decide +kernel
theorem dX12_film_43 : decode cX12_film 43 = .ok (.invokevirtual 173, 3) := by decide +kernel
theorem dX12_film_46 : decode cX12_film 46 = .ok (.ifCond .ne 6, 3) := by decide +kernel
theorem dX12_film_49 : decode cX12_film 49 = .ok (.bipush (-5), 2) := by decide +kernel
theorem dX12_film_51 : decode cX12_film 51 = .ok (.ireturn, 1) := by decide +kernel
theorem dX12_film_52 : decode cX12_film 52 = .ok (.aload_n 0, 1) := by decide +kernel
theorem dX12_film_53 : decode cX12_film 53 = .ok (.getfield 22, 3) := by decide +kernel
theorem dX12_film_56 : decode cX12_film 56 = .ok (.istore 5, 2) := by decide +kernel
theorem dX12_film_58 : decode cX12_film 58 = .ok (.aload_n 0, 1) := by decide +kernel
theorem dX12_film_59 : decode cX12_film 59 = .ok (.getfield 41, 3) := by decide +kernel
theorem dX12_film_62 : decode cX12_film 62 = .ok (.iload_n 2, 1) := by decide +kernel
theorem dX12_film_63 : decode cX12_film 63 = .ok (.iconst 2, 1) := by decide +kernel
theorem dX12_film_64 : decode cX12_film 64 = .ok (.iastore, 1) := by decide +kernel
theorem dX12_film_65 : decode cX12_film 65 = .ok (.aload_n 0, 1) := by decide +kernel
theorem dX12_film_66 : decode cX12_film 66 = .ok (.getfield 44, 3) := by decide +kernel
theorem dX12_film_69 : decode cX12_film 69 = .ok (.iload_n 2, 1) := by decide +kernel
theorem dX12_film_70 : decode cX12_film 70 = .ok (.bipush 12, 2) := by decide +kernel
theorem dX12_film_72 : decode cX12_film 72 = .ok (.iastore, 1) := by decide +kernel
theorem dX12_film_73 : decode cX12_film 73 = .ok (.iconst 0, 1) := by decide +kernel
theorem dX12_film_74 : decode cX12_film 74 = .ok (.istore 6, 2) := by decide +kernel
theorem dX12_film_76 : decode cX12_film 76 = .ok (.iload 6, 2) := by decide +kernel
theorem dX12_film_78 : decode cX12_film 78 = .ok (.bipush 40, 2) := by decide +kernel
theorem dX12_film_80 : decode cX12_film 80 = .ok (.if_icmp .ge 56, 3) := by decide +kernel
theorem dX12_film_83 : decode cX12_film 83 = .ok (.aload_n 0, 1) := by decide +kernel
theorem dX12_film_84 : decode cX12_film 84 = .ok (.iload 6, 2) := by decide +kernel
theorem dX12_film_86 : decode cX12_film 86 = .ok (.bipush 12, 2) := by decide +kernel
theorem dX12_film_88 : decode cX12_film 88 = .ok (.if_icmp .ge 8, 3) := by decide +kernel
theorem dX12_film_91 : decode cX12_film 91 = .ok (.iload 6, 2) := by decide +kernel
theorem dX12_film_93 : decode cX12_film 93 = .ok (.goto 5, 3) := by decide +kernel
theorem dX12_film_96 : decode cX12_film 96 = .ok (.iload 5, 2) := by decide +kernel
theorem dX12_film_98 : decode cX12_film 98 = .ok (.putfield 22, 3) := by decide +kernel
theorem dX12_film_101 : decode cX12_film 101 = .ok (.aload_n 0, 1) := by decide +kernel
theorem dX12_film_102 : decode cX12_film 102 = .ok (.getfield 47, 3) := by decide +kernel
theorem dX12_film_105 : decode cX12_film 105 = .ok (.bipush 40, 2) := by decide +kernel
theorem dX12_film_107 : decode cX12_film 107 = .ok (.iload_n 2, 1) := by decide +kernel
theorem dX12_film_108 : decode cX12_film 108 = .ok (.imul, 1) := by decide +kernel
theorem dX12_film_109 : decode cX12_film 109 = .ok (.iload 6, 2) := by decide +kernel
theorem dX12_film_111 : decode cX12_film 111 = .ok (.iadd, 1) := by decide +kernel
theorem dX12_film_112 : decode cX12_film 112 = .ok (.iload 6, 2) := by decide +kernel
theorem dX12_film_114 : decode cX12_film 114 = .ok (.bipush 12, 2) := by decide +kernel
theorem dX12_film_116 : decode cX12_film 116 = .ok (.if_icmp .ge 12, 3) := by decide +kernel
theorem dX12_film_119 : decode cX12_film 119 = .ok (.aload_n 0, 1) := by decide +kernel
theorem dX12_film_120 : decode cX12_film 120 = .ok (.iload_n 3, 1) := by decide +kernel
theorem dX12_film_121 : decode cX12_film 121 = .ok (.iconst 1, 1) := by decide +kernel
theorem dX12_film_122 : decode cX12_film 122 = .ok (.invokevirtual 202, 3) := by decide +kernel
theorem dX12_film_125 : decode cX12_film 125 = .ok (.goto 4, 3) := by decide +kernel
theorem dX12_film_128 : decode cX12_film 128 = .ok (.iconst 0, 1) := by decide +kernel
theorem dX12_film_129 : decode cX12_film 129 = .ok (.iastore, 1) := by decide +kernel
theorem dX12_film_130 : decode cX12_film 130 = .ok (.iinc 6 1, 3) := by decide +kernel
theorem dX12_film_133 : decode cX12_film 133 = .ok (.goto (-57), 3) := by decide +kernel
theorem dX12_film_136 : decode cX12_film 136 = .ok (.aload_n 0, 1) := by decide +kernel
theorem dX12_film_137 : decode cX12_film 137 = .ok (.iload 5, 2) := by decide +kernel
theorem dX12_film_139 : decode cX12_film 139 = .ok (.putfield 22, 3) := by decide +kernel
theorem dX12_film_142 : decode cX12_film 142 = .ok (.aload_n 0, 1) := by decide +kernel
theorem dX12_film_143 : decode cX12_film 143 = .ok (.getfield 47, 3) := by decide +kernel
theorem dX12_film_146 : decode cX12_film 146 = .ok (.bipush 40, 2) := by decide +kernel
theorem dX12_film_148 : decode cX12_film 148 = .ok (.iload_n 2, 1) := by decide +kernel
theorem dX12_film_149 : decode cX12_film 149 = .ok (.imul, 1) := by decide +kernel
theorem dX12_film_150 : decode cX12_film 150 = .ok (.iload 5, 2) := by decide +kernel
theorem dX12_film_152 : decode cX12_film 152 = .ok (.iconst 0, 1) := by decide +kernel
theorem dX12_film_153 : decode cX12_film 153 = .ok (.bipush 11, 2) := by decide +kernel
theorem dX12_film_155 : decode cX12_film 155 = .ok (.invokestatic 170, 3) := by decide +kernel
theorem dX12_film_158 : decode cX12_film 158 = .ok (.iadd, 1) := by decide +kernel
theorem dX12_film_159 : decode cX12_film 159 = .ok (.iaload, 1) := by decide +kernel
theorem dX12_film_160 : decode cX12_film 160 = .ok (.ireturn, 1) := by decide +kernel
theorem dX12_orders_0 : decode cX12_orders 0 = .ok (.iload_n 1, 1) := by decide +kernel
theorem dX12_orders_1 : decode cX12_orders 1 = .ok (.i2l, 1) := by decide +kernel
theorem dX12_orders_2 : decode cX12_orders 2 = .ok (.lconst 1, 1) := by decide +kernel
theorem dX12_orders_3 : decode cX12_orders 3 = .ok (.ladd, 1) := by decide +kernel
theorem dX12_orders_4 : decode cX12_orders 4 = .ok (.lstore_n 2, 1) := by decide +kernel
theorem dX12_orders_5 : decode cX12_orders 5 = .ok (.aload_n 0, 1) := by decide +kernel
theorem dX12_orders_6 : decode cX12_orders 6 = .ok (.bipush 6, 2) := by decide +kernel
theorem dX12_orders_8 : decode cX12_orders 8 = .ok (.putfield 181, 3) := by decide +kernel
theorem dX12_orders_11 : decode cX12_orders 11 = .ok (.iconst 0, 1) := by decide +kernel
theorem dX12_orders_12 : decode cX12_orders 12 = .ok (.istore 4, 2) := by decide +kernel
theorem dX12_orders_14 : decode cX12_orders 14 = .ok (.iload 4, 2) := by decide +kernel
theorem dX12_orders_16 : decode cX12_orders 16 = .ok (.bipush 6, 2) := by decide +kernel
theorem dX12_orders_18 : decode cX12_orders 18 = .ok (.if_icmp .ge 18, 3) := by decide +kernel
theorem dX12_orders_21 : decode cX12_orders 21 = .ok (.aload_n 0, 1) := by decide +kernel
theorem dX12_orders_22 : decode cX12_orders 22 = .ok (.getfield 65, 3) := by decide +kernel
theorem dX12_orders_25 : decode cX12_orders 25 = .ok (.iload 4, 2) := by decide +kernel
theorem dX12_orders_27 : decode cX12_orders 27 = .ok (.iload 4, 2) := by decide +kernel
theorem dX12_orders_29 : decode cX12_orders 29 = .ok (.iastore, 1) := by decide +kernel
theorem dX12_orders_30 : decode cX12_orders 30 = .ok (.iinc 4 1, 3) := by decide +kernel
theorem dX12_orders_33 : decode cX12_orders 33 = .ok (.goto (-19), 3) := by decide +kernel
theorem dX12_orders_36 : decode cX12_orders 36 = .ok (.iconst 5, 1) := by decide +kernel
theorem dX12_orders_37 : decode cX12_orders 37 = .ok (.istore 4, 2) := by decide +kernel
theorem dX12_orders_39 : decode cX12_orders 39 = .ok (.iload 4, 2) := by decide +kernel
theorem dX12_orders_41 : decode cX12_orders 41 = .ok (.ifCond .le 66, 3) := by decide +kernel
theorem dX12_orders_44 : decode cX12_orders 44 = .ok (.lload_n 2, 1) := by decide +kernel
theorem dX12_orders_45 : decode cX12_orders 45 = .ok (.ldc2_w 251, 3) := by decide +kernel
theorem dX12_orders_48 : decode cX12_orders 48 = .ok (.lmul, 1) := by decide +kernel
theorem dX12_orders_49 : decode cX12_orders 49 = .ok (.ldc2_w 253, 3) := by decide +kernel
theorem dX12_orders_52 : decode cX12_orders 52 = .ok (.lrem, 1) := by decide +kernel
theorem dX12_orders_53 : decode cX12_orders 53 = .ok (.lstore_n 2, 1) := by decide +kernel
theorem dX12_orders_54 : decode cX12_orders 54 = .ok (.lload_n 2, 1) := by decide +kernel
theorem dX12_orders_55 : decode cX12_orders 55 = .ok (.iload 4, 2) := by decide +kernel
theorem dX12_orders_57 : decode cX12_orders 57 = .ok (.i2l, 1) := by decide +kernel
theorem dX12_orders_58 : decode cX12_orders 58 = .ok (.lconst 1, 1) := by decide +kernel
theorem dX12_orders_59 : decode cX12_orders 59 = .ok (.ladd, 1) := by decide +kernel
theorem dX12_orders_60 : decode cX12_orders 60 = .ok (.lrem, 1) := by decide +kernel
theorem dX12_orders_61 : decode cX12_orders 61 = .ok (.l2i, 1) := by decide +kernel
theorem dX12_orders_62 : decode cX12_orders 62 = .ok (.iconst 0, 1) := by decide +kernel
theorem dX12_orders_63 : decode cX12_orders 63 = .ok (.iconst 5, 1) := by decide +kernel
theorem dX12_orders_64 : decode cX12_orders 64 = .ok (.invokestatic 170, 3) := by decide +kernel
theorem dX12_orders_67 : decode cX12_orders 67 = .ok (.istore 5, 2) := by decide +kernel
theorem dX12_orders_69 : decode cX12_orders 69 = .ok (.aload_n 0, 1) := by decide +kernel
theorem dX12_orders_70 : decode cX12_orders 70 = .ok (.getfield 65, 3) := by decide +kernel
theorem dX12_orders_73 : decode cX12_orders 73 = .ok (.iload 5, 2) := by decide +kernel
theorem dX12_orders_75 : decode cX12_orders 75 = .ok (.iaload, 1) := by decide +kernel
theorem dX12_orders_76 : decode cX12_orders 76 = .ok (.istore 6, 2) := by decide +kernel
theorem dX12_orders_78 : decode cX12_orders 78 = .ok (.aload_n 0, 1) := by decide +kernel
theorem dX12_orders_79 : decode cX12_orders 79 = .ok (.getfield 65, 3) := by decide +kernel
theorem dX12_orders_82 : decode cX12_orders 82 = .ok (.iload 5, 2) := by decide +kernel
theorem dX12_orders_84 : decode cX12_orders 84 = .ok (.aload_n 0, 1) := by decide +kernel
theorem dX12_orders_85 : decode cX12_orders 85 = .ok (.getfield 65, 3) := by decide +kernel
theorem dX12_orders_88 : decode cX12_orders 88 = .ok (.iload 4, 2) := by decide +kernel
theorem dX12_orders_90 : decode cX12_orders 90 = .ok (.iaload, 1) := by decide +kernel
theorem dX12_orders_91 : decode cX12_orders 91 = .ok (.iastore, 1) := by decide +kernel
theorem dX12_orders_92 : decode cX12_orders 92 = .ok (.aload_n 0, 1) := by decide +kernel
theorem dX12_orders_93 : decode cX12_orders 93 = .ok (.getfield 65, 3) := by decide +kernel
theorem dX12_orders_96 : decode cX12_orders 96 = .ok (.iload 4, 2) := by decide +kernel
theorem dX12_orders_98 : decode cX12_orders 98 = .ok (.iload 6, 2) := by decide +kernel
theorem dX12_orders_100 : decode cX12_orders 100 = .ok (.iastore, 1) := by decide +kernel
theorem dX12_orders_101 : decode cX12_orders 101 = .ok (.iinc 4 (-1), 3) := by decide +kernel
theorem dX12_orders_104 : decode cX12_orders 104 = .ok (.goto (-65), 3) := by decide +kernel
theorem dX12_orders_107 : decode cX12_orders 107 = .ok (.return_, 1) := by decide +kernel
theorem dX12_drawn_0 : decode cX12_drawn 0 = .ok (.iload_n 1, 1) := by decide +kernel
theorem dX12_drawn_1 : decode cX12_drawn 1 = .ok (.iconst 0, 1) := by decide +kernel
theorem dX12_drawn_2 : decode cX12_drawn 2 = .ok (.ldc 180, 2) := by decide +kernel
theorem dX12_drawn_4 : decode cX12_drawn 4 = .ok (.invokestatic 90, 3) := by decide +kernel
theorem dX12_drawn_7 : decode cX12_drawn 7 = .ok (.ifCond .eq 20, 3) := by decide +kernel
theorem dX12_drawn_10 : decode cX12_drawn 10 = .ok (.aload_n 0, 1) := by decide +kernel
theorem dX12_drawn_11 : decode cX12_drawn 11 = .ok (.iload_n 2, 1) := by decide +kernel
theorem dX12_drawn_12 : decode cX12_drawn 12 = .ok (.invokevirtual 173, 3) := by decide +kernel
theorem dX12_drawn_15 : decode cX12_drawn 15 = .ok (.ifCond .eq 12, 3) := by decide +kernel
theorem dX12_drawn_18 : decode cX12_drawn 18 = .ok (.iload_n 3, 1) := by decide +kernel
theorem dX12_drawn_19 : decode cX12_drawn 19 = .ok (.iconst 0, 1) := by decide +kernel
theorem dX12_drawn_20 : decode cX12_drawn 20 = .ok (.iconst 2, 1) := by decide +kernel
theorem dX12_drawn_21 : decode cX12_drawn 21 = .ok (.invokestatic 90, 3) := by decide +kernel
theorem dX12_drawn_24 : decode cX12_drawn 24 = .ok (.ifCond .ne 6, 3) := by decide +kernel
theorem dX12_drawn_27 : decode cX12_drawn 27 = .ok (.ldc 201, 2) := by decide +kernel
theorem dX12_drawn_29 : decode cX12_drawn 29 = .ok (.ireturn, 1) := by decide +kernel
theorem dX12_drawn_30 : decode cX12_drawn 30 = .ok (.aload_n 0, 1) := by decide +kernel
theorem dX12_drawn_31 : decode cX12_drawn 31 = .ok (.iload_n 1, 1) := by decide +kernel
theorem dX12_drawn_32 : decode cX12_drawn 32 = .ok (.invokevirtual 255, 3) := by decide +kernel
theorem dX12_drawn_35 : decode cX12_drawn 35 = .ok (.iload_n 3, 1) := by decide +kernel
theorem dX12_drawn_36 : decode cX12_drawn 36 = .ok (.ifCond .le 24, 3) := by decide +kernel
theorem dX12_drawn_39 : decode cX12_drawn 39 = .ok (.iload_n 3, 1) := by decide +kernel
theorem dX12_drawn_40 : decode cX12_drawn 40 = .ok (.iconst 1, 1) := by decide +kernel
theorem dX12_drawn_41 : decode cX12_drawn 41 = .ok (.if_icmp .ne 12, 3) := by decide +kernel
theorem dX12_drawn_44 : decode cX12_drawn 44 = .ok (.aload_n 0, 1) := by decide +kernel
theorem dX12_drawn_45 : decode cX12_drawn 45 = .ok (.iload_n 2, 1) := by decide +kernel
theorem dX12_drawn_46 : decode cX12_drawn 46 = .ok (.iconst 1, 1) := by decide +kernel
theorem dX12_drawn_47 : decode cX12_drawn 47 = .ok (.invokevirtual 191, 3) := by decide +kernel
theorem dX12_drawn_50 : decode cX12_drawn 50 = .ok (.goto 9, 3) := by decide +kernel
theorem dX12_drawn_53 : decode cX12_drawn 53 = .ok (.aload_n 0, 1) := by decide +kernel
theorem dX12_drawn_54 : decode cX12_drawn 54 = .ok (.iload_n 2, 1) := by decide +kernel
theorem dX12_drawn_55 : decode cX12_drawn 55 = .ok (.iconst 1, 1) := by decide +kernel
theorem dX12_drawn_56 : decode cX12_drawn 56 = .ok (.invokevirtual 202, 3) := by decide +kernel
theorem dX12_drawn_59 : decode cX12_drawn 59 = .ok (.ireturn, 1) := by decide +kernel
theorem dX12_drawn_60 : decode cX12_drawn 60 = .ok (.iconst 0, 1) := by decide +kernel
theorem dX12_drawn_61 : decode cX12_drawn 61 = .ok (.istore 4, 2) := by decide +kernel
theorem dX12_drawn_63 : decode cX12_drawn 63 = .ok (.iconst 0, 1) := by decide +kernel
theorem dX12_drawn_64 : decode cX12_drawn 64 = .ok (.istore 5, 2) := by decide +kernel
theorem dX12_drawn_66 : decode cX12_drawn 66 = .ok (.iload 5, 2) := by decide +kernel
theorem dX12_drawn_68 : decode cX12_drawn 68 = .ok (.bipush 6, 2) := by decide +kernel
theorem dX12_drawn_70 : decode cX12_drawn 70 = .ok (.if_icmp .ge 26, 3) := by decide +kernel
theorem dX12_drawn_73 : decode cX12_drawn 73 = .ok (.bipush 10, 2) := by decide +kernel
theorem dX12_drawn_75 : decode cX12_drawn 75 = .ok (.iload 4, 2) := by decide +kernel
theorem dX12_drawn_77 : decode cX12_drawn 77 = .ok (.imul, 1) := by decide +kernel
theorem dX12_drawn_78 : decode cX12_drawn 78 = .ok (.aload_n 0, 1) := by decide +kernel
theorem dX12_drawn_79 : decode cX12_drawn 79 = .ok (.getfield 65, 3) := by decide +kernel
theorem dX12_drawn_82 : decode cX12_drawn 82 = .ok (.iload 5, 2) := by decide +kernel
theorem dX12_drawn_84 : decode cX12_drawn 84 = .ok (.iaload, 1) := by decide +kernel
theorem dX12_drawn_85 : decode cX12_drawn 85 = .ok (.iadd, 1) := by decide +kernel
theorem dX12_drawn_86 : decode cX12_drawn 86 = .ok (.iconst 1, 1) := by decide +kernel
theorem dX12_drawn_87 : decode cX12_drawn 87 = .ok (.iadd, 1) := by decide +kernel
theorem dX12_drawn_88 : decode cX12_drawn 88 = .ok (.istore 4, 2) := by decide +kernel
theorem dX12_drawn_90 : decode cX12_drawn 90 = .ok (.iinc 5 1, 3) := by decide +kernel
theorem dX12_drawn_93 : decode cX12_drawn 93 = .ok (.goto (-27), 3) := by decide +kernel
theorem dX12_drawn_96 : decode cX12_drawn 96 = .ok (.iload 4, 2) := by decide +kernel
theorem dX12_drawn_98 : decode cX12_drawn 98 = .ok (.ireturn, 1) := by decide +kernel
theorem dX12_odds_0 : decode cX12_odds 0 = .ok (.iload_n 1, 1) := by decide +kernel
theorem dX12_odds_1 : decode cX12_odds 1 = .ok (.iconst 0, 1) := by decide +kernel
theorem dX12_odds_2 : decode cX12_odds 2 = .ok (.ldc 180, 2) := by decide +kernel
theorem dX12_odds_4 : decode cX12_odds 4 = .ok (.invokestatic 90, 3) := by decide +kernel
theorem dX12_odds_7 : decode cX12_odds 7 = .ok (.ifCond .eq 38, 3) := by decide +kernel
theorem dX12_odds_10 : decode cX12_odds 10 = .ok (.iload_n 2, 1) := by decide +kernel
theorem dX12_odds_11 : decode cX12_odds 11 = .ok (.iconst 1, 1) := by decide +kernel
theorem dX12_odds_12 : decode cX12_odds 12 = .ok (.bipush 40, 2) := by decide +kernel
theorem dX12_odds_14 : decode cX12_odds 14 = .ok (.invokestatic 90, 3) := by decide +kernel
theorem dX12_odds_17 : decode cX12_odds 17 = .ok (.ifCond .eq 28, 3) := by decide +kernel
theorem dX12_odds_20 : decode cX12_odds 20 = .ok (.iload_n 3, 1) := by decide +kernel
theorem dX12_odds_21 : decode cX12_odds 21 = .ok (.iconst 0, 1) := by decide +kernel
theorem dX12_odds_22 : decode cX12_odds 22 = .ok (.ldc_w 258, 3) := by decide +kernel
theorem dX12_odds_25 : decode cX12_odds 25 = .ok (.invokestatic 90, 3) := by decide +kernel
theorem dX12_odds_28 : decode cX12_odds 28 = .ok (.ifCond .eq 17, 3) := by decide +kernel
theorem dX12_odds_31 : decode cX12_odds 31 = .ok (.iload 4, 2) := by decide +kernel
theorem dX12_odds_33 : decode cX12_odds 33 = .ok (.iconst 0, 1) := by decide +kernel
theorem dX12_odds_34 : decode cX12_odds 34 = .ok (.iconst 1, 1) := by decide +kernel
theorem dX12_odds_35 : decode cX12_odds 35 = .ok (.invokestatic 90, 3) := by decide +kernel
theorem dX12_odds_38 : decode cX12_odds 38 = .ok (.ifCond .eq 7, 3) := by decide +kernel
theorem dX12_odds_41 : decode cX12_odds 41 = .ok (.iconst 1, 1) := by decide +kernel
theorem dX12_odds_42 : decode cX12_odds 42 = .ok (.goto 4, 3) := by decide +kernel
theorem dX12_odds_45 : decode cX12_odds 45 = .ok (.iconst 0, 1) := by decide +kernel
theorem dX12_odds_46 : decode cX12_odds 46 = .ok (.istore 5, 2) := by decide +kernel
theorem dX12_odds_48 : decode cX12_odds 48 = .ok (.iload 5, 2) := by decide +kernel
theorem dX12_odds_50 : decode cX12_odds 50 = .ok (.ifCond .eq 15, 3) := by decide +kernel
theorem dX12_odds_53 : decode cX12_odds 53 = .ok (.aload_n 0, 1) := by decide +kernel
theorem dX12_odds_54 : decode cX12_odds 54 = .ok (.iload_n 3, 1) := by decide +kernel
theorem dX12_odds_55 : decode cX12_odds 55 = .ok (.sipush 10000, 3) := by decide +kernel
theorem dX12_odds_58 : decode cX12_odds 58 = .ok (.idiv, 1) := by decide +kernel
theorem dX12_odds_59 : decode cX12_odds 59 = .ok (.invokevirtual 173, 3) := by decide +kernel
theorem dX12_odds_62 : decode cX12_odds 62 = .ok (.ifCond .ne 7, 3) := by decide +kernel
theorem dX12_odds_65 : decode cX12_odds 65 = .ok (.ldc2_w 232, 3) := by decide +kernel
theorem dX12_odds_68 : decode cX12_odds 68 = .ok (.lreturn, 1) := by decide +kernel
theorem dX12_odds_69 : decode cX12_odds 69 = .ok (.lconst 0, 1) := by decide +kernel
theorem dX12_odds_70 : decode cX12_odds 70 = .ok (.lstore 6, 2) := by decide +kernel
theorem dX12_odds_72 : decode cX12_odds 72 = .ok (.iconst 0, 1) := by decide +kernel
theorem dX12_odds_73 : decode cX12_odds 73 = .ok (.istore 8, 2) := by decide +kernel
theorem dX12_odds_75 : decode cX12_odds 75 = .ok (.iload 8, 2) := by decide +kernel
theorem dX12_odds_77 : decode cX12_odds 77 = .ok (.iload_n 2, 1) := by decide +kernel
theorem dX12_odds_78 : decode cX12_odds 78 = .ok (.if_icmp .ge 45, 3) := by decide +kernel
theorem dX12_odds_81 : decode cX12_odds 81 = .ok (.aload_n 0, 1) := by decide +kernel
theorem dX12_odds_82 : decode cX12_odds 82 = .ok (.iload_n 1, 1) := by decide +kernel
theorem dX12_odds_83 : decode cX12_odds 83 = .ok (.iload 8, 2) := by decide +kernel
theorem dX12_odds_85 : decode cX12_odds 85 = .ok (.iadd, 1) := by decide +kernel
theorem dX12_odds_86 : decode cX12_odds 86 = .ok (.invokevirtual 255, 3) := by decide +kernel
theorem dX12_odds_89 : decode cX12_odds 89 = .ok (.lload 6, 2) := by decide +kernel
theorem dX12_odds_91 : decode cX12_odds 91 = .ok (.aload_n 0, 1) := by decide +kernel
theorem dX12_odds_92 : decode cX12_odds 92 = .ok (.iload_n 3, 1) := by decide +kernel
theorem dX12_odds_93 : decode cX12_odds 93 = .ok (.sipush 10000, 3) := by decide +kernel
theorem dX12_odds_96 : decode cX12_odds 96 = .ok (.idiv, 1) := by decide +kernel
theorem dX12_odds_97 : decode cX12_odds 97 = .ok (.iconst 1, 1) := by decide +kernel
theorem dX12_odds_98 : decode cX12_odds 98 = .ok (.invokevirtual 202, 3) := by decide +kernel
theorem dX12_odds_101 : decode cX12_odds 101 = .ok (.iload_n 3, 1) := by decide +kernel
theorem dX12_odds_102 : decode cX12_odds 102 = .ok (.sipush 10000, 3) := by decide +kernel
theorem dX12_odds_105 : decode cX12_odds 105 = .ok (.irem, 1) := by decide +kernel
theorem dX12_odds_106 : decode cX12_odds 106 = .ok (.if_icmp .lt 7, 3) := by decide +kernel
theorem dX12_odds_109 : decode cX12_odds 109 = .ok (.lconst 1, 1) := by decide +kernel
theorem dX12_odds_110 : decode cX12_odds 110 = .ok (.goto 4, 3) := by decide +kernel
theorem dX12_odds_113 : decode cX12_odds 113 = .ok (.lconst 0, 1) := by decide +kernel
theorem dX12_odds_114 : decode cX12_odds 114 = .ok (.ladd, 1) := by decide +kernel
theorem dX12_odds_115 : decode cX12_odds 115 = .ok (.lstore 6, 2) := by decide +kernel
theorem dX12_odds_117 : decode cX12_odds 117 = .ok (.iinc 8 1, 3) := by decide +kernel
theorem dX12_odds_120 : decode cX12_odds 120 = .ok (.goto (-45), 3) := by decide +kernel
theorem dX12_odds_123 : decode cX12_odds 123 = .ok (.lload 6, 2) := by decide +kernel
theorem dX12_odds_125 : decode cX12_odds 125 = .ok (.iload_n 2, 1) := by decide +kernel
theorem dX12_odds_126 : decode cX12_odds 126 = .ok (.i2l, 1) := by decide +kernel
theorem dX12_odds_127 : decode cX12_odds 127 = .ok (.iload 4, 2) := by decide +kernel
theorem dX12_odds_129 : decode cX12_odds 129 = .ok (.invokestatic 241, 3) := by decide +kernel
theorem dX12_odds_132 : decode cX12_odds 132 = .ok (.lreturn, 1) := by decide +kernel
theorem dX12_image_0 : decode cX12_image 0 = .ok (.aload_n 0, 1) := by decide +kernel
theorem dX12_image_1 : decode cX12_image 1 = .ok (.iconst 1, 1) := by decide +kernel
theorem dX12_image_2 : decode cX12_image 2 = .ok (.putfield 259, 3) := by decide +kernel
theorem dX12_image_5 : decode cX12_image 5 = .ok (.iconst 0, 1) := by decide +kernel
theorem dX12_image_6 : decode cX12_image 6 = .ok (.istore_n 1, 1) := by decide +kernel
theorem dX12_image_7 : decode cX12_image 7 = .ok (.iload_n 1, 1) := by decide +kernel
theorem dX12_image_8 : decode cX12_image 8 = .ok (.bipush 12, 2) := by decide +kernel
theorem dX12_image_10 : decode cX12_image 10 = .ok (.if_icmp .ge 21, 3) := by decide +kernel
theorem dX12_image_13 : decode cX12_image 13 = .ok (.aload_n 0, 1) := by decide +kernel
theorem dX12_image_14 : decode cX12_image 14 = .ok (.getfield 35, 3) := by decide +kernel
theorem dX12_image_17 : decode cX12_image 17 = .ok (.iload_n 1, 1) := by decide +kernel
theorem dX12_image_18 : decode cX12_image 18 = .ok (.aload_n 0, 1) := by decide +kernel
theorem dX12_image_19 : decode cX12_image 19 = .ok (.getfield 19, 3) := by decide +kernel
theorem dX12_image_22 : decode cX12_image 22 = .ok (.iload_n 1, 1) := by decide +kernel
theorem dX12_image_23 : decode cX12_image 23 = .ok (.iaload, 1) := by decide +kernel
theorem dX12_image_24 : decode cX12_image 24 = .ok (.iastore, 1) := by decide +kernel
theorem dX12_image_25 : decode cX12_image 25 = .ok (.iinc 1 1, 3) := by decide +kernel
theorem dX12_image_28 : decode cX12_image 28 = .ok (.goto (-21), 3) := by decide +kernel
theorem dX12_image_31 : decode cX12_image 31 = .ok (.iconst 0, 1) := by decide +kernel
theorem dX12_image_32 : decode cX12_image 32 = .ok (.istore_n 1, 1) := by decide +kernel
theorem dX12_image_33 : decode cX12_image 33 = .ok (.iload_n 1, 1) := by decide +kernel
theorem dX12_image_34 : decode cX12_image 34 = .ok (.bipush 16, 2) := by decide +kernel
theorem dX12_image_36 : decode cX12_image 36 = .ok (.if_icmp .ge 24, 3) := by decide +kernel
theorem dX12_image_39 : decode cX12_image 39 = .ok (.aload_n 0, 1) := by decide +kernel
theorem dX12_image_40 : decode cX12_image 40 = .ok (.getfield 35, 3) := by decide +kernel
theorem dX12_image_43 : decode cX12_image 43 = .ok (.bipush 12, 2) := by decide +kernel
theorem dX12_image_45 : decode cX12_image 45 = .ok (.iload_n 1, 1) := by decide +kernel
theorem dX12_image_46 : decode cX12_image 46 = .ok (.iadd, 1) := by decide +kernel
theorem dX12_image_47 : decode cX12_image 47 = .ok (.aload_n 0, 1) := by decide +kernel
theorem dX12_image_48 : decode cX12_image 48 = .ok (.getfield 16, 3) := by decide +kernel
theorem dX12_image_51 : decode cX12_image 51 = .ok (.iload_n 1, 1) := by decide +kernel
theorem dX12_image_52 : decode cX12_image 52 = .ok (.iaload, 1) := by decide +kernel
theorem dX12_image_53 : decode cX12_image 53 = .ok (.iastore, 1) := by decide +kernel
theorem dX12_image_54 : decode cX12_image 54 = .ok (.iinc 1 1, 3) := by decide +kernel
theorem dX12_image_57 : decode cX12_image 57 = .ok (.goto (-24), 3) := by decide +kernel
theorem dX12_image_60 : decode cX12_image 60 = .ok (.aload_n 0, 1) := by decide +kernel
theorem dX12_image_61 : decode cX12_image 61 = .ok (.getfield 38, 3) := by decide +kernel
theorem dX12_image_64 : decode cX12_image 64 = .ok (.iconst 0, 1) := by decide +kernel
theorem dX12_image_65 : decode cX12_image 65 = .ok (.aload_n 0, 1) := by decide +kernel
theorem dX12_image_66 : decode cX12_image 66 = .ok (.getfield 87, 3) := by decide +kernel
theorem dX12_image_69 : decode cX12_image 69 = .ok (.iastore, 1) := by decide +kernel
theorem dX12_image_70 : decode cX12_image 70 = .ok (.aload_n 0, 1) := by decide +kernel
theorem dX12_image_71 : decode cX12_image 71 = .ok (.getfield 38, 3) := by decide +kernel
theorem dX12_image_74 : decode cX12_image 74 = .ok (.iconst 1, 1) := by decide +kernel
theorem dX12_image_75 : decode cX12_image 75 = .ok (.aload_n 0, 1) := by decide +kernel
theorem dX12_image_76 : decode cX12_image 76 = .ok (.getfield 22, 3) := by decide +kernel
theorem dX12_image_79 : decode cX12_image 79 = .ok (.iastore, 1) := by decide +kernel
theorem dX12_image_80 : decode cX12_image 80 = .ok (.aload_n 0, 1) := by decide +kernel
theorem dX12_image_81 : decode cX12_image 81 = .ok (.getfield 38, 3) := by decide +kernel
theorem dX12_image_84 : decode cX12_image 84 = .ok (.iconst 2, 1) := by decide +kernel
theorem dX12_image_85 : decode cX12_image 85 = .ok (.aload_n 0, 1) := by decide +kernel
theorem dX12_image_86 : decode cX12_image 86 = .ok (.getfield 97, 3) := by decide +kernel
theorem dX12_image_89 : decode cX12_image 89 = .ok (.iastore, 1) := by decide +kernel
theorem dX12_image_90 : decode cX12_image 90 = .ok (.aload_n 0, 1) := by decide +kernel
theorem dX12_image_91 : decode cX12_image 91 = .ok (.getfield 87, 3) := by decide +kernel
theorem dX12_image_94 : decode cX12_image 94 = .ok (.ireturn, 1) := by decide +kernel
theorem dX12_back_0 : decode cX12_back 0 = .ok (.aload_n 0, 1) := by decide +kernel
theorem dX12_back_1 : decode cX12_back 1 = .ok (.getfield 259, 3) := by decide +kernel
theorem dX12_back_4 : decode cX12_back 4 = .ok (.ifCond .ne 6, 3) := by decide +kernel
theorem dX12_back_7 : decode cX12_back 7 = .ok (.bipush (-3), 2) := by decide +kernel
theorem dX12_back_9 : decode cX12_back 9 = .ok (.ireturn, 1) := by decide +kernel
theorem dX12_back_10 : decode cX12_back 10 = .ok (.iconst 0, 1) := by decide +kernel
theorem dX12_back_11 : decode cX12_back 11 = .ok (.istore_n 1, 1) := by decide +kernel
theorem dX12_back_12 : decode cX12_back 12 = .ok (.iload_n 1, 1) := by decide +kernel
theorem dX12_back_13 : decode cX12_back 13 = .ok (.bipush 12, 2) := by decide +kernel
theorem dX12_back_15 : decode cX12_back 15 = .ok (.if_icmp .ge 21, 3) := by decide +kernel
theorem dX12_back_18 : decode cX12_back 18 = .ok (.aload_n 0, 1) := by decide +kernel
theorem dX12_back_19 : decode cX12_back 19 = .ok (.getfield 19, 3) := by decide +kernel
theorem dX12_back_22 : decode cX12_back 22 = .ok (.iload_n 1, 1) := by decide +kernel
theorem dX12_back_23 : decode cX12_back 23 = .ok (.aload_n 0, 1) := by decide +kernel
theorem dX12_back_24 : decode cX12_back 24 = .ok (.getfield 35, 3) := by decide +kernel
theorem dX12_back_27 : decode cX12_back 27 = .ok (.iload_n 1, 1) := by decide +kernel
theorem dX12_back_28 : decode cX12_back 28 = .ok (.iaload, 1) := by decide +kernel
theorem dX12_back_29 : decode cX12_back 29 = .ok (.iastore, 1) := by decide +kernel
theorem dX12_back_30 : decode cX12_back 30 = .ok (.iinc 1 1, 3) := by decide +kernel
theorem dX12_back_33 : decode cX12_back 33 = .ok (.goto (-21), 3) := by decide +kernel
theorem dX12_back_36 : decode cX12_back 36 = .ok (.iconst 0, 1) := by decide +kernel
theorem dX12_back_37 : decode cX12_back 37 = .ok (.istore_n 1, 1) := by decide +kernel
theorem dX12_back_38 : decode cX12_back 38 = .ok (.iload_n 1, 1) := by decide +kernel
theorem dX12_back_39 : decode cX12_back 39 = .ok (.bipush 16, 2) := by decide +kernel
theorem dX12_back_41 : decode cX12_back 41 = .ok (.if_icmp .ge 24, 3) := by decide +kernel
theorem dX12_back_44 : decode cX12_back 44 = .ok (.aload_n 0, 1) := by decide +kernel
theorem dX12_back_45 : decode cX12_back 45 = .ok (.getfield 16, 3) := by decide +kernel
theorem dX12_back_48 : decode cX12_back 48 = .ok (.iload_n 1, 1) := by decide +kernel
theorem dX12_back_49 : decode cX12_back 49 = .ok (.aload_n 0, 1) := by decide +kernel
theorem dX12_back_50 : decode cX12_back 50 = .ok (.getfield 35, 3) := by decide +kernel
theorem dX12_back_53 : decode cX12_back 53 = .ok (.bipush 12, 2) := by decide +kernel
theorem dX12_back_55 : decode cX12_back 55 = .ok (.iload_n 1, 1) := by decide +kernel
theorem dX12_back_56 : decode cX12_back 56 = .ok (.iadd, 1) := by decide +kernel
theorem dX12_back_57 : decode cX12_back 57 = .ok (.iaload, 1) := by decide +kernel
theorem dX12_back_58 : decode cX12_back 58 = .ok (.iastore, 1) := by decide +kernel
theorem dX12_back_59 : decode cX12_back 59 = .ok (.iinc 1 1, 3) := by decide +kernel
theorem dX12_back_62 : decode cX12_back 62 = .ok (.goto (-24), 3) := by decide +kernel
theorem dX12_back_65 : decode cX12_back 65 = .ok (.aload_n 0, 1) := by decide +kernel
theorem dX12_back_66 : decode cX12_back 66 = .ok (.aload_n 0, 1) := by decide +kernel
theorem dX12_back_67 : decode cX12_back 67 = .ok (.getfield 38, 3) := by decide +kernel
theorem dX12_back_70 : decode cX12_back 70 = .ok (.iconst 0, 1) := by decide +kernel
theorem dX12_back_71 : decode cX12_back 71 = .ok (.iaload, 1) := by decide +kernel
theorem dX12_back_72 : decode cX12_back 72 = .ok (.putfield 87, 3) := by decide +kernel
theorem dX12_back_75 : decode cX12_back 75 = .ok (.aload_n 0, 1) := by decide +kernel
theorem dX12_back_76 : decode cX12_back 76 = .ok (.aload_n 0, 1) := by decide +kernel
theorem dX12_back_77 : decode cX12_back 77 = .ok (.getfield 38, 3) := by decide +kernel
theorem dX12_back_80 : decode cX12_back 80 = .ok (.iconst 1, 1) := by decide +kernel
theorem dX12_back_81 : decode cX12_back 81 = .ok (.iaload, 1) := by decide +kernel
theorem dX12_back_82 : decode cX12_back 82 = .ok (.putfield 22, 3) := by decide +kernel
theorem dX12_back_85 : decode cX12_back 85 = .ok (.aload_n 0, 1) := by decide +kernel
theorem dX12_back_86 : decode cX12_back 86 = .ok (.aload_n 0, 1) := by decide +kernel
theorem dX12_back_87 : decode cX12_back 87 = .ok (.getfield 38, 3) := by decide +kernel
theorem dX12_back_90 : decode cX12_back 90 = .ok (.iconst 2, 1) := by decide +kernel
theorem dX12_back_91 : decode cX12_back 91 = .ok (.iaload, 1) := by decide +kernel
theorem dX12_back_92 : decode cX12_back 92 = .ok (.putfield 97, 3) := by decide +kernel
theorem dX12_back_95 : decode cX12_back 95 = .ok (.aload_n 0, 1) := by decide +kernel
theorem dX12_back_96 : decode cX12_back 96 = .ok (.getfield 87, 3) := by decide +kernel
theorem dX12_back_99 : decode cX12_back 99 = .ok (.ireturn, 1) := by decide +kernel
theorem dX12_sheet_0 : decode cX12_sheet 0 = .ok (.iload_n 1, 1) := by decide +kernel
theorem dX12_sheet_1 : decode cX12_sheet 1 = .ok (.iconst 0, 1) := by decide +kernel
theorem dX12_sheet_2 : decode cX12_sheet 2 = .ok (.iconst 3, 1) := by decide +kernel
theorem dX12_sheet_3 : decode cX12_sheet 3 = .ok (.invokestatic 90, 3) := by decide +kernel
theorem dX12_sheet_6 : decode cX12_sheet 6 = .ok (.ifCond .eq 23, 3) := by decide +kernel
theorem dX12_sheet_9 : decode cX12_sheet 9 = .ok (.iload_n 2, 1) := by decide +kernel
theorem dX12_sheet_10 : decode cX12_sheet 10 = .ok (.iconst (-1), 1) := by decide +kernel
theorem dX12_sheet_11 : decode cX12_sheet 11 = .ok (.iconst 2, 1) := by decide +kernel
theorem dX12_sheet_12 : decode cX12_sheet 12 = .ok (.invokestatic 90, 3) := by decide +kernel
theorem dX12_sheet_15 : decode cX12_sheet 15 = .ok (.ifCond .eq 14, 3) := by decide +kernel
theorem dX12_sheet_18 : decode cX12_sheet 18 = .ok (.iload_n 2, 1) := by decide +kernel
theorem dX12_sheet_19 : decode cX12_sheet 19 = .ok (.iconst (-1), 1) := by decide +kernel
theorem dX12_sheet_20 : decode cX12_sheet 20 = .ok (.if_icmp .eq 12, 3) := by decide +kernel
theorem dX12_sheet_23 : decode cX12_sheet 23 = .ok (.iload_n 3, 1) := by decide +kernel
theorem dX12_sheet_24 : decode cX12_sheet 24 = .ok (.bipush 40, 2) := by decide +kernel
theorem dX12_sheet_26 : decode cX12_sheet 26 = .ok (.if_icmp .le 6, 3) := by decide +kernel
theorem dX12_sheet_29 : decode cX12_sheet 29 = .ok (.bipush (-2), 2) := by decide +kernel
theorem dX12_sheet_31 : decode cX12_sheet 31 = .ok (.ireturn, 1) := by decide +kernel
theorem dX12_sheet_32 : decode cX12_sheet 32 = .ok (.iload_n 2, 1) := by decide +kernel
theorem dX12_sheet_33 : decode cX12_sheet 33 = .ok (.iconst (-1), 1) := by decide +kernel
theorem dX12_sheet_34 : decode cX12_sheet 34 = .ok (.if_icmp .eq 10, 3) := by decide +kernel
theorem dX12_sheet_37 : decode cX12_sheet 37 = .ok (.iload_n 3, 1) := by decide +kernel
theorem dX12_sheet_38 : decode cX12_sheet 38 = .ok (.ifCond .ge 6, 3) := by decide +kernel
theorem dX12_sheet_41 : decode cX12_sheet 41 = .ok (.bipush (-14), 2) := by decide +kernel
theorem dX12_sheet_43 : decode cX12_sheet 43 = .ok (.ireturn, 1) := by decide +kernel
theorem dX12_sheet_44 : decode cX12_sheet 44 = .ok (.aload_n 0, 1) := by decide +kernel
theorem dX12_sheet_45 : decode cX12_sheet 45 = .ok (.getfield 41, 3) := by decide +kernel
theorem dX12_sheet_48 : decode cX12_sheet 48 = .ok (.iload_n 1, 1) := by decide +kernel
theorem dX12_sheet_49 : decode cX12_sheet 49 = .ok (.iload_n 2, 1) := by decide +kernel
theorem dX12_sheet_50 : decode cX12_sheet 50 = .ok (.iastore, 1) := by decide +kernel
theorem dX12_sheet_51 : decode cX12_sheet 51 = .ok (.aload_n 0, 1) := by decide +kernel
theorem dX12_sheet_52 : decode cX12_sheet 52 = .ok (.getfield 44, 3) := by decide +kernel
theorem dX12_sheet_55 : decode cX12_sheet 55 = .ok (.iload_n 1, 1) := by decide +kernel
theorem dX12_sheet_56 : decode cX12_sheet 56 = .ok (.iload_n 2, 1) := by decide +kernel
theorem dX12_sheet_57 : decode cX12_sheet 57 = .ok (.iconst (-1), 1) := by decide +kernel
theorem dX12_sheet_58 : decode cX12_sheet 58 = .ok (.if_icmp .ne 7, 3) := by decide +kernel
theorem dX12_sheet_61 : decode cX12_sheet 61 = .ok (.iconst 0, 1) := by decide +kernel
theorem dX12_sheet_62 : decode cX12_sheet 62 = .ok (.goto 4, 3) := by decide +kernel
theorem dX12_sheet_65 : decode cX12_sheet 65 = .ok (.iload_n 3, 1) := by decide +kernel
theorem dX12_sheet_66 : decode cX12_sheet 66 = .ok (.iastore, 1) := by decide +kernel
theorem dX12_sheet_67 : decode cX12_sheet 67 = .ok (.iconst 0, 1) := by decide +kernel
theorem dX12_sheet_68 : decode cX12_sheet 68 = .ok (.istore 4, 2) := by decide +kernel
theorem dX12_sheet_70 : decode cX12_sheet 70 = .ok (.iload 4, 2) := by decide +kernel
theorem dX12_sheet_72 : decode cX12_sheet 72 = .ok (.bipush 40, 2) := by decide +kernel
theorem dX12_sheet_74 : decode cX12_sheet 74 = .ok (.if_icmp .ge 22, 3) := by decide +kernel
theorem dX12_sheet_77 : decode cX12_sheet 77 = .ok (.aload_n 0, 1) := by decide +kernel
theorem dX12_sheet_78 : decode cX12_sheet 78 = .ok (.getfield 47, 3) := by decide +kernel
theorem dX12_sheet_81 : decode cX12_sheet 81 = .ok (.bipush 40, 2) := by decide +kernel
theorem dX12_sheet_83 : decode cX12_sheet 83 = .ok (.iload_n 1, 1) := by decide +kernel
theorem dX12_sheet_84 : decode cX12_sheet 84 = .ok (.imul, 1) := by decide +kernel
theorem dX12_sheet_85 : decode cX12_sheet 85 = .ok (.iload 4, 2) := by decide +kernel
theorem dX12_sheet_87 : decode cX12_sheet 87 = .ok (.iadd, 1) := by decide +kernel
theorem dX12_sheet_88 : decode cX12_sheet 88 = .ok (.iconst 0, 1) := by decide +kernel
theorem dX12_sheet_89 : decode cX12_sheet 89 = .ok (.iastore, 1) := by decide +kernel
theorem dX12_sheet_90 : decode cX12_sheet 90 = .ok (.iinc 4 1, 3) := by decide +kernel
theorem dX12_sheet_93 : decode cX12_sheet 93 = .ok (.goto (-23), 3) := by decide +kernel
theorem dX12_sheet_96 : decode cX12_sheet 96 = .ok (.iconst 1, 1) := by decide +kernel
theorem dX12_sheet_97 : decode cX12_sheet 97 = .ok (.ireturn, 1) := by decide +kernel
theorem dX12_cell_0 : decode cX12_cell 0 = .ok (.iload_n 1, 1) := by decide +kernel
theorem dX12_cell_1 : decode cX12_cell 1 = .ok (.iconst 0, 1) := by decide +kernel
theorem dX12_cell_2 : decode cX12_cell 2 = .ok (.iconst 3, 1) := by decide +kernel
theorem dX12_cell_3 : decode cX12_cell 3 = .ok (.invokestatic 90, 3) := by decide +kernel
theorem dX12_cell_6 : decode cX12_cell 6 = .ok (.ifCond .ne 6, 3) := by decide +kernel
theorem dX12_cell_9 : decode cX12_cell 9 = .ok (.bipush (-2), 2) := by decide +kernel
theorem dX12_cell_11 : decode cX12_cell 11 = .ok (.ireturn, 1) := by decide +kernel
theorem dX12_cell_12 : decode cX12_cell 12 = .ok (.aload_n 0, 1) := by decide +kernel
theorem dX12_cell_13 : decode cX12_cell 13 = .ok (.getfield 41, 3) := by decide +kernel
theorem dX12_cell_16 : decode cX12_cell 16 = .ok (.iload_n 1, 1) := by decide +kernel
theorem dX12_cell_17 : decode cX12_cell 17 = .ok (.iaload, 1) := by decide +kernel
theorem dX12_cell_18 : decode cX12_cell 18 = .ok (.iconst (-1), 1) := by decide +kernel
theorem dX12_cell_19 : decode cX12_cell 19 = .ok (.if_icmp .ne 6, 3) := by decide +kernel
theorem dX12_cell_22 : decode cX12_cell 22 = .ok (.bipush (-11), 2) := by decide +kernel
theorem dX12_cell_24 : decode cX12_cell 24 = .ok (.ireturn, 1) := by decide +kernel
theorem dX12_cell_25 : decode cX12_cell 25 = .ok (.iload_n 2, 1) := by decide +kernel
theorem dX12_cell_26 : decode cX12_cell 26 = .ok (.iconst 0, 1) := by decide +kernel
theorem dX12_cell_27 : decode cX12_cell 27 = .ok (.aload_n 0, 1) := by decide +kernel
theorem dX12_cell_28 : decode cX12_cell 28 = .ok (.getfield 44, 3) := by decide +kernel
theorem dX12_cell_31 : decode cX12_cell 31 = .ok (.iload_n 1, 1) := by decide +kernel
theorem dX12_cell_32 : decode cX12_cell 32 = .ok (.iaload, 1) := by decide +kernel
theorem dX12_cell_33 : decode cX12_cell 33 = .ok (.iconst 1, 1) := by decide +kernel
theorem dX12_cell_34 : decode cX12_cell 34 = .ok (.isub, 1) := by decide +kernel
theorem dX12_cell_35 : decode cX12_cell 35 = .ok (.invokestatic 90, 3) := by decide +kernel
theorem dX12_cell_38 : decode cX12_cell 38 = .ok (.ifCond .ne 6, 3) := by decide +kernel
theorem dX12_cell_41 : decode cX12_cell 41 = .ok (.bipush (-12), 2) := by decide +kernel
theorem dX12_cell_43 : decode cX12_cell 43 = .ok (.ireturn, 1) := by decide +kernel
theorem dX12_cell_44 : decode cX12_cell 44 = .ok (.aload_n 0, 1) := by decide +kernel
theorem dX12_cell_45 : decode cX12_cell 45 = .ok (.getfield 47, 3) := by decide +kernel
theorem dX12_cell_48 : decode cX12_cell 48 = .ok (.bipush 40, 2) := by decide +kernel
theorem dX12_cell_50 : decode cX12_cell 50 = .ok (.iload_n 1, 1) := by decide +kernel
theorem dX12_cell_51 : decode cX12_cell 51 = .ok (.imul, 1) := by decide +kernel
theorem dX12_cell_52 : decode cX12_cell 52 = .ok (.iload_n 2, 1) := by decide +kernel
theorem dX12_cell_53 : decode cX12_cell 53 = .ok (.iadd, 1) := by decide +kernel
theorem dX12_cell_54 : decode cX12_cell 54 = .ok (.aload_n 0, 1) := by decide +kernel
theorem dX12_cell_55 : decode cX12_cell 55 = .ok (.getfield 41, 3) := by decide +kernel
theorem dX12_cell_58 : decode cX12_cell 58 = .ok (.iload_n 1, 1) := by decide +kernel
theorem dX12_cell_59 : decode cX12_cell 59 = .ok (.iaload, 1) := by decide +kernel
theorem dX12_cell_60 : decode cX12_cell 60 = .ok (.ifCond .ne 8, 3) := by decide +kernel
theorem dX12_cell_63 : decode cX12_cell 63 = .ok (.iload_n 3, 1) := by decide +kernel
theorem dX12_cell_64 : decode cX12_cell 64 = .ok (.i2b, 1) := by decide +kernel
theorem dX12_cell_65 : decode cX12_cell 65 = .ok (.goto 19, 3) := by decide +kernel
theorem dX12_cell_68 : decode cX12_cell 68 = .ok (.aload_n 0, 1) := by decide +kernel
theorem dX12_cell_69 : decode cX12_cell 69 = .ok (.getfield 41, 3) := by decide +kernel
theorem dX12_cell_72 : decode cX12_cell 72 = .ok (.iload_n 1, 1) := by decide +kernel
theorem dX12_cell_73 : decode cX12_cell 73 = .ok (.iaload, 1) := by decide +kernel
theorem dX12_cell_74 : decode cX12_cell 74 = .ok (.iconst 1, 1) := by decide +kernel
theorem dX12_cell_75 : decode cX12_cell 75 = .ok (.if_icmp .ne 8, 3) := by decide +kernel
theorem dX12_cell_78 : decode cX12_cell 78 = .ok (.iload_n 3, 1) := by decide +kernel
theorem dX12_cell_79 : decode cX12_cell 79 = .ok (.i2s, 1) := by decide +kernel
theorem dX12_cell_80 : decode cX12_cell 80 = .ok (.goto 4, 3) := by decide +kernel
theorem dX12_cell_83 : decode cX12_cell 83 = .ok (.iload_n 3, 1) := by decide +kernel
theorem dX12_cell_84 : decode cX12_cell 84 = .ok (.iastore, 1) := by decide +kernel
theorem dX12_cell_85 : decode cX12_cell 85 = .ok (.iconst 1, 1) := by decide +kernel
theorem dX12_cell_86 : decode cX12_cell 86 = .ok (.ireturn, 1) := by decide +kernel
theorem dX12_copy_0 : decode cX12_copy 0 = .ok (.iload_n 1, 1) := by decide +kernel
theorem dX12_copy_1 : decode cX12_copy 1 = .ok (.iconst 0, 1) := by decide +kernel
theorem dX12_copy_2 : decode cX12_copy 2 = .ok (.iconst 3, 1) := by decide +kernel
theorem dX12_copy_3 : decode cX12_copy 3 = .ok (.invokestatic 90, 3) := by decide +kernel
theorem dX12_copy_6 : decode cX12_copy 6 = .ok (.ifCond .eq 12, 3) := by decide +kernel
theorem dX12_copy_9 : decode cX12_copy 9 = .ok (.iload_n 3, 1) := by decide +kernel
theorem dX12_copy_10 : decode cX12_copy 10 = .ok (.iconst 0, 1) := by decide +kernel
theorem dX12_copy_11 : decode cX12_copy 11 = .ok (.iconst 3, 1) := by decide +kernel
theorem dX12_copy_12 : decode cX12_copy 12 = .ok (.invokestatic 90, 3) := by decide +kernel
theorem dX12_copy_15 : decode cX12_copy 15 = .ok (.ifCond .ne 6, 3) := by decide +kernel
theorem dX12_copy_18 : decode cX12_copy 18 = .ok (.bipush (-2), 2) := by decide +kernel
theorem dX12_copy_20 : decode cX12_copy 20 = .ok (.ireturn, 1) := by decide +kernel
theorem dX12_copy_21 : decode cX12_copy 21 = .ok (.aload_n 0, 1) := by decide +kernel
theorem dX12_copy_22 : decode cX12_copy 22 = .ok (.getfield 41, 3) := by decide +kernel
theorem dX12_copy_25 : decode cX12_copy 25 = .ok (.iload_n 1, 1) := by decide +kernel
theorem dX12_copy_26 : decode cX12_copy 26 = .ok (.iaload, 1) := by decide +kernel
theorem dX12_copy_27 : decode cX12_copy 27 = .ok (.iconst (-1), 1) := by decide +kernel
theorem dX12_copy_28 : decode cX12_copy 28 = .ok (.if_icmp .eq 13, 3) := by decide +kernel
theorem dX12_copy_31 : decode cX12_copy 31 = .ok (.aload_n 0, 1) := by decide +kernel
theorem dX12_copy_32 : decode cX12_copy 32 = .ok (.getfield 41, 3) := by decide +kernel
theorem dX12_copy_35 : decode cX12_copy 35 = .ok (.iload_n 3, 1) := by decide +kernel
theorem dX12_copy_36 : decode cX12_copy 36 = .ok (.iaload, 1) := by decide +kernel
theorem dX12_copy_37 : decode cX12_copy 37 = .ok (.iconst (-1), 1) := by decide +kernel
theorem dX12_copy_38 : decode cX12_copy 38 = .ok (.if_icmp .ne 6, 3) := by decide +kernel
theorem dX12_copy_41 : decode cX12_copy 41 = .ok (.bipush (-11), 2) := by decide +kernel
theorem dX12_copy_43 : decode cX12_copy 43 = .ok (.ireturn, 1) := by decide +kernel
theorem dX12_copy_44 : decode cX12_copy 44 = .ok (.aload_n 0, 1) := by decide +kernel
theorem dX12_copy_45 : decode cX12_copy 45 = .ok (.getfield 41, 3) := by decide +kernel
theorem dX12_copy_48 : decode cX12_copy 48 = .ok (.iload_n 1, 1) := by decide +kernel
theorem dX12_copy_49 : decode cX12_copy 49 = .ok (.iaload, 1) := by decide +kernel
theorem dX12_copy_50 : decode cX12_copy 50 = .ok (.aload_n 0, 1) := by decide +kernel
theorem dX12_copy_51 : decode cX12_copy 51 = .ok (.getfield 41, 3) := by decide +kernel
theorem dX12_copy_54 : decode cX12_copy 54 = .ok (.iload_n 3, 1) := by decide +kernel
theorem dX12_copy_55 : decode cX12_copy 55 = .ok (.iaload, 1) := by decide +kernel
theorem dX12_copy_56 : decode cX12_copy 56 = .ok (.if_icmp .eq 6, 3) := by decide +kernel
theorem dX12_copy_59 : decode cX12_copy 59 = .ok (.bipush (-13), 2) := by decide +kernel
theorem dX12_copy_61 : decode cX12_copy 61 = .ok (.ireturn, 1) := by decide +kernel
theorem dX12_copy_62 : decode cX12_copy 62 = .ok (.iload 5, 2) := by decide +kernel
theorem dX12_copy_64 : decode cX12_copy 64 = .ok (.ifCond .lt 60, 3) := by decide +kernel
theorem dX12_copy_67 : decode cX12_copy 67 = .ok (.iload_n 2, 1) := by decide +kernel
theorem dX12_copy_68 : decode cX12_copy 68 = .ok (.ifCond .lt 56, 3) := by decide +kernel
theorem dX12_copy_71 : decode cX12_copy 71 = .ok (.iload 4, 2) := by decide +kernel
theorem dX12_copy_73 : decode cX12_copy 73 = .ok (.ifCond .lt 51, 3) := by decide +kernel
theorem dX12_copy_76 : decode cX12_copy 76 = .ok (.iload_n 2, 1) := by decide +kernel
theorem dX12_copy_77 : decode cX12_copy 77 = .ok (.aload_n 0, 1) := by decide +kernel
theorem dX12_copy_78 : decode cX12_copy 78 = .ok (.getfield 44, 3) := by decide +kernel
theorem dX12_copy_81 : decode cX12_copy 81 = .ok (.iload_n 1, 1) := by decide +kernel
theorem dX12_copy_82 : decode cX12_copy 82 = .ok (.iaload, 1) := by decide +kernel
theorem dX12_copy_83 : decode cX12_copy 83 = .ok (.if_icmp .gt 41, 3) := by decide +kernel
theorem dX12_copy_86 : decode cX12_copy 86 = .ok (.iload 4, 2) := by decide +kernel
theorem dX12_copy_88 : decode cX12_copy 88 = .ok (.aload_n 0, 1) := by decide +kernel
theorem dX12_copy_89 : decode cX12_copy 89 = .ok (.getfield 44, 3) := by decide +kernel
theorem dX12_copy_92 : decode cX12_copy 92 = .ok (.iload_n 3, 1) := by decide +kernel
theorem dX12_copy_93 : decode cX12_copy 93 = .ok (.iaload, 1) := by decide +kernel
theorem dX12_copy_94 : decode cX12_copy 94 = .ok (.if_icmp .gt 30, 3) := by decide +kernel
theorem dX12_copy_97 : decode cX12_copy 97 = .ok (.iload 5, 2) := by decide +kernel
theorem dX12_copy_99 : decode cX12_copy 99 = .ok (.aload_n 0, 1) := by decide +kernel
theorem dX12_copy_100 : decode cX12_copy 100 = .ok (.getfield 44, 3) := by decide +kernel
theorem dX12_copy_103 : decode cX12_copy 103 = .ok (.iload_n 1, 1) := by decide +kernel
theorem dX12_copy_104 : decode cX12_copy 104 = .ok (.iaload, 1) := by decide +kernel
theorem dX12_copy_105 : decode cX12_copy 105 = .ok (.iload_n 2, 1) := by decide +kernel
theorem dX12_copy_106 : decode cX12_copy 106 = .ok (.isub, 1) := by decide +kernel
theorem dX12_copy_107 : decode cX12_copy 107 = .ok (.if_icmp .gt 17, 3) := by decide +kernel
theorem dX12_copy_110 : decode cX12_copy 110 = .ok (.iload 5, 2) := by decide +kernel
theorem dX12_copy_112 : decode cX12_copy 112 = .ok (.aload_n 0, 1) := by decide +kernel
theorem dX12_copy_113 : decode cX12_copy 113 = .ok (.getfield 44, 3) := by decide +kernel
theorem dX12_copy_116 : decode cX12_copy 116 = .ok (.iload_n 3, 1) := by decide +kernel
theorem dX12_copy_117 : decode cX12_copy 117 = .ok (.iaload, 1) := by decide +kernel
theorem dX12_copy_118 : decode cX12_copy 118 = .ok (.iload 4, 2) := by decide +kernel
theorem dX12_copy_120 : decode cX12_copy 120 = .ok (.isub, 1) := by decide +kernel
theorem dX12_copy_121 : decode cX12_copy 121 = .ok (.if_icmp .le 6, 3) := by decide +kernel
theorem dX12_copy_124 : decode cX12_copy 124 = .ok (.bipush (-12), 2) := by decide +kernel
theorem dX12_copy_126 : decode cX12_copy 126 = .ok (.ireturn, 1) := by decide +kernel
theorem dX12_copy_127 : decode cX12_copy 127 = .ok (.bipush 40, 2) := by decide +kernel
theorem dX12_copy_129 : decode cX12_copy 129 = .ok (.iload_n 1, 1) := by decide +kernel
theorem dX12_copy_130 : decode cX12_copy 130 = .ok (.imul, 1) := by decide +kernel
theorem dX12_copy_131 : decode cX12_copy 131 = .ok (.iload_n 2, 1) := by decide +kernel
theorem dX12_copy_132 : decode cX12_copy 132 = .ok (.iadd, 1) := by decide +kernel
theorem dX12_copy_133 : decode cX12_copy 133 = .ok (.istore 6, 2) := by decide +kernel
theorem dX12_copy_135 : decode cX12_copy 135 = .ok (.bipush 40, 2) := by decide +kernel
theorem dX12_copy_137 : decode cX12_copy 137 = .ok (.iload_n 3, 1) := by decide +kernel
theorem dX12_copy_138 : decode cX12_copy 138 = .ok (.imul, 1) := by decide +kernel
theorem dX12_copy_139 : decode cX12_copy 139 = .ok (.iload 4, 2) := by decide +kernel
theorem dX12_copy_141 : decode cX12_copy 141 = .ok (.iadd, 1) := by decide +kernel
theorem dX12_copy_142 : decode cX12_copy 142 = .ok (.istore 7, 2) := by decide +kernel
theorem dX12_copy_144 : decode cX12_copy 144 = .ok (.iconst 0, 1) := by decide +kernel
theorem dX12_copy_145 : decode cX12_copy 145 = .ok (.istore 8, 2) := by decide +kernel
theorem dX12_copy_147 : decode cX12_copy 147 = .ok (.iload 8, 2) := by decide +kernel
theorem dX12_copy_149 : decode cX12_copy 149 = .ok (.iload 5, 2) := by decide +kernel
theorem dX12_copy_151 : decode cX12_copy 151 = .ok (.if_icmp .ge 50, 3) := by decide +kernel
theorem dX12_copy_154 : decode cX12_copy 154 = .ok (.iload 6, 2) := by decide +kernel
theorem dX12_copy_156 : decode cX12_copy 156 = .ok (.iload 7, 2) := by decide +kernel
theorem dX12_copy_158 : decode cX12_copy 158 = .ok (.if_icmp .ge 13, 3) := by decide +kernel
theorem dX12_copy_161 : decode cX12_copy 161 = .ok (.iload 5, 2) := by decide +kernel
theorem dX12_copy_163 : decode cX12_copy 163 = .ok (.iconst 1, 1) := by decide +kernel
theorem dX12_copy_164 : decode cX12_copy 164 = .ok (.isub, 1) := by decide +kernel
theorem dX12_copy_165 : decode cX12_copy 165 = .ok (.iload 8, 2) := by decide +kernel
theorem dX12_copy_167 : decode cX12_copy 167 = .ok (.isub, 1) := by decide +kernel
theorem dX12_copy_168 : decode cX12_copy 168 = .ok (.goto 5, 3) := by decide +kernel
theorem dX12_copy_171 : decode cX12_copy 171 = .ok (.iload 8, 2) := by decide +kernel
theorem dX12_copy_173 : decode cX12_copy 173 = .ok (.istore 9, 2) := by decide +kernel
theorem dX12_copy_175 : decode cX12_copy 175 = .ok (.aload_n 0, 1) := by decide +kernel
theorem dX12_copy_176 : decode cX12_copy 176 = .ok (.getfield 47, 3) := by decide +kernel
theorem dX12_copy_179 : decode cX12_copy 179 = .ok (.iload 7, 2) := by decide +kernel
theorem dX12_copy_181 : decode cX12_copy 181 = .ok (.iload 9, 2) := by decide +kernel
theorem dX12_copy_183 : decode cX12_copy 183 = .ok (.iadd, 1) := by decide +kernel
theorem dX12_copy_184 : decode cX12_copy 184 = .ok (.aload_n 0, 1) := by decide +kernel
theorem dX12_copy_185 : decode cX12_copy 185 = .ok (.getfield 47, 3) := by decide +kernel
theorem dX12_copy_188 : decode cX12_copy 188 = .ok (.iload 6, 2) := by decide +kernel
theorem dX12_copy_190 : decode cX12_copy 190 = .ok (.iload 9, 2) := by decide +kernel
theorem dX12_copy_192 : decode cX12_copy 192 = .ok (.iadd, 1) := by decide +kernel
theorem dX12_copy_193 : decode cX12_copy 193 = .ok (.iaload, 1) := by decide +kernel
theorem dX12_copy_194 : decode cX12_copy 194 = .ok (.iastore, 1) := by decide +kernel
theorem dX12_copy_195 : decode cX12_copy 195 = .ok (.iinc 8 1, 3) := by decide +kernel
theorem dX12_copy_198 : decode cX12_copy 198 = .ok (.goto (-51), 3) := by decide +kernel
theorem dX12_copy_201 : decode cX12_copy 201 = .ok (.iload 5, 2) := by decide +kernel
theorem dX12_copy_203 : decode cX12_copy 203 = .ok (.ireturn, 1) := by decide +kernel
theorem dX12_viewersBy_0 : decode cX12_viewersBy 0 = .ok (.iload_n 1, 1) := by decide +kernel
theorem dX12_viewersBy_1 : decode cX12_viewersBy 1 = .ok (.iconst 0, 1) := by decide +kernel
theorem dX12_viewersBy_2 : decode cX12_viewersBy 2 = .ok (.iconst 3, 1) := by decide +kernel
theorem dX12_viewersBy_3 : decode cX12_viewersBy 3 = .ok (.invokestatic 90, 3) := by decide +kernel
theorem dX12_viewersBy_6 : decode cX12_viewersBy 6 = .ok (.ifCond .eq 23, 3) := by decide +kernel
theorem dX12_viewersBy_9 : decode cX12_viewersBy 9 = .ok (.iload_n 2, 1) := by decide +kernel
theorem dX12_viewersBy_10 : decode cX12_viewersBy 10 = .ok (.iconst 0, 1) := by decide +kernel
theorem dX12_viewersBy_11 : decode cX12_viewersBy 11 = .ok (.iconst 2, 1) := by decide +kernel
theorem dX12_viewersBy_12 : decode cX12_viewersBy 12 = .ok (.invokestatic 90, 3) := by decide +kernel
theorem dX12_viewersBy_15 : decode cX12_viewersBy 15 = .ok (.ifCond .eq 14, 3) := by decide +kernel
theorem dX12_viewersBy_18 : decode cX12_viewersBy 18 = .ok (.iload 4, 2) := by decide +kernel
theorem dX12_viewersBy_20 : decode cX12_viewersBy 20 = .ok (.iconst 0, 1) := by decide +kernel
theorem dX12_viewersBy_21 : decode cX12_viewersBy 21 = .ok (.bipush 8, 2) := by decide +kernel
theorem dX12_viewersBy_23 : decode cX12_viewersBy 23 = .ok (.invokestatic 90, 3) := by decide +kernel
theorem dX12_viewersBy_26 : decode cX12_viewersBy 26 = .ok (.ifCond .ne 6, 3) := by decide +kernel
theorem dX12_viewersBy_29 : decode cX12_viewersBy 29 = .ok (.bipush (-2), 2) := by decide +kernel
theorem dX12_viewersBy_31 : decode cX12_viewersBy 31 = .ok (.ireturn, 1) := by decide +kernel
theorem dX12_viewersBy_32 : decode cX12_viewersBy 32 = .ok (.aload_n 0, 1) := by decide +kernel
theorem dX12_viewersBy_33 : decode cX12_viewersBy 33 = .ok (.getfield 41, 3) := by decide +kernel
theorem dX12_viewersBy_36 : decode cX12_viewersBy 36 = .ok (.iload_n 1, 1) := by decide +kernel
theorem dX12_viewersBy_37 : decode cX12_viewersBy 37 = .ok (.iaload, 1) := by decide +kernel
theorem dX12_viewersBy_38 : decode cX12_viewersBy 38 = .ok (.iconst (-1), 1) := by decide +kernel
theorem dX12_viewersBy_39 : decode cX12_viewersBy 39 = .ok (.if_icmp .ne 6, 3) := by decide +kernel
theorem dX12_viewersBy_42 : decode cX12_viewersBy 42 = .ok (.bipush (-11), 2) := by decide +kernel
theorem dX12_viewersBy_44 : decode cX12_viewersBy 44 = .ok (.ireturn, 1) := by decide +kernel
theorem dX12_viewersBy_45 : decode cX12_viewersBy 45 = .ok (.aload_n 0, 1) := by decide +kernel
theorem dX12_viewersBy_46 : decode cX12_viewersBy 46 = .ok (.getfield 41, 3) := by decide +kernel
theorem dX12_viewersBy_49 : decode cX12_viewersBy 49 = .ok (.iload_n 1, 1) := by decide +kernel
theorem dX12_viewersBy_50 : decode cX12_viewersBy 50 = .ok (.iaload, 1) := by decide +kernel
theorem dX12_viewersBy_51 : decode cX12_viewersBy 51 = .ok (.iload_n 2, 1) := by decide +kernel
theorem dX12_viewersBy_52 : decode cX12_viewersBy 52 = .ok (.if_icmp .eq 6, 3) := by decide +kernel
theorem dX12_viewersBy_55 : decode cX12_viewersBy 55 = .ok (.bipush (-13), 2) := by decide +kernel
theorem dX12_viewersBy_57 : decode cX12_viewersBy 57 = .ok (.ireturn, 1) := by decide +kernel
theorem dX12_viewersBy_58 : decode cX12_viewersBy 58 = .ok (.iconst 0, 1) := by decide +kernel
theorem dX12_viewersBy_59 : decode cX12_viewersBy 59 = .ok (.istore 5, 2) := by decide +kernel
theorem dX12_viewersBy_61 : decode cX12_viewersBy 61 = .ok (.iconst 0, 1) := by decide +kernel
theorem dX12_viewersBy_62 : decode cX12_viewersBy 62 = .ok (.istore 6, 2) := by decide +kernel
theorem dX12_viewersBy_64 : decode cX12_viewersBy 64 = .ok (.iload 6, 2) := by decide +kernel
theorem dX12_viewersBy_66 : decode cX12_viewersBy 66 = .ok (.iload 4, 2) := by decide +kernel
theorem dX12_viewersBy_68 : decode cX12_viewersBy 68 = .ok (.if_icmp .ge 85, 3) := by decide +kernel
theorem dX12_viewersBy_71 : decode cX12_viewersBy 71 = .ok (.iload_n 3, 1) := by decide +kernel
theorem dX12_viewersBy_72 : decode cX12_viewersBy 72 = .ok (.iconst 2, 1) := by decide +kernel
theorem dX12_viewersBy_73 : decode cX12_viewersBy 73 = .ok (.iload 6, 2) := by decide +kernel
theorem dX12_viewersBy_75 : decode cX12_viewersBy 75 = .ok (.imul, 1) := by decide +kernel
theorem dX12_viewersBy_76 : decode cX12_viewersBy 76 = .ok (.iadd, 1) := by decide +kernel
theorem dX12_viewersBy_77 : decode cX12_viewersBy 77 = .ok (.istore 7, 2) := by decide +kernel
theorem dX12_viewersBy_79 : decode cX12_viewersBy 79 = .ok (.iload_n 3, 1) := by decide +kernel
theorem dX12_viewersBy_80 : decode cX12_viewersBy 80 = .ok (.ifCond .lt 22, 3) := by decide +kernel
theorem dX12_viewersBy_83 : decode cX12_viewersBy 83 = .ok (.iload 7, 2) := by decide +kernel
theorem dX12_viewersBy_85 : decode cX12_viewersBy 85 = .ok (.iload_n 3, 1) := by decide +kernel
theorem dX12_viewersBy_86 : decode cX12_viewersBy 86 = .ok (.if_icmp .lt 16, 3) := by decide +kernel
theorem dX12_viewersBy_89 : decode cX12_viewersBy 89 = .ok (.iload 7, 2) := by decide +kernel
theorem dX12_viewersBy_91 : decode cX12_viewersBy 91 = .ok (.aload_n 0, 1) := by decide +kernel
theorem dX12_viewersBy_92 : decode cX12_viewersBy 92 = .ok (.getfield 44, 3) := by decide +kernel
theorem dX12_viewersBy_95 : decode cX12_viewersBy 95 = .ok (.iload_n 1, 1) := by decide +kernel
theorem dX12_viewersBy_96 : decode cX12_viewersBy 96 = .ok (.iaload, 1) := by decide +kernel
theorem dX12_viewersBy_97 : decode cX12_viewersBy 97 = .ok (.iconst 2, 1) := by decide +kernel
theorem dX12_viewersBy_98 : decode cX12_viewersBy 98 = .ok (.isub, 1) := by decide +kernel
theorem dX12_viewersBy_99 : decode cX12_viewersBy 99 = .ok (.if_icmp .le 6, 3) := by decide +kernel
theorem dX12_viewersBy_102 : decode cX12_viewersBy 102 = .ok (.bipush (-12), 2) := by decide +kernel
theorem dX12_viewersBy_104 : decode cX12_viewersBy 104 = .ok (.ireturn, 1) := by decide +kernel
theorem dX12_viewersBy_105 : decode cX12_viewersBy 105 = .ok (.bipush 40, 2) := by decide +kernel
theorem dX12_viewersBy_107 : decode cX12_viewersBy 107 = .ok (.iload_n 1, 1) := by decide +kernel
theorem dX12_viewersBy_108 : decode cX12_viewersBy 108 = .ok (.imul, 1) := by decide +kernel
theorem dX12_viewersBy_109 : decode cX12_viewersBy 109 = .ok (.iload 7, 2) := by decide +kernel
theorem dX12_viewersBy_111 : decode cX12_viewersBy 111 = .ok (.iadd, 1) := by decide +kernel
theorem dX12_viewersBy_112 : decode cX12_viewersBy 112 = .ok (.istore 8, 2) := by decide +kernel
theorem dX12_viewersBy_114 : decode cX12_viewersBy 114 = .ok (.iload 5, 2) := by decide +kernel
theorem dX12_viewersBy_116 : decode cX12_viewersBy 116 = .ok (.aload_n 0, 1) := by decide +kernel
theorem dX12_viewersBy_117 : decode cX12_viewersBy 117 = .ok (.aload_n 0, 1) := by decide +kernel
theorem dX12_viewersBy_118 : decode cX12_viewersBy 118 = .ok (.getfield 47, 3) := by decide +kernel
theorem dX12_viewersBy_121 : decode cX12_viewersBy 121 = .ok (.iload 8, 2) := by decide +kernel
theorem dX12_viewersBy_123 : decode cX12_viewersBy 123 = .ok (.iaload, 1) := by decide +kernel
theorem dX12_viewersBy_124 : decode cX12_viewersBy 124 = .ok (.aload_n 0, 1) := by decide +kernel
theorem dX12_viewersBy_125 : decode cX12_viewersBy 125 = .ok (.getfield 47, 3) := by decide +kernel
theorem dX12_viewersBy_128 : decode cX12_viewersBy 128 = .ok (.iload 8, 2) := by decide +kernel
theorem dX12_viewersBy_130 : decode cX12_viewersBy 130 = .ok (.iconst 1, 1) := by decide +kernel
theorem dX12_viewersBy_131 : decode cX12_viewersBy 131 = .ok (.iadd, 1) := by decide +kernel
theorem dX12_viewersBy_132 : decode cX12_viewersBy 132 = .ok (.iaload, 1) := by decide +kernel
theorem dX12_viewersBy_133 : decode cX12_viewersBy 133 = .ok (.invokevirtual 263, 3) := by decide +kernel
theorem dX12_viewersBy_136 : decode cX12_viewersBy 136 = .ok (.ifCond .lt 7, 3) := by decide +kernel
theorem dX12_viewersBy_139 : decode cX12_viewersBy 139 = .ok (.iconst 1, 1) := by decide +kernel
theorem dX12_viewersBy_140 : decode cX12_viewersBy 140 = .ok (.goto 4, 3) := by decide +kernel
theorem dX12_viewersBy_143 : decode cX12_viewersBy 143 = .ok (.iconst 0, 1) := by decide +kernel
theorem dX12_viewersBy_144 : decode cX12_viewersBy 144 = .ok (.iadd, 1) := by decide +kernel
theorem dX12_viewersBy_145 : decode cX12_viewersBy 145 = .ok (.istore 5, 2) := by decide +kernel
theorem dX12_viewersBy_147 : decode cX12_viewersBy 147 = .ok (.iinc 6 1, 3) := by decide +kernel
theorem dX12_viewersBy_150 : decode cX12_viewersBy 150 = .ok (.goto (-86), 3) := by decide +kernel
theorem dX12_viewersBy_153 : decode cX12_viewersBy 153 = .ok (.iload 5, 2) := by decide +kernel
theorem dX12_viewersBy_155 : decode cX12_viewersBy 155 = .ok (.ireturn, 1) := by decide +kernel
theorem dX12_isUnder_0 : decode cX12_isUnder 0 = .ok (.iload_n 1, 1) := by decide +kernel
theorem dX12_isUnder_1 : decode cX12_isUnder 1 = .ok (.ifCond .eq 28, 3) := by decide +kernel
theorem dX12_isUnder_4 : decode cX12_isUnder 4 = .ok (.iload_n 0, 1) := by decide +kernel
theorem dX12_isUnder_5 : decode cX12_isUnder 5 = .ok (.iload_n 1, 1) := by decide +kernel
theorem dX12_isUnder_6 : decode cX12_isUnder 6 = .ok (.if_icmp .eq 23, 3) := by decide +kernel
theorem dX12_isUnder_9 : decode cX12_isUnder 9 = .ok (.iload_n 1, 1) := by decide +kernel
theorem dX12_isUnder_10 : decode cX12_isUnder 10 = .ok (.iconst 1, 1) := by decide +kernel
theorem dX12_isUnder_11 : decode cX12_isUnder 11 = .ok (.if_icmp .ne 8, 3) := by decide +kernel
theorem dX12_isUnder_14 : decode cX12_isUnder 14 = .ok (.iload_n 0, 1) := by decide +kernel
theorem dX12_isUnder_15 : decode cX12_isUnder 15 = .ok (.iconst 3, 1) := by decide +kernel
theorem dX12_isUnder_16 : decode cX12_isUnder 16 = .ok (.if_icmp .eq 13, 3) := by decide +kernel
theorem dX12_isUnder_19 : decode cX12_isUnder 19 = .ok (.iload_n 1, 1) := by decide +kernel
theorem dX12_isUnder_20 : decode cX12_isUnder 20 = .ok (.iconst 2, 1) := by decide +kernel
theorem dX12_isUnder_21 : decode cX12_isUnder 21 = .ok (.if_icmp .ne 12, 3) := by decide +kernel
theorem dX12_isUnder_24 : decode cX12_isUnder 24 = .ok (.iload_n 0, 1) := by decide +kernel
theorem dX12_isUnder_25 : decode cX12_isUnder 25 = .ok (.iconst 4, 1) := by decide +kernel
theorem dX12_isUnder_26 : decode cX12_isUnder 26 = .ok (.if_icmp .ne 7, 3) := by decide +kernel
theorem dX12_isUnder_29 : decode cX12_isUnder 29 = .ok (.iconst 1, 1) := by decide +kernel
theorem dX12_isUnder_30 : decode cX12_isUnder 30 = .ok (.goto 4, 3) := by decide +kernel
theorem dX12_isUnder_33 : decode cX12_isUnder 33 = .ok (.iconst 0, 1) := by decide +kernel
theorem dX12_isUnder_34 : decode cX12_isUnder 34 = .ok (.ireturn, 1) := by decide +kernel
theorem dX12_taken_0 : decode cX12_taken 0 = .ok (.iload_n 2, 1) := by decide +kernel
theorem dX12_taken_1 : decode cX12_taken 1 = .ok (.iconst 0, 1) := by decide +kernel
theorem dX12_taken_2 : decode cX12_taken 2 = .ok (.bipush 6, 2) := by decide +kernel
theorem dX12_taken_4 : decode cX12_taken 4 = .ok (.invokestatic 90, 3) := by decide +kernel
theorem dX12_taken_7 : decode cX12_taken 7 = .ok (.ifCond .ne 6, 3) := by decide +kernel
theorem dX12_taken_10 : decode cX12_taken 10 = .ok (.bipush (-2), 2) := by decide +kernel
theorem dX12_taken_12 : decode cX12_taken 12 = .ok (.ireturn, 1) := by decide +kernel
theorem dX12_taken_13 : decode cX12_taken 13 = .ok (.iload_n 1, 1) := by decide +kernel
theorem dX12_taken_14 : decode cX12_taken 14 = .ok (.iconst 0, 1) := by decide +kernel
theorem dX12_taken_15 : decode cX12_taken 15 = .ok (.bipush 15, 2) := by decide +kernel
theorem dX12_taken_17 : decode cX12_taken 17 = .ok (.invokestatic 90, 3) := by decide +kernel
theorem dX12_taken_20 : decode cX12_taken 20 = .ok (.ifCond .ne 6, 3) := by decide +kernel
theorem dX12_taken_23 : decode cX12_taken 23 = .ok (.bipush (-12), 2) := by decide +kernel
theorem dX12_taken_25 : decode cX12_taken 25 = .ok (.ireturn, 1) := by decide +kernel
theorem dX12_taken_26 : decode cX12_taken 26 = .ok (.iload_n 1, 1) := by decide +kernel
theorem dX12_taken_27 : decode cX12_taken 27 = .ok (.bipush 8, 2) := by decide +kernel
theorem dX12_taken_29 : decode cX12_taken 29 = .ok (.irem, 1) := by decide +kernel
theorem dX12_taken_30 : decode cX12_taken 30 = .ok (.aload_n 0, 1) := by decide +kernel
theorem dX12_taken_31 : decode cX12_taken 31 = .ok (.getfield 87, 3) := by decide +kernel
theorem dX12_taken_34 : decode cX12_taken 34 = .ok (.if_icmp .lt 6, 3) := by decide +kernel
theorem dX12_taken_37 : decode cX12_taken 37 = .ok (.bipush (-11), 2) := by decide +kernel
theorem dX12_taken_39 : decode cX12_taken 39 = .ok (.ireturn, 1) := by decide +kernel
theorem dX12_taken_40 : decode cX12_taken 40 = .ok (.iload_n 1, 1) := by decide +kernel
theorem dX12_taken_41 : decode cX12_taken 41 = .ok (.bipush 8, 2) := by decide +kernel
theorem dX12_taken_43 : decode cX12_taken 43 = .ok (.if_icmp .lt 28, 3) := by decide +kernel
theorem dX12_taken_46 : decode cX12_taken 46 = .ok (.iload_n 2, 1) := by decide +kernel
theorem dX12_taken_47 : decode cX12_taken 47 = .ok (.bipush 6, 2) := by decide +kernel
theorem dX12_taken_49 : decode cX12_taken 49 = .ok (.if_icmp .ne 19, 3) := by decide +kernel
theorem dX12_taken_52 : decode cX12_taken 52 = .ok (.aload_n 0, 1) := by decide +kernel
theorem dX12_taken_53 : decode cX12_taken 53 = .ok (.getfield 16, 3) := by decide +kernel
theorem dX12_taken_56 : decode cX12_taken 56 = .ok (.iconst 2, 1) := by decide +kernel
theorem dX12_taken_57 : decode cX12_taken 57 = .ok (.iload_n 1, 1) := by decide +kernel
theorem dX12_taken_58 : decode cX12_taken 58 = .ok (.bipush 8, 2) := by decide +kernel
theorem dX12_taken_60 : decode cX12_taken 60 = .ok (.isub, 1) := by decide +kernel
theorem dX12_taken_61 : decode cX12_taken 61 = .ok (.imul, 1) := by decide +kernel
theorem dX12_taken_62 : decode cX12_taken 62 = .ok (.iconst 1, 1) := by decide +kernel
theorem dX12_taken_63 : decode cX12_taken 63 = .ok (.iadd, 1) := by decide +kernel
theorem dX12_taken_64 : decode cX12_taken 64 = .ok (.iaload, 1) := by decide +kernel
theorem dX12_taken_65 : decode cX12_taken 65 = .ok (.goto 5, 3) := by decide +kernel
theorem dX12_taken_68 : decode cX12_taken 68 = .ok (.bipush (-13), 2) := by decide +kernel
theorem dX12_taken_70 : decode cX12_taken 70 = .ok (.ireturn, 1) := by decide +kernel
theorem dX12_taken_71 : decode cX12_taken 71 = .ok (.iload_n 2, 1) := by decide +kernel
theorem dX12_taken_72 : decode cX12_taken 72 = .ok (.bipush 6, 2) := by decide +kernel
theorem dX12_taken_74 : decode cX12_taken 74 = .ok (.if_icmp .ge 20, 3) := by decide +kernel
theorem dX12_taken_77 : decode cX12_taken 77 = .ok (.aload_n 0, 1) := by decide +kernel
theorem dX12_taken_78 : decode cX12_taken 78 = .ok (.getfield 7, 3) := by decide +kernel
theorem dX12_taken_81 : decode cX12_taken 81 = .ok (.iload_n 1, 1) := by decide +kernel
theorem dX12_taken_82 : decode cX12_taken 82 = .ok (.iaload, 1) := by decide +kernel
theorem dX12_taken_83 : decode cX12_taken 83 = .ok (.iload_n 2, 1) := by decide +kernel
theorem dX12_taken_84 : decode cX12_taken 84 = .ok (.invokestatic 266, 3) := by decide +kernel
theorem dX12_taken_87 : decode cX12_taken 87 = .ok (.ifCond .eq 7, 3) := by decide +kernel
theorem dX12_taken_90 : decode cX12_taken 90 = .ok (.iload_n 1, 1) := by decide +kernel
theorem dX12_taken_91 : decode cX12_taken 91 = .ok (.goto 5, 3) := by decide +kernel
theorem dX12_taken_94 : decode cX12_taken 94 = .ok (.bipush (-13), 2) := by decide +kernel
theorem dX12_taken_96 : decode cX12_taken 96 = .ok (.ireturn, 1) := by decide +kernel
theorem dJ6_bitCount_0f7a4_0 : decode cJ6_bitCount_0f7a4 0 = .ok (.iload_n 0, 1) := by decide +kernel
theorem dJ6_bitCount_0f7a4_1 : decode cJ6_bitCount_0f7a4 1 = .ok (.iload_n 0, 1) := by decide +kernel
theorem dJ6_bitCount_0f7a4_2 : decode cJ6_bitCount_0f7a4 2 = .ok (.iconst 1, 1) := by decide +kernel
theorem dJ6_bitCount_0f7a4_3 : decode cJ6_bitCount_0f7a4 3 = .ok (.iushr, 1) := by decide +kernel
theorem dJ6_bitCount_0f7a4_4 : decode cJ6_bitCount_0f7a4 4 = .ok (.ldc_w 265, 3) := by decide +kernel
theorem dJ6_bitCount_0f7a4_7 : decode cJ6_bitCount_0f7a4 7 = .ok (.iand, 1) := by decide +kernel
theorem dJ6_bitCount_0f7a4_8 : decode cJ6_bitCount_0f7a4 8 = .ok (.isub, 1) := by decide +kernel
theorem dJ6_bitCount_0f7a4_9 : decode cJ6_bitCount_0f7a4 9 = .ok (.istore_n 0, 1) := by decide +kernel
theorem dJ6_bitCount_0f7a4_10 : decode cJ6_bitCount_0f7a4 10 = .ok (.iload_n 0, 1) := by decide +kernel
