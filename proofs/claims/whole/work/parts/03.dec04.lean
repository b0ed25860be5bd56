theorem dX12_says_100 : decode cX12_says 100 = .ok (.iload 4, 2) := by decide +kernel
theorem dX12_says_102 : decode cX12_says 102 = .ok (.bipush 13, 2) := by decide +kernel
theorem dX12_says_104 : decode cX12_says 104 = .ok (.if_icmp .ne 30, 3) := by decide +kernel
theorem dX12_says_107 : decode cX12_says 107 = .ok (.aload_n 0, 1) := by decide +kernel
theorem dX12_says_108 : decode cX12_says 108 = .ok (.getfield 59, 3) := by decide +kernel
theorem dX12_says_111 : decode cX12_says 111 = .ok (.iload_n 2, 1) := by decide +kernel
theorem dX12_says_112 : decode cX12_says 112 = .ok (.iconst 1, 1) := by decide +kernel
theorem dX12_says_113 : decode cX12_says 113 = .ok (.isub, 1) := by decide +kernel
theorem dX12_says_114 : decode cX12_says 114 = .ok (.aload_n 0, 1) := by decide +kernel
theorem dX12_says_115 : decode cX12_says 115 = .ok (.getfield 59, 3) := by decide +kernel
theorem dX12_says_118 : decode cX12_says 118 = .ok (.iload_n 2, 1) := by decide +kernel
theorem dX12_says_119 : decode cX12_says 119 = .ok (.iconst 1, 1) := by decide +kernel
theorem dX12_says_120 : decode cX12_says 120 = .ok (.isub, 1) := by decide +kernel
theorem dX12_says_121 : decode cX12_says 121 = .ok (.iaload, 1) := by decide +kernel
theorem dX12_says_122 : decode cX12_says 122 = .ok (.ifCond .ne 7, 3) := by decide +kernel
theorem dX12_says_125 : decode cX12_says 125 = .ok (.iconst 1, 1) := by decide +kernel
theorem dX12_says_126 : decode cX12_says 126 = .ok (.goto 4, 3) := by decide +kernel
theorem dX12_says_129 : decode cX12_says 129 = .ok (.iconst 0, 1) := by decide +kernel
theorem dX12_says_130 : decode cX12_says 130 = .ok (.iastore, 1) := by decide +kernel
theorem dX12_says_131 : decode cX12_says 131 = .ok (.goto 60, 3) := by decide +kernel
theorem dX12_says_134 : decode cX12_says 134 = .ok (.iload 4, 2) := by decide +kernel
theorem dX12_says_136 : decode cX12_says 136 = .ok (.bipush 19, 2) := by decide +kernel
theorem dX12_says_138 : decode cX12_says 138 = .ok (.if_icmp .ne 23, 3) := by decide +kernel
theorem dX12_says_141 : decode cX12_says 141 = .ok (.aload_n 0, 1) := by decide +kernel
theorem dX12_says_142 : decode cX12_says 142 = .ok (.getfield 59, 3) := by decide +kernel
theorem dX12_says_145 : decode cX12_says 145 = .ok (.iload_n 2, 1) := by decide +kernel
theorem dX12_says_146 : decode cX12_says 146 = .ok (.iconst 1, 1) := by decide +kernel
theorem dX12_says_147 : decode cX12_says 147 = .ok (.isub, 1) := by decide +kernel
theorem dX12_says_148 : decode cX12_says 148 = .ok (.aload_n 0, 1) := by decide +kernel
theorem dX12_says_149 : decode cX12_says 149 = .ok (.getfield 59, 3) := by decide +kernel
theorem dX12_says_152 : decode cX12_says 152 = .ok (.iload_n 2, 1) := by decide +kernel
theorem dX12_says_153 : decode cX12_says 153 = .ok (.iconst 1, 1) := by decide +kernel
theorem dX12_says_154 : decode cX12_says 154 = .ok (.isub, 1) := by decide +kernel
theorem dX12_says_155 : decode cX12_says 155 = .ok (.iaload, 1) := by decide +kernel
theorem dX12_says_156 : decode cX12_says 156 = .ok (.ineg, 1) := by decide +kernel
theorem dX12_says_157 : decode cX12_says 157 = .ok (.iastore, 1) := by decide +kernel
theorem dX12_says_158 : decode cX12_says 158 = .ok (.goto 33, 3) := by decide +kernel
theorem dX12_says_161 : decode cX12_says 161 = .ok (.iinc 2 (-1), 3) := by decide +kernel
theorem dX12_says_164 : decode cX12_says 164 = .ok (.aload_n 0, 1) := by decide +kernel
theorem dX12_says_165 : decode cX12_says 165 = .ok (.getfield 59, 3) := by decide +kernel
theorem dX12_says_168 : decode cX12_says 168 = .ok (.iload_n 2, 1) := by decide +kernel
theorem dX12_says_169 : decode cX12_says 169 = .ok (.iconst 1, 1) := by decide +kernel
theorem dX12_says_170 : decode cX12_says 170 = .ok (.isub, 1) := by decide +kernel
theorem dX12_says_171 : decode cX12_says 171 = .ok (.iload 4, 2) := by decide +kernel
theorem dX12_says_173 : decode cX12_says 173 = .ok (.aload_n 0, 1) := by decide +kernel
theorem dX12_says_174 : decode cX12_says 174 = .ok (.getfield 59, 3) := by decide +kernel
theorem dX12_says_177 : decode cX12_says 177 = .ok (.iload_n 2, 1) := by decide +kernel
theorem dX12_says_178 : decode cX12_says 178 = .ok (.iconst 1, 1) := by decide +kernel
theorem dX12_says_179 : decode cX12_says 179 = .ok (.isub, 1) := by decide +kernel
theorem dX12_says_180 : decode cX12_says 180 = .ok (.iaload, 1) := by decide +kernel
theorem dX12_says_181 : decode cX12_says 181 = .ok (.aload_n 0, 1) := by decide +kernel
theorem dX12_says_182 : decode cX12_says 182 = .ok (.getfield 59, 3) := by decide +kernel
theorem dX12_says_185 : decode cX12_says 185 = .ok (.iload_n 2, 1) := by decide +kernel
theorem dX12_says_186 : decode cX12_says 186 = .ok (.iaload, 1) := by decide +kernel
theorem dX12_says_187 : decode cX12_says 187 = .ok (.invokestatic 163, 3) := by decide +kernel
theorem dX12_says_190 : decode cX12_says 190 = .ok (.iastore, 1) := by decide +kernel
theorem dX12_says_191 : decode cX12_says 191 = .ok (.iinc 3 1, 3) := by decide +kernel
theorem dX12_says_194 : decode cX12_says 194 = .ok (.goto (-178), 3) := by decide +kernel
theorem dX12_says_197 : decode cX12_says 197 = .ok (.aload_n 0, 1) := by decide +kernel
theorem dX12_says_198 : decode cX12_says 198 = .ok (.getfield 59, 3) := by decide +kernel
theorem dX12_says_201 : decode cX12_says 201 = .ok (.iconst 0, 1) := by decide +kernel
theorem dX12_says_202 : decode cX12_says 202 = .ok (.iaload, 1) := by decide +kernel
theorem dX12_says_203 : decode cX12_says 203 = .ok (.ireturn, 1) := by decide +kernel
theorem dX12_force_0 : decode cX12_force 0 = .ok (.iload_n 1, 1) := by decide +kernel
theorem dX12_force_1 : decode cX12_force 1 = .ok (.iconst 0, 1) := by decide +kernel
theorem dX12_force_2 : decode cX12_force 2 = .ok (.aload_n 0, 1) := by decide +kernel
theorem dX12_force_3 : decode cX12_force 3 = .ok (.getfield 94, 3) := by decide +kernel
theorem dX12_force_6 : decode cX12_force 6 = .ok (.iconst 1, 1) := by decide +kernel
theorem dX12_force_7 : decode cX12_force 7 = .ok (.isub, 1) := by decide +kernel
theorem dX12_force_8 : decode cX12_force 8 = .ok (.invokestatic 90, 3) := by decide +kernel
theorem dX12_force_11 : decode cX12_force 11 = .ok (.ifCond .ne 6, 3) := by decide +kernel
theorem dX12_force_14 : decode cX12_force 14 = .ok (.bipush (-2), 2) := by decide +kernel
theorem dX12_force_16 : decode cX12_force 16 = .ok (.ireturn, 1) := by decide +kernel
theorem dX12_force_17 : decode cX12_force 17 = .ok (.aload_n 0, 1) := by decide +kernel
theorem dX12_force_18 : decode cX12_force 18 = .ok (.getfield 97, 3) := by decide +kernel
theorem dX12_force_21 : decode cX12_force 21 = .ok (.istore_n 2, 1) := by decide +kernel
theorem dX12_force_22 : decode cX12_force 22 = .ok (.aload_n 0, 1) := by decide +kernel
theorem dX12_force_23 : decode cX12_force 23 = .ok (.iload_n 1, 1) := by decide +kernel
theorem dX12_force_24 : decode cX12_force 24 = .ok (.putfield 97, 3) := by decide +kernel
theorem dX12_force_27 : decode cX12_force 27 = .ok (.iload_n 2, 1) := by decide +kernel
theorem dX12_force_28 : decode cX12_force 28 = .ok (.ireturn, 1) := by decide +kernel
theorem dX12_asksOf_0 : decode cX12_asksOf 0 = .ok (.aload_n 0, 1) := by decide +kernel
theorem dX12_asksOf_1 : decode cX12_asksOf 1 = .ok (.getfield 62, 3) := by decide +kernel
theorem dX12_asksOf_4 : decode cX12_asksOf 4 = .ok (.iconst 0, 1) := by decide +kernel
theorem dX12_asksOf_5 : decode cX12_asksOf 5 = .ok (.iload_n 1, 1) := by decide +kernel
theorem dX12_asksOf_6 : decode cX12_asksOf 6 = .ok (.iconst 2, 1) := by decide +kernel
theorem dX12_asksOf_7 : decode cX12_asksOf 7 = .ok (.if_icmp .ne 7, 3) := by decide +kernel
theorem dX12_asksOf_10 : decode cX12_asksOf 10 = .ok (.iconst 0, 1) := by decide +kernel
theorem dX12_asksOf_11 : decode cX12_asksOf 11 = .ok (.goto 11, 3) := by decide +kernel
theorem dX12_asksOf_14 : decode cX12_asksOf 14 = .ok (.aload_n 0, 1) := by decide +kernel
theorem dX12_asksOf_15 : decode cX12_asksOf 15 = .ok (.getfield 19, 3) := by decide +kernel
theorem dX12_asksOf_18 : decode cX12_asksOf 18 = .ok (.iconst 2, 1) := by decide +kernel
theorem dX12_asksOf_19 : decode cX12_asksOf 19 = .ok (.iload_n 3, 1) := by decide +kernel
theorem dX12_asksOf_20 : decode cX12_asksOf 20 = .ok (.imul, 1) := by decide +kernel
theorem dX12_asksOf_21 : decode cX12_asksOf 21 = .ok (.iaload, 1) := by decide +kernel
theorem dX12_asksOf_22 : decode cX12_asksOf 22 = .ok (.iastore, 1) := by decide +kernel
theorem dX12_asksOf_23 : decode cX12_asksOf 23 = .ok (.aload_n 0, 1) := by decide +kernel
theorem dX12_asksOf_24 : decode cX12_asksOf 24 = .ok (.getfield 62, 3) := by decide +kernel
theorem dX12_asksOf_27 : decode cX12_asksOf 27 = .ok (.iconst 1, 1) := by decide +kernel
theorem dX12_asksOf_28 : decode cX12_asksOf 28 = .ok (.iload_n 1, 1) := by decide +kernel
theorem dX12_asksOf_29 : decode cX12_asksOf 29 = .ok (.iconst 2, 1) := by decide +kernel
theorem dX12_asksOf_30 : decode cX12_asksOf 30 = .ok (.if_icmp .ne 7, 3) := by decide +kernel
theorem dX12_asksOf_33 : decode cX12_asksOf 33 = .ok (.iconst 0, 1) := by decide +kernel
theorem dX12_asksOf_34 : decode cX12_asksOf 34 = .ok (.goto 13, 3) := by decide +kernel
theorem dX12_asksOf_37 : decode cX12_asksOf 37 = .ok (.aload_n 0, 1) := by decide +kernel
theorem dX12_asksOf_38 : decode cX12_asksOf 38 = .ok (.getfield 19, 3) := by decide +kernel
theorem dX12_asksOf_41 : decode cX12_asksOf 41 = .ok (.iconst 2, 1) := by decide +kernel
theorem dX12_asksOf_42 : decode cX12_asksOf 42 = .ok (.iload_n 3, 1) := by decide +kernel
theorem dX12_asksOf_43 : decode cX12_asksOf 43 = .ok (.imul, 1) := by decide +kernel
theorem dX12_asksOf_44 : decode cX12_asksOf 44 = .ok (.iconst 1, 1) := by decide +kernel
theorem dX12_asksOf_45 : decode cX12_asksOf 45 = .ok (.iadd, 1) := by decide +kernel
theorem dX12_asksOf_46 : decode cX12_asksOf 46 = .ok (.iaload, 1) := by decide +kernel
theorem dX12_asksOf_47 : decode cX12_asksOf 47 = .ok (.iastore, 1) := by decide +kernel
theorem dX12_asksOf_48 : decode cX12_asksOf 48 = .ok (.aload_n 0, 1) := by decide +kernel
theorem dX12_asksOf_49 : decode cX12_asksOf 49 = .ok (.getfield 62, 3) := by decide +kernel
theorem dX12_asksOf_52 : decode cX12_asksOf 52 = .ok (.iconst 2, 1) := by decide +kernel
theorem dX12_asksOf_53 : decode cX12_asksOf 53 = .ok (.iload_n 1, 1) := by decide +kernel
theorem dX12_asksOf_54 : decode cX12_asksOf 54 = .ok (.iconst 2, 1) := by decide +kernel
theorem dX12_asksOf_55 : decode cX12_asksOf 55 = .ok (.if_icmp .ne 7, 3) := by decide +kernel
theorem dX12_asksOf_58 : decode cX12_asksOf 58 = .ok (.iconst 0, 1) := by decide +kernel
theorem dX12_asksOf_59 : decode cX12_asksOf 59 = .ok (.goto 4, 3) := by decide +kernel
theorem dX12_asksOf_62 : decode cX12_asksOf 62 = .ok (.iload_n 3, 1) := by decide +kernel
theorem dX12_asksOf_63 : decode cX12_asksOf 63 = .ok (.iastore, 1) := by decide +kernel
theorem dX12_asksOf_64 : decode cX12_asksOf 64 = .ok (.aload_n 0, 1) := by decide +kernel
theorem dX12_asksOf_65 : decode cX12_asksOf 65 = .ok (.getfield 62, 3) := by decide +kernel
theorem dX12_asksOf_68 : decode cX12_asksOf 68 = .ok (.iconst 3, 1) := by decide +kernel
theorem dX12_asksOf_69 : decode cX12_asksOf 69 = .ok (.aload_n 0, 1) := by decide +kernel
theorem dX12_asksOf_70 : decode cX12_asksOf 70 = .ok (.getfield 22, 3) := by decide +kernel
theorem dX12_asksOf_73 : decode cX12_asksOf 73 = .ok (.iastore, 1) := by decide +kernel
theorem dX12_asksOf_74 : decode cX12_asksOf 74 = .ok (.aload_n 0, 1) := by decide +kernel
theorem dX12_asksOf_75 : decode cX12_asksOf 75 = .ok (.getfield 62, 3) := by decide +kernel
theorem dX12_asksOf_78 : decode cX12_asksOf 78 = .ok (.iconst 4, 1) := by decide +kernel
theorem dX12_asksOf_79 : decode cX12_asksOf 79 = .ok (.iload 4, 2) := by decide +kernel
theorem dX12_asksOf_81 : decode cX12_asksOf 81 = .ok (.iastore, 1) := by decide +kernel
theorem dX12_asksOf_82 : decode cX12_asksOf 82 = .ok (.aload_n 0, 1) := by decide +kernel
theorem dX12_asksOf_83 : decode cX12_asksOf 83 = .ok (.getfield 62, 3) := by decide +kernel
theorem dX12_asksOf_86 : decode cX12_asksOf 86 = .ok (.iconst 5, 1) := by decide +kernel
theorem dX12_asksOf_87 : decode cX12_asksOf 87 = .ok (.aload_n 0, 1) := by decide +kernel
theorem dX12_asksOf_88 : decode cX12_asksOf 88 = .ok (.getfield 16, 3) := by decide +kernel
theorem dX12_asksOf_91 : decode cX12_asksOf 91 = .ok (.iconst 2, 1) := by decide +kernel
theorem dX12_asksOf_92 : decode cX12_asksOf 92 = .ok (.iload_n 2, 1) := by decide +kernel
theorem dX12_asksOf_93 : decode cX12_asksOf 93 = .ok (.imul, 1) := by decide +kernel
theorem dX12_asksOf_94 : decode cX12_asksOf 94 = .ok (.iaload, 1) := by decide +kernel
theorem dX12_asksOf_95 : decode cX12_asksOf 95 = .ok (.iastore, 1) := by decide +kernel
theorem dX12_asksOf_96 : decode cX12_asksOf 96 = .ok (.aload_n 0, 1) := by decide +kernel
theorem dX12_asksOf_97 : decode cX12_asksOf 97 = .ok (.iload_n 1, 1) := by decide +kernel
theorem dX12_asksOf_98 : decode cX12_asksOf 98 = .ok (.invokevirtual 167, 3) := by decide +kernel
theorem dX12_asksOf_101 : decode cX12_asksOf 101 = .ok (.iload_n 1, 1) := by decide +kernel
theorem dX12_asksOf_102 : decode cX12_asksOf 102 = .ok (.ifCond .ne 8, 3) := by decide +kernel
theorem dX12_asksOf_105 : decode cX12_asksOf 105 = .ok (.bipush (-99), 2) := by decide +kernel
theorem dX12_asksOf_107 : decode cX12_asksOf 107 = .ok (.goto 4, 3) := by decide +kernel
theorem dX12_asksOf_110 : decode cX12_asksOf 110 = .ok (.iconst 0, 1) := by decide +kernel
theorem dX12_asksOf_111 : decode cX12_asksOf 111 = .ok (.iload_n 1, 1) := by decide +kernel
theorem dX12_asksOf_112 : decode cX12_asksOf 112 = .ok (.ifCond .ne 8, 3) := by decide +kernel
theorem dX12_asksOf_115 : decode cX12_asksOf 115 = .ok (.bipush 99, 2) := by decide +kernel
theorem dX12_asksOf_117 : decode cX12_asksOf 117 = .ok (.goto 16, 3) := by decide +kernel
theorem dX12_asksOf_120 : decode cX12_asksOf 120 = .ok (.iload_n 1, 1) := by decide +kernel
theorem dX12_asksOf_121 : decode cX12_asksOf 121 = .ok (.iconst 1, 1) := by decide +kernel
theorem dX12_asksOf_122 : decode cX12_asksOf 122 = .ok (.if_icmp .ne 8, 3) := by decide +kernel
theorem dX12_asksOf_125 : decode cX12_asksOf 125 = .ok (.bipush 9, 2) := by decide +kernel
theorem dX12_asksOf_127 : decode cX12_asksOf 127 = .ok (.goto 6, 3) := by decide +kernel
theorem dX12_asksOf_130 : decode cX12_asksOf 130 = .ok (.sipush 999, 3) := by decide +kernel
theorem dX12_asksOf_133 : decode cX12_asksOf 133 = .ok (.invokestatic 170, 3) := by decide +kernel
theorem dX12_asksOf_136 : decode cX12_asksOf 136 = .ok (.ireturn, 1) := by decide +kernel
theorem dX12_asks_0 : decode cX12_asks 0 = .ok (.iload_n 1, 1) := by decide +kernel
theorem dX12_asks_1 : decode cX12_asks 1 = .ok (.iconst 0, 1) := by decide +kernel
theorem dX12_asks_2 : decode cX12_asks 2 = .ok (.iconst 2, 1) := by decide +kernel
theorem dX12_asks_3 : decode cX12_asks 3 = .ok (.invokestatic 90, 3) := by decide +kernel
theorem dX12_asks_6 : decode cX12_asks 6 = .ok (.ifCond .eq 33, 3) := by decide +kernel
theorem dX12_asks_9 : decode cX12_asks 9 = .ok (.aload_n 0, 1) := by decide +kernel
theorem dX12_asks_10 : decode cX12_asks 10 = .ok (.iload_n 2, 1) := by decide +kernel
theorem dX12_asks_11 : decode cX12_asks 11 = .ok (.invokevirtual 173, 3) := by decide +kernel
theorem dX12_asks_14 : decode cX12_asks 14 = .ok (.ifCond .eq 25, 3) := by decide +kernel
theorem dX12_asks_17 : decode cX12_asks 17 = .ok (.iload_n 3, 1) := by decide +kernel
theorem dX12_asks_18 : decode cX12_asks 18 = .ok (.invokestatic 100, 3) := by decide +kernel
theorem dX12_asks_21 : decode cX12_asks 21 = .ok (.ifCond .eq 18, 3) := by decide +kernel
theorem dX12_asks_24 : decode cX12_asks 24 = .ok (.iload 4, 2) := by decide +kernel
theorem dX12_asks_26 : decode cX12_asks 26 = .ok (.iconst 1, 1) := by decide +kernel
theorem dX12_asks_27 : decode cX12_asks 27 = .ok (.bipush 8, 2) := by decide +kernel
theorem dX12_asks_29 : decode cX12_asks 29 = .ok (.invokestatic 90, 3) := by decide +kernel
theorem dX12_asks_32 : decode cX12_asks 32 = .ok (.ifCond .eq 7, 3) := by decide +kernel
theorem dX12_asks_35 : decode cX12_asks 35 = .ok (.iconst 1, 1) := by decide +kernel
theorem dX12_asks_36 : decode cX12_asks 36 = .ok (.goto 4, 3) := by decide +kernel
theorem dX12_asks_39 : decode cX12_asks 39 = .ok (.iconst 0, 1) := by decide +kernel
theorem dX12_asks_40 : decode cX12_asks 40 = .ok (.istore 5, 2) := by decide +kernel
theorem dX12_asks_42 : decode cX12_asks 42 = .ok (.iload 5, 2) := by decide +kernel
theorem dX12_asks_44 : decode cX12_asks 44 = .ok (.ifCond .eq 15, 3) := by decide +kernel
theorem dX12_asks_47 : decode cX12_asks 47 = .ok (.aload_n 0, 1) := by decide +kernel
theorem dX12_asks_48 : decode cX12_asks 48 = .ok (.iload_n 1, 1) := by decide +kernel
theorem dX12_asks_49 : decode cX12_asks 49 = .ok (.iload_n 2, 1) := by decide +kernel
theorem dX12_asks_50 : decode cX12_asks 50 = .ok (.iload_n 3, 1) := by decide +kernel
theorem dX12_asks_51 : decode cX12_asks 51 = .ok (.iload 4, 2) := by decide +kernel
theorem dX12_asks_53 : decode cX12_asks 53 = .ok (.invokevirtual 176, 3) := by decide +kernel
theorem dX12_asks_56 : decode cX12_asks 56 = .ok (.goto 6, 3) := by decide +kernel
theorem dX12_asks_59 : decode cX12_asks 59 = .ok (.sipush (-1000), 3) := by decide +kernel
theorem dX12_asks_62 : decode cX12_asks 62 = .ok (.ireturn, 1) := by decide +kernel
theorem dX12_viewer_0 : decode cX12_viewer 0 = .ok (.iload_n 1, 1) := by decide +kernel
theorem dX12_viewer_1 : decode cX12_viewer 1 = .ok (.iconst 0, 1) := by decide +kernel
theorem dX12_viewer_2 : decode cX12_viewer 2 = .ok (.bipush 59, 2) := by decide +kernel
theorem dX12_viewer_4 : decode cX12_viewer 4 = .ok (.invokestatic 90, 3) := by decide +kernel
theorem dX12_viewer_7 : decode cX12_viewer 7 = .ok (.ifCond .eq 13, 3) := by decide +kernel
theorem dX12_viewer_10 : decode cX12_viewer 10 = .ok (.iload_n 2, 1) := by decide +kernel
theorem dX12_viewer_11 : decode cX12_viewer 11 = .ok (.iconst 0, 1) := by decide +kernel
theorem dX12_viewer_12 : decode cX12_viewer 12 = .ok (.ldc 180, 2) := by decide +kernel
theorem dX12_viewer_14 : decode cX12_viewer 14 = .ok (.invokestatic 90, 3) := by decide +kernel
theorem dX12_viewer_17 : decode cX12_viewer 17 = .ok (.ifCond .ne 6, 3) := by decide +kernel
theorem dX12_viewer_20 : decode cX12_viewer 20 = .ok (.bipush (-2), 2) := by decide +kernel
theorem dX12_viewer_22 : decode cX12_viewer 22 = .ok (.ireturn, 1) := by decide +kernel
theorem dX12_viewer_23 : decode cX12_viewer 23 = .ok (.aload_n 0, 1) := by decide +kernel
theorem dX12_viewer_24 : decode cX12_viewer 24 = .ok (.getfield 87, 3) := by decide +kernel
theorem dX12_viewer_27 : decode cX12_viewer 27 = .ok (.bipush 8, 2) := by decide +kernel
theorem dX12_viewer_29 : decode cX12_viewer 29 = .ok (.if_icmp .ne 6, 3) := by decide +kernel
theorem dX12_viewer_32 : decode cX12_viewer 32 = .ok (.bipush (-4), 2) := by decide +kernel
theorem dX12_viewer_34 : decode cX12_viewer 34 = .ok (.ireturn, 1) := by decide +kernel
theorem dX12_viewer_35 : decode cX12_viewer 35 = .ok (.aload_n 0, 1) := by decide +kernel
theorem dX12_viewer_36 : decode cX12_viewer 36 = .ok (.getfield 7, 3) := by decide +kernel
theorem dX12_viewer_39 : decode cX12_viewer 39 = .ok (.aload_n 0, 1) := by decide +kernel
theorem dX12_viewer_40 : decode cX12_viewer 40 = .ok (.getfield 87, 3) := by decide +kernel
theorem dX12_viewer_43 : decode cX12_viewer 43 = .ok (.iload_n 1, 1) := by decide +kernel
theorem dX12_viewer_44 : decode cX12_viewer 44 = .ok (.bipush 10, 2) := by decide +kernel
theorem dX12_viewer_46 : decode cX12_viewer 46 = .ok (.idiv, 1) := by decide +kernel
theorem dX12_viewer_47 : decode cX12_viewer 47 = .ok (.iastore, 1) := by decide +kernel
theorem dX12_viewer_48 : decode cX12_viewer 48 = .ok (.aload_n 0, 1) := by decide +kernel
theorem dX12_viewer_49 : decode cX12_viewer 49 = .ok (.getfield 13, 3) := by decide +kernel
theorem dX12_viewer_52 : decode cX12_viewer 52 = .ok (.aload_n 0, 1) := by decide +kernel
theorem dX12_viewer_53 : decode cX12_viewer 53 = .ok (.getfield 87, 3) := by decide +kernel
theorem dX12_viewer_56 : decode cX12_viewer 56 = .ok (.iload_n 1, 1) := by decide +kernel
theorem dX12_viewer_57 : decode cX12_viewer 57 = .ok (.bipush 10, 2) := by decide +kernel
theorem dX12_viewer_59 : decode cX12_viewer 59 = .ok (.irem, 1) := by decide +kernel
theorem dX12_viewer_60 : decode cX12_viewer 60 = .ok (.iastore, 1) := by decide +kernel
theorem dX12_viewer_61 : decode cX12_viewer 61 = .ok (.aload_n 0, 1) := by decide +kernel
theorem dX12_viewer_62 : decode cX12_viewer 62 = .ok (.getfield 16, 3) := by decide +kernel
theorem dX12_viewer_65 : decode cX12_viewer 65 = .ok (.iconst 2, 1) := by decide +kernel
theorem dX12_viewer_66 : decode cX12_viewer 66 = .ok (.aload_n 0, 1) := by decide +kernel
theorem dX12_viewer_67 : decode cX12_viewer 67 = .ok (.getfield 87, 3) := by decide +kernel
theorem dX12_viewer_70 : decode cX12_viewer 70 = .ok (.imul, 1) := by decide +kernel
theorem dX12_viewer_71 : decode cX12_viewer 71 = .ok (.iload_n 2, 1) := by decide +kernel
theorem dX12_viewer_72 : decode cX12_viewer 72 = .ok (.bipush 100, 2) := by decide +kernel
theorem dX12_viewer_74 : decode cX12_viewer 74 = .ok (.idiv, 1) := by decide +kernel
theorem dX12_viewer_75 : decode cX12_viewer 75 = .ok (.iastore, 1) := by decide +kernel
theorem dX12_viewer_76 : decode cX12_viewer 76 = .ok (.aload_n 0, 1) := by decide +kernel
theorem dX12_viewer_77 : decode cX12_viewer 77 = .ok (.getfield 16, 3) := by decide +kernel
theorem dX12_viewer_80 : decode cX12_viewer 80 = .ok (.iconst 2, 1) := by decide +kernel
theorem dX12_viewer_81 : decode cX12_viewer 81 = .ok (.aload_n 0, 1) := by decide +kernel
theorem dX12_viewer_82 : decode cX12_viewer 82 = .ok (.getfield 87, 3) := by decide +kernel
theorem dX12_viewer_85 : decode cX12_viewer 85 = .ok (.imul, 1) := by decide +kernel
theorem dX12_viewer_86 : decode cX12_viewer 86 = .ok (.iconst 1, 1) := by decide +kernel
theorem dX12_viewer_87 : decode cX12_viewer 87 = .ok (.iadd, 1) := by decide +kernel
theorem dX12_viewer_88 : decode cX12_viewer 88 = .ok (.iload_n 2, 1) := by decide +kernel
theorem dX12_viewer_89 : decode cX12_viewer 89 = .ok (.bipush 100, 2) := by decide +kernel
theorem dX12_viewer_91 : decode cX12_viewer 91 = .ok (.irem, 1) := by decide +kernel
theorem dX12_viewer_92 : decode cX12_viewer 92 = .ok (.iastore, 1) := by decide +kernel
theorem dX12_viewer_93 : decode cX12_viewer 93 = .ok (.aload_n 0, 1) := by decide +kernel
theorem dX12_viewer_94 : decode cX12_viewer 94 = .ok (.dup, 1) := by decide +kernel
theorem dX12_viewer_95 : decode cX12_viewer 95 = .ok (.getfield 87, 3) := by decide +kernel
theorem dX12_viewer_98 : decode cX12_viewer 98 = .ok (.iconst 1, 1) := by decide +kernel
theorem dX12_viewer_99 : decode cX12_viewer 99 = .ok (.iadd, 1) := by decide +kernel
theorem dX12_viewer_100 : decode cX12_viewer 100 = .ok (.putfield 87, 3) := by decide +kernel
theorem dX12_viewer_103 : decode cX12_viewer 103 = .ok (.aload_n 0, 1) := by decide +kernel
theorem dX12_viewer_104 : decode cX12_viewer 104 = .ok (.getfield 87, 3) := by decide +kernel
theorem dX12_viewer_107 : decode cX12_viewer 107 = .ok (.iconst 1, 1) := by decide +kernel
theorem dX12_viewer_108 : decode cX12_viewer 108 = .ok (.isub, 1) := by decide +kernel
theorem dX12_viewer_109 : decode cX12_viewer 109 = .ok (.ireturn, 1) := by decide +kernel
theorem dX12_put_0 : decode cX12_put 0 = .ok (.aload_n 0, 1) := by decide +kernel
theorem dX12_put_1 : decode cX12_put 1 = .ok (.iload_n 1, 1) := by decide +kernel
theorem dX12_put_2 : decode cX12_put 2 = .ok (.invokevirtual 173, 3) := by decide +kernel
theorem dX12_put_5 : decode cX12_put 5 = .ok (.ifCond .ne 6, 3) := by decide +kernel
theorem dX12_put_8 : decode cX12_put 8 = .ok (.bipush (-5), 2) := by decide +kernel
theorem dX12_put_10 : decode cX12_put 10 = .ok (.ireturn, 1) := by decide +kernel
theorem dX12_put_11 : decode cX12_put 11 = .ok (.iload_n 2, 1) := by decide +kernel
theorem dX12_put_12 : decode cX12_put 12 = .ok (.iconst 0, 1) := by decide +kernel
theorem dX12_put_13 : decode cX12_put 13 = .ok (.iconst 1, 1) := by decide +kernel
theorem dX12_put_14 : decode cX12_put 14 = .ok (.invokestatic 90, 3) := by decide +kernel
theorem dX12_put_17 : decode cX12_put 17 = .ok (.ifCond .eq 23, 3) := by decide +kernel
theorem dX12_put_20 : decode cX12_put 20 = .ok (.iload_n 3, 1) := by decide +kernel
theorem dX12_put_21 : decode cX12_put 21 = .ok (.iconst 0, 1) := by decide +kernel
theorem dX12_put_22 : decode cX12_put 22 = .ok (.iload_n 2, 1) := by decide +kernel
theorem dX12_put_23 : decode cX12_put 23 = .ok (.ifCond .ne 9, 3) := by decide +kernel
theorem dX12_put_26 : decode cX12_put 26 = .ok (.sipush 999, 3) := by decide +kernel
theorem dX12_put_29 : decode cX12_put 29 = .ok (.goto 5, 3) := by decide +kernel
theorem dX12_put_32 : decode cX12_put 32 = .ok (.bipush 99, 2) := by decide +kernel
theorem dX12_put_34 : decode cX12_put 34 = .ok (.invokestatic 90, 3) := by decide +kernel
theorem dX12_put_37 : decode cX12_put 37 = .ok (.ifCond .ne 6, 3) := by decide +kernel
theorem dX12_put_40 : decode cX12_put 40 = .ok (.bipush (-7), 2) := by decide +kernel
theorem dX12_put_42 : decode cX12_put 42 = .ok (.ireturn, 1) := by decide +kernel
theorem dX12_put_43 : decode cX12_put 43 = .ok (.aload_n 0, 1) := by decide +kernel
theorem dX12_put_44 : decode cX12_put 44 = .ok (.getfield 16, 3) := by decide +kernel
theorem dX12_put_47 : decode cX12_put 47 = .ok (.iconst 2, 1) := by decide +kernel
theorem dX12_put_48 : decode cX12_put 48 = .ok (.iload_n 1, 1) := by decide +kernel
theorem dX12_put_49 : decode cX12_put 49 = .ok (.imul, 1) := by decide +kernel
theorem dX12_put_50 : decode cX12_put 50 = .ok (.iload_n 2, 1) := by decide +kernel
theorem dX12_put_51 : decode cX12_put 51 = .ok (.iadd, 1) := by decide +kernel
theorem dX12_put_52 : decode cX12_put 52 = .ok (.iaload, 1) := by decide +kernel
theorem dX12_put_53 : decode cX12_put 53 = .ok (.istore 4, 2) := by decide +kernel
theorem dX12_put_55 : decode cX12_put 55 = .ok (.aload_n 0, 1) := by decide +kernel
theorem dX12_put_56 : decode cX12_put 56 = .ok (.getfield 16, 3) := by decide +kernel
theorem dX12_put_59 : decode cX12_put 59 = .ok (.iconst 2, 1) := by decide +kernel
theorem dX12_put_60 : decode cX12_put 60 = .ok (.iload_n 1, 1) := by decide +kernel
theorem dX12_put_61 : decode cX12_put 61 = .ok (.imul, 1) := by decide +kernel
theorem dX12_put_62 : decode cX12_put 62 = .ok (.iload_n 2, 1) := by decide +kernel
theorem dX12_put_63 : decode cX12_put 63 = .ok (.iadd, 1) := by decide +kernel
theorem dX12_put_64 : decode cX12_put 64 = .ok (.iload_n 3, 1) := by decide +kernel
theorem dX12_put_65 : decode cX12_put 65 = .ok (.iastore, 1) := by decide +kernel
theorem dX12_put_66 : decode cX12_put 66 = .ok (.iload 4, 2) := by decide +kernel
theorem dX12_put_68 : decode cX12_put 68 = .ok (.ireturn, 1) := by decide +kernel
theorem dX12_one_0 : decode cX12_one 0 = .ok (.aload_n 0, 1) := by decide +kernel
theorem dX12_one_1 : decode cX12_one 1 = .ok (.iload_n 1, 1) := by decide +kernel
theorem dX12_one_2 : decode cX12_one 2 = .ok (.invokevirtual 173, 3) := by decide +kernel
theorem dX12_one_5 : decode cX12_one 5 = .ok (.ifCond .ne 6, 3) := by decide +kernel
theorem dX12_one_8 : decode cX12_one 8 = .ok (.bipush (-5), 2) := by decide +kernel
theorem dX12_one_10 : decode cX12_one 10 = .ok (.ireturn, 1) := by decide +kernel
theorem dX12_one_11 : decode cX12_one 11 = .ok (.iload_n 2, 1) := by decide +kernel
theorem dX12_one_12 : decode cX12_one 12 = .ok (.tableswitch 57 0 3 #[32, 32, 43, 50], 32) := by decide +kernel
theorem dX12_one_44 : decode cX12_one 44 = .ok (.aload_n 0, 1) := by decide +kernel
theorem dX12_one_45 : decode cX12_one 45 = .ok (.getfield 16, 3) := by decide +kernel
theorem dX12_one_48 : decode cX12_one 48 = .ok (.iconst 2, 1) := by decide +kernel
theorem dX12_one_49 : decode cX12_one 49 = .ok (.iload_n 1, 1) := by decide +kernel
theorem dX12_one_50 : decode cX12_one 50 = .ok (.imul, 1) := by decide +kernel
theorem dX12_one_51 : decode cX12_one 51 = .ok (.iload_n 2, 1) := by decide +kernel
theorem dX12_one_52 : decode cX12_one 52 = .ok (.iadd, 1) := by decide +kernel
theorem dX12_one_53 : decode cX12_one 53 = .ok (.iaload, 1) := by decide +kernel
theorem dX12_one_54 : decode cX12_one 54 = .ok (.ireturn, 1) := by decide +kernel
theorem dX12_one_55 : decode cX12_one 55 = .ok (.aload_n 0, 1) := by decide +kernel
theorem dX12_one_56 : decode cX12_one 56 = .ok (.getfield 7, 3) := by decide +kernel
theorem dX12_one_59 : decode cX12_one 59 = .ok (.iload_n 1, 1) := by decide +kernel
theorem dX12_one_60 : decode cX12_one 60 = .ok (.iaload, 1) := by decide +kernel
theorem dX12_one_61 : decode cX12_one 61 = .ok (.ireturn, 1) := by decide +kernel
theorem dX12_one_62 : decode cX12_one 62 = .ok (.aload_n 0, 1) := by decide +kernel
theorem dX12_one_63 : decode cX12_one 63 = .ok (.getfield 13, 3) := by decide +kernel
theorem dX12_one_66 : decode cX12_one 66 = .ok (.iload_n 1, 1) := by decide +kernel
theorem dX12_one_67 : decode cX12_one 67 = .ok (.iaload, 1) := by decide +kernel
theorem dX12_one_68 : decode cX12_one 68 = .ok (.ireturn, 1) := by decide +kernel
theorem dX12_one_69 : decode cX12_one 69 = .ok (.bipush (-7), 2) := by decide +kernel
theorem dX12_one_71 : decode cX12_one 71 = .ok (.ireturn, 1) := by decide +kernel
theorem dX12_likesOf_0 : decode cX12_likesOf 0 = .ok (.aload_n 0, 1) := by decide +kernel
theorem dX12_likesOf_1 : decode cX12_likesOf 1 = .ok (.getfield 7, 3) := by decide +kernel
theorem dX12_likesOf_4 : decode cX12_likesOf 4 = .ok (.iload_n 1, 1) := by decide +kernel
theorem dX12_likesOf_5 : decode cX12_likesOf 5 = .ok (.iaload, 1) := by decide +kernel
theorem dX12_likesOf_6 : decode cX12_likesOf 6 = .ok (.iconst 5, 1) := by decide +kernel
theorem dX12_likesOf_7 : decode cX12_likesOf 7 = .ok (.if_icmp .ne 23, 3) := by decide +kernel
theorem dX12_likesOf_10 : decode cX12_likesOf 10 = .ok (.iload_n 2, 1) := by decide +kernel
theorem dX12_likesOf_11 : decode cX12_likesOf 11 = .ok (.aload_n 0, 1) := by decide +kernel
theorem dX12_likesOf_12 : decode cX12_likesOf 12 = .ok (.getfield 13, 3) := by decide +kernel
theorem dX12_likesOf_15 : decode cX12_likesOf 15 = .ok (.iload_n 1, 1) := by decide +kernel
theorem dX12_likesOf_16 : decode cX12_likesOf 16 = .ok (.iaload, 1) := by decide +kernel
theorem dX12_likesOf_17 : decode cX12_likesOf 17 = .ok (.bipush 6, 2) := by decide +kernel
theorem dX12_likesOf_19 : decode cX12_likesOf 19 = .ok (.irem, 1) := by decide +kernel
theorem dX12_likesOf_20 : decode cX12_likesOf 20 = .ok (.if_icmp .ne 8, 3) := by decide +kernel
theorem dX12_likesOf_23 : decode cX12_likesOf 23 = .ok (.bipush 99, 2) := by decide +kernel
theorem dX12_likesOf_25 : decode cX12_likesOf 25 = .ok (.goto 4, 3) := by decide +kernel
theorem dX12_likesOf_28 : decode cX12_likesOf 28 = .ok (.iconst 0, 1) := by decide +kernel
theorem dX12_likesOf_29 : decode cX12_likesOf 29 = .ok (.ireturn, 1) := by decide +kernel
theorem dX12_likesOf_30 : decode cX12_likesOf 30 = .ok (.aload_n 0, 1) := by decide +kernel
theorem dX12_likesOf_31 : decode cX12_likesOf 31 = .ok (.iconst 0, 1) := by decide +kernel
theorem dX12_likesOf_32 : decode cX12_likesOf 32 = .ok (.iload_n 1, 1) := by decide +kernel
theorem dX12_likesOf_33 : decode cX12_likesOf 33 = .ok (.iload_n 2, 1) := by decide +kernel
theorem dX12_likesOf_34 : decode cX12_likesOf 34 = .ok (.iload_n 3, 1) := by decide +kernel
theorem dX12_likesOf_35 : decode cX12_likesOf 35 = .ok (.invokevirtual 176, 3) := by decide +kernel
theorem dX12_likesOf_38 : decode cX12_likesOf 38 = .ok (.istore 4, 2) := by decide +kernel
theorem dX12_likesOf_40 : decode cX12_likesOf 40 = .ok (.iload 4, 2) := by decide +kernel
theorem dX12_likesOf_42 : decode cX12_likesOf 42 = .ok (.istore 5, 2) := by decide +kernel
theorem dX12_likesOf_44 : decode cX12_likesOf 44 = .ok (.aload_n 0, 1) := by decide +kernel
theorem dX12_likesOf_45 : decode cX12_likesOf 45 = .ok (.getfield 7, 3) := by decide +kernel
theorem dX12_likesOf_48 : decode cX12_likesOf 48 = .ok (.iload_n 1, 1) := by decide +kernel
theorem dX12_likesOf_49 : decode cX12_likesOf 49 = .ok (.iaload, 1) := by decide +kernel
theorem dX12_likesOf_50 : decode cX12_likesOf 50 = .ok (.iconst 1, 1) := by decide +kernel
theorem dX12_likesOf_51 : decode cX12_likesOf 51 = .ok (.if_icmp .eq 13, 3) := by decide +kernel
theorem dX12_likesOf_54 : decode cX12_likesOf 54 = .ok (.aload_n 0, 1) := by decide +kernel
theorem dX12_likesOf_55 : decode cX12_likesOf 55 = .ok (.getfield 7, 3) := by decide +kernel
theorem dX12_likesOf_58 : decode cX12_likesOf 58 = .ok (.iload_n 1, 1) := by decide +kernel
theorem dX12_likesOf_59 : decode cX12_likesOf 59 = .ok (.iaload, 1) := by decide +kernel
theorem dX12_likesOf_60 : decode cX12_likesOf 60 = .ok (.iconst 3, 1) := by decide +kernel
theorem dX12_likesOf_61 : decode cX12_likesOf 61 = .ok (.if_icmp .ne 20, 3) := by decide +kernel
theorem dX12_likesOf_64 : decode cX12_likesOf 64 = .ok (.iload_n 2, 1) := by decide +kernel
theorem dX12_likesOf_65 : decode cX12_likesOf 65 = .ok (.ifCond .ne 16, 3) := by decide +kernel
theorem dX12_likesOf_68 : decode cX12_likesOf 68 = .ok (.iload 5, 2) := by decide +kernel
theorem dX12_likesOf_70 : decode cX12_likesOf 70 = .ok (.iconst 2, 1) := by decide +kernel
theorem dX12_likesOf_71 : decode cX12_likesOf 71 = .ok (.aload_n 0, 1) := by decide +kernel
theorem dX12_likesOf_72 : decode cX12_likesOf 72 = .ok (.getfield 13, 3) := by decide +kernel
theorem dX12_likesOf_75 : decode cX12_likesOf 75 = .ok (.iload_n 1, 1) := by decide +kernel
theorem dX12_likesOf_76 : decode cX12_likesOf 76 = .ok (.iaload, 1) := by decide +kernel
theorem dX12_likesOf_77 : decode cX12_likesOf 77 = .ok (.imul, 1) := by decide +kernel
theorem dX12_likesOf_78 : decode cX12_likesOf 78 = .ok (.isub, 1) := by decide +kernel
theorem dX12_likesOf_79 : decode cX12_likesOf 79 = .ok (.istore 5, 2) := by decide +kernel
theorem dX12_likesOf_81 : decode cX12_likesOf 81 = .ok (.aload_n 0, 1) := by decide +kernel
theorem dX12_likesOf_82 : decode cX12_likesOf 82 = .ok (.getfield 7, 3) := by decide +kernel
theorem dX12_likesOf_85 : decode cX12_likesOf 85 = .ok (.iload_n 1, 1) := by decide +kernel
theorem dX12_likesOf_86 : decode cX12_likesOf 86 = .ok (.iaload, 1) := by decide +kernel
theorem dX12_likesOf_87 : decode cX12_likesOf 87 = .ok (.iconst 3, 1) := by decide +kernel
theorem dX12_likesOf_88 : decode cX12_likesOf 88 = .ok (.if_icmp .ne 14, 3) := by decide +kernel
theorem dX12_likesOf_91 : decode cX12_likesOf 91 = .ok (.iload 4, 2) := by decide +kernel
theorem dX12_likesOf_93 : decode cX12_likesOf 93 = .ok (.ifCond .ge 9, 3) := by decide +kernel
theorem dX12_likesOf_96 : decode cX12_likesOf 96 = .ok (.iload 5, 2) := by decide +kernel
theorem dX12_likesOf_98 : decode cX12_likesOf 98 = .ok (.iconst 2, 1) := by decide +kernel
theorem dX12_likesOf_99 : decode cX12_likesOf 99 = .ok (.imul, 1) := by decide +kernel
theorem dX12_likesOf_100 : decode cX12_likesOf 100 = .ok (.istore 5, 2) := by decide +kernel
theorem dX12_likesOf_102 : decode cX12_likesOf 102 = .ok (.iload 5, 2) := by decide +kernel
theorem dX12_likesOf_104 : decode cX12_likesOf 104 = .ok (.bipush (-99), 2) := by decide +kernel
theorem dX12_likesOf_106 : decode cX12_likesOf 106 = .ok (.bipush 99, 2) := by decide +kernel
theorem dX12_likesOf_108 : decode cX12_likesOf 108 = .ok (.invokestatic 170, 3) := by decide +kernel
theorem dX12_likesOf_111 : decode cX12_likesOf 111 = .ok (.ireturn, 1) := by decide +kernel
theorem dX12_keepsOf_0 : decode cX12_keepsOf 0 = .ok (.aload_n 0, 1) := by decide +kernel
theorem dX12_keepsOf_1 : decode cX12_keepsOf 1 = .ok (.iconst 1, 1) := by decide +kernel
theorem dX12_keepsOf_2 : decode cX12_keepsOf 2 = .ok (.iload_n 1, 1) := by decide +kernel
theorem dX12_keepsOf_3 : decode cX12_keepsOf 3 = .ok (.iload_n 2, 1) := by decide +kernel
theorem dX12_keepsOf_4 : decode cX12_keepsOf 4 = .ok (.iload_n 3, 1) := by decide +kernel
theorem dX12_keepsOf_5 : decode cX12_keepsOf 5 = .ok (.invokevirtual 176, 3) := by decide +kernel
theorem dX12_keepsOf_8 : decode cX12_keepsOf 8 = .ok (.istore 7, 2) := by decide +kernel
theorem dX12_keepsOf_10 : decode cX12_keepsOf 10 = .ok (.aload_n 0, 1) := by decide +kernel
theorem dX12_keepsOf_11 : decode cX12_keepsOf 11 = .ok (.getfield 7, 3) := by decide +kernel
theorem dX12_keepsOf_14 : decode cX12_keepsOf 14 = .ok (.iload_n 1, 1) := by decide +kernel
theorem dX12_keepsOf_15 : decode cX12_keepsOf 15 = .ok (.iaload, 1) := by decide +kernel
theorem dX12_keepsOf_16 : decode cX12_keepsOf 16 = .ok (.tableswitch 99 1 4 #[32, 47, 32, 67], 32) := by decide +kernel
theorem dX12_keepsOf_48 : decode cX12_keepsOf 48 = .ok (.iload 5, 2) := by decide +kernel
theorem dX12_keepsOf_50 : decode cX12_keepsOf 50 = .ok (.ifCond .eq 10, 3) := by decide +kernel
theorem dX12_keepsOf_53 : decode cX12_keepsOf 53 = .ok (.iconst 2, 1) := by decide +kernel
theorem dX12_keepsOf_54 : decode cX12_keepsOf 54 = .ok (.iload 7, 2) := by decide +kernel
theorem dX12_keepsOf_56 : decode cX12_keepsOf 56 = .ok (.imul, 1) := by decide +kernel
theorem dX12_keepsOf_57 : decode cX12_keepsOf 57 = .ok (.goto 5, 3) := by decide +kernel
theorem dX12_keepsOf_60 : decode cX12_keepsOf 60 = .ok (.iload 7, 2) := by decide +kernel
theorem dX12_keepsOf_62 : decode cX12_keepsOf 62 = .ok (.ireturn, 1) := by decide +kernel
theorem dX12_keepsOf_63 : decode cX12_keepsOf 63 = .ok (.iload 6, 2) := by decide +kernel
theorem dX12_keepsOf_65 : decode cX12_keepsOf 65 = .ok (.ifCond .eq 15, 3) := by decide +kernel
theorem dX12_keepsOf_68 : decode cX12_keepsOf 68 = .ok (.iload 7, 2) := by decide +kernel
theorem dX12_keepsOf_70 : decode cX12_keepsOf 70 = .ok (.aload_n 0, 1) := by decide +kernel
theorem dX12_keepsOf_71 : decode cX12_keepsOf 71 = .ok (.getfield 13, 3) := by decide +kernel
theorem dX12_keepsOf_74 : decode cX12_keepsOf 74 = .ok (.iload_n 1, 1) := by decide +kernel
theorem dX12_keepsOf_75 : decode cX12_keepsOf 75 = .ok (.iaload, 1) := by decide +kernel
theorem dX12_keepsOf_76 : decode cX12_keepsOf 76 = .ok (.iadd, 1) := by decide +kernel
theorem dX12_keepsOf_77 : decode cX12_keepsOf 77 = .ok (.goto 5, 3) := by decide +kernel
theorem dX12_keepsOf_80 : decode cX12_keepsOf 80 = .ok (.iload 7, 2) := by decide +kernel
theorem dX12_keepsOf_82 : decode cX12_keepsOf 82 = .ok (.ireturn, 1) := by decide +kernel
theorem dX12_keepsOf_83 : decode cX12_keepsOf 83 = .ok (.iload 4, 2) := by decide +kernel
theorem dX12_keepsOf_85 : decode cX12_keepsOf 85 = .ok (.ifCond .ge 10, 3) := by decide +kernel
theorem dX12_keepsOf_88 : decode cX12_keepsOf 88 = .ok (.iload 7, 2) := by decide +kernel
theorem dX12_keepsOf_90 : decode cX12_keepsOf 90 = .ok (.iconst 3, 1) := by decide +kernel
theorem dX12_keepsOf_91 : decode cX12_keepsOf 91 = .ok (.iadd, 1) := by decide +kernel
theorem dX12_keepsOf_92 : decode cX12_keepsOf 92 = .ok (.goto 22, 3) := by decide +kernel
theorem dX12_keepsOf_95 : decode cX12_keepsOf 95 = .ok (.iload 6, 2) := by decide +kernel
theorem dX12_keepsOf_97 : decode cX12_keepsOf 97 = .ok (.ifCond .eq 15, 3) := by decide +kernel
theorem dX12_keepsOf_100 : decode cX12_keepsOf 100 = .ok (.iload 7, 2) := by decide +kernel
theorem dX12_keepsOf_102 : decode cX12_keepsOf 102 = .ok (.aload_n 0, 1) := by decide +kernel
theorem dX12_keepsOf_103 : decode cX12_keepsOf 103 = .ok (.getfield 13, 3) := by decide +kernel
theorem dX12_keepsOf_106 : decode cX12_keepsOf 106 = .ok (.iload_n 1, 1) := by decide +kernel
theorem dX12_keepsOf_107 : decode cX12_keepsOf 107 = .ok (.iaload, 1) := by decide +kernel
theorem dX12_keepsOf_108 : decode cX12_keepsOf 108 = .ok (.iadd, 1) := by decide +kernel
theorem dX12_keepsOf_109 : decode cX12_keepsOf 109 = .ok (.goto 5, 3) := by decide +kernel
theorem dX12_keepsOf_112 : decode cX12_keepsOf 112 = .ok (.iload 7, 2) := by decide +kernel
theorem dX12_keepsOf_114 : decode cX12_keepsOf 114 = .ok (.ireturn, 1) := by decide +kernel
theorem dX12_keepsOf_115 : decode cX12_keepsOf 115 = .ok (.iload 7, 2) := by decide +kernel
theorem dX12_keepsOf_117 : decode cX12_keepsOf 117 = .ok (.ireturn, 1) := by decide +kernel
theorem dX12_offersOf_0 : decode cX12_offersOf 0 = .ok (.aload_n 0, 1) := by decide +kernel
theorem dX12_offersOf_1 : decode cX12_offersOf 1 = .ok (.getfield 7, 3) := by decide +kernel
theorem dX12_offersOf_4 : decode cX12_offersOf 4 = .ok (.iload_n 1, 1) := by decide +kernel
theorem dX12_offersOf_5 : decode cX12_offersOf 5 = .ok (.iaload, 1) := by decide +kernel
theorem dX12_offersOf_6 : decode cX12_offersOf 6 = .ok (.iconst 5, 1) := by decide +kernel
theorem dX12_offersOf_7 : decode cX12_offersOf 7 = .ok (.if_icmp .ne 5, 3) := by decide +kernel
theorem dX12_offersOf_10 : decode cX12_offersOf 10 = .ok (.iconst 0, 1) := by decide +kernel
theorem dX12_offersOf_11 : decode cX12_offersOf 11 = .ok (.ireturn, 1) := by decide +kernel
theorem dX12_offersOf_12 : decode cX12_offersOf 12 = .ok (.iload_n 3, 1) := by decide +kernel
theorem dX12_offersOf_13 : decode cX12_offersOf 13 = .ok (.ifCond .le 14, 3) := by decide +kernel
theorem dX12_offersOf_16 : decode cX12_offersOf 16 = .ok (.aload_n 0, 1) := by decide +kernel
theorem dX12_offersOf_17 : decode cX12_offersOf 17 = .ok (.iconst 2, 1) := by decide +kernel
theorem dX12_offersOf_18 : decode cX12_offersOf 18 = .ok (.iload_n 1, 1) := by decide +kernel
theorem dX12_offersOf_19 : decode cX12_offersOf 19 = .ok (.iconst 0, 1) := by decide +kernel
theorem dX12_offersOf_20 : decode cX12_offersOf 20 = .ok (.iload_n 2, 1) := by decide +kernel
theorem dX12_offersOf_21 : decode cX12_offersOf 21 = .ok (.invokevirtual 176, 3) := by decide +kernel
theorem dX12_offersOf_24 : decode cX12_offersOf 24 = .ok (.goto 4, 3) := by decide +kernel
theorem dX12_offersOf_27 : decode cX12_offersOf 27 = .ok (.iconst 0, 1) := by decide +kernel
theorem dX12_offersOf_28 : decode cX12_offersOf 28 = .ok (.istore 4, 2) := by decide +kernel
theorem dX12_offersOf_30 : decode cX12_offersOf 30 = .ok (.iload_n 2, 1) := by decide +kernel
theorem dX12_offersOf_31 : decode cX12_offersOf 31 = .ok (.iconst 2, 1) := by decide +kernel
theorem dX12_offersOf_32 : decode cX12_offersOf 32 = .ok (.if_icmp .le 13, 3) := by decide +kernel
theorem dX12_offersOf_35 : decode cX12_offersOf 35 = .ok (.iload 4, 2) := by decide +kernel
theorem dX12_offersOf_37 : decode cX12_offersOf 37 = .ok (.bipush 10, 2) := by decide +kernel
theorem dX12_offersOf_39 : decode cX12_offersOf 39 = .ok (.iload_n 2, 1) := by decide +kernel
theorem dX12_offersOf_40 : decode cX12_offersOf 40 = .ok (.imul, 1) := by decide +kernel
theorem dX12_offersOf_41 : decode cX12_offersOf 41 = .ok (.iadd, 1) := by decide +kernel
theorem dX12_offersOf_42 : decode cX12_offersOf 42 = .ok (.goto 5, 3) := by decide +kernel
theorem dX12_offersOf_45 : decode cX12_offersOf 45 = .ok (.iload 4, 2) := by decide +kernel
theorem dX12_offersOf_47 : decode cX12_offersOf 47 = .ok (.istore 5, 2) := by decide +kernel
theorem dX12_offersOf_49 : decode cX12_offersOf 49 = .ok (.aload_n 0, 1) := by decide +kernel
theorem dX12_offersOf_50 : decode cX12_offersOf 50 = .ok (.getfield 7, 3) := by decide +kernel
theorem dX12_offersOf_53 : decode cX12_offersOf 53 = .ok (.iload_n 1, 1) := by decide +kernel
theorem dX12_offersOf_54 : decode cX12_offersOf 54 = .ok (.iaload, 1) := by decide +kernel
theorem dX12_offersOf_55 : decode cX12_offersOf 55 = .ok (.tableswitch 49 2 4 #[25, 28, 44], 25) := by decide +kernel
theorem dX12_offersOf_80 : decode cX12_offersOf 80 = .ok (.iload 5, 2) := by decide +kernel
theorem dX12_offersOf_82 : decode cX12_offersOf 82 = .ok (.ireturn, 1) := by decide +kernel
theorem dX12_offersOf_83 : decode cX12_offersOf 83 = .ok (.iload 4, 2) := by decide +kernel
theorem dX12_offersOf_85 : decode cX12_offersOf 85 = .ok (.iload_n 3, 1) := by decide +kernel
theorem dX12_offersOf_86 : decode cX12_offersOf 86 = .ok (.iadd, 1) := by decide +kernel
theorem dX12_offersOf_87 : decode cX12_offersOf 87 = .ok (.ifCond .ge 7, 3) := by decide +kernel
theorem dX12_offersOf_90 : decode cX12_offersOf 90 = .ok (.iconst 0, 1) := by decide +kernel
theorem dX12_offersOf_91 : decode cX12_offersOf 91 = .ok (.goto 7, 3) := by decide +kernel
theorem dX12_offersOf_94 : decode cX12_offersOf 94 = .ok (.iload 4, 2) := by decide +kernel
theorem dX12_offersOf_96 : decode cX12_offersOf 96 = .ok (.iload_n 3, 1) := by decide +kernel
theorem dX12_offersOf_97 : decode cX12_offersOf 97 = .ok (.iadd, 1) := by decide +kernel
theorem dX12_offersOf_98 : decode cX12_offersOf 98 = .ok (.ireturn, 1) := by decide +kernel
theorem dX12_offersOf_99 : decode cX12_offersOf 99 = .ok (.iload 5, 2) := by decide +kernel
theorem dX12_offersOf_101 : decode cX12_offersOf 101 = .ok (.iconst 2, 1) := by decide +kernel
theorem dX12_offersOf_102 : decode cX12_offersOf 102 = .ok (.idiv, 1) := by decide +kernel
theorem dX12_offersOf_103 : decode cX12_offersOf 103 = .ok (.ireturn, 1) := by decide +kernel
theorem dX12_offersOf_104 : decode cX12_offersOf 104 = .ok (.iload 4, 2) := by decide +kernel
theorem dX12_offersOf_106 : decode cX12_offersOf 106 = .ok (.ireturn, 1) := by decide +kernel
theorem dX12_reads_0 : decode cX12_reads 0 = .ok (.iload_n 1, 1) := by decide +kernel
theorem dX12_reads_1 : decode cX12_reads 1 = .ok (.iconst 0, 1) := by decide +kernel
theorem dX12_reads_2 : decode cX12_reads 2 = .ok (.iconst 3, 1) := by decide +kernel
theorem dX12_reads_3 : decode cX12_reads 3 = .ok (.invokestatic 90, 3) := by decide +kernel
theorem dX12_reads_6 : decode cX12_reads 6 = .ok (.ifCond .ne 6, 3) := by decide +kernel
theorem dX12_reads_9 : decode cX12_reads 9 = .ok (.bipush (-2), 2) := by decide +kernel
theorem dX12_reads_11 : decode cX12_reads 11 = .ok (.ireturn, 1) := by decide +kernel
theorem dX12_reads_12 : decode cX12_reads 12 = .ok (.aload_n 0, 1) := by decide +kernel
theorem dX12_reads_13 : decode cX12_reads 13 = .ok (.getfield 41, 3) := by decide +kernel
theorem dX12_reads_16 : decode cX12_reads 16 = .ok (.iload_n 1, 1) := by decide +kernel
theorem dX12_reads_17 : decode cX12_reads 17 = .ok (.iaload, 1) := by decide +kernel
theorem dX12_reads_18 : decode cX12_reads 18 = .ok (.iconst (-1), 1) := by decide +kernel
theorem dX12_reads_19 : decode cX12_reads 19 = .ok (.if_icmp .ne 6, 3) := by decide +kernel
theorem dX12_reads_22 : decode cX12_reads 22 = .ok (.bipush (-11), 2) := by decide +kernel
theorem dX12_reads_24 : decode cX12_reads 24 = .ok (.ireturn, 1) := by decide +kernel
theorem dX12_reads_25 : decode cX12_reads 25 = .ok (.iconst 0, 1) := by decide +kernel
theorem dX12_reads_26 : decode cX12_reads 26 = .ok (.istore_n 2, 1) := by decide +kernel
theorem dX12_reads_27 : decode cX12_reads 27 = .ok (.aload_n 0, 1) := by decide +kernel
theorem dX12_reads_28 : decode cX12_reads 28 = .ok (.getfield 44, 3) := by decide +kernel
theorem dX12_reads_31 : decode cX12_reads 31 = .ok (.iload_n 1, 1) := by decide +kernel
theorem dX12_reads_32 : decode cX12_reads 32 = .ok (.iaload, 1) := by decide +kernel
theorem dX12_reads_33 : decode cX12_reads 33 = .ok (.bipush 6, 2) := by decide +kernel
theorem dX12_reads_35 : decode cX12_reads 35 = .ok (.if_icmp .le 6, 3) := by decide +kernel
theorem dX12_reads_38 : decode cX12_reads 38 = .ok (.bipush (-2), 2) := by decide +kernel
theorem dX12_reads_40 : decode cX12_reads 40 = .ok (.ireturn, 1) := by decide +kernel
theorem dX12_reads_41 : decode cX12_reads 41 = .ok (.iconst 0, 1) := by decide +kernel
theorem dX12_reads_42 : decode cX12_reads 42 = .ok (.istore_n 3, 1) := by decide +kernel
theorem dX12_reads_43 : decode cX12_reads 43 = .ok (.iload_n 3, 1) := by decide +kernel
theorem dX12_reads_44 : decode cX12_reads 44 = .ok (.aload_n 0, 1) := by decide +kernel
theorem dX12_reads_45 : decode cX12_reads 45 = .ok (.getfield 44, 3) := by decide +kernel
theorem dX12_reads_48 : decode cX12_reads 48 = .ok (.iload_n 1, 1) := by decide +kernel
theorem dX12_reads_49 : decode cX12_reads 49 = .ok (.iaload, 1) := by decide +kernel
theorem dX12_reads_50 : decode cX12_reads 50 = .ok (.if_icmp .ge 63, 3) := by decide +kernel
theorem dX12_reads_53 : decode cX12_reads 53 = .ok (.aload_n 0, 1) := by decide +kernel
theorem dX12_reads_54 : decode cX12_reads 54 = .ok (.getfield 47, 3) := by decide +kernel
theorem dX12_reads_57 : decode cX12_reads 57 = .ok (.bipush 40, 2) := by decide +kernel
theorem dX12_reads_59 : decode cX12_reads 59 = .ok (.iload_n 1, 1) := by decide +kernel
theorem dX12_reads_60 : decode cX12_reads 60 = .ok (.imul, 1) := by decide +kernel
theorem dX12_reads_61 : decode cX12_reads 61 = .ok (.iload_n 3, 1) := by decide +kernel
theorem dX12_reads_62 : decode cX12_reads 62 = .ok (.iadd, 1) := by decide +kernel
theorem dX12_reads_63 : decode cX12_reads 63 = .ok (.iaload, 1) := by decide +kernel
theorem dX12_reads_64 : decode cX12_reads 64 = .ok (.istore 4, 2) := by decide +kernel
theorem dX12_reads_66 : decode cX12_reads 66 = .ok (.iload 4, 2) := by decide +kernel
theorem dX12_reads_68 : decode cX12_reads 68 = .ok (.invokestatic 100, 3) := by decide +kernel
theorem dX12_reads_71 : decode cX12_reads 71 = .ok (.ifCond .eq 13, 3) := by decide +kernel
theorem dX12_reads_74 : decode cX12_reads 74 = .ok (.iload_n 2, 1) := by decide +kernel
theorem dX12_reads_75 : decode cX12_reads 75 = .ok (.iload 4, 2) := by decide +kernel
theorem dX12_reads_77 : decode cX12_reads 77 = .ok (.ishr, 1) := by decide +kernel
theorem dX12_reads_78 : decode cX12_reads 78 = .ok (.iconst 1, 1) := by decide +kernel
theorem dX12_reads_79 : decode cX12_reads 79 = .ok (.iand, 1) := by decide +kernel
theorem dX12_reads_80 : decode cX12_reads 80 = .ok (.iconst 1, 1) := by decide +kernel
theorem dX12_reads_81 : decode cX12_reads 81 = .ok (.if_icmp .ne 6, 3) := by decide +kernel
theorem dX12_reads_84 : decode cX12_reads 84 = .ok (.bipush (-2), 2) := by decide +kernel
theorem dX12_reads_86 : decode cX12_reads 86 = .ok (.ireturn, 1) := by decide +kernel
theorem dX12_reads_87 : decode cX12_reads 87 = .ok (.iload_n 2, 1) := by decide +kernel
theorem dX12_reads_88 : decode cX12_reads 88 = .ok (.iconst 1, 1) := by decide +kernel
theorem dX12_reads_89 : decode cX12_reads 89 = .ok (.iload 4, 2) := by decide +kernel
theorem dX12_reads_91 : decode cX12_reads 91 = .ok (.ishl, 1) := by decide +kernel
theorem dX12_reads_92 : decode cX12_reads 92 = .ok (.ior, 1) := by decide +kernel
theorem dX12_reads_93 : decode cX12_reads 93 = .ok (.istore_n 2, 1) := by decide +kernel
theorem dX12_reads_94 : decode cX12_reads 94 = .ok (.aload_n 0, 1) := by decide +kernel
theorem dX12_reads_95 : decode cX12_reads 95 = .ok (.getfield 65, 3) := by decide +kernel
theorem dX12_reads_98 : decode cX12_reads 98 = .ok (.iload_n 3, 1) := by decide +kernel
theorem dX12_reads_99 : decode cX12_reads 99 = .ok (.iconst 0, 1) := by decide +kernel
theorem dX12_reads_100 : decode cX12_reads 100 = .ok (.iconst 5, 1) := by decide +kernel
theorem dX12_reads_101 : decode cX12_reads 101 = .ok (.invokestatic 170, 3) := by decide +kernel
theorem dX12_reads_104 : decode cX12_reads 104 = .ok (.iload 4, 2) := by decide +kernel
theorem dX12_reads_106 : decode cX12_reads 106 = .ok (.iastore, 1) := by decide +kernel
theorem dX12_reads_107 : decode cX12_reads 107 = .ok (.iinc 3 1, 3) := by decide +kernel
theorem dX12_reads_110 : decode cX12_reads 110 = .ok (.goto (-67), 3) := by decide +kernel
theorem dX12_reads_113 : decode cX12_reads 113 = .ok (.aload_n 0, 1) := by decide +kernel
theorem dX12_reads_114 : decode cX12_reads 114 = .ok (.aload_n 0, 1) := by decide +kernel
theorem dX12_reads_115 : decode cX12_reads 115 = .ok (.getfield 44, 3) := by decide +kernel
theorem dX12_reads_118 : decode cX12_reads 118 = .ok (.iload_n 1, 1) := by decide +kernel
theorem dX12_reads_119 : decode cX12_reads 119 = .ok (.iaload, 1) := by decide +kernel
theorem dX12_reads_120 : decode cX12_reads 120 = .ok (.putfield 181, 3) := by decide +kernel
theorem dX12_reads_123 : decode cX12_reads 123 = .ok (.iconst 0, 1) := by decide +kernel
theorem dX12_reads_124 : decode cX12_reads 124 = .ok (.ireturn, 1) := by decide +kernel
theorem dX12_mindOf_0 : decode cX12_mindOf 0 = .ok (.iconst 0, 1) := by decide +kernel
theorem dX12_mindOf_1 : decode cX12_mindOf 1 = .ok (.istore_n 3, 1) := by decide +kernel
theorem dX12_mindOf_2 : decode cX12_mindOf 2 = .ok (.iconst 0, 1) := by decide +kernel
theorem dX12_mindOf_3 : decode cX12_mindOf 3 = .ok (.istore 4, 2) := by decide +kernel
theorem dX12_mindOf_5 : decode cX12_mindOf 5 = .ok (.iload 4, 2) := by decide +kernel
theorem dX12_mindOf_7 : decode cX12_mindOf 7 = .ok (.aload_n 0, 1) := by decide +kernel
theorem dX12_mindOf_8 : decode cX12_mindOf 8 = .ok (.getfield 181, 3) := by decide +kernel
theorem dX12_mindOf_11 : decode cX12_mindOf 11 = .ok (.if_icmp .ge 71, 3) := by decide +kernel
theorem dX12_mindOf_14 : decode cX12_mindOf 14 = .ok (.aload_n 0, 1) := by decide +kernel
theorem dX12_mindOf_15 : decode cX12_mindOf 15 = .ok (.iload_n 1, 1) := by decide +kernel
theorem dX12_mindOf_16 : decode cX12_mindOf 16 = .ok (.aload_n 0, 1) := by decide +kernel
theorem dX12_mindOf_17 : decode cX12_mindOf 17 = .ok (.getfield 65, 3) := by decide +kernel
theorem dX12_mindOf_20 : decode cX12_mindOf 20 = .ok (.iload 4, 2) := by decide +kernel
theorem dX12_mindOf_22 : decode cX12_mindOf 22 = .ok (.iaload, 1) := by decide +kernel
theorem dX12_mindOf_23 : decode cX12_mindOf 23 = .ok (.iload_n 2, 1) := by decide +kernel
theorem dX12_mindOf_24 : decode cX12_mindOf 24 = .ok (.invokevirtual 184, 3) := by decide +kernel
theorem dX12_mindOf_27 : decode cX12_mindOf 27 = .ok (.istore 5, 2) := by decide +kernel
theorem dX12_mindOf_29 : decode cX12_mindOf 29 = .ok (.iload_n 3, 1) := by decide +kernel
theorem dX12_mindOf_30 : decode cX12_mindOf 30 = .ok (.iload 5, 2) := by decide +kernel
theorem dX12_mindOf_32 : decode cX12_mindOf 32 = .ok (.aload_n 0, 1) := by decide +kernel
theorem dX12_mindOf_33 : decode cX12_mindOf 33 = .ok (.iload_n 1, 1) := by decide +kernel
theorem dX12_mindOf_34 : decode cX12_mindOf 34 = .ok (.aload_n 0, 1) := by decide +kernel
theorem dX12_mindOf_35 : decode cX12_mindOf 35 = .ok (.getfield 65, 3) := by decide +kernel
theorem dX12_mindOf_38 : decode cX12_mindOf 38 = .ok (.iload 4, 2) := by decide +kernel
theorem dX12_mindOf_40 : decode cX12_mindOf 40 = .ok (.iaload, 1) := by decide +kernel
theorem dX12_mindOf_41 : decode cX12_mindOf 41 = .ok (.iload_n 2, 1) := by decide +kernel
theorem dX12_mindOf_42 : decode cX12_mindOf 42 = .ok (.iload 5, 2) := by decide +kernel
theorem dX12_mindOf_44 : decode cX12_mindOf 44 = .ok (.iload 4, 2) := by decide +kernel
theorem dX12_mindOf_46 : decode cX12_mindOf 46 = .ok (.ifCond .ne 7, 3) := by decide +kernel
theorem dX12_mindOf_49 : decode cX12_mindOf 49 = .ok (.iconst 1, 1) := by decide +kernel
theorem dX12_mindOf_50 : decode cX12_mindOf 50 = .ok (.goto 4, 3) := by decide +kernel
theorem dX12_mindOf_53 : decode cX12_mindOf 53 = .ok (.iconst 0, 1) := by decide +kernel
theorem dX12_mindOf_54 : decode cX12_mindOf 54 = .ok (.iload 4, 2) := by decide +kernel
theorem dX12_mindOf_56 : decode cX12_mindOf 56 = .ok (.aload_n 0, 1) := by decide +kernel
theorem dX12_mindOf_57 : decode cX12_mindOf 57 = .ok (.getfield 181, 3) := by decide +kernel
theorem dX12_mindOf_60 : decode cX12_mindOf 60 = .ok (.iconst 1, 1) := by decide +kernel
theorem dX12_mindOf_61 : decode cX12_mindOf 61 = .ok (.isub, 1) := by decide +kernel
theorem dX12_mindOf_62 : decode cX12_mindOf 62 = .ok (.if_icmp .ne 7, 3) := by decide +kernel
theorem dX12_mindOf_65 : decode cX12_mindOf 65 = .ok (.iconst 1, 1) := by decide +kernel
theorem dX12_mindOf_66 : decode cX12_mindOf 66 = .ok (.goto 4, 3) := by decide +kernel
theorem dX12_mindOf_69 : decode cX12_mindOf 69 = .ok (.iconst 0, 1) := by decide +kernel
theorem dX12_mindOf_70 : decode cX12_mindOf 70 = .ok (.invokevirtual 187, 3) := by decide +kernel
theorem dX12_mindOf_73 : decode cX12_mindOf 73 = .ok (.imul, 1) := by decide +kernel
theorem dX12_mindOf_74 : decode cX12_mindOf 74 = .ok (.iadd, 1) := by decide +kernel
theorem dX12_mindOf_75 : decode cX12_mindOf 75 = .ok (.istore_n 3, 1) := by decide +kernel
theorem dX12_mindOf_76 : decode cX12_mindOf 76 = .ok (.iinc 4 1, 3) := by decide +kernel
theorem dX12_mindOf_79 : decode cX12_mindOf 79 = .ok (.goto (-74), 3) := by decide +kernel
theorem dX12_mindOf_82 : decode cX12_mindOf 82 = .ok (.iload_n 3, 1) := by decide +kernel
theorem dX12_mindOf_83 : decode cX12_mindOf 83 = .ok (.ireturn, 1) := by decide +kernel
theorem dX12_offerOf_0 : decode cX12_offerOf 0 = .ok (.aload_n 0, 1) := by decide +kernel
theorem dX12_offerOf_1 : decode cX12_offerOf 1 = .ok (.iload_n 1, 1) := by decide +kernel
theorem dX12_offerOf_2 : decode cX12_offerOf 2 = .ok (.iload_n 2, 1) := by decide +kernel
theorem dX12_offerOf_3 : decode cX12_offerOf 3 = .ok (.aload_n 0, 1) := by decide +kernel
theorem dX12_offerOf_4 : decode cX12_offerOf 4 = .ok (.iload_n 1, 1) := by decide +kernel
theorem dX12_offerOf_5 : decode cX12_offerOf 5 = .ok (.iload_n 2, 1) := by decide +kernel
theorem dX12_offerOf_6 : decode cX12_offerOf 6 = .ok (.invokevirtual 191, 3) := by decide +kernel
theorem dX12_offerOf_9 : decode cX12_offerOf 9 = .ok (.invokevirtual 194, 3) := by decide +kernel
theorem dX12_offerOf_12 : decode cX12_offerOf 12 = .ok (.ireturn, 1) := by decide +kernel
theorem dX12_tour_0 : decode cX12_tour 0 = .ok (.aload_n 0, 1) := by decide +kernel
theorem dX12_tour_1 : decode cX12_tour 1 = .ok (.iload_n 1, 1) := by decide +kernel
theorem dX12_tour_2 : decode cX12_tour 2 = .ok (.invokevirtual 197, 3) := by decide +kernel
theorem dX12_tour_5 : decode cX12_tour 5 = .ok (.istore 5, 2) := by decide +kernel
theorem dX12_tour_7 : decode cX12_tour 7 = .ok (.iload 5, 2) := by decide +kernel
theorem dX12_tour_9 : decode cX12_tour 9 = .ok (.ifCond .eq 9, 3) := by decide +kernel
theorem dX12_tour_12 : decode cX12_tour 12 = .ok (.ldc 200, 2) := by decide +kernel
theorem dX12_tour_14 : decode cX12_tour 14 = .ok (.iload 5, 2) := by decide +kernel
theorem dX12_tour_16 : decode cX12_tour 16 = .ok (.iadd, 1) := by decide +kernel
theorem dX12_tour_17 : decode cX12_tour 17 = .ok (.ireturn, 1) := by decide +kernel
theorem dX12_tour_18 : decode cX12_tour 18 = .ok (.aload_n 0, 1) := by decide +kernel
theorem dX12_tour_19 : decode cX12_tour 19 = .ok (.iload_n 2, 1) := by decide +kernel
theorem dX12_tour_20 : decode cX12_tour 20 = .ok (.invokevirtual 173, 3) := by decide +kernel
theorem dX12_tour_23 : decode cX12_tour 23 = .ok (.ifCond .eq 23, 3) := by decide +kernel
theorem dX12_tour_26 : decode cX12_tour 26 = .ok (.iload_n 3, 1) := by decide +kernel
theorem dX12_tour_27 : decode cX12_tour 27 = .ok (.iconst 1, 1) := by decide +kernel
theorem dX12_tour_28 : decode cX12_tour 28 = .ok (.bipush 8, 2) := by decide +kernel
theorem dX12_tour_30 : decode cX12_tour 30 = .ok (.invokestatic 90, 3) := by decide +kernel
theorem dX12_tour_33 : decode cX12_tour 33 = .ok (.ifCond .eq 13, 3) := by decide +kernel
theorem dX12_tour_36 : decode cX12_tour 36 = .ok (.iload 4, 2) := by decide +kernel
theorem dX12_tour_38 : decode cX12_tour 38 = .ok (.iconst 0, 1) := by decide +kernel
theorem dX12_tour_39 : decode cX12_tour 39 = .ok (.iconst 2, 1) := by decide +kernel
theorem dX12_tour_40 : decode cX12_tour 40 = .ok (.invokestatic 90, 3) := by decide +kernel
theorem dX12_tour_43 : decode cX12_tour 43 = .ok (.ifCond .ne 6, 3) := by decide +kernel
theorem dX12_tour_46 : decode cX12_tour 46 = .ok (.ldc 201, 2) := by decide +kernel
theorem dX12_tour_48 : decode cX12_tour 48 = .ok (.ireturn, 1) := by decide +kernel
theorem dX12_tour_49 : decode cX12_tour 49 = .ok (.iload 4, 2) := by decide +kernel
theorem dX12_tour_51 : decode cX12_tour 51 = .ok (.iconst 2, 1) := by decide +kernel
theorem dX12_tour_52 : decode cX12_tour 52 = .ok (.if_icmp .ne 32, 3) := by decide +kernel
theorem dX12_tour_55 : decode cX12_tour 55 = .ok (.aload_n 0, 1) := by decide +kernel
theorem dX12_tour_56 : decode cX12_tour 56 = .ok (.getfield 181, 3) := by decide +kernel
theorem dX12_tour_59 : decode cX12_tour 59 = .ok (.ifCond .ne 7, 3) := by decide +kernel
theorem dX12_tour_62 : decode cX12_tour 62 = .ok (.iconst 0, 1) := by decide +kernel
theorem dX12_tour_63 : decode cX12_tour 63 = .ok (.goto 20, 3) := by decide +kernel
theorem dX12_tour_66 : decode cX12_tour 66 = .ok (.aload_n 0, 1) := by decide +kernel
theorem dX12_tour_67 : decode cX12_tour 67 = .ok (.iload_n 2, 1) := by decide +kernel
theorem dX12_tour_68 : decode cX12_tour 68 = .ok (.aload_n 0, 1) := by decide +kernel
theorem dX12_tour_69 : decode cX12_tour 69 = .ok (.getfield 65, 3) := by decide +kernel
theorem dX12_tour_72 : decode cX12_tour 72 = .ok (.aload_n 0, 1) := by decide +kernel
theorem dX12_tour_73 : decode cX12_tour 73 = .ok (.getfield 181, 3) := by decide +kernel
theorem dX12_tour_76 : decode cX12_tour 76 = .ok (.iconst 1, 1) := by decide +kernel
theorem dX12_tour_77 : decode cX12_tour 77 = .ok (.isub, 1) := by decide +kernel
theorem dX12_tour_78 : decode cX12_tour 78 = .ok (.iaload, 1) := by decide +kernel
theorem dX12_tour_79 : decode cX12_tour 79 = .ok (.iload_n 3, 1) := by decide +kernel
theorem dX12_tour_80 : decode cX12_tour 80 = .ok (.invokevirtual 184, 3) := by decide +kernel
theorem dX12_tour_83 : decode cX12_tour 83 = .ok (.ireturn, 1) := by decide +kernel
theorem dX12_tour_84 : decode cX12_tour 84 = .ok (.iload 4, 2) := by decide +kernel
theorem dX12_tour_86 : decode cX12_tour 86 = .ok (.ifCond .ne 12, 3) := by decide +kernel
theorem dX12_tour_89 : decode cX12_tour 89 = .ok (.aload_n 0, 1) := by decide +kernel
theorem dX12_tour_90 : decode cX12_tour 90 = .ok (.iload_n 2, 1) := by decide +kernel
theorem dX12_tour_91 : decode cX12_tour 91 = .ok (.iload_n 3, 1) := by decide +kernel
theorem dX12_tour_92 : decode cX12_tour 92 = .ok (.invokevirtual 191, 3) := by decide +kernel
theorem dX12_tour_95 : decode cX12_tour 95 = .ok (.goto 9, 3) := by decide +kernel
theorem dX12_tour_98 : decode cX12_tour 98 = .ok (.aload_n 0, 1) := by decide +kernel
theorem dX12_tour_99 : decode cX12_tour 99 = .ok (.iload_n 2, 1) := by decide +kernel
theorem dX12_tour_100 : decode cX12_tour 100 = .ok (.iload_n 3, 1) := by decide +kernel
theorem dX12_tour_101 : decode cX12_tour 101 = .ok (.invokevirtual 202, 3) := by decide +kernel
theorem dX12_tour_104 : decode cX12_tour 104 = .ok (.ireturn, 1) := by decide +kernel
theorem dX12_crowdOf_0 : decode cX12_crowdOf 0 = .ok (.iconst 0, 1) := by decide +kernel
theorem dX12_crowdOf_1 : decode cX12_crowdOf 1 = .ok (.istore_n 2, 1) := by decide +kernel
theorem dX12_crowdOf_2 : decode cX12_crowdOf 2 = .ok (.iconst 0, 1) := by decide +kernel
theorem dX12_crowdOf_3 : decode cX12_crowdOf 3 = .ok (.istore_n 3, 1) := by decide +kernel
theorem dX12_crowdOf_4 : decode cX12_crowdOf 4 = .ok (.iload_n 3, 1) := by decide +kernel
theorem dX12_crowdOf_5 : decode cX12_crowdOf 5 = .ok (.bipush 8, 2) := by decide +kernel
theorem dX12_crowdOf_7 : decode cX12_crowdOf 7 = .ok (.if_icmp .ge 17, 3) := by decide +kernel
theorem dX12_crowdOf_10 : decode cX12_crowdOf 10 = .ok (.iload_n 2, 1) := by decide +kernel
theorem dX12_crowdOf_11 : decode cX12_crowdOf 11 = .ok (.iload_n 1, 1) := by decide +kernel
theorem dX12_crowdOf_12 : decode cX12_crowdOf 12 = .ok (.iload_n 3, 1) := by decide +kernel
theorem dX12_crowdOf_13 : decode cX12_crowdOf 13 = .ok (.ishr, 1) := by decide +kernel
theorem dX12_crowdOf_14 : decode cX12_crowdOf 14 = .ok (.iconst 1, 1) := by decide +kernel
theorem dX12_crowdOf_15 : decode cX12_crowdOf 15 = .ok (.iand, 1) := by decide +kernel
theorem dX12_crowdOf_16 : decode cX12_crowdOf 16 = .ok (.iadd, 1) := by decide +kernel
theorem dX12_crowdOf_17 : decode cX12_crowdOf 17 = .ok (.istore_n 2, 1) := by decide +kernel
theorem dX12_crowdOf_18 : decode cX12_crowdOf 18 = .ok (.iinc 3 1, 3) := by decide +kernel
theorem dX12_crowdOf_21 : decode cX12_crowdOf 21 = .ok (.goto (-17), 3) := by decide +kernel
theorem dX12_crowdOf_24 : decode cX12_crowdOf 24 = .ok (.iload_n 2, 1) := by decide +kernel
theorem dX12_crowdOf_25 : decode cX12_crowdOf 25 = .ok (.ireturn, 1) := by decide +kernel
theorem dX12_shows_0 : decode cX12_shows 0 = .ok (.aload_n 0, 1) := by decide +kernel
theorem dX12_shows_1 : decode cX12_shows 1 = .ok (.iload_n 1, 1) := by decide +kernel
theorem dX12_shows_2 : decode cX12_shows 2 = .ok (.invokevirtual 205, 3) := by decide +kernel
theorem dX12_shows_5 : decode cX12_shows 5 = .ok (.istore_n 2, 1) := by decide +kernel
theorem dX12_shows_6 : decode cX12_shows 6 = .ok (.aload_n 0, 1) := by decide +kernel
theorem dX12_shows_7 : decode cX12_shows 7 = .ok (.iconst (-1), 1) := by decide +kernel
theorem dX12_shows_8 : decode cX12_shows 8 = .ok (.putfield 208, 3) := by decide +kernel
theorem dX12_shows_11 : decode cX12_shows 11 = .ok (.aload_n 0, 1) := by decide +kernel
theorem dX12_shows_12 : decode cX12_shows 12 = .ok (.iconst 0, 1) := by decide +kernel
theorem dX12_shows_13 : decode cX12_shows 13 = .ok (.putfield 211, 3) := by decide +kernel
theorem dX12_shows_16 : decode cX12_shows 16 = .ok (.aload_n 0, 1) := by decide +kernel
theorem dX12_shows_17 : decode cX12_shows 17 = .ok (.iconst 0, 1) := by decide +kernel
theorem dX12_shows_18 : decode cX12_shows 18 = .ok (.putfield 214, 3) := by decide +kernel
theorem dX12_shows_21 : decode cX12_shows 21 = .ok (.iconst 0, 1) := by decide +kernel
theorem dX12_shows_22 : decode cX12_shows 22 = .ok (.istore_n 3, 1) := by decide +kernel
theorem dX12_shows_23 : decode cX12_shows 23 = .ok (.iload_n 3, 1) := by decide +kernel
theorem dX12_shows_24 : decode cX12_shows 24 = .ok (.aload_n 0, 1) := by decide +kernel
theorem dX12_shows_25 : decode cX12_shows 25 = .ok (.getfield 87, 3) := by decide +kernel
theorem dX12_shows_28 : decode cX12_shows 28 = .ok (.if_icmp .ge 87, 3) := by decide +kernel
theorem dX12_shows_31 : decode cX12_shows 31 = .ok (.iload_n 1, 1) := by decide +kernel
theorem dX12_shows_32 : decode cX12_shows 32 = .ok (.iload_n 3, 1) := by decide +kernel
theorem dX12_shows_33 : decode cX12_shows 33 = .ok (.ishr, 1) := by decide +kernel
theorem dX12_shows_34 : decode cX12_shows 34 = .ok (.iconst 1, 1) := by decide +kernel
theorem dX12_shows_35 : decode cX12_shows 35 = .ok (.iand, 1) := by decide +kernel
theorem dX12_shows_36 : decode cX12_shows 36 = .ok (.iconst 1, 1) := by decide +kernel
theorem dX12_shows_37 : decode cX12_shows 37 = .ok (.if_icmp .ne 72, 3) := by decide +kernel
theorem dX12_shows_40 : decode cX12_shows 40 = .ok (.aload_n 0, 1) := by decide +kernel
theorem dX12_shows_41 : decode cX12_shows 41 = .ok (.iload_n 3, 1) := by decide +kernel
theorem dX12_shows_42 : decode cX12_shows 42 = .ok (.iload_n 2, 1) := by decide +kernel
theorem dX12_shows_43 : decode cX12_shows 43 = .ok (.invokevirtual 202, 3) := by decide +kernel
theorem dX12_shows_46 : decode cX12_shows 46 = .ok (.istore 4, 2) := by decide +kernel
theorem dX12_shows_48 : decode cX12_shows 48 = .ok (.aload_n 0, 1) := by decide +kernel
theorem dX12_shows_49 : decode cX12_shows 49 = .ok (.getfield 208, 3) := by decide +kernel
theorem dX12_shows_52 : decode cX12_shows 52 = .ok (.iconst (-1), 1) := by decide +kernel
theorem dX12_shows_53 : decode cX12_shows 53 = .ok (.if_icmp .eq 12, 3) := by decide +kernel
theorem dX12_shows_56 : decode cX12_shows 56 = .ok (.iload 4, 2) := by decide +kernel
theorem dX12_shows_58 : decode cX12_shows 58 = .ok (.aload_n 0, 1) := by decide +kernel
theorem dX12_shows_59 : decode cX12_shows 59 = .ok (.getfield 211, 3) := by decide +kernel
theorem dX12_shows_62 : decode cX12_shows 62 = .ok (.if_icmp .le 25, 3) := by decide +kernel
theorem dX12_shows_65 : decode cX12_shows 65 = .ok (.aload_n 0, 1) := by decide +kernel
theorem dX12_shows_66 : decode cX12_shows 66 = .ok (.aload_n 0, 1) := by decide +kernel
theorem dX12_shows_67 : decode cX12_shows 67 = .ok (.getfield 211, 3) := by decide +kernel
theorem dX12_shows_70 : decode cX12_shows 70 = .ok (.putfield 214, 3) := by decide +kernel
theorem dX12_shows_73 : decode cX12_shows 73 = .ok (.aload_n 0, 1) := by decide +kernel
theorem dX12_shows_74 : decode cX12_shows 74 = .ok (.iload_n 3, 1) := by decide +kernel
theorem dX12_shows_75 : decode cX12_shows 75 = .ok (.putfield 208, 3) := by decide +kernel
theorem dX12_shows_78 : decode cX12_shows 78 = .ok (.aload_n 0, 1) := by decide +kernel
theorem dX12_shows_79 : decode cX12_shows 79 = .ok (.iload 4, 2) := by decide +kernel
theorem dX12_shows_81 : decode cX12_shows 81 = .ok (.putfield 211, 3) := by decide +kernel
theorem dX12_shows_84 : decode cX12_shows 84 = .ok (.goto 25, 3) := by decide +kernel
theorem dX12_shows_87 : decode cX12_shows 87 = .ok (.aload_n 0, 1) := by decide +kernel
theorem dX12_shows_88 : decode cX12_shows 88 = .ok (.iload 4, 2) := by decide +kernel
theorem dX12_shows_90 : decode cX12_shows 90 = .ok (.aload_n 0, 1) := by decide +kernel
theorem dX12_shows_91 : decode cX12_shows 91 = .ok (.getfield 214, 3) := by decide +kernel
theorem dX12_shows_94 : decode cX12_shows 94 = .ok (.if_icmp .le 8, 3) := by decide +kernel
theorem dX12_shows_97 : decode cX12_shows 97 = .ok (.iload 4, 2) := by decide +kernel
theorem dX12_shows_99 : decode cX12_shows 99 = .ok (.goto 7, 3) := by decide +kernel
theorem dX12_shows_102 : decode cX12_shows 102 = .ok (.aload_n 0, 1) := by decide +kernel
theorem dX12_shows_103 : decode cX12_shows 103 = .ok (.getfield 214, 3) := by decide +kernel
theorem dX12_shows_106 : decode cX12_shows 106 = .ok (.putfield 214, 3) := by decide +kernel
theorem dX12_shows_109 : decode cX12_shows 109 = .ok (.iinc 3 1, 3) := by decide +kernel
theorem dX12_shows_112 : decode cX12_shows 112 = .ok (.goto (-89), 3) := by decide +kernel
theorem dX12_shows_115 : decode cX12_shows 115 = .ok (.return_, 1) := by decide +kernel
theorem dX12_isSome_0 : decode cX12_isSome 0 = .ok (.iload_n 1, 1) := by decide +kernel
theorem dX12_isSome_1 : decode cX12_isSome 1 = .ok (.iconst 0, 1) := by decide +kernel
theorem dX12_isSome_2 : decode cX12_isSome 2 = .ok (.iconst 1, 1) := by decide +kernel
theorem dX12_isSome_3 : decode cX12_isSome 3 = .ok (.aload_n 0, 1) := by decide +kernel
theorem dX12_isSome_4 : decode cX12_isSome 4 = .ok (.getfield 87, 3) := by decide +kernel
theorem dX12_isSome_7 : decode cX12_isSome 7 = .ok (.ishl, 1) := by decide +kernel
theorem dX12_isSome_8 : decode cX12_isSome 8 = .ok (.iconst 1, 1) := by decide +kernel
theorem dX12_isSome_9 : decode cX12_isSome 9 = .ok (.isub, 1) := by decide +kernel
theorem dX12_isSome_10 : decode cX12_isSome 10 = .ok (.invokestatic 90, 3) := by decide +kernel
theorem dX12_isSome_13 : decode cX12_isSome 13 = .ok (.ireturn, 1) := by decide +kernel
theorem dX12_shown_0 : decode cX12_shown 0 = .ok (.aload_n 0, 1) := by decide +kernel
theorem dX12_shown_1 : decode cX12_shown 1 = .ok (.iload_n 1, 1) := by decide +kernel
theorem dX12_shown_2 : decode cX12_shown 2 = .ok (.invokevirtual 197, 3) := by decide +kernel
theorem dX12_shown_5 : decode cX12_shown 5 = .ok (.istore 4, 2) := by decide +kernel
theorem dX12_shown_7 : decode cX12_shown 7 = .ok (.iload 4, 2) := by decide +kernel
theorem dX12_shown_9 : decode cX12_shown 9 = .ok (.ifCond .eq 6, 3) := by decide +kernel
theorem dX12_shown_12 : decode cX12_shown 12 = .ok (.iload 4, 2) := by decide +kernel
theorem dX12_shown_14 : decode cX12_shown 14 = .ok (.ireturn, 1) := by decide +kernel
theorem dX12_shown_15 : decode cX12_shown 15 = .ok (.aload_n 0, 1) := by decide +kernel
theorem dX12_shown_16 : decode cX12_shown 16 = .ok (.iload_n 2, 1) := by decide +kernel
theorem dX12_shown_17 : decode cX12_shown 17 = .ok (.invokevirtual 217, 3) := by decide +kernel
theorem dX12_shown_20 : decode cX12_shown 20 = .ok (.ifCond .eq 12, 3) := by decide +kernel
theorem dX12_shown_23 : decode cX12_shown 23 = .ok (.iload_n 3, 1) := by decide +kernel
theorem dX12_shown_24 : decode cX12_shown 24 = .ok (.iconst 0, 1) := by decide +kernel
theorem dX12_shown_25 : decode cX12_shown 25 = .ok (.iconst 2, 1) := by decide +kernel
theorem dX12_shown_26 : decode cX12_shown 26 = .ok (.invokestatic 90, 3) := by decide +kernel
theorem dX12_shown_29 : decode cX12_shown 29 = .ok (.ifCond .ne 6, 3) := by decide +kernel
theorem dX12_shown_32 : decode cX12_shown 32 = .ok (.bipush (-7), 2) := by decide +kernel
theorem dX12_shown_34 : decode cX12_shown 34 = .ok (.ireturn, 1) := by decide +kernel
theorem dX12_shown_35 : decode cX12_shown 35 = .ok (.aload_n 0, 1) := by decide +kernel
theorem dX12_shown_36 : decode cX12_shown 36 = .ok (.iload_n 2, 1) := by decide +kernel
theorem dX12_shown_37 : decode cX12_shown 37 = .ok (.invokevirtual 220, 3) := by decide +kernel
theorem dX12_shown_40 : decode cX12_shown 40 = .ok (.iload_n 3, 1) := by decide +kernel
theorem dX12_shown_41 : decode cX12_shown 41 = .ok (.ifCond .ne 10, 3) := by decide +kernel
theorem dX12_shown_44 : decode cX12_shown 44 = .ok (.aload_n 0, 1) := by decide +kernel
theorem dX12_shown_45 : decode cX12_shown 45 = .ok (.getfield 208, 3) := by decide +kernel
theorem dX12_shown_48 : decode cX12_shown 48 = .ok (.goto 19, 3) := by decide +kernel
theorem dX12_shown_51 : decode cX12_shown 51 = .ok (.iload_n 3, 1) := by decide +kernel
theorem dX12_shown_52 : decode cX12_shown 52 = .ok (.iconst 1, 1) := by decide +kernel
theorem dX12_shown_53 : decode cX12_shown 53 = .ok (.if_icmp .ne 10, 3) := by decide +kernel
theorem dX12_shown_56 : decode cX12_shown 56 = .ok (.aload_n 0, 1) := by decide +kernel
theorem dX12_shown_57 : decode cX12_shown 57 = .ok (.getfield 211, 3) := by decide +kernel
theorem dX12_shown_60 : decode cX12_shown 60 = .ok (.goto 7, 3) := by decide +kernel
theorem dX12_shown_63 : decode cX12_shown 63 = .ok (.aload_n 0, 1) := by decide +kernel
theorem dX12_shown_64 : decode cX12_shown 64 = .ok (.getfield 214, 3) := by decide +kernel
theorem dX12_shown_67 : decode cX12_shown 67 = .ok (.ireturn, 1) := by decide +kernel
theorem dX12_addsMinds_0 : decode cX12_addsMinds 0 = .ok (.iconst 0, 1) := by decide +kernel
theorem dX12_addsMinds_1 : decode cX12_addsMinds 1 = .ok (.istore_n 3, 1) := by decide +kernel
theorem dX12_addsMinds_2 : decode cX12_addsMinds 2 = .ok (.iconst 0, 1) := by decide +kernel
theorem dX12_addsMinds_3 : decode cX12_addsMinds 3 = .ok (.istore 4, 2) := by decide +kernel
theorem dX12_addsMinds_5 : decode cX12_addsMinds 5 = .ok (.iload 4, 2) := by decide +kernel
theorem dX12_addsMinds_7 : decode cX12_addsMinds 7 = .ok (.bipush 6, 2) := by decide +kernel
theorem dX12_addsMinds_9 : decode cX12_addsMinds 9 = .ok (.if_icmp .ge 37, 3) := by decide +kernel
theorem dX12_addsMinds_12 : decode cX12_addsMinds 12 = .ok (.aload_n 0, 1) := by decide +kernel
theorem dX12_addsMinds_13 : decode cX12_addsMinds 13 = .ok (.iload_n 1, 1) := by decide +kernel
theorem dX12_addsMinds_14 : decode cX12_addsMinds 14 = .ok (.iload 4, 2) := by decide +kernel
theorem dX12_addsMinds_16 : decode cX12_addsMinds 16 = .ok (.iload_n 2, 1) := by decide +kernel
theorem dX12_addsMinds_17 : decode cX12_addsMinds 17 = .ok (.invokevirtual 184, 3) := by decide +kernel
theorem dX12_addsMinds_20 : decode cX12_addsMinds 20 = .ok (.istore 5, 2) := by decide +kernel
theorem dX12_addsMinds_22 : decode cX12_addsMinds 22 = .ok (.iload_n 3, 1) := by decide +kernel
theorem dX12_addsMinds_23 : decode cX12_addsMinds 23 = .ok (.iload 5, 2) := by decide +kernel
theorem dX12_addsMinds_25 : decode cX12_addsMinds 25 = .ok (.aload_n 0, 1) := by decide +kernel
theorem dX12_addsMinds_26 : decode cX12_addsMinds 26 = .ok (.iload_n 1, 1) := by decide +kernel
theorem dX12_addsMinds_27 : decode cX12_addsMinds 27 = .ok (.iload 4, 2) := by decide +kernel
theorem dX12_addsMinds_29 : decode cX12_addsMinds 29 = .ok (.iload_n 2, 1) := by decide +kernel
theorem dX12_addsMinds_30 : decode cX12_addsMinds 30 = .ok (.iload 5, 2) := by decide +kernel
theorem dX12_addsMinds_32 : decode cX12_addsMinds 32 = .ok (.iconst 0, 1) := by decide +kernel
theorem dX12_addsMinds_33 : decode cX12_addsMinds 33 = .ok (.iconst 0, 1) := by decide +kernel
theorem dX12_addsMinds_34 : decode cX12_addsMinds 34 = .ok (.invokevirtual 187, 3) := by decide +kernel
theorem dX12_addsMinds_37 : decode cX12_addsMinds 37 = .ok (.imul, 1) := by decide +kernel
theorem dX12_addsMinds_38 : decode cX12_addsMinds 38 = .ok (.iadd, 1) := by decide +kernel
theorem dX12_addsMinds_39 : decode cX12_addsMinds 39 = .ok (.istore_n 3, 1) := by decide +kernel
theorem dX12_addsMinds_40 : decode cX12_addsMinds 40 = .ok (.iinc 4 1, 3) := by decide +kernel
theorem dX12_addsMinds_43 : decode cX12_addsMinds 43 = .ok (.goto (-38), 3) := by decide +kernel
theorem dX12_addsMinds_46 : decode cX12_addsMinds 46 = .ok (.iconst 0, 1) := by decide +kernel
theorem dX12_addsMinds_47 : decode cX12_addsMinds 47 = .ok (.istore 4, 2) := by decide +kernel
theorem dX12_addsMinds_49 : decode cX12_addsMinds 49 = .ok (.iload 4, 2) := by decide +kernel
theorem dX12_addsMinds_51 : decode cX12_addsMinds 51 = .ok (.bipush 6, 2) := by decide +kernel
theorem dX12_addsMinds_53 : decode cX12_addsMinds 53 = .ok (.if_icmp .ge 128, 3) := by decide +kernel
theorem dX12_addsMinds_56 : decode cX12_addsMinds 56 = .ok (.aload_n 0, 1) := by decide +kernel
theorem dX12_addsMinds_57 : decode cX12_addsMinds 57 = .ok (.iload_n 1, 1) := by decide +kernel
theorem dX12_addsMinds_58 : decode cX12_addsMinds 58 = .ok (.iload 4, 2) := by decide +kernel
theorem dX12_addsMinds_60 : decode cX12_addsMinds 60 = .ok (.iload_n 2, 1) := by decide +kernel
theorem dX12_addsMinds_61 : decode cX12_addsMinds 61 = .ok (.invokevirtual 184, 3) := by decide +kernel
theorem dX12_addsMinds_64 : decode cX12_addsMinds 64 = .ok (.istore 5, 2) := by decide +kernel
theorem dX12_addsMinds_66 : decode cX12_addsMinds 66 = .ok (.aload_n 0, 1) := by decide +kernel
theorem dX12_addsMinds_67 : decode cX12_addsMinds 67 = .ok (.iload_n 1, 1) := by decide +kernel
theorem dX12_addsMinds_68 : decode cX12_addsMinds 68 = .ok (.iload 4, 2) := by decide +kernel
theorem dX12_addsMinds_70 : decode cX12_addsMinds 70 = .ok (.iload_n 2, 1) := by decide +kernel
theorem dX12_addsMinds_71 : decode cX12_addsMinds 71 = .ok (.iload 5, 2) := by decide +kernel
theorem dX12_addsMinds_73 : decode cX12_addsMinds 73 = .ok (.iconst 1, 1) := by decide +kernel
theorem dX12_addsMinds_74 : decode cX12_addsMinds 74 = .ok (.iconst 0, 1) := by decide +kernel
theorem dX12_addsMinds_75 : decode cX12_addsMinds 75 = .ok (.invokevirtual 187, 3) := by decide +kernel
theorem dX12_addsMinds_78 : decode cX12_addsMinds 78 = .ok (.aload_n 0, 1) := by decide +kernel
theorem dX12_addsMinds_79 : decode cX12_addsMinds 79 = .ok (.iload_n 1, 1) := by decide +kernel
theorem dX12_addsMinds_80 : decode cX12_addsMinds 80 = .ok (.iload 4, 2) := by decide +kernel
theorem dX12_addsMinds_82 : decode cX12_addsMinds 82 = .ok (.iload_n 2, 1) := by decide +kernel
theorem dX12_addsMinds_83 : decode cX12_addsMinds 83 = .ok (.iload 5, 2) := by decide +kernel
theorem dX12_addsMinds_85 : decode cX12_addsMinds 85 = .ok (.iconst 0, 1) := by decide +kernel
theorem dX12_addsMinds_86 : decode cX12_addsMinds 86 = .ok (.iconst 0, 1) := by decide +kernel
theorem dX12_addsMinds_87 : decode cX12_addsMinds 87 = .ok (.invokevirtual 187, 3) := by decide +kernel
theorem dX12_addsMinds_90 : decode cX12_addsMinds 90 = .ok (.isub, 1) := by decide +kernel
theorem dX12_addsMinds_91 : decode cX12_addsMinds 91 = .ok (.istore 6, 2) := by decide +kernel
theorem dX12_addsMinds_93 : decode cX12_addsMinds 93 = .ok (.iconst 0, 1) := by decide +kernel
theorem dX12_addsMinds_94 : decode cX12_addsMinds 94 = .ok (.istore 7, 2) := by decide +kernel
theorem dX12_addsMinds_96 : decode cX12_addsMinds 96 = .ok (.iload 7, 2) := by decide +kernel
theorem dX12_addsMinds_98 : decode cX12_addsMinds 98 = .ok (.bipush 6, 2) := by decide +kernel
theorem dX12_addsMinds_100 : decode cX12_addsMinds 100 = .ok (.if_icmp .ge 75, 3) := by decide +kernel
theorem dX12_addsMinds_103 : decode cX12_addsMinds 103 = .ok (.aload_n 0, 1) := by decide +kernel
theorem dX12_addsMinds_104 : decode cX12_addsMinds 104 = .ok (.iload_n 1, 1) := by decide +kernel
theorem dX12_addsMinds_105 : decode cX12_addsMinds 105 = .ok (.iload 7, 2) := by decide +kernel
theorem dX12_addsMinds_107 : decode cX12_addsMinds 107 = .ok (.iload_n 2, 1) := by decide +kernel
theorem dX12_addsMinds_108 : decode cX12_addsMinds 108 = .ok (.invokevirtual 184, 3) := by decide +kernel
theorem dX12_addsMinds_111 : decode cX12_addsMinds 111 = .ok (.istore 8, 2) := by decide +kernel
theorem dX12_addsMinds_113 : decode cX12_addsMinds 113 = .ok (.aload_n 0, 1) := by decide +kernel
theorem dX12_addsMinds_114 : decode cX12_addsMinds 114 = .ok (.iload_n 1, 1) := by decide +kernel
theorem dX12_addsMinds_115 : decode cX12_addsMinds 115 = .ok (.iload 7, 2) := by decide +kernel
theorem dX12_addsMinds_117 : decode cX12_addsMinds 117 = .ok (.iload_n 2, 1) := by decide +kernel
theorem dX12_addsMinds_118 : decode cX12_addsMinds 118 = .ok (.iload 8, 2) := by decide +kernel
theorem dX12_addsMinds_120 : decode cX12_addsMinds 120 = .ok (.iconst 0, 1) := by decide +kernel
theorem dX12_addsMinds_121 : decode cX12_addsMinds 121 = .ok (.iconst 1, 1) := by decide +kernel
theorem dX12_addsMinds_122 : decode cX12_addsMinds 122 = .ok (.invokevirtual 187, 3) := by decide +kernel
theorem dX12_addsMinds_125 : decode cX12_addsMinds 125 = .ok (.aload_n 0, 1) := by decide +kernel
theorem dX12_addsMinds_126 : decode cX12_addsMinds 126 = .ok (.iload_n 1, 1) := by decide +kernel
theorem dX12_addsMinds_127 : decode cX12_addsMinds 127 = .ok (.iload 7, 2) := by decide +kernel
theorem dX12_addsMinds_129 : decode cX12_addsMinds 129 = .ok (.iload_n 2, 1) := by decide +kernel
theorem dX12_addsMinds_130 : decode cX12_addsMinds 130 = .ok (.iload 8, 2) := by decide +kernel
theorem dX12_addsMinds_132 : decode cX12_addsMinds 132 = .ok (.iconst 0, 1) := by decide +kernel
theorem dX12_addsMinds_133 : decode cX12_addsMinds 133 = .ok (.iconst 0, 1) := by decide +kernel
theorem dX12_addsMinds_134 : decode cX12_addsMinds 134 = .ok (.invokevirtual 187, 3) := by decide +kernel
theorem dX12_addsMinds_137 : decode cX12_addsMinds 137 = .ok (.isub, 1) := by decide +kernel
theorem dX12_addsMinds_138 : decode cX12_addsMinds 138 = .ok (.istore 9, 2) := by decide +kernel
theorem dX12_addsMinds_140 : decode cX12_addsMinds 140 = .ok (.aload_n 0, 1) := by decide +kernel
theorem dX12_addsMinds_141 : decode cX12_addsMinds 141 = .ok (.getfield 68, 3) := by decide +kernel
theorem dX12_addsMinds_144 : decode cX12_addsMinds 144 = .ok (.bipush 6, 2) := by decide +kernel
theorem dX12_addsMinds_146 : decode cX12_addsMinds 146 = .ok (.iload 4, 2) := by decide +kernel
theorem dX12_addsMinds_148 : decode cX12_addsMinds 148 = .ok (.imul, 1) := by decide +kernel
theorem dX12_addsMinds_149 : decode cX12_addsMinds 149 = .ok (.iload 7, 2) := by decide +kernel
theorem dX12_addsMinds_151 : decode cX12_addsMinds 151 = .ok (.iadd, 1) := by decide +kernel
theorem dX12_addsMinds_152 : decode cX12_addsMinds 152 = .ok (.dup2, 1) := by decide +kernel
theorem dX12_addsMinds_153 : decode cX12_addsMinds 153 = .ok (.iaload, 1) := by decide +kernel
theorem dX12_addsMinds_154 : decode cX12_addsMinds 154 = .ok (.iload_n 3, 1) := by decide +kernel
theorem dX12_addsMinds_155 : decode cX12_addsMinds 155 = .ok (.iload 5, 2) := by decide +kernel
theorem dX12_addsMinds_157 : decode cX12_addsMinds 157 = .ok (.iload 6, 2) := by decide +kernel
theorem dX12_addsMinds_159 : decode cX12_addsMinds 159 = .ok (.imul, 1) := by decide +kernel
theorem dX12_addsMinds_160 : decode cX12_addsMinds 160 = .ok (.iadd, 1) := by decide +kernel
theorem dX12_addsMinds_161 : decode cX12_addsMinds 161 = .ok (.iload 8, 2) := by decide +kernel
theorem dX12_addsMinds_163 : decode cX12_addsMinds 163 = .ok (.iload 9, 2) := by decide +kernel
theorem dX12_addsMinds_165 : decode cX12_addsMinds 165 = .ok (.imul, 1) := by decide +kernel
theorem dX12_addsMinds_166 : decode cX12_addsMinds 166 = .ok (.iadd, 1) := by decide +kernel
theorem dX12_addsMinds_167 : decode cX12_addsMinds 167 = .ok (.iadd, 1) := by decide +kernel
theorem dX12_addsMinds_168 : decode cX12_addsMinds 168 = .ok (.iastore, 1) := by decide +kernel
theorem dX12_addsMinds_169 : decode cX12_addsMinds 169 = .ok (.iinc 7 1, 3) := by decide +kernel
theorem dX12_addsMinds_172 : decode cX12_addsMinds 172 = .ok (.goto (-76), 3) := by decide +kernel
theorem dX12_addsMinds_175 : decode cX12_addsMinds 175 = .ok (.iinc 4 1, 3) := by decide +kernel
theorem dX12_addsMinds_178 : decode cX12_addsMinds 178 = .ok (.goto (-129), 3) := by decide +kernel
theorem dX12_addsMinds_181 : decode cX12_addsMinds 181 = .ok (.return_, 1) := by decide +kernel
theorem dX12_digitsOf_0 : decode cX12_digitsOf 0 = .ok (.iconst 0, 1) := by decide +kernel
theorem dX12_digitsOf_1 : decode cX12_digitsOf 1 = .ok (.istore_n 2, 1) := by decide +kernel
theorem dX12_digitsOf_2 : decode cX12_digitsOf 2 = .ok (.iconst 0, 1) := by decide +kernel
theorem dX12_digitsOf_3 : decode cX12_digitsOf 3 = .ok (.istore_n 3, 1) := by decide +kernel
theorem dX12_digitsOf_4 : decode cX12_digitsOf 4 = .ok (.iconst 1, 1) := by decide +kernel
theorem dX12_digitsOf_5 : decode cX12_digitsOf 5 = .ok (.istore 4, 2) := by decide +kernel
theorem dX12_digitsOf_7 : decode cX12_digitsOf 7 = .ok (.iload_n 1, 1) := by decide +kernel
theorem dX12_digitsOf_8 : decode cX12_digitsOf 8 = .ok (.istore 5, 2) := by decide +kernel
theorem dX12_digitsOf_10 : decode cX12_digitsOf 10 = .ok (.iconst 0, 1) := by decide +kernel
theorem dX12_digitsOf_11 : decode cX12_digitsOf 11 = .ok (.istore 6, 2) := by decide +kernel
theorem dX12_digitsOf_13 : decode cX12_digitsOf 13 = .ok (.iload 6, 2) := by decide +kernel
theorem dX12_digitsOf_15 : decode cX12_digitsOf 15 = .ok (.bipush 6, 2) := by decide +kernel
theorem dX12_digitsOf_17 : decode cX12_digitsOf 17 = .ok (.if_icmp .ge 59, 3) := by decide +kernel
theorem dX12_digitsOf_20 : decode cX12_digitsOf 20 = .ok (.iload 5, 2) := by decide +kernel
theorem dX12_digitsOf_22 : decode cX12_digitsOf 22 = .ok (.bipush 6, 2) := by decide +kernel
theorem dX12_digitsOf_24 : decode cX12_digitsOf 24 = .ok (.irem, 1) := by decide +kernel
theorem dX12_digitsOf_25 : decode cX12_digitsOf 25 = .ok (.istore 7, 2) := by decide +kernel
theorem dX12_digitsOf_27 : decode cX12_digitsOf 27 = .ok (.iload 5, 2) := by decide +kernel
theorem dX12_digitsOf_29 : decode cX12_digitsOf 29 = .ok (.bipush 6, 2) := by decide +kernel
theorem dX12_digitsOf_31 : decode cX12_digitsOf 31 = .ok (.idiv, 1) := by decide +kernel
theorem dX12_digitsOf_32 : decode cX12_digitsOf 32 = .ok (.istore 5, 2) := by decide +kernel
theorem dX12_digitsOf_34 : decode cX12_digitsOf 34 = .ok (.iload_n 2, 1) := by decide +kernel
theorem dX12_digitsOf_35 : decode cX12_digitsOf 35 = .ok (.iload 7, 2) := by decide +kernel
theorem dX12_digitsOf_37 : decode cX12_digitsOf 37 = .ok (.ishr, 1) := by decide +kernel
theorem dX12_digitsOf_38 : decode cX12_digitsOf 38 = .ok (.iconst 1, 1) := by decide +kernel
theorem dX12_digitsOf_39 : decode cX12_digitsOf 39 = .ok (.iand, 1) := by decide +kernel
theorem dX12_digitsOf_40 : decode cX12_digitsOf 40 = .ok (.iconst 1, 1) := by decide +kernel
theorem dX12_digitsOf_41 : decode cX12_digitsOf 41 = .ok (.if_icmp .ne 5, 3) := by decide +kernel
theorem dX12_digitsOf_44 : decode cX12_digitsOf 44 = .ok (.iconst 0, 1) := by decide +kernel
theorem dX12_digitsOf_45 : decode cX12_digitsOf 45 = .ok (.ireturn, 1) := by decide +kernel
theorem dX12_digitsOf_46 : decode cX12_digitsOf 46 = .ok (.iload_n 2, 1) := by decide +kernel
theorem dX12_digitsOf_47 : decode cX12_digitsOf 47 = .ok (.iconst 1, 1) := by decide +kernel
theorem dX12_digitsOf_48 : decode cX12_digitsOf 48 = .ok (.iload 7, 2) := by decide +kernel
theorem dX12_digitsOf_50 : decode cX12_digitsOf 50 = .ok (.ishl, 1) := by decide +kernel
theorem dX12_digitsOf_51 : decode cX12_digitsOf 51 = .ok (.ior, 1) := by decide +kernel
theorem dX12_digitsOf_52 : decode cX12_digitsOf 52 = .ok (.istore_n 2, 1) := by decide +kernel
theorem dX12_digitsOf_53 : decode cX12_digitsOf 53 = .ok (.iload_n 3, 1) := by decide +kernel
theorem dX12_digitsOf_54 : decode cX12_digitsOf 54 = .ok (.iload 4, 2) := by decide +kernel
theorem dX12_digitsOf_56 : decode cX12_digitsOf 56 = .ok (.iload 7, 2) := by decide +kernel
theorem dX12_digitsOf_58 : decode cX12_digitsOf 58 = .ok (.iconst 1, 1) := by decide +kernel
theorem dX12_digitsOf_59 : decode cX12_digitsOf 59 = .ok (.iadd, 1) := by decide +kernel
theorem dX12_digitsOf_60 : decode cX12_digitsOf 60 = .ok (.imul, 1) := by decide +kernel
theorem dX12_digitsOf_61 : decode cX12_digitsOf 61 = .ok (.iadd, 1) := by decide +kernel
theorem dX12_digitsOf_62 : decode cX12_digitsOf 62 = .ok (.istore_n 3, 1) := by decide +kernel
theorem dX12_digitsOf_63 : decode cX12_digitsOf 63 = .ok (.iload 4, 2) := by decide +kernel
theorem dX12_digitsOf_65 : decode cX12_digitsOf 65 = .ok (.bipush 10, 2) := by decide +kernel
theorem dX12_digitsOf_67 : decode cX12_digitsOf 67 = .ok (.imul, 1) := by decide +kernel
theorem dX12_digitsOf_68 : decode cX12_digitsOf 68 = .ok (.istore 4, 2) := by decide +kernel
theorem dX12_digitsOf_70 : decode cX12_digitsOf 70 = .ok (.iinc 6 1, 3) := by decide +kernel
theorem dX12_digitsOf_73 : decode cX12_digitsOf 73 = .ok (.goto (-60), 3) := by decide +kernel
theorem dX12_digitsOf_76 : decode cX12_digitsOf 76 = .ok (.iload_n 3, 1) := by decide +kernel
theorem dX12_digitsOf_77 : decode cX12_digitsOf 77 = .ok (.ireturn, 1) := by decide +kernel
theorem dX12_best_0 : decode cX12_best 0 = .ok (.iload_n 1, 1) := by decide +kernel
theorem dX12_best_1 : decode cX12_best 1 = .ok (.iconst (-1), 1) := by decide +kernel
theorem dX12_best_2 : decode cX12_best 2 = .ok (.if_icmp .eq 14, 3) := by decide +kernel
theorem dX12_best_5 : decode cX12_best 5 = .ok (.aload_n 0, 1) := by decide +kernel
theorem dX12_best_6 : decode cX12_best 6 = .ok (.iload_n 1, 1) := by decide +kernel
theorem dX12_best_7 : decode cX12_best 7 = .ok (.invokevirtual 173, 3) := by decide +kernel
theorem dX12_best_10 : decode cX12_best 10 = .ok (.ifCond .ne 6, 3) := by decide +kernel
theorem dX12_best_13 : decode cX12_best 13 = .ok (.ldc 223, 2) := by decide +kernel
theorem dX12_best_15 : decode cX12_best 15 = .ok (.ireturn, 1) := by decide +kernel
theorem dX12_best_16 : decode cX12_best 16 = .ok (.iload_n 2, 1) := by decide +kernel
theorem dX12_best_17 : decode cX12_best 17 = .ok (.iconst 1, 1) := by decide +kernel
theorem dX12_best_18 : decode cX12_best 18 = .ok (.bipush 8, 2) := by decide +kernel
theorem dX12_best_20 : decode cX12_best 20 = .ok (.invokestatic 90, 3) := by decide +kernel
theorem dX12_best_23 : decode cX12_best 23 = .ok (.ifCond .eq 12, 3) := by decide +kernel
theorem dX12_best_26 : decode cX12_best 26 = .ok (.iload_n 3, 1) := by decide +kernel
theorem dX12_best_27 : decode cX12_best 27 = .ok (.iconst 0, 1) := by decide +kernel
theorem dX12_best_28 : decode cX12_best 28 = .ok (.iconst 1, 1) := by decide +kernel
theorem dX12_best_29 : decode cX12_best 29 = .ok (.invokestatic 90, 3) := by decide +kernel
theorem dX12_best_32 : decode cX12_best 32 = .ok (.ifCond .ne 6, 3) := by decide +kernel
theorem dX12_best_35 : decode cX12_best 35 = .ok (.ldc 201, 2) := by decide +kernel
theorem dX12_best_37 : decode cX12_best 37 = .ok (.ireturn, 1) := by decide +kernel
theorem dX12_best_38 : decode cX12_best 38 = .ok (.iconst 0, 1) := by decide +kernel
theorem dX12_best_39 : decode cX12_best 39 = .ok (.istore 4, 2) := by decide +kernel
theorem dX12_best_41 : decode cX12_best 41 = .ok (.iload 4, 2) := by decide +kernel
theorem dX12_best_43 : decode cX12_best 43 = .ok (.bipush 36, 2) := by decide +kernel
theorem dX12_best_45 : decode cX12_best 45 = .ok (.if_icmp .ge 17, 3) := by decide +kernel
theorem dX12_best_48 : decode cX12_best 48 = .ok (.aload_n 0, 1) := by decide +kernel
theorem dX12_best_49 : decode cX12_best 49 = .ok (.getfield 68, 3) := by decide +kernel
theorem dX12_best_52 : decode cX12_best 52 = .ok (.iload 4, 2) := by decide +kernel
theorem dX12_best_54 : decode cX12_best 54 = .ok (.iconst 0, 1) := by decide +kernel
theorem dX12_best_55 : decode cX12_best 55 = .ok (.iastore, 1) := by decide +kernel
theorem dX12_best_56 : decode cX12_best 56 = .ok (.iinc 4 1, 3) := by decide +kernel
theorem dX12_best_59 : decode cX12_best 59 = .ok (.goto (-18), 3) := by decide +kernel
theorem dX12_best_62 : decode cX12_best 62 = .ok (.iconst 0, 1) := by decide +kernel
theorem dX12_best_63 : decode cX12_best 63 = .ok (.istore 4, 2) := by decide +kernel
theorem dX12_best_65 : decode cX12_best 65 = .ok (.iload 4, 2) := by decide +kernel
theorem dX12_best_67 : decode cX12_best 67 = .ok (.aload_n 0, 1) := by decide +kernel
theorem dX12_best_68 : decode cX12_best 68 = .ok (.getfield 87, 3) := by decide +kernel
theorem dX12_best_71 : decode cX12_best 71 = .ok (.if_icmp .ge 27, 3) := by decide +kernel
theorem dX12_best_74 : decode cX12_best 74 = .ok (.iload_n 1, 1) := by decide +kernel
theorem dX12_best_75 : decode cX12_best 75 = .ok (.iconst (-1), 1) := by decide +kernel
theorem dX12_best_76 : decode cX12_best 76 = .ok (.if_icmp .eq 9, 3) := by decide +kernel
theorem dX12_best_79 : decode cX12_best 79 = .ok (.iload_n 1, 1) := by decide +kernel
theorem dX12_best_80 : decode cX12_best 80 = .ok (.iload 4, 2) := by decide +kernel
theorem dX12_best_82 : decode cX12_best 82 = .ok (.if_icmp .ne 10, 3) := by decide +kernel
theorem dX12_best_85 : decode cX12_best 85 = .ok (.aload_n 0, 1) := by decide +kernel
theorem dX12_best_86 : decode cX12_best 86 = .ok (.iload 4, 2) := by decide +kernel
theorem dX12_best_88 : decode cX12_best 88 = .ok (.iload_n 2, 1) := by decide +kernel
theorem dX12_best_89 : decode cX12_best 89 = .ok (.invokevirtual 224, 3) := by decide +kernel
theorem dX12_best_92 : decode cX12_best 92 = .ok (.iinc 4 1, 3) := by decide +kernel
theorem dX12_best_95 : decode cX12_best 95 = .ok (.goto (-30), 3) := by decide +kernel
theorem dX12_best_98 : decode cX12_best 98 = .ok (.iconst 0, 1) := by decide +kernel
theorem dX12_best_99 : decode cX12_best 99 = .ok (.istore 4, 2) := by decide +kernel
theorem dX12_best_101 : decode cX12_best 101 = .ok (.iconst 0, 1) := by decide +kernel
theorem dX12_best_102 : decode cX12_best 102 = .ok (.istore 5, 2) := by decide +kernel
theorem dX12_best_104 : decode cX12_best 104 = .ok (.iconst 0, 1) := by decide +kernel
theorem dX12_best_105 : decode cX12_best 105 = .ok (.istore 6, 2) := by decide +kernel
theorem dX12_best_107 : decode cX12_best 107 = .ok (.iload 6, 2) := by decide +kernel
theorem dX12_best_109 : decode cX12_best 109 = .ok (.ldc 228, 2) := by decide +kernel
theorem dX12_best_111 : decode cX12_best 111 = .ok (.if_icmp .ge 79, 3) := by decide +kernel
theorem dX12_best_114 : decode cX12_best 114 = .ok (.aload_n 0, 1) := by decide +kernel
theorem dX12_best_115 : decode cX12_best 115 = .ok (.getfield 68, 3) := by decide +kernel
theorem dX12_best_118 : decode cX12_best 118 = .ok (.bipush 6, 2) := by decide +kernel
theorem dX12_best_120 : decode cX12_best 120 = .ok (.iload 6, 2) := by decide +kernel
theorem dX12_best_122 : decode cX12_best 122 = .ok (.sipush 7776, 3) := by decide +kernel
theorem dX12_best_125 : decode cX12_best 125 = .ok (.idiv, 1) := by decide +kernel
theorem dX12_best_126 : decode cX12_best 126 = .ok (.imul, 1) := by decide +kernel
theorem dX12_best_127 : decode cX12_best 127 = .ok (.iload 6, 2) := by decide +kernel
theorem dX12_best_129 : decode cX12_best 129 = .ok (.bipush 6, 2) := by decide +kernel
theorem dX12_best_131 : decode cX12_best 131 = .ok (.irem, 1) := by decide +kernel
theorem dX12_best_132 : decode cX12_best 132 = .ok (.iadd, 1) := by decide +kernel
theorem dX12_best_133 : decode cX12_best 133 = .ok (.iaload, 1) := by decide +kernel
theorem dX12_best_134 : decode cX12_best 134 = .ok (.istore 7, 2) := by decide +kernel
theorem dX12_best_136 : decode cX12_best 136 = .ok (.iload 4, 2) := by decide +kernel
theorem dX12_best_138 : decode cX12_best 138 = .ok (.ifCond .eq 10, 3) := by decide +kernel
theorem dX12_best_141 : decode cX12_best 141 = .ok (.iload 7, 2) := by decide +kernel
theorem dX12_best_143 : decode cX12_best 143 = .ok (.iload 5, 2) := by decide +kernel
theorem dX12_best_145 : decode cX12_best 145 = .ok (.if_icmp .le 39, 3) := by decide +kernel
theorem dX12_best_148 : decode cX12_best 148 = .ok (.aload_n 0, 1) := by decide +kernel
theorem dX12_best_149 : decode cX12_best 149 = .ok (.iload 6, 2) := by decide +kernel
theorem dX12_best_151 : decode cX12_best 151 = .ok (.invokevirtual 229, 3) := by decide +kernel
theorem dX12_best_154 : decode cX12_best 154 = .ok (.istore 8, 2) := by decide +kernel
theorem dX12_best_156 : decode cX12_best 156 = .ok (.iload 8, 2) := by decide +kernel
theorem dX12_best_158 : decode cX12_best 158 = .ok (.ifCond .ne 8, 3) := by decide +kernel
theorem dX12_best_161 : decode cX12_best 161 = .ok (.iload 4, 2) := by decide +kernel
theorem dX12_best_163 : decode cX12_best 163 = .ok (.goto 5, 3) := by decide +kernel
theorem dX12_best_166 : decode cX12_best 166 = .ok (.iload 8, 2) := by decide +kernel
theorem dX12_best_168 : decode cX12_best 168 = .ok (.istore 4, 2) := by decide +kernel
theorem dX12_best_170 : decode cX12_best 170 = .ok (.iload 8, 2) := by decide +kernel
theorem dX12_best_172 : decode cX12_best 172 = .ok (.ifCond .ne 8, 3) := by decide +kernel
theorem dX12_best_175 : decode cX12_best 175 = .ok (.iload 5, 2) := by decide +kernel
theorem dX12_best_177 : decode cX12_best 177 = .ok (.goto 5, 3) := by decide +kernel
theorem dX12_best_180 : decode cX12_best 180 = .ok (.iload 7, 2) := by decide +kernel
theorem dX12_best_182 : decode cX12_best 182 = .ok (.istore 5, 2) := by decide +kernel
theorem dX12_best_184 : decode cX12_best 184 = .ok (.iinc 6 1, 3) := by decide +kernel
theorem dX12_best_187 : decode cX12_best 187 = .ok (.goto (-80), 3) := by decide +kernel
theorem dX12_best_190 : decode cX12_best 190 = .ok (.iload_n 3, 1) := by decide +kernel
theorem dX12_best_191 : decode cX12_best 191 = .ok (.ifCond .ne 8, 3) := by decide +kernel
theorem dX12_best_194 : decode cX12_best 194 = .ok (.iload 4, 2) := by decide +kernel
theorem dX12_best_196 : decode cX12_best 196 = .ok (.goto 5, 3) := by decide +kernel
theorem dX12_best_199 : decode cX12_best 199 = .ok (.iload 5, 2) := by decide +kernel
theorem dX12_best_201 : decode cX12_best 201 = .ok (.ireturn, 1) := by decide +kernel
theorem dX12_when_0 : decode cX12_when 0 = .ok (.aload_n 0, 1) := by decide +kernel
theorem dX12_when_1 : decode cX12_when 1 = .ok (.iload_n 1, 1) := by decide +kernel
theorem dX12_when_2 : decode cX12_when 2 = .ok (.invokevirtual 197, 3) := by decide +kernel
theorem dX12_when_5 : decode cX12_when 5 = .ok (.istore 4, 2) := by decide +kernel
theorem dX12_when_7 : decode cX12_when 7 = .ok (.iload 4, 2) := by decide +kernel
theorem dX12_when_9 : decode cX12_when 9 = .ok (.ifCond .eq 6, 3) := by decide +kernel
theorem dX12_when_12 : decode cX12_when 12 = .ok (.iload 4, 2) := by decide +kernel
theorem dX12_when_14 : decode cX12_when 14 = .ok (.ireturn, 1) := by decide +kernel
theorem dX12_when_15 : decode cX12_when 15 = .ok (.aload_n 0, 1) := by decide +kernel
theorem dX12_when_16 : decode cX12_when 16 = .ok (.iload_n 2, 1) := by decide +kernel
theorem dX12_when_17 : decode cX12_when 17 = .ok (.invokevirtual 217, 3) := by decide +kernel
theorem dX12_when_20 : decode cX12_when 20 = .ok (.ifCond .eq 12, 3) := by decide +kernel
theorem dX12_when_23 : decode cX12_when 23 = .ok (.iload_n 3, 1) := by decide +kernel
theorem dX12_when_24 : decode cX12_when 24 = .ok (.iconst 0, 1) := by decide +kernel
theorem dX12_when_25 : decode cX12_when 25 = .ok (.iconst 1, 1) := by decide +kernel
theorem dX12_when_26 : decode cX12_when 26 = .ok (.invokestatic 90, 3) := by decide +kernel
theorem dX12_when_29 : decode cX12_when 29 = .ok (.ifCond .ne 6, 3) := by decide +kernel
theorem dX12_when_32 : decode cX12_when 32 = .ok (.bipush (-7), 2) := by decide +kernel
theorem dX12_when_34 : decode cX12_when 34 = .ok (.ireturn, 1) := by decide +kernel
theorem dX12_when_35 : decode cX12_when 35 = .ok (.aload_n 0, 1) := by decide +kernel
theorem dX12_when_36 : decode cX12_when 36 = .ok (.getfield 22, 3) := by decide +kernel
theorem dX12_when_39 : decode cX12_when 39 = .ok (.istore 5, 2) := by decide +kernel
theorem dX12_when_41 : decode cX12_when 41 = .ok (.iconst 0, 1) := by decide +kernel
theorem dX12_when_42 : decode cX12_when 42 = .ok (.istore 6, 2) := by decide +kernel
theorem dX12_when_44 : decode cX12_when 44 = .ok (.iconst 0, 1) := by decide +kernel
theorem dX12_when_45 : decode cX12_when 45 = .ok (.istore 7, 2) := by decide +kernel
theorem dX12_when_47 : decode cX12_when 47 = .ok (.iconst 0, 1) := by decide +kernel
theorem dX12_when_48 : decode cX12_when 48 = .ok (.istore 8, 2) := by decide +kernel
theorem dX12_when_50 : decode cX12_when 50 = .ok (.iload 8, 2) := by decide +kernel
theorem dX12_when_52 : decode cX12_when 52 = .ok (.bipush 12, 2) := by decide +kernel
theorem dX12_when_54 : decode cX12_when 54 = .ok (.if_icmp .ge 58, 3) := by decide +kernel
theorem dX12_when_57 : decode cX12_when 57 = .ok (.aload_n 0, 1) := by decide +kernel
theorem dX12_when_58 : decode cX12_when 58 = .ok (.iload 8, 2) := by decide +kernel
theorem dX12_when_60 : decode cX12_when 60 = .ok (.putfield 22, 3) := by decide +kernel
theorem dX12_when_63 : decode cX12_when 63 = .ok (.aload_n 0, 1) := by decide +kernel
theorem dX12_when_64 : decode cX12_when 64 = .ok (.iload_n 2, 1) := by decide +kernel
theorem dX12_when_65 : decode cX12_when 65 = .ok (.invokevirtual 220, 3) := by decide +kernel
theorem dX12_when_68 : decode cX12_when 68 = .ok (.aload_n 0, 1) := by decide +kernel
theorem dX12_when_69 : decode cX12_when 69 = .ok (.getfield 211, 3) := by decide +kernel
theorem dX12_when_72 : decode cX12_when 72 = .ok (.iload 7, 2) := by decide +kernel
theorem dX12_when_74 : decode cX12_when 74 = .ok (.if_icmp .le 8, 3) := by decide +kernel
theorem dX12_when_77 : decode cX12_when 77 = .ok (.iload 8, 2) := by decide +kernel
theorem dX12_when_79 : decode cX12_when 79 = .ok (.goto 5, 3) := by decide +kernel
theorem dX12_when_82 : decode cX12_when 82 = .ok (.iload 6, 2) := by decide +kernel
theorem dX12_when_84 : decode cX12_when 84 = .ok (.istore 6, 2) := by decide +kernel
theorem dX12_when_86 : decode cX12_when 86 = .ok (.aload_n 0, 1) := by decide +kernel
theorem dX12_when_87 : decode cX12_when 87 = .ok (.getfield 211, 3) := by decide +kernel
theorem dX12_when_90 : decode cX12_when 90 = .ok (.iload 7, 2) := by decide +kernel
theorem dX12_when_92 : decode cX12_when 92 = .ok (.if_icmp .le 10, 3) := by decide +kernel
theorem dX12_when_95 : decode cX12_when 95 = .ok (.aload_n 0, 1) := by decide +kernel
theorem dX12_when_96 : decode cX12_when 96 = .ok (.getfield 211, 3) := by decide +kernel
theorem dX12_when_99 : decode cX12_when 99 = .ok (.goto 5, 3) := by decide +kernel
theorem dX12_when_102 : decode cX12_when 102 = .ok (.iload 7, 2) := by decide +kernel
theorem dX12_when_104 : decode cX12_when 104 = .ok (.istore 7, 2) := by decide +kernel
theorem dX12_when_106 : decode cX12_when 106 = .ok (.iinc 8 1, 3) := by decide +kernel
theorem dX12_when_109 : decode cX12_when 109 = .ok (.goto (-59), 3) := by decide +kernel
theorem dX12_when_112 : decode cX12_when 112 = .ok (.aload_n 0, 1) := by decide +kernel
theorem dX12_when_113 : decode cX12_when 113 = .ok (.iload 5, 2) := by decide +kernel
theorem dX12_when_115 : decode cX12_when 115 = .ok (.putfield 22, 3) := by decide +kernel
theorem dX12_when_118 : decode cX12_when 118 = .ok (.iload_n 3, 1) := by decide +kernel
theorem dX12_when_119 : decode cX12_when 119 = .ok (.ifCond .ne 8, 3) := by decide +kernel
theorem dX12_when_122 : decode cX12_when 122 = .ok (.iload 6, 2) := by decide +kernel
theorem dX12_when_124 : decode cX12_when 124 = .ok (.goto 5, 3) := by decide +kernel
theorem dX12_when_127 : decode cX12_when 127 = .ok (.iload 7, 2) := by decide +kernel
theorem dX12_when_129 : decode cX12_when 129 = .ok (.ireturn, 1) := by decide +kernel
theorem dX12_together_0 : decode cX12_together 0 = .ok (.aload_n 0, 1) := by decide +kernel
theorem dX12_together_1 : decode cX12_together 1 = .ok (.iload_n 1, 1) := by decide +kernel
theorem dX12_together_2 : decode cX12_together 2 = .ok (.invokevirtual 197, 3) := by decide +kernel
theorem dX12_together_5 : decode cX12_together 5 = .ok (.istore_n 3, 1) := by decide +kernel
theorem dX12_together_6 : decode cX12_together 6 = .ok (.iload_n 3, 1) := by decide +kernel
theorem dX12_together_7 : decode cX12_together 7 = .ok (.ifCond .eq 5, 3) := by decide +kernel
theorem dX12_together_10 : decode cX12_together 10 = .ok (.iload_n 3, 1) := by decide +kernel
theorem dX12_together_11 : decode cX12_together 11 = .ok (.ireturn, 1) := by decide +kernel
theorem dX12_together_12 : decode cX12_together 12 = .ok (.iload_n 2, 1) := by decide +kernel
theorem dX12_together_13 : decode cX12_together 13 = .ok (.iconst 0, 1) := by decide +kernel
theorem dX12_together_14 : decode cX12_together 14 = .ok (.iconst 1, 1) := by decide +kernel
theorem dX12_together_15 : decode cX12_together 15 = .ok (.invokestatic 90, 3) := by decide +kernel
theorem dX12_together_18 : decode cX12_together 18 = .ok (.ifCond .ne 6, 3) := by decide +kernel
theorem dX12_together_21 : decode cX12_together 21 = .ok (.bipush (-7), 2) := by decide +kernel
theorem dX12_together_23 : decode cX12_together 23 = .ok (.ireturn, 1) := by decide +kernel
theorem dX12_together_24 : decode cX12_together 24 = .ok (.iconst 0, 1) := by decide +kernel
theorem dX12_together_25 : decode cX12_together 25 = .ok (.istore 4, 2) := by decide +kernel
theorem dX12_together_27 : decode cX12_together 27 = .ok (.iload 4, 2) := by decide +kernel
theorem dX12_together_29 : decode cX12_together 29 = .ok (.aload_n 0, 1) := by decide +kernel
theorem dX12_together_30 : decode cX12_together 30 = .ok (.getfield 87, 3) := by decide +kernel
theorem dX12_together_33 : decode cX12_together 33 = .ok (.if_icmp .ge 48, 3) := by decide +kernel
theorem dX12_together_36 : decode cX12_together 36 = .ok (.iconst 1, 1) := by decide +kernel
theorem dX12_together_37 : decode cX12_together 37 = .ok (.istore 5, 2) := by decide +kernel
theorem dX12_together_39 : decode cX12_together 39 = .ok (.iload 5, 2) := by decide +kernel
theorem dX12_together_41 : decode cX12_together 41 = .ok (.aload_n 0, 1) := by decide +kernel
theorem dX12_together_42 : decode cX12_together 42 = .ok (.getfield 87, 3) := by decide +kernel
theorem dX12_together_45 : decode cX12_together 45 = .ok (.if_icmp .gt 30, 3) := by decide +kernel
theorem dX12_together_48 : decode cX12_together 48 = .ok (.aload_n 0, 1) := by decide +kernel
theorem dX12_together_49 : decode cX12_together 49 = .ok (.getfield 71, 3) := by decide +kernel
theorem dX12_together_52 : decode cX12_together 52 = .ok (.bipush 9, 2) := by decide +kernel
theorem dX12_together_54 : decode cX12_together 54 = .ok (.iload 4, 2) := by decide +kernel
theorem dX12_together_56 : decode cX12_together 56 = .ok (.imul, 1) := by decide +kernel
theorem dX12_together_57 : decode cX12_together 57 = .ok (.iload 5, 2) := by decide +kernel
theorem dX12_together_59 : decode cX12_together 59 = .ok (.iadd, 1) := by decide +kernel
theorem dX12_together_60 : decode cX12_together 60 = .ok (.aload_n 0, 1) := by decide +kernel
theorem dX12_together_61 : decode cX12_together 61 = .ok (.iload 4, 2) := by decide +kernel
theorem dX12_together_63 : decode cX12_together 63 = .ok (.iload 5, 2) := by decide +kernel
theorem dX12_together_65 : decode cX12_together 65 = .ok (.invokevirtual 202, 3) := by decide +kernel
theorem dX12_together_68 : decode cX12_together 68 = .ok (.iastore, 1) := by decide +kernel
theorem dX12_together_69 : decode cX12_together 69 = .ok (.iinc 5 1, 3) := by decide +kernel
theorem dX12_together_72 : decode cX12_together 72 = .ok (.goto (-33), 3) := by decide +kernel
theorem dX12_together_75 : decode cX12_together 75 = .ok (.iinc 4 1, 3) := by decide +kernel
theorem dX12_together_78 : decode cX12_together 78 = .ok (.goto (-51), 3) := by decide +kernel
theorem dX12_together_81 : decode cX12_together 81 = .ok (.iconst 0, 1) := by decide +kernel
theorem dX12_together_82 : decode cX12_together 82 = .ok (.istore 4, 2) := by decide +kernel
theorem dX12_together_84 : decode cX12_together 84 = .ok (.iconst 0, 1) := by decide +kernel
theorem dX12_together_85 : decode cX12_together 85 = .ok (.istore 5, 2) := by decide +kernel
theorem dX12_together_87 : decode cX12_together 87 = .ok (.iconst 0, 1) := by decide +kernel
theorem dX12_together_88 : decode cX12_together 88 = .ok (.istore 6, 2) := by decide +kernel
theorem dX12_together_90 : decode cX12_together 90 = .ok (.iconst 1, 1) := by decide +kernel
theorem dX12_together_91 : decode cX12_together 91 = .ok (.istore 7, 2) := by decide +kernel
theorem dX12_together_93 : decode cX12_together 93 = .ok (.iload 7, 2) := by decide +kernel
theorem dX12_together_95 : decode cX12_together 95 = .ok (.iconst 1, 1) := by decide +kernel
theorem dX12_together_96 : decode cX12_together 96 = .ok (.aload_n 0, 1) := by decide +kernel
theorem dX12_together_97 : decode cX12_together 97 = .ok (.getfield 87, 3) := by decide +kernel
theorem dX12_together_100 : decode cX12_together 100 = .ok (.ishl, 1) := by decide +kernel
theorem dX12_together_101 : decode cX12_together 101 = .ok (.if_icmp .ge 174, 3) := by decide +kernel
theorem dX12_together_104 : decode cX12_together 104 = .ok (.aload_n 0, 1) := by decide +kernel
theorem dX12_together_105 : decode cX12_together 105 = .ok (.iload 7, 2) := by decide +kernel
theorem dX12_together_107 : decode cX12_together 107 = .ok (.invokevirtual 205, 3) := by decide +kernel
theorem dX12_together_110 : decode cX12_together 110 = .ok (.istore 8, 2) := by decide +kernel
theorem dX12_together_112 : decode cX12_together 112 = .ok (.iconst 0, 1) := by decide +kernel
theorem dX12_together_113 : decode cX12_together 113 = .ok (.istore 9, 2) := by decide +kernel
theorem dX12_together_115 : decode cX12_together 115 = .ok (.iconst 0, 1) := by decide +kernel
theorem dX12_together_116 : decode cX12_together 116 = .ok (.istore 10, 2) := by decide +kernel
theorem dX12_together_118 : decode cX12_together 118 = .ok (.iload 10, 2) := by decide +kernel
theorem dX12_together_120 : decode cX12_together 120 = .ok (.aload_n 0, 1) := by decide +kernel
theorem dX12_together_121 : decode cX12_together 121 = .ok (.getfield 87, 3) := by decide +kernel
theorem dX12_together_124 : decode cX12_together 124 = .ok (.if_icmp .ge 70, 3) := by decide +kernel
theorem dX12_together_127 : decode cX12_together 127 = .ok (.iload 7, 2) := by decide +kernel
theorem dX12_together_129 : decode cX12_together 129 = .ok (.iload 10, 2) := by decide +kernel
theorem dX12_together_131 : decode cX12_together 131 = .ok (.ishr, 1) := by decide +kernel
theorem dX12_together_132 : decode cX12_together 132 = .ok (.iconst 1, 1) := by decide +kernel
theorem dX12_together_133 : decode cX12_together 133 = .ok (.iand, 1) := by decide +kernel
theorem dX12_together_134 : decode cX12_together 134 = .ok (.iconst 1, 1) := by decide +kernel
theorem dX12_together_135 : decode cX12_together 135 = .ok (.if_icmp .ne 25, 3) := by decide +kernel
theorem dX12_together_138 : decode cX12_together 138 = .ok (.aload_n 0, 1) := by decide +kernel
theorem dX12_together_139 : decode cX12_together 139 = .ok (.getfield 71, 3) := by decide +kernel
theorem dX12_together_142 : decode cX12_together 142 = .ok (.bipush 9, 2) := by decide +kernel
theorem dX12_together_144 : decode cX12_together 144 = .ok (.iload 10, 2) := by decide +kernel
theorem dX12_together_146 : decode cX12_together 146 = .ok (.imul, 1) := by decide +kernel
theorem dX12_together_147 : decode cX12_together 147 = .ok (.iload 8, 2) := by decide +kernel
theorem dX12_together_149 : decode cX12_together 149 = .ok (.iadd, 1) := by decide +kernel
theorem dX12_together_150 : decode cX12_together 150 = .ok (.iaload, 1) := by decide +kernel
theorem dX12_together_151 : decode cX12_together 151 = .ok (.iload 9, 2) := by decide +kernel
theorem dX12_together_153 : decode cX12_together 153 = .ok (.if_icmp .le 7, 3) := by decide +kernel
theorem dX12_together_156 : decode cX12_together 156 = .ok (.iconst 1, 1) := by decide +kernel
theorem dX12_together_157 : decode cX12_together 157 = .ok (.goto 4, 3) := by decide +kernel
theorem dX12_together_160 : decode cX12_together 160 = .ok (.iconst 0, 1) := by decide +kernel
theorem dX12_together_161 : decode cX12_together 161 = .ok (.istore 11, 2) := by decide +kernel
theorem dX12_together_163 : decode cX12_together 163 = .ok (.iload 11, 2) := by decide +kernel
theorem dX12_together_165 : decode cX12_together 165 = .ok (.ifCond .eq 19, 3) := by decide +kernel
theorem dX12_together_168 : decode cX12_together 168 = .ok (.aload_n 0, 1) := by decide +kernel
theorem dX12_together_169 : decode cX12_together 169 = .ok (.getfield 71, 3) := by decide +kernel
theorem dX12_together_172 : decode cX12_together 172 = .ok (.bipush 9, 2) := by decide +kernel
theorem dX12_together_174 : decode cX12_together 174 = .ok (.iload 10, 2) := by decide +kernel
theorem dX12_together_176 : decode cX12_together 176 = .ok (.imul, 1) := by decide +kernel
theorem dX12_together_177 : decode cX12_together 177 = .ok (.iload 8, 2) := by decide +kernel
theorem dX12_together_179 : decode cX12_together 179 = .ok (.iadd, 1) := by decide +kernel
theorem dX12_together_180 : decode cX12_together 180 = .ok (.iaload, 1) := by decide +kernel
theorem dX12_together_181 : decode cX12_together 181 = .ok (.goto 5, 3) := by decide +kernel
theorem dX12_together_184 : decode cX12_together 184 = .ok (.iload 9, 2) := by decide +kernel
theorem dX12_together_186 : decode cX12_together 186 = .ok (.istore 9, 2) := by decide +kernel
theorem dX12_together_188 : decode cX12_together 188 = .ok (.iinc 10 1, 3) := by decide +kernel
theorem dX12_together_191 : decode cX12_together 191 = .ok (.goto (-73), 3) := by decide +kernel
theorem dX12_together_194 : decode cX12_together 194 = .ok (.iload 9, 2) := by decide +kernel
theorem dX12_together_196 : decode cX12_together 196 = .ok (.iload 5, 2) := by decide +kernel
theorem dX12_together_198 : decode cX12_together 198 = .ok (.if_icmp .gt 22, 3) := by decide +kernel
theorem dX12_together_201 : decode cX12_together 201 = .ok (.iload 9, 2) := by decide +kernel
theorem dX12_together_203 : decode cX12_together 203 = .ok (.iload 5, 2) := by decide +kernel
theorem dX12_together_205 : decode cX12_together 205 = .ok (.if_icmp .ne 19, 3) := by decide +kernel
theorem dX12_together_208 : decode cX12_together 208 = .ok (.iload 4, 2) := by decide +kernel
theorem dX12_together_210 : decode cX12_together 210 = .ok (.ifCond .le 14, 3) := by decide +kernel
theorem dX12_together_213 : decode cX12_together 213 = .ok (.iload 8, 2) := by decide +kernel
theorem dX12_together_215 : decode cX12_together 215 = .ok (.iload 6, 2) := by decide +kernel
theorem dX12_together_217 : decode cX12_together 217 = .ok (.if_icmp .ge 7, 3) := by decide +kernel
theorem dX12_together_220 : decode cX12_together 220 = .ok (.iconst 1, 1) := by decide +kernel
theorem dX12_together_221 : decode cX12_together 221 = .ok (.goto 4, 3) := by decide +kernel
theorem dX12_together_224 : decode cX12_together 224 = .ok (.iconst 0, 1) := by decide +kernel
theorem dX12_together_225 : decode cX12_together 225 = .ok (.istore 10, 2) := by decide +kernel
theorem dX12_together_227 : decode cX12_together 227 = .ok (.iload 10, 2) := by decide +kernel
theorem dX12_together_229 : decode cX12_together 229 = .ok (.ifCond .eq 8, 3) := by decide +kernel
theorem dX12_together_232 : decode cX12_together 232 = .ok (.iload 7, 2) := by decide +kernel
theorem dX12_together_234 : decode cX12_together 234 = .ok (.goto 5, 3) := by decide +kernel
theorem dX12_together_237 : decode cX12_together 237 = .ok (.iload 4, 2) := by decide +kernel
theorem dX12_together_239 : decode cX12_together 239 = .ok (.istore 4, 2) := by decide +kernel
theorem dX12_together_241 : decode cX12_together 241 = .ok (.iload 10, 2) := by decide +kernel
theorem dX12_together_243 : decode cX12_together 243 = .ok (.ifCond .eq 8, 3) := by decide +kernel
theorem dX12_together_246 : decode cX12_together 246 = .ok (.iload 9, 2) := by decide +kernel
theorem dX12_together_248 : decode cX12_together 248 = .ok (.goto 5, 3) := by decide +kernel
theorem dX12_together_251 : decode cX12_together 251 = .ok (.iload 5, 2) := by decide +kernel
theorem dX12_together_253 : decode cX12_together 253 = .ok (.istore 5, 2) := by decide +kernel
theorem dX12_together_255 : decode cX12_together 255 = .ok (.iload 10, 2) := by decide +kernel
theorem dX12_together_257 : decode cX12_together 257 = .ok (.ifCond .eq 8, 3) := by decide +kernel
theorem dX12_together_260 : decode cX12_together 260 = .ok (.iload 8, 2) := by decide +kernel
theorem dX12_together_262 : decode cX12_together 262 = .ok (.goto 5, 3) := by decide +kernel
theorem dX12_together_265 : decode cX12_together 265 = .ok (.iload 6, 2) := by decide +kernel
theorem dX12_together_267 : decode cX12_together 267 = .ok (.istore 6, 2) := by decide +kernel
theorem dX12_together_269 : decode cX12_together 269 = .ok (.iinc 7 1, 3) := by decide +kernel
theorem dX12_together_272 : decode cX12_together 272 = .ok (.goto (-179), 3) := by decide +kernel
theorem dX12_together_275 : decode cX12_together 275 = .ok (.iload_n 2, 1) := by decide +kernel
theorem dX12_together_276 : decode cX12_together 276 = .ok (.ifCond .ne 8, 3) := by decide +kernel
theorem dX12_together_279 : decode cX12_together 279 = .ok (.iload 4, 2) := by decide +kernel
theorem dX12_together_281 : decode cX12_together 281 = .ok (.goto 5, 3) := by decide +kernel
theorem dX12_together_284 : decode cX12_together 284 = .ok (.iload 5, 2) := by decide +kernel
theorem dX12_together_286 : decode cX12_together 286 = .ok (.ireturn, 1) := by decide +kernel
theorem dX12_without_0 : decode cX12_without 0 = .ok (.aload_n 0, 1) := by decide +kernel
theorem dX12_without_1 : decode cX12_without 1 = .ok (.iload_n 1, 1) := by decide +kernel
theorem dX12_without_2 : decode cX12_without 2 = .ok (.invokevirtual 197, 3) := by decide +kernel
theorem dX12_without_5 : decode cX12_without 5 = .ok (.istore 4, 2) := by decide +kernel
theorem dX12_without_7 : decode cX12_without 7 = .ok (.iload 4, 2) := by decide +kernel
theorem dX12_without_9 : decode cX12_without 9 = .ok (.ifCond .eq 9, 3) := by decide +kernel
theorem dX12_without_12 : decode cX12_without 12 = .ok (.ldc 200, 2) := by decide +kernel
theorem dX12_without_14 : decode cX12_without 14 = .ok (.iload 4, 2) := by decide +kernel
theorem dX12_without_16 : decode cX12_without 16 = .ok (.iadd, 1) := by decide +kernel
theorem dX12_without_17 : decode cX12_without 17 = .ok (.ireturn, 1) := by decide +kernel
theorem dX12_without_18 : decode cX12_without 18 = .ok (.aload_n 0, 1) := by decide +kernel
theorem dX12_without_19 : decode cX12_without 19 = .ok (.iload_n 2, 1) := by decide +kernel
theorem dX12_without_20 : decode cX12_without 20 = .ok (.invokevirtual 173, 3) := by decide +kernel
theorem dX12_without_23 : decode cX12_without 23 = .ok (.ifCond .eq 12, 3) := by decide +kernel
theorem dX12_without_26 : decode cX12_without 26 = .ok (.iload_n 3, 1) := by decide +kernel
theorem dX12_without_27 : decode cX12_without 27 = .ok (.iconst 0, 1) := by decide +kernel
theorem dX12_without_28 : decode cX12_without 28 = .ok (.iconst 1, 1) := by decide +kernel
theorem dX12_without_29 : decode cX12_without 29 = .ok (.invokestatic 90, 3) := by decide +kernel
theorem dX12_without_32 : decode cX12_without 32 = .ok (.ifCond .ne 6, 3) := by decide +kernel
theorem dX12_without_35 : decode cX12_without 35 = .ok (.ldc 201, 2) := by decide +kernel
theorem dX12_without_37 : decode cX12_without 37 = .ok (.ireturn, 1) := by decide +kernel
theorem dX12_without_38 : decode cX12_without 38 = .ok (.aload_n 0, 1) := by decide +kernel
theorem dX12_without_39 : decode cX12_without 39 = .ok (.getfield 44, 3) := by decide +kernel
theorem dX12_without_42 : decode cX12_without 42 = .ok (.iload_n 1, 1) := by decide +kernel
theorem dX12_without_43 : decode cX12_without 43 = .ok (.iaload, 1) := by decide +kernel
theorem dX12_without_44 : decode cX12_without 44 = .ok (.istore 5, 2) := by decide +kernel
theorem dX12_without_46 : decode cX12_without 46 = .ok (.iconst (-1), 1) := by decide +kernel
theorem dX12_without_47 : decode cX12_without 47 = .ok (.istore 6, 2) := by decide +kernel
theorem dX12_without_49 : decode cX12_without 49 = .ok (.aload_n 0, 1) := by decide +kernel
theorem dX12_without_50 : decode cX12_without 50 = .ok (.iload_n 2, 1) := by decide +kernel
theorem dX12_without_51 : decode cX12_without 51 = .ok (.iconst 1, 1) := by decide +kernel
theorem dX12_without_52 : decode cX12_without 52 = .ok (.invokevirtual 191, 3) := by decide +kernel
theorem dX12_without_55 : decode cX12_without 55 = .ok (.istore 7, 2) := by decide +kernel
theorem dX12_without_57 : decode cX12_without 57 = .ok (.iconst 0, 1) := by decide +kernel
theorem dX12_without_58 : decode cX12_without 58 = .ok (.istore 8, 2) := by decide +kernel
theorem dX12_without_60 : decode cX12_without 60 = .ok (.iload 8, 2) := by decide +kernel
theorem dX12_without_62 : decode cX12_without 62 = .ok (.iload 5, 2) := by decide +kernel
theorem dX12_without_64 : decode cX12_without 64 = .ok (.if_icmp .ge 118, 3) := by decide +kernel
theorem dX12_without_67 : decode cX12_without 67 = .ok (.aload_n 0, 1) := by decide +kernel
theorem dX12_without_68 : decode cX12_without 68 = .ok (.iconst 0, 1) := by decide +kernel
theorem dX12_without_69 : decode cX12_without 69 = .ok (.putfield 181, 3) := by decide +kernel
theorem dX12_without_72 : decode cX12_without 72 = .ok (.iconst 0, 1) := by decide +kernel
theorem dX12_without_73 : decode cX12_without 73 = .ok (.istore 9, 2) := by decide +kernel
theorem dX12_without_75 : decode cX12_without 75 = .ok (.iload 9, 2) := by decide +kernel
theorem dX12_without_77 : decode cX12_without 77 = .ok (.iload 5, 2) := by decide +kernel
theorem dX12_without_79 : decode cX12_without 79 = .ok (.if_icmp .ge 47, 3) := by decide +kernel
theorem dX12_without_82 : decode cX12_without 82 = .ok (.iload 9, 2) := by decide +kernel
theorem dX12_without_84 : decode cX12_without 84 = .ok (.iload 8, 2) := by decide +kernel
theorem dX12_without_86 : decode cX12_without 86 = .ok (.if_icmp .eq 34, 3) := by decide +kernel
theorem dX12_without_89 : decode cX12_without 89 = .ok (.aload_n 0, 1) := by decide +kernel
theorem dX12_without_90 : decode cX12_without 90 = .ok (.getfield 65, 3) := by decide +kernel
theorem dX12_without_93 : decode cX12_without 93 = .ok (.aload_n 0, 1) := by decide +kernel
theorem dX12_without_94 : decode cX12_without 94 = .ok (.getfield 181, 3) := by decide +kernel
theorem dX12_without_97 : decode cX12_without 97 = .ok (.aload_n 0, 1) := by decide +kernel
theorem dX12_without_98 : decode cX12_without 98 = .ok (.getfield 47, 3) := by decide +kernel
theorem dX12_without_101 : decode cX12_without 101 = .ok (.bipush 40, 2) := by decide +kernel
theorem dX12_without_103 : decode cX12_without 103 = .ok (.iload_n 1, 1) := by decide +kernel
theorem dX12_without_104 : decode cX12_without 104 = .ok (.imul, 1) := by decide +kernel
theorem dX12_without_105 : decode cX12_without 105 = .ok (.iload 9, 2) := by decide +kernel
theorem dX12_without_107 : decode cX12_without 107 = .ok (.iadd, 1) := by decide +kernel
theorem dX12_without_108 : decode cX12_without 108 = .ok (.iaload, 1) := by decide +kernel
theorem dX12_without_109 : decode cX12_without 109 = .ok (.iastore, 1) := by decide +kernel
theorem dX12_without_110 : decode cX12_without 110 = .ok (.aload_n 0, 1) := by decide +kernel
theorem dX12_without_111 : decode cX12_without 111 = .ok (.dup, 1) := by decide +kernel
theorem dX12_without_112 : decode cX12_without 112 = .ok (.getfield 181, 3) := by decide +kernel
theorem dX12_without_115 : decode cX12_without 115 = .ok (.iconst 1, 1) := by decide +kernel
theorem dX12_without_116 : decode cX12_without 116 = .ok (.iadd, 1) := by decide +kernel
theorem dX12_without_117 : decode cX12_without 117 = .ok (.putfield 181, 3) := by decide +kernel
theorem dX12_without_120 : decode cX12_without 120 = .ok (.iinc 9 1, 3) := by decide +kernel
theorem dX12_without_123 : decode cX12_without 123 = .ok (.goto (-48), 3) := by decide +kernel
theorem dX12_without_126 : decode cX12_without 126 = .ok (.aload_n 0, 1) := by decide +kernel
theorem dX12_without_127 : decode cX12_without 127 = .ok (.iload_n 2, 1) := by decide +kernel
theorem dX12_without_128 : decode cX12_without 128 = .ok (.iconst 1, 1) := by decide +kernel
theorem dX12_without_129 : decode cX12_without 129 = .ok (.invokevirtual 191, 3) := by decide +kernel
theorem dX12_without_132 : decode cX12_without 132 = .ok (.istore 9, 2) := by decide +kernel
theorem dX12_without_134 : decode cX12_without 134 = .ok (.iload 9, 2) := by decide +kernel
theorem dX12_without_136 : decode cX12_without 136 = .ok (.iload 7, 2) := by decide +kernel
theorem dX12_without_138 : decode cX12_without 138 = .ok (.if_icmp .le 18, 3) := by decide +kernel
theorem dX12_without_141 : decode cX12_without 141 = .ok (.aload_n 0, 1) := by decide +kernel
theorem dX12_without_142 : decode cX12_without 142 = .ok (.getfield 47, 3) := by decide +kernel
theorem dX12_without_145 : decode cX12_without 145 = .ok (.bipush 40, 2) := by decide +kernel
theorem dX12_without_147 : decode cX12_without 147 = .ok (.iload_n 1, 1) := by decide +kernel
theorem dX12_without_148 : decode cX12_without 148 = .ok (.imul, 1) := by decide +kernel
theorem dX12_without_149 : decode cX12_without 149 = .ok (.iload 8, 2) := by decide +kernel
theorem dX12_without_151 : decode cX12_without 151 = .ok (.iadd, 1) := by decide +kernel
theorem dX12_without_152 : decode cX12_without 152 = .ok (.iaload, 1) := by decide +kernel
theorem dX12_without_153 : decode cX12_without 153 = .ok (.goto 5, 3) := by decide +kernel
theorem dX12_without_156 : decode cX12_without 156 = .ok (.iload 6, 2) := by decide +kernel
theorem dX12_without_158 : decode cX12_without 158 = .ok (.istore 6, 2) := by decide +kernel
theorem dX12_without_160 : decode cX12_without 160 = .ok (.iload 9, 2) := by decide +kernel
theorem dX12_without_162 : decode cX12_without 162 = .ok (.iload 7, 2) := by decide +kernel
theorem dX12_without_164 : decode cX12_without 164 = .ok (.if_icmp .le 8, 3) := by decide +kernel
theorem dX12_without_167 : decode cX12_without 167 = .ok (.iload 9, 2) := by decide +kernel
theorem dX12_without_169 : decode cX12_without 169 = .ok (.goto 5, 3) := by decide +kernel
theorem dX12_without_172 : decode cX12_without 172 = .ok (.iload 7, 2) := by decide +kernel
theorem dX12_without_174 : decode cX12_without 174 = .ok (.istore 7, 2) := by decide +kernel
theorem dX12_without_176 : decode cX12_without 176 = .ok (.iinc 8 1, 3) := by decide +kernel
theorem dX12_without_179 : decode cX12_without 179 = .ok (.goto (-119), 3) := by decide +kernel
theorem dX12_without_182 : decode cX12_without 182 = .ok (.iload_n 3, 1) := by decide +kernel
theorem dX12_without_183 : decode cX12_without 183 = .ok (.ifCond .ne 8, 3) := by decide +kernel
theorem dX12_without_186 : decode cX12_without 186 = .ok (.iload 6, 2) := by decide +kernel
theorem dX12_without_188 : decode cX12_without 188 = .ok (.goto 5, 3) := by decide +kernel
theorem dX12_without_191 : decode cX12_without 191 = .ok (.iload 7, 2) := by decide +kernel
theorem dX12_without_193 : decode cX12_without 193 = .ok (.ireturn, 1) := by decide +kernel
theorem dX12_paint_0 : decode cX12_paint 0 = .ok (.aload_n 0, 1) := by decide +kernel
theorem dX12_paint_1 : decode cX12_paint 1 = .ok (.iload_n 1, 1) := by decide +kernel
theorem dX12_paint_2 : decode cX12_paint 2 = .ok (.invokevirtual 197, 3) := by decide +kernel
theorem dX12_paint_5 : decode cX12_paint 5 = .ok (.istore 4, 2) := by decide +kernel
theorem dX12_paint_7 : decode cX12_paint 7 = .ok (.iload 4, 2) := by decide +kernel
theorem dX12_paint_9 : decode cX12_paint 9 = .ok (.ifCond .eq 9, 3) := by decide +kernel
theorem dX12_paint_12 : decode cX12_paint 12 = .ok (.ldc 200, 2) := by decide +kernel
theorem dX12_paint_14 : decode cX12_paint 14 = .ok (.iload 4, 2) := by decide +kernel
theorem dX12_paint_16 : decode cX12_paint 16 = .ok (.iadd, 1) := by decide +kernel
theorem dX12_paint_17 : decode cX12_paint 17 = .ok (.ireturn, 1) := by decide +kernel
theorem dX12_paint_18 : decode cX12_paint 18 = .ok (.aload_n 0, 1) := by decide +kernel
theorem dX12_paint_19 : decode cX12_paint 19 = .ok (.iload_n 2, 1) := by decide +kernel
theorem dX12_paint_20 : decode cX12_paint 20 = .ok (.invokevirtual 173, 3) := by decide +kernel
theorem dX12_paint_23 : decode cX12_paint 23 = .ok (.ifCond .eq 10, 3) := by decide +kernel
theorem dX12_paint_26 : decode cX12_paint 26 = .ok (.iload_n 3, 1) := by decide +kernel
theorem dX12_paint_27 : decode cX12_paint 27 = .ok (.invokestatic 100, 3) := by decide +kernel
theorem dX12_paint_30 : decode cX12_paint 30 = .ok (.ifCond .ne 6, 3) := by decide +kernel
theorem dX12_paint_33 : decode cX12_paint 33 = .ok (.ldc 223, 2) := by decide +kernel
theorem dX12_paint_35 : decode cX12_paint 35 = .ok (.ireturn, 1) := by decide +kernel
theorem dX12_paint_36 : decode cX12_paint 36 = .ok (.aload_n 0, 1) := by decide +kernel
theorem dX12_paint_37 : decode cX12_paint 37 = .ok (.iload_n 2, 1) := by decide +kernel
theorem dX12_paint_38 : decode cX12_paint 38 = .ok (.iconst 1, 1) := by decide +kernel
theorem dX12_paint_39 : decode cX12_paint 39 = .ok (.invokevirtual 202, 3) := by decide +kernel
theorem dX12_paint_42 : decode cX12_paint 42 = .ok (.istore 5, 2) := by decide +kernel
theorem dX12_paint_44 : decode cX12_paint 44 = .ok (.aload_n 0, 1) := by decide +kernel
theorem dX12_paint_45 : decode cX12_paint 45 = .ok (.getfield 19, 3) := by decide +kernel
theorem dX12_paint_48 : decode cX12_paint 48 = .ok (.iconst 2, 1) := by decide +kernel
theorem dX12_paint_49 : decode cX12_paint 49 = .ok (.iload_n 3, 1) := by decide +kernel
theorem dX12_paint_50 : decode cX12_paint 50 = .ok (.imul, 1) := by decide +kernel
theorem dX12_paint_51 : decode cX12_paint 51 = .ok (.iconst 1, 1) := by decide +kernel
theorem dX12_paint_52 : decode cX12_paint 52 = .ok (.iadd, 1) := by decide +kernel
theorem dX12_paint_53 : decode cX12_paint 53 = .ok (.iaload, 1) := by decide +kernel
theorem dX12_paint_54 : decode cX12_paint 54 = .ok (.istore 6, 2) := by decide +kernel
theorem dX12_paint_56 : decode cX12_paint 56 = .ok (.aload_n 0, 1) := by decide +kernel
theorem dX12_paint_57 : decode cX12_paint 57 = .ok (.getfield 19, 3) := by decide +kernel
theorem dX12_paint_60 : decode cX12_paint 60 = .ok (.iconst 2, 1) := by decide +kernel
theorem dX12_paint_61 : decode cX12_paint 61 = .ok (.iload_n 3, 1) := by decide +kernel
theorem dX12_paint_62 : decode cX12_paint 62 = .ok (.imul, 1) := by decide +kernel
theorem dX12_paint_63 : decode cX12_paint 63 = .ok (.iconst 1, 1) := by decide +kernel
theorem dX12_paint_64 : decode cX12_paint 64 = .ok (.iadd, 1) := by decide +kernel
theorem dX12_paint_65 : decode cX12_paint 65 = .ok (.iconst 0, 1) := by decide +kernel
theorem dX12_paint_66 : decode cX12_paint 66 = .ok (.iastore, 1) := by decide +kernel
theorem dX12_paint_67 : decode cX12_paint 67 = .ok (.aload_n 0, 1) := by decide +kernel
theorem dX12_paint_68 : decode cX12_paint 68 = .ok (.iload_n 2, 1) := by decide +kernel
theorem dX12_paint_69 : decode cX12_paint 69 = .ok (.iconst 1, 1) := by decide +kernel
theorem dX12_paint_70 : decode cX12_paint 70 = .ok (.invokevirtual 202, 3) := by decide +kernel
theorem dX12_paint_73 : decode cX12_paint 73 = .ok (.istore 7, 2) := by decide +kernel
theorem dX12_paint_75 : decode cX12_paint 75 = .ok (.aload_n 0, 1) := by decide +kernel
theorem dX12_paint_76 : decode cX12_paint 76 = .ok (.getfield 19, 3) := by decide +kernel
theorem dX12_paint_79 : decode cX12_paint 79 = .ok (.iconst 2, 1) := by decide +kernel
theorem dX12_paint_80 : decode cX12_paint 80 = .ok (.iload_n 3, 1) := by decide +kernel
theorem dX12_paint_81 : decode cX12_paint 81 = .ok (.imul, 1) := by decide +kernel
theorem dX12_paint_82 : decode cX12_paint 82 = .ok (.iconst 1, 1) := by decide +kernel
theorem dX12_paint_83 : decode cX12_paint 83 = .ok (.iadd, 1) := by decide +kernel
theorem dX12_paint_84 : decode cX12_paint 84 = .ok (.iload 6, 2) := by decide +kernel
theorem dX12_paint_86 : decode cX12_paint 86 = .ok (.iastore, 1) := by decide +kernel
theorem dX12_paint_87 : decode cX12_paint 87 = .ok (.iload 7, 2) := by decide +kernel
theorem dX12_paint_89 : decode cX12_paint 89 = .ok (.iload 5, 2) := by decide +kernel
theorem dX12_paint_91 : decode cX12_paint 91 = .ok (.isub, 1) := by decide +kernel
theorem dX12_paint_92 : decode cX12_paint 92 = .ok (.ireturn, 1) := by decide +kernel
theorem dX12_tenant_0 : decode cX12_tenant 0 = .ok (.aload_n 0, 1) := by decide +kernel
theorem dX12_tenant_1 : decode cX12_tenant 1 = .ok (.iload_n 1, 1) := by decide +kernel
theorem dX12_tenant_2 : decode cX12_tenant 2 = .ok (.invokevirtual 197, 3) := by decide +kernel
theorem dX12_tenant_5 : decode cX12_tenant 5 = .ok (.istore 4, 2) := by decide +kernel
theorem dX12_tenant_7 : decode cX12_tenant 7 = .ok (.iload 4, 2) := by decide +kernel
theorem dX12_tenant_9 : decode cX12_tenant 9 = .ok (.ifCond .eq 6, 3) := by decide +kernel
theorem dX12_tenant_12 : decode cX12_tenant 12 = .ok (.iload 4, 2) := by decide +kernel
theorem dX12_tenant_14 : decode cX12_tenant 14 = .ok (.ireturn, 1) := by decide +kernel
theorem dX12_tenant_15 : decode cX12_tenant 15 = .ok (.iload_n 2, 1) := by decide +kernel
theorem dX12_tenant_16 : decode cX12_tenant 16 = .ok (.iconst 0, 1) := by decide +kernel
theorem dX12_tenant_17 : decode cX12_tenant 17 = .ok (.bipush 99, 2) := by decide +kernel
theorem dX12_tenant_19 : decode cX12_tenant 19 = .ok (.invokestatic 90, 3) := by decide +kernel
theorem dX12_tenant_22 : decode cX12_tenant 22 = .ok (.ifCond .eq 14, 3) := by decide +kernel
theorem dX12_tenant_25 : decode cX12_tenant 25 = .ok (.iload_n 3, 1) := by decide +kernel
theorem dX12_tenant_26 : decode cX12_tenant 26 = .ok (.iconst 0, 1) := by decide +kernel
theorem dX12_tenant_27 : decode cX12_tenant 27 = .ok (.sipush 9999, 3) := by decide +kernel
theorem dX12_tenant_30 : decode cX12_tenant 30 = .ok (.invokestatic 90, 3) := by decide +kernel
theorem dX12_tenant_33 : decode cX12_tenant 33 = .ok (.ifCond .ne 6, 3) := by decide +kernel
theorem dX12_tenant_36 : decode cX12_tenant 36 = .ok (.bipush (-7), 2) := by decide +kernel
theorem dX12_tenant_38 : decode cX12_tenant 38 = .ok (.ireturn, 1) := by decide +kernel
theorem dX12_tenant_39 : decode cX12_tenant 39 = .ok (.iconst (-1), 1) := by decide +kernel
theorem dX12_tenant_40 : decode cX12_tenant 40 = .ok (.istore 5, 2) := by decide +kernel
theorem dX12_tenant_42 : decode cX12_tenant 42 = .ok (.iconst 0, 1) := by decide +kernel
theorem dX12_tenant_43 : decode cX12_tenant 43 = .ok (.istore 6, 2) := by decide +kernel
theorem dX12_tenant_45 : decode cX12_tenant 45 = .ok (.iconst 0, 1) := by decide +kernel
theorem dX12_tenant_46 : decode cX12_tenant 46 = .ok (.istore 7, 2) := by decide +kernel
theorem dX12_tenant_48 : decode cX12_tenant 48 = .ok (.iconst 0, 1) := by decide +kernel
theorem dX12_tenant_49 : decode cX12_tenant 49 = .ok (.istore 8, 2) := by decide +kernel
theorem dX12_tenant_51 : decode cX12_tenant 51 = .ok (.iload 8, 2) := by decide +kernel
theorem dX12_tenant_53 : decode cX12_tenant 53 = .ok (.aload_n 0, 1) := by decide +kernel
theorem dX12_tenant_54 : decode cX12_tenant 54 = .ok (.getfield 87, 3) := by decide +kernel
theorem dX12_tenant_57 : decode cX12_tenant 57 = .ok (.if_icmp .ge 131, 3) := by decide +kernel
theorem dX12_tenant_60 : decode cX12_tenant 60 = .ok (.aload_n 0, 1) := by decide +kernel
theorem dX12_tenant_61 : decode cX12_tenant 61 = .ok (.iload 8, 2) := by decide +kernel
