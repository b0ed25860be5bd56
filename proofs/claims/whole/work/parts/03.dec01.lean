theorem dX10_walk_47 : decode cX10_walk 47 = .ok (.putfield 65, 3) := by decide +kernel
theorem dX10_walk_50 : decode cX10_walk 50 = .ok (.iinc 4 1, 3) := by decide +kernel
theorem dX10_walk_53 : decode cX10_walk 53 = .ok (.goto (-45), 3) := by decide +kernel
theorem dX10_walk_56 : decode cX10_walk 56 = .ok (.aload_n 0, 1) := by decide +kernel
theorem dX10_walk_57 : decode cX10_walk 57 = .ok (.iconst 0, 1) := by decide +kernel
theorem dX10_walk_58 : decode cX10_walk 58 = .ok (.putfield 62, 3) := by decide +kernel
theorem dX10_walk_61 : decode cX10_walk 61 = .ok (.return_, 1) := by decide +kernel
theorem dX10_setKind_0 : decode cX10_setKind 0 = .ok (.aload_n 1, 1) := by decide +kernel
theorem dX10_setKind_1 : decode cX10_setKind 1 = .ok (.ifnull 8, 3) := by decide +kernel
theorem dX10_setKind_4 : decode cX10_setKind 4 = .ok (.aload_n 0, 1) := by decide +kernel
theorem dX10_setKind_5 : decode cX10_setKind 5 = .ok (.aload_n 1, 1) := by decide +kernel
theorem dX10_setKind_6 : decode cX10_setKind 6 = .ok (.putfield 27, 3) := by decide +kernel
theorem dX10_setKind_9 : decode cX10_setKind 9 = .ok (.aload_n 0, 1) := by decide +kernel
theorem dX10_setKind_10 : decode cX10_setKind 10 = .ok (.iconst 0, 1) := by decide +kernel
theorem dX10_setKind_11 : decode cX10_setKind 11 = .ok (.putfield 62, 3) := by decide +kernel
theorem dX10_setKind_14 : decode cX10_setKind 14 = .ok (.return_, 1) := by decide +kernel
theorem dX10_setMore_0 : decode cX10_setMore 0 = .ok (.aload_n 0, 1) := by decide +kernel
theorem dX10_setMore_1 : decode cX10_setMore 1 = .ok (.iload_n 1, 1) := by decide +kernel
theorem dX10_setMore_2 : decode cX10_setMore 2 = .ok (.putfield 68, 3) := by decide +kernel
theorem dX10_setMore_5 : decode cX10_setMore 5 = .ok (.aload_n 0, 1) := by decide +kernel
theorem dX10_setMore_6 : decode cX10_setMore 6 = .ok (.iconst 0, 1) := by decide +kernel
theorem dX10_setMore_7 : decode cX10_setMore 7 = .ok (.putfield 62, 3) := by decide +kernel
theorem dX10_setMore_10 : decode cX10_setMore 10 = .ok (.return_, 1) := by decide +kernel
theorem dX10_setCrowd_0 : decode cX10_setCrowd 0 = .ok (.aload_n 0, 1) := by decide +kernel
theorem dX10_setCrowd_1 : decode cX10_setCrowd 1 = .ok (.iload_n 1, 1) := by decide +kernel
theorem dX10_setCrowd_2 : decode cX10_setCrowd 2 = .ok (.putfield 71, 3) := by decide +kernel
theorem dX10_setCrowd_5 : decode cX10_setCrowd 5 = .ok (.aload_n 0, 1) := by decide +kernel
theorem dX10_setCrowd_6 : decode cX10_setCrowd 6 = .ok (.getfield 21, 3) := by decide +kernel
theorem dX10_setCrowd_9 : decode cX10_setCrowd 9 = .ok (.iconst 4, 1) := by decide +kernel
theorem dX10_setCrowd_10 : decode cX10_setCrowd 10 = .ok (.iload_n 1, 1) := by decide +kernel
theorem dX10_setCrowd_11 : decode cX10_setCrowd 11 = .ok (.invokestatic 45, 3) := by decide +kernel
theorem dX10_setCrowd_14 : decode cX10_setCrowd 14 = .ok (.aload_n 0, 1) := by decide +kernel
theorem dX10_setCrowd_15 : decode cX10_setCrowd 15 = .ok (.iconst 0, 1) := by decide +kernel
theorem dX10_setCrowd_16 : decode cX10_setCrowd 16 = .ok (.putfield 62, 3) := by decide +kernel
theorem dX10_setCrowd_19 : decode cX10_setCrowd 19 = .ok (.return_, 1) := by decide +kernel
theorem dX10_setLaw_0 : decode cX10_setLaw 0 = .ok (.aload_n 0, 1) := by decide +kernel
theorem dX10_setLaw_1 : decode cX10_setLaw 1 = .ok (.iload_n 1, 1) := by decide +kernel
theorem dX10_setLaw_2 : decode cX10_setLaw 2 = .ok (.putfield 61, 3) := by decide +kernel
theorem dX10_setLaw_5 : decode cX10_setLaw 5 = .ok (.aload_n 0, 1) := by decide +kernel
theorem dX10_setLaw_6 : decode cX10_setLaw 6 = .ok (.iconst 0, 1) := by decide +kernel
theorem dX10_setLaw_7 : decode cX10_setLaw 7 = .ok (.putfield 62, 3) := by decide +kernel
theorem dX10_setLaw_10 : decode cX10_setLaw 10 = .ok (.return_, 1) := by decide +kernel
theorem dX10_setLight_0 : decode cX10_setLight 0 = .ok (.aload_n 0, 1) := by decide +kernel
theorem dX10_setLight_1 : decode cX10_setLight 1 = .ok (.getfield 9, 3) := by decide +kernel
theorem dX10_setLight_4 : decode cX10_setLight 4 = .ok (.iload_n 1, 1) := by decide +kernel
theorem dX10_setLight_5 : decode cX10_setLight 5 = .ok (.iload_n 2, 1) := by decide +kernel
theorem dX10_setLight_6 : decode cX10_setLight 6 = .ok (.invokestatic 45, 3) := by decide +kernel
theorem dX10_setLight_9 : decode cX10_setLight 9 = .ok (.aload_n 0, 1) := by decide +kernel
theorem dX10_setLight_10 : decode cX10_setLight 10 = .ok (.iconst 0, 1) := by decide +kernel
theorem dX10_setLight_11 : decode cX10_setLight 11 = .ok (.putfield 62, 3) := by decide +kernel
theorem dX10_setLight_14 : decode cX10_setLight 14 = .ok (.return_, 1) := by decide +kernel
theorem dX10_setDamp_0 : decode cX10_setDamp 0 = .ok (.aload_n 0, 1) := by decide +kernel
theorem dX10_setDamp_1 : decode cX10_setDamp 1 = .ok (.getfield 15, 3) := by decide +kernel
theorem dX10_setDamp_4 : decode cX10_setDamp 4 = .ok (.iload_n 1, 1) := by decide +kernel
theorem dX10_setDamp_5 : decode cX10_setDamp 5 = .ok (.iload_n 2, 1) := by decide +kernel
theorem dX10_setDamp_6 : decode cX10_setDamp 6 = .ok (.invokestatic 45, 3) := by decide +kernel
theorem dX10_setDamp_9 : decode cX10_setDamp 9 = .ok (.aload_n 0, 1) := by decide +kernel
theorem dX10_setDamp_10 : decode cX10_setDamp 10 = .ok (.iconst 0, 1) := by decide +kernel
theorem dX10_setDamp_11 : decode cX10_setDamp 11 = .ok (.putfield 62, 3) := by decide +kernel
theorem dX10_setDamp_14 : decode cX10_setDamp 14 = .ok (.return_, 1) := by decide +kernel
theorem dX10_setRich_0 : decode cX10_setRich 0 = .ok (.aload_n 0, 1) := by decide +kernel
theorem dX10_setRich_1 : decode cX10_setRich 1 = .ok (.getfield 21, 3) := by decide +kernel
theorem dX10_setRich_4 : decode cX10_setRich 4 = .ok (.iconst 5, 1) := by decide +kernel
theorem dX10_setRich_5 : decode cX10_setRich 5 = .ok (.iload_n 1, 1) := by decide +kernel
theorem dX10_setRich_6 : decode cX10_setRich 6 = .ok (.invokestatic 45, 3) := by decide +kernel
theorem dX10_setRich_9 : decode cX10_setRich 9 = .ok (.aload_n 0, 1) := by decide +kernel
theorem dX10_setRich_10 : decode cX10_setRich 10 = .ok (.getfield 34, 3) := by decide +kernel
theorem dX10_setRich_13 : decode cX10_setRich 13 = .ok (.aload_n 0, 1) := by decide +kernel
theorem dX10_setRich_14 : decode cX10_setRich 14 = .ok (.getfield 61, 3) := by decide +kernel
theorem dX10_setRich_17 : decode cX10_setRich 17 = .ok (.bipush (-15), 2) := by decide +kernel
theorem dX10_setRich_19 : decode cX10_setRich 19 = .ok (.invokevirtual 74, 3) := by decide +kernel
theorem dX10_setRich_22 : decode cX10_setRich 22 = .ok (.ifCond .eq 8, 3) := by decide +kernel
theorem dX10_setRich_25 : decode cX10_setRich 25 = .ok (.aload_n 0, 1) := by decide +kernel
theorem dX10_setRich_26 : decode cX10_setRich 26 = .ok (.iconst 0, 1) := by decide +kernel
theorem dX10_setRich_27 : decode cX10_setRich 27 = .ok (.putfield 62, 3) := by decide +kernel
theorem dX10_setRich_30 : decode cX10_setRich 30 = .ok (.return_, 1) := by decide +kernel
theorem dX10_setHour_0 : decode cX10_setHour 0 = .ok (.aload_n 0, 1) := by decide +kernel
theorem dX10_setHour_1 : decode cX10_setHour 1 = .ok (.iload_n 1, 1) := by decide +kernel
theorem dX10_setHour_2 : decode cX10_setHour 2 = .ok (.putfield 80, 3) := by decide +kernel
theorem dX10_setHour_5 : decode cX10_setHour 5 = .ok (.aload_n 0, 1) := by decide +kernel
theorem dX10_setHour_6 : decode cX10_setHour 6 = .ok (.getfield 21, 3) := by decide +kernel
theorem dX10_setHour_9 : decode cX10_setHour 9 = .ok (.iconst 3, 1) := by decide +kernel
theorem dX10_setHour_10 : decode cX10_setHour 10 = .ok (.iload_n 1, 1) := by decide +kernel
theorem dX10_setHour_11 : decode cX10_setHour 11 = .ok (.invokestatic 45, 3) := by decide +kernel
theorem dX10_setHour_14 : decode cX10_setHour 14 = .ok (.return_, 1) := by decide +kernel
theorem dX10_lookAt_0 : decode cX10_lookAt 0 = .ok (.aload_n 0, 1) := by decide +kernel
theorem dX10_lookAt_1 : decode cX10_lookAt 1 = .ok (.getfield 21, 3) := by decide +kernel
theorem dX10_lookAt_4 : decode cX10_lookAt 4 = .ok (.iconst 0, 1) := by decide +kernel
theorem dX10_lookAt_5 : decode cX10_lookAt 5 = .ok (.aload_n 0, 1) := by decide +kernel
theorem dX10_lookAt_6 : decode cX10_lookAt 6 = .ok (.getfield 9, 3) := by decide +kernel
theorem dX10_lookAt_9 : decode cX10_lookAt 9 = .ok (.iload_n 1, 1) := by decide +kernel
theorem dX10_lookAt_10 : decode cX10_lookAt 10 = .ok (.invokestatic 41, 3) := by decide +kernel
theorem dX10_lookAt_13 : decode cX10_lookAt 13 = .ok (.invokestatic 45, 3) := by decide +kernel
theorem dX10_lookAt_16 : decode cX10_lookAt 16 = .ok (.aload_n 0, 1) := by decide +kernel
theorem dX10_lookAt_17 : decode cX10_lookAt 17 = .ok (.getfield 21, 3) := by decide +kernel
theorem dX10_lookAt_20 : decode cX10_lookAt 20 = .ok (.iconst 1, 1) := by decide +kernel
theorem dX10_lookAt_21 : decode cX10_lookAt 21 = .ok (.aload_n 0, 1) := by decide +kernel
theorem dX10_lookAt_22 : decode cX10_lookAt 22 = .ok (.getfield 15, 3) := by decide +kernel
theorem dX10_lookAt_25 : decode cX10_lookAt 25 = .ok (.iload_n 1, 1) := by decide +kernel
theorem dX10_lookAt_26 : decode cX10_lookAt 26 = .ok (.invokestatic 41, 3) := by decide +kernel
theorem dX10_lookAt_29 : decode cX10_lookAt 29 = .ok (.invokestatic 45, 3) := by decide +kernel
theorem dX10_lookAt_32 : decode cX10_lookAt 32 = .ok (.aload_n 0, 1) := by decide +kernel
theorem dX10_lookAt_33 : decode cX10_lookAt 33 = .ok (.getfield 21, 3) := by decide +kernel
theorem dX10_lookAt_36 : decode cX10_lookAt 36 = .ok (.iconst 2, 1) := by decide +kernel
theorem dX10_lookAt_37 : decode cX10_lookAt 37 = .ok (.iload_n 1, 1) := by decide +kernel
theorem dX10_lookAt_38 : decode cX10_lookAt 38 = .ok (.invokestatic 45, 3) := by decide +kernel
theorem dX10_lookAt_41 : decode cX10_lookAt 41 = .ok (.return_, 1) := by decide +kernel
theorem dX10_lookAtNoRoom_0 : decode cX10_lookAtNoRoom 0 = .ok (.aload_n 0, 1) := by decide +kernel
theorem dX10_lookAtNoRoom_1 : decode cX10_lookAtNoRoom 1 = .ok (.getfield 21, 3) := by decide +kernel
theorem dX10_lookAtNoRoom_4 : decode cX10_lookAtNoRoom 4 = .ok (.iconst 0, 1) := by decide +kernel
theorem dX10_lookAtNoRoom_5 : decode cX10_lookAtNoRoom 5 = .ok (.iconst 0, 1) := by decide +kernel
theorem dX10_lookAtNoRoom_6 : decode cX10_lookAtNoRoom 6 = .ok (.invokestatic 45, 3) := by decide +kernel
theorem dX10_lookAtNoRoom_9 : decode cX10_lookAtNoRoom 9 = .ok (.aload_n 0, 1) := by decide +kernel
theorem dX10_lookAtNoRoom_10 : decode cX10_lookAtNoRoom 10 = .ok (.getfield 21, 3) := by decide +kernel
theorem dX10_lookAtNoRoom_13 : decode cX10_lookAtNoRoom 13 = .ok (.iconst 1, 1) := by decide +kernel
theorem dX10_lookAtNoRoom_14 : decode cX10_lookAtNoRoom 14 = .ok (.iconst 0, 1) := by decide +kernel
theorem dX10_lookAtNoRoom_15 : decode cX10_lookAtNoRoom 15 = .ok (.invokestatic 45, 3) := by decide +kernel
theorem dX10_lookAtNoRoom_18 : decode cX10_lookAtNoRoom 18 = .ok (.aload_n 0, 1) := by decide +kernel
theorem dX10_lookAtNoRoom_19 : decode cX10_lookAtNoRoom 19 = .ok (.getfield 21, 3) := by decide +kernel
theorem dX10_lookAtNoRoom_22 : decode cX10_lookAtNoRoom 22 = .ok (.iconst 2, 1) := by decide +kernel
theorem dX10_lookAtNoRoom_23 : decode cX10_lookAtNoRoom 23 = .ok (.iconst 0, 1) := by decide +kernel
theorem dX10_lookAtNoRoom_24 : decode cX10_lookAtNoRoom 24 = .ok (.invokestatic 45, 3) := by decide +kernel
theorem dX10_lookAtNoRoom_27 : decode cX10_lookAtNoRoom 27 = .ok (.return_, 1) := by decide +kernel
theorem dX10_said_0 : decode cX10_said 0 = .ok (.iload_n 1, 1) := by decide +kernel
theorem dX10_said_1 : decode cX10_said 1 = .ok (.iconst 2, 1) := by decide +kernel
theorem dX10_said_2 : decode cX10_said 2 = .ok (.if_icmp .ne 10, 3) := by decide +kernel
theorem dX10_said_5 : decode cX10_said 5 = .ok (.aload_n 0, 1) := by decide +kernel
theorem dX10_said_6 : decode cX10_said 6 = .ok (.invokevirtual 81, 3) := by decide +kernel
theorem dX10_said_9 : decode cX10_said 9 = .ok (.goto 8, 3) := by decide +kernel
theorem dX10_said_12 : decode cX10_said 12 = .ok (.aload_n 0, 1) := by decide +kernel
theorem dX10_said_13 : decode cX10_said 13 = .ok (.iload_n 2, 1) := by decide +kernel
theorem dX10_said_14 : decode cX10_said 14 = .ok (.invokevirtual 84, 3) := by decide +kernel
theorem dX10_said_17 : decode cX10_said 17 = .ok (.aload_n 0, 1) := by decide +kernel
theorem dX10_said_18 : decode cX10_said 18 = .ok (.getfield 34, 3) := by decide +kernel
theorem dX10_said_21 : decode cX10_said 21 = .ok (.aload_n 0, 1) := by decide +kernel
theorem dX10_said_22 : decode cX10_said 22 = .ok (.getfield 61, 3) := by decide +kernel
theorem dX10_said_25 : decode cX10_said 25 = .ok (.iload_n 1, 1) := by decide +kernel
theorem dX10_said_26 : decode cX10_said 26 = .ok (.aload_n 0, 1) := by decide +kernel
theorem dX10_said_27 : decode cX10_said 27 = .ok (.getfield 21, 3) := by decide +kernel
theorem dX10_said_30 : decode cX10_said 30 = .ok (.invokevirtual 87, 3) := by decide +kernel
theorem dX10_said_33 : decode cX10_said 33 = .ok (.ireturn, 1) := by decide +kernel
theorem dX10_liked_0 : decode cX10_liked 0 = .ok (.aload_n 0, 1) := by decide +kernel
theorem dX10_liked_1 : decode cX10_liked 1 = .ok (.iload_n 1, 1) := by decide +kernel
theorem dX10_liked_2 : decode cX10_liked 2 = .ok (.invokevirtual 84, 3) := by decide +kernel
theorem dX10_liked_5 : decode cX10_liked 5 = .ok (.aload_n 0, 1) := by decide +kernel
theorem dX10_liked_6 : decode cX10_liked 6 = .ok (.getfield 27, 3) := by decide +kernel
theorem dX10_liked_9 : decode cX10_liked 9 = .ok (.iload_n 1, 1) := by decide +kernel
theorem dX10_liked_10 : decode cX10_liked 10 = .ok (.aload_n 0, 1) := by decide +kernel
theorem dX10_liked_11 : decode cX10_liked 11 = .ok (.getfield 34, 3) := by decide +kernel
theorem dX10_liked_14 : decode cX10_liked 14 = .ok (.aload_n 0, 1) := by decide +kernel
theorem dX10_liked_15 : decode cX10_liked 15 = .ok (.getfield 61, 3) := by decide +kernel
theorem dX10_liked_18 : decode cX10_liked 18 = .ok (.iconst 0, 1) := by decide +kernel
theorem dX10_liked_19 : decode cX10_liked 19 = .ok (.aload_n 0, 1) := by decide +kernel
theorem dX10_liked_20 : decode cX10_liked 20 = .ok (.getfield 21, 3) := by decide +kernel
theorem dX10_liked_23 : decode cX10_liked 23 = .ok (.invokevirtual 87, 3) := by decide +kernel
theorem dX10_liked_26 : decode cX10_liked 26 = .ok (.aload_n 0, 1) := by decide +kernel
theorem dX10_liked_27 : decode cX10_liked 27 = .ok (.getfield 68, 3) := by decide +kernel
theorem dX10_liked_30 : decode cX10_liked 30 = .ok (.invokevirtual 91, 3) := by decide +kernel
theorem dX10_liked_33 : decode cX10_liked 33 = .ok (.ireturn, 1) := by decide +kernel
theorem dX10_keptOf_0 : decode cX10_keptOf 0 = .ok (.aload_n 0, 1) := by decide +kernel
theorem dX10_keptOf_1 : decode cX10_keptOf 1 = .ok (.iload_n 1, 1) := by decide +kernel
theorem dX10_keptOf_2 : decode cX10_keptOf 2 = .ok (.invokevirtual 84, 3) := by decide +kernel
theorem dX10_keptOf_5 : decode cX10_keptOf 5 = .ok (.aload_n 0, 1) := by decide +kernel
theorem dX10_keptOf_6 : decode cX10_keptOf 6 = .ok (.getfield 27, 3) := by decide +kernel
theorem dX10_keptOf_9 : decode cX10_keptOf 9 = .ok (.iload_n 1, 1) := by decide +kernel
theorem dX10_keptOf_10 : decode cX10_keptOf 10 = .ok (.aload_n 0, 1) := by decide +kernel
theorem dX10_keptOf_11 : decode cX10_keptOf 11 = .ok (.getfield 34, 3) := by decide +kernel
theorem dX10_keptOf_14 : decode cX10_keptOf 14 = .ok (.aload_n 0, 1) := by decide +kernel
theorem dX10_keptOf_15 : decode cX10_keptOf 15 = .ok (.getfield 61, 3) := by decide +kernel
theorem dX10_keptOf_18 : decode cX10_keptOf 18 = .ok (.iconst 0, 1) := by decide +kernel
theorem dX10_keptOf_19 : decode cX10_keptOf 19 = .ok (.aload_n 0, 1) := by decide +kernel
theorem dX10_keptOf_20 : decode cX10_keptOf 20 = .ok (.getfield 21, 3) := by decide +kernel
theorem dX10_keptOf_23 : decode cX10_keptOf 23 = .ok (.invokevirtual 87, 3) := by decide +kernel
theorem dX10_keptOf_26 : decode cX10_keptOf 26 = .ok (.aload_n 0, 1) := by decide +kernel
theorem dX10_keptOf_27 : decode cX10_keptOf 27 = .ok (.getfield 68, 3) := by decide +kernel
theorem dX10_keptOf_30 : decode cX10_keptOf 30 = .ok (.invokevirtual 91, 3) := by decide +kernel
theorem dX10_keptOf_33 : decode cX10_keptOf 33 = .ok (.istore 4, 2) := by decide +kernel
theorem dX10_keptOf_35 : decode cX10_keptOf 35 = .ok (.iload 4, 2) := by decide +kernel
theorem dX10_keptOf_37 : decode cX10_keptOf 37 = .ok (.aload_n 0, 1) := by decide +kernel
theorem dX10_keptOf_38 : decode cX10_keptOf 38 = .ok (.getfield 27, 3) := by decide +kernel
theorem dX10_keptOf_41 : decode cX10_keptOf 41 = .ok (.aload_n 0, 1) := by decide +kernel
theorem dX10_keptOf_42 : decode cX10_keptOf 42 = .ok (.getfield 34, 3) := by decide +kernel
theorem dX10_keptOf_45 : decode cX10_keptOf 45 = .ok (.aload_n 0, 1) := by decide +kernel
theorem dX10_keptOf_46 : decode cX10_keptOf 46 = .ok (.getfield 61, 3) := by decide +kernel
theorem dX10_keptOf_49 : decode cX10_keptOf 49 = .ok (.iconst 1, 1) := by decide +kernel
theorem dX10_keptOf_50 : decode cX10_keptOf 50 = .ok (.aload_n 0, 1) := by decide +kernel
theorem dX10_keptOf_51 : decode cX10_keptOf 51 = .ok (.getfield 21, 3) := by decide +kernel
theorem dX10_keptOf_54 : decode cX10_keptOf 54 = .ok (.invokevirtual 87, 3) := by decide +kernel
theorem dX10_keptOf_57 : decode cX10_keptOf 57 = .ok (.iload 4, 2) := by decide +kernel
theorem dX10_keptOf_59 : decode cX10_keptOf 59 = .ok (.aload_n 0, 1) := by decide +kernel
theorem dX10_keptOf_60 : decode cX10_keptOf 60 = .ok (.getfield 68, 3) := by decide +kernel
theorem dX10_keptOf_63 : decode cX10_keptOf 63 = .ok (.iload_n 2, 1) := by decide +kernel
theorem dX10_keptOf_64 : decode cX10_keptOf 64 = .ok (.iload_n 3, 1) := by decide +kernel
theorem dX10_keptOf_65 : decode cX10_keptOf 65 = .ok (.invokevirtual 95, 3) := by decide +kernel
theorem dX10_keptOf_68 : decode cX10_keptOf 68 = .ok (.imul, 1) := by decide +kernel
theorem dX10_keptOf_69 : decode cX10_keptOf 69 = .ok (.ireturn, 1) := by decide +kernel
theorem dX10_mind_0 : decode cX10_mind 0 = .ok (.aload_n 0, 1) := by decide +kernel
theorem dX10_mind_1 : decode cX10_mind 1 = .ok (.getfield 34, 3) := by decide +kernel
theorem dX10_mind_4 : decode cX10_mind 4 = .ok (.aload_n 0, 1) := by decide +kernel
theorem dX10_mind_5 : decode cX10_mind 5 = .ok (.getfield 61, 3) := by decide +kernel
theorem dX10_mind_8 : decode cX10_mind 8 = .ok (.bipush (-13), 2) := by decide +kernel
theorem dX10_mind_10 : decode cX10_mind 10 = .ok (.invokevirtual 74, 3) := by decide +kernel
theorem dX10_mind_13 : decode cX10_mind 13 = .ok (.ifCond .eq 10, 3) := by decide +kernel
theorem dX10_mind_16 : decode cX10_mind 16 = .ok (.aload_n 0, 1) := by decide +kernel
theorem dX10_mind_17 : decode cX10_mind 17 = .ok (.getfield 80, 3) := by decide +kernel
theorem dX10_mind_20 : decode cX10_mind 20 = .ok (.goto 4, 3) := by decide +kernel
theorem dX10_mind_23 : decode cX10_mind 23 = .ok (.iconst 0, 1) := by decide +kernel
theorem dX10_mind_24 : decode cX10_mind 24 = .ok (.istore_n 1, 1) := by decide +kernel
theorem dX10_mind_25 : decode cX10_mind 25 = .ok (.aload_n 0, 1) := by decide +kernel
theorem dX10_mind_26 : decode cX10_mind 26 = .ok (.getfield 62, 3) := by decide +kernel
theorem dX10_mind_29 : decode cX10_mind 29 = .ok (.iload_n 1, 1) := by decide +kernel
theorem dX10_mind_30 : decode cX10_mind 30 = .ok (.ishr, 1) := by decide +kernel
theorem dX10_mind_31 : decode cX10_mind 31 = .ok (.iconst 1, 1) := by decide +kernel
theorem dX10_mind_32 : decode cX10_mind 32 = .ok (.iand, 1) := by decide +kernel
theorem dX10_mind_33 : decode cX10_mind 33 = .ok (.ifCond .eq 12, 3) := by decide +kernel
theorem dX10_mind_36 : decode cX10_mind 36 = .ok (.aload_n 0, 1) := by decide +kernel
theorem dX10_mind_37 : decode cX10_mind 37 = .ok (.getfield 31, 3) := by decide +kernel
theorem dX10_mind_40 : decode cX10_mind 40 = .ok (.iload_n 1, 1) := by decide +kernel
theorem dX10_mind_41 : decode cX10_mind 41 = .ok (.invokestatic 41, 3) := by decide +kernel
theorem dX10_mind_44 : decode cX10_mind 44 = .ok (.ireturn, 1) := by decide +kernel
theorem dX10_mind_45 : decode cX10_mind 45 = .ok (.iconst 0, 1) := by decide +kernel
theorem dX10_mind_46 : decode cX10_mind 46 = .ok (.istore_n 2, 1) := by decide +kernel
theorem dX10_mind_47 : decode cX10_mind 47 = .ok (.iconst 0, 1) := by decide +kernel
theorem dX10_mind_48 : decode cX10_mind 48 = .ok (.istore_n 3, 1) := by decide +kernel
theorem dX10_mind_49 : decode cX10_mind 49 = .ok (.iload_n 3, 1) := by decide +kernel
theorem dX10_mind_50 : decode cX10_mind 50 = .ok (.aload_n 0, 1) := by decide +kernel
theorem dX10_mind_51 : decode cX10_mind 51 = .ok (.getfield 65, 3) := by decide +kernel
theorem dX10_mind_54 : decode cX10_mind 54 = .ok (.if_icmp .ge 48, 3) := by decide +kernel
theorem dX10_mind_57 : decode cX10_mind 57 = .ok (.iload_n 2, 1) := by decide +kernel
theorem dX10_mind_58 : decode cX10_mind 58 = .ok (.aload_n 0, 1) := by decide +kernel
theorem dX10_mind_59 : decode cX10_mind 59 = .ok (.aload_n 0, 1) := by decide +kernel
theorem dX10_mind_60 : decode cX10_mind 60 = .ok (.getfield 18, 3) := by decide +kernel
theorem dX10_mind_63 : decode cX10_mind 63 = .ok (.iload_n 3, 1) := by decide +kernel
theorem dX10_mind_64 : decode cX10_mind 64 = .ok (.invokestatic 41, 3) := by decide +kernel
theorem dX10_mind_67 : decode cX10_mind 67 = .ok (.iload_n 3, 1) := by decide +kernel
theorem dX10_mind_68 : decode cX10_mind 68 = .ok (.ifCond .ne 7, 3) := by decide +kernel
theorem dX10_mind_71 : decode cX10_mind 71 = .ok (.iconst 1, 1) := by decide +kernel
theorem dX10_mind_72 : decode cX10_mind 72 = .ok (.goto 4, 3) := by decide +kernel
theorem dX10_mind_75 : decode cX10_mind 75 = .ok (.iconst 0, 1) := by decide +kernel
theorem dX10_mind_76 : decode cX10_mind 76 = .ok (.iload_n 3, 1) := by decide +kernel
theorem dX10_mind_77 : decode cX10_mind 77 = .ok (.aload_n 0, 1) := by decide +kernel
theorem dX10_mind_78 : decode cX10_mind 78 = .ok (.getfield 65, 3) := by decide +kernel
theorem dX10_mind_81 : decode cX10_mind 81 = .ok (.iconst 1, 1) := by decide +kernel
theorem dX10_mind_82 : decode cX10_mind 82 = .ok (.isub, 1) := by decide +kernel
theorem dX10_mind_83 : decode cX10_mind 83 = .ok (.if_icmp .ne 7, 3) := by decide +kernel
theorem dX10_mind_86 : decode cX10_mind 86 = .ok (.iconst 1, 1) := by decide +kernel
theorem dX10_mind_87 : decode cX10_mind 87 = .ok (.goto 4, 3) := by decide +kernel
theorem dX10_mind_90 : decode cX10_mind 90 = .ok (.iconst 0, 1) := by decide +kernel
theorem dX10_mind_91 : decode cX10_mind 91 = .ok (.invokevirtual 99, 3) := by decide +kernel
theorem dX10_mind_94 : decode cX10_mind 94 = .ok (.iadd, 1) := by decide +kernel
theorem dX10_mind_95 : decode cX10_mind 95 = .ok (.istore_n 2, 1) := by decide +kernel
theorem dX10_mind_96 : decode cX10_mind 96 = .ok (.iinc 3 1, 3) := by decide +kernel
theorem dX10_mind_99 : decode cX10_mind 99 = .ok (.goto (-50), 3) := by decide +kernel
theorem dX10_mind_102 : decode cX10_mind 102 = .ok (.aload_n 0, 1) := by decide +kernel
theorem dX10_mind_103 : decode cX10_mind 103 = .ok (.getfield 31, 3) := by decide +kernel
theorem dX10_mind_106 : decode cX10_mind 106 = .ok (.iload_n 1, 1) := by decide +kernel
theorem dX10_mind_107 : decode cX10_mind 107 = .ok (.iload_n 2, 1) := by decide +kernel
theorem dX10_mind_108 : decode cX10_mind 108 = .ok (.invokestatic 45, 3) := by decide +kernel
theorem dX10_mind_111 : decode cX10_mind 111 = .ok (.aload_n 0, 1) := by decide +kernel
theorem dX10_mind_112 : decode cX10_mind 112 = .ok (.dup, 1) := by decide +kernel
theorem dX10_mind_113 : decode cX10_mind 113 = .ok (.getfield 62, 3) := by decide +kernel
theorem dX10_mind_116 : decode cX10_mind 116 = .ok (.iconst 1, 1) := by decide +kernel
theorem dX10_mind_117 : decode cX10_mind 117 = .ok (.iload_n 1, 1) := by decide +kernel
theorem dX10_mind_118 : decode cX10_mind 118 = .ok (.ishl, 1) := by decide +kernel
theorem dX10_mind_119 : decode cX10_mind 119 = .ok (.ior, 1) := by decide +kernel
theorem dX10_mind_120 : decode cX10_mind 120 = .ok (.putfield 62, 3) := by decide +kernel
theorem dX10_mind_123 : decode cX10_mind 123 = .ok (.iload_n 2, 1) := by decide +kernel
theorem dX10_mind_124 : decode cX10_mind 124 = .ok (.ireturn, 1) := by decide +kernel
theorem dX10_offer_0 : decode cX10_offer 0 = .ok (.aload_n 0, 1) := by decide +kernel
theorem dX10_offer_1 : decode cX10_offer 1 = .ok (.invokevirtual 103, 3) := by decide +kernel
theorem dX10_offer_4 : decode cX10_offer 4 = .ok (.istore_n 1, 1) := by decide +kernel
theorem dX10_offer_5 : decode cX10_offer 5 = .ok (.aload_n 0, 1) := by decide +kernel
theorem dX10_offer_6 : decode cX10_offer 6 = .ok (.invokevirtual 81, 3) := by decide +kernel
theorem dX10_offer_9 : decode cX10_offer 9 = .ok (.aload_n 0, 1) := by decide +kernel
theorem dX10_offer_10 : decode cX10_offer 10 = .ok (.getfield 27, 3) := by decide +kernel
theorem dX10_offer_13 : decode cX10_offer 13 = .ok (.aload_n 0, 1) := by decide +kernel
theorem dX10_offer_14 : decode cX10_offer 14 = .ok (.getfield 34, 3) := by decide +kernel
theorem dX10_offer_17 : decode cX10_offer 17 = .ok (.aload_n 0, 1) := by decide +kernel
theorem dX10_offer_18 : decode cX10_offer 18 = .ok (.getfield 61, 3) := by decide +kernel
theorem dX10_offer_21 : decode cX10_offer 21 = .ok (.iconst 2, 1) := by decide +kernel
theorem dX10_offer_22 : decode cX10_offer 22 = .ok (.aload_n 0, 1) := by decide +kernel
theorem dX10_offer_23 : decode cX10_offer 23 = .ok (.getfield 21, 3) := by decide +kernel
theorem dX10_offer_26 : decode cX10_offer 26 = .ok (.invokevirtual 87, 3) := by decide +kernel
theorem dX10_offer_29 : decode cX10_offer 29 = .ok (.iload_n 1, 1) := by decide +kernel
theorem dX10_offer_30 : decode cX10_offer 30 = .ok (.aload_n 0, 1) := by decide +kernel
theorem dX10_offer_31 : decode cX10_offer 31 = .ok (.getfield 71, 3) := by decide +kernel
theorem dX10_offer_34 : decode cX10_offer 34 = .ok (.invokevirtual 107, 3) := by decide +kernel
theorem dX10_offer_37 : decode cX10_offer 37 = .ok (.ireturn, 1) := by decide +kernel
theorem dX11_init_0 : decode cX11_init 0 = .ok (.aload_n 0, 1) := by decide +kernel
theorem dX11_init_1 : decode cX11_init 1 = .ok (.invokespecial 1, 3) := by decide +kernel
theorem dX11_init_4 : decode cX11_init 4 = .ok (.aload_n 0, 1) := by decide +kernel
theorem dX11_init_5 : decode cX11_init 5 = .ok (.new 7, 3) := by decide +kernel
theorem dX11_init_8 : decode cX11_init 8 = .ok (.dup, 1) := by decide +kernel
theorem dX11_init_9 : decode cX11_init 9 = .ok (.invokespecial 9, 3) := by decide +kernel
theorem dX11_init_12 : decode cX11_init 12 = .ok (.putfield 10, 3) := by decide +kernel
theorem dX11_init_15 : decode cX11_init 15 = .ok (.aload_n 0, 1) := by decide +kernel
theorem dX11_init_16 : decode cX11_init 16 = .ok (.new 7, 3) := by decide +kernel
theorem dX11_init_19 : decode cX11_init 19 = .ok (.dup, 1) := by decide +kernel
theorem dX11_init_20 : decode cX11_init 20 = .ok (.invokespecial 9, 3) := by decide +kernel
theorem dX11_init_23 : decode cX11_init 23 = .ok (.putfield 16, 3) := by decide +kernel
theorem dX11_init_26 : decode cX11_init 26 = .ok (.aload_n 0, 1) := by decide +kernel
theorem dX11_init_27 : decode cX11_init 27 = .ok (.bipush 6, 2) := by decide +kernel
theorem dX11_init_29 : decode cX11_init 29 = .ok (.anewarray 19, 3) := by decide +kernel
theorem dX11_init_32 : decode cX11_init 32 = .ok (.dup, 1) := by decide +kernel
theorem dX11_init_33 : decode cX11_init 33 = .ok (.iconst 0, 1) := by decide +kernel
theorem dX11_init_34 : decode cX11_init 34 = .ok (.new 19, 3) := by decide +kernel
theorem dX11_init_37 : decode cX11_init 37 = .ok (.dup, 1) := by decide +kernel
theorem dX11_init_38 : decode cX11_init 38 = .ok (.invokespecial 21, 3) := by decide +kernel
theorem dX11_init_41 : decode cX11_init 41 = .ok (.aastore, 1) := by decide +kernel
theorem dX11_init_42 : decode cX11_init 42 = .ok (.dup, 1) := by decide +kernel
theorem dX11_init_43 : decode cX11_init 43 = .ok (.iconst 1, 1) := by decide +kernel
theorem dX11_init_44 : decode cX11_init 44 = .ok (.new 22, 3) := by decide +kernel
theorem dX11_init_47 : decode cX11_init 47 = .ok (.dup, 1) := by decide +kernel
theorem dX11_init_48 : decode cX11_init 48 = .ok (.invokespecial 24, 3) := by decide +kernel
theorem dX11_init_51 : decode cX11_init 51 = .ok (.aastore, 1) := by decide +kernel
theorem dX11_init_52 : decode cX11_init 52 = .ok (.dup, 1) := by decide +kernel
theorem dX11_init_53 : decode cX11_init 53 = .ok (.iconst 2, 1) := by decide +kernel
theorem dX11_init_54 : decode cX11_init 54 = .ok (.new 25, 3) := by decide +kernel
theorem dX11_init_57 : decode cX11_init 57 = .ok (.dup, 1) := by decide +kernel
theorem dX11_init_58 : decode cX11_init 58 = .ok (.invokespecial 27, 3) := by decide +kernel
theorem dX11_init_61 : decode cX11_init 61 = .ok (.aastore, 1) := by decide +kernel
theorem dX11_init_62 : decode cX11_init 62 = .ok (.dup, 1) := by decide +kernel
theorem dX11_init_63 : decode cX11_init 63 = .ok (.iconst 3, 1) := by decide +kernel
theorem dX11_init_64 : decode cX11_init 64 = .ok (.new 28, 3) := by decide +kernel
theorem dX11_init_67 : decode cX11_init 67 = .ok (.dup, 1) := by decide +kernel
theorem dX11_init_68 : decode cX11_init 68 = .ok (.invokespecial 30, 3) := by decide +kernel
theorem dX11_init_71 : decode cX11_init 71 = .ok (.aastore, 1) := by decide +kernel
theorem dX11_init_72 : decode cX11_init 72 = .ok (.dup, 1) := by decide +kernel
theorem dX11_init_73 : decode cX11_init 73 = .ok (.iconst 4, 1) := by decide +kernel
theorem dX11_init_74 : decode cX11_init 74 = .ok (.new 31, 3) := by decide +kernel
theorem dX11_init_77 : decode cX11_init 77 = .ok (.dup, 1) := by decide +kernel
theorem dX11_init_78 : decode cX11_init 78 = .ok (.invokespecial 33, 3) := by decide +kernel
theorem dX11_init_81 : decode cX11_init 81 = .ok (.aastore, 1) := by decide +kernel
theorem dX11_init_82 : decode cX11_init 82 = .ok (.dup, 1) := by decide +kernel
theorem dX11_init_83 : decode cX11_init 83 = .ok (.iconst 5, 1) := by decide +kernel
theorem dX11_init_84 : decode cX11_init 84 = .ok (.new 34, 3) := by decide +kernel
theorem dX11_init_87 : decode cX11_init 87 = .ok (.dup, 1) := by decide +kernel
theorem dX11_init_88 : decode cX11_init 88 = .ok (.invokespecial 36, 3) := by decide +kernel
theorem dX11_init_91 : decode cX11_init 91 = .ok (.aastore, 1) := by decide +kernel
theorem dX11_init_92 : decode cX11_init 92 = .ok (.putfield 37, 3) := by decide +kernel
theorem dX11_init_95 : decode cX11_init 95 = .ok (.aload_n 0, 1) := by decide +kernel
theorem dX11_init_96 : decode cX11_init 96 = .ok (.new 19, 3) := by decide +kernel
theorem dX11_init_99 : decode cX11_init 99 = .ok (.dup, 1) := by decide +kernel
theorem dX11_init_100 : decode cX11_init 100 = .ok (.invokespecial 21, 3) := by decide +kernel
theorem dX11_init_103 : decode cX11_init 103 = .ok (.putfield 41, 3) := by decide +kernel
theorem dX11_init_106 : decode cX11_init 106 = .ok (.aload_n 0, 1) := by decide +kernel
theorem dX11_init_107 : decode cX11_init 107 = .ok (.bipush 8, 2) := by decide +kernel
theorem dX11_init_109 : decode cX11_init 109 = .ok (.newarray .int, 2) := by decide +kernel
theorem dX11_init_111 : decode cX11_init 111 = .ok (.putfield 45, 3) := by decide +kernel
theorem dX11_init_114 : decode cX11_init 114 = .ok (.aload_n 0, 1) := by decide +kernel
theorem dX11_init_115 : decode cX11_init 115 = .ok (.bipush 8, 2) := by decide +kernel
theorem dX11_init_117 : decode cX11_init 117 = .ok (.newarray .int, 2) := by decide +kernel
theorem dX11_init_119 : decode cX11_init 119 = .ok (.putfield 49, 3) := by decide +kernel
theorem dX11_init_122 : decode cX11_init 122 = .ok (.aload_n 0, 1) := by decide +kernel
theorem dX11_init_123 : decode cX11_init 123 = .ok (.new 52, 3) := by decide +kernel
theorem dX11_init_126 : decode cX11_init 126 = .ok (.dup, 1) := by decide +kernel
theorem dX11_init_127 : decode cX11_init 127 = .ok (.invokespecial 54, 3) := by decide +kernel
theorem dX11_init_130 : decode cX11_init 130 = .ok (.putfield 55, 3) := by decide +kernel
theorem dX11_init_133 : decode cX11_init 133 = .ok (.aload_n 0, 1) := by decide +kernel
theorem dX11_init_134 : decode cX11_init 134 = .ok (.new 59, 3) := by decide +kernel
theorem dX11_init_137 : decode cX11_init 137 = .ok (.dup, 1) := by decide +kernel
theorem dX11_init_138 : decode cX11_init 138 = .ok (.aload_n 0, 1) := by decide +kernel
theorem dX11_init_139 : decode cX11_init 139 = .ok (.getfield 55, 3) := by decide +kernel
theorem dX11_init_142 : decode cX11_init 142 = .ok (.invokespecial 61, 3) := by decide +kernel
theorem dX11_init_145 : decode cX11_init 145 = .ok (.putfield 64, 3) := by decide +kernel
theorem dX11_init_148 : decode cX11_init 148 = .ok (.aload_n 0, 1) := by decide +kernel
theorem dX11_init_149 : decode cX11_init 149 = .ok (.new 68, 3) := by decide +kernel
theorem dX11_init_152 : decode cX11_init 152 = .ok (.dup, 1) := by decide +kernel
theorem dX11_init_153 : decode cX11_init 153 = .ok (.invokespecial 70, 3) := by decide +kernel
theorem dX11_init_156 : decode cX11_init 156 = .ok (.putfield 71, 3) := by decide +kernel
theorem dX11_init_159 : decode cX11_init 159 = .ok (.aload_n 0, 1) := by decide +kernel
theorem dX11_init_160 : decode cX11_init 160 = .ok (.new 75, 3) := by decide +kernel
theorem dX11_init_163 : decode cX11_init 163 = .ok (.dup, 1) := by decide +kernel
theorem dX11_init_164 : decode cX11_init 164 = .ok (.aload_n 0, 1) := by decide +kernel
theorem dX11_init_165 : decode cX11_init 165 = .ok (.getfield 55, 3) := by decide +kernel
theorem dX11_init_168 : decode cX11_init 168 = .ok (.invokespecial 77, 3) := by decide +kernel
theorem dX11_init_171 : decode cX11_init 171 = .ok (.putfield 78, 3) := by decide +kernel
theorem dX11_init_174 : decode cX11_init 174 = .ok (.aload_n 0, 1) := by decide +kernel
theorem dX11_init_175 : decode cX11_init 175 = .ok (.bipush 6, 2) := by decide +kernel
theorem dX11_init_177 : decode cX11_init 177 = .ok (.newarray .int, 2) := by decide +kernel
theorem dX11_init_179 : decode cX11_init 179 = .ok (.putfield 82, 3) := by decide +kernel
theorem dX11_init_182 : decode cX11_init 182 = .ok (.aload_n 0, 1) := by decide +kernel
theorem dX11_init_183 : decode cX11_init 183 = .ok (.bipush 6, 2) := by decide +kernel
theorem dX11_init_185 : decode cX11_init 185 = .ok (.newarray .int, 2) := by decide +kernel
theorem dX11_init_187 : decode cX11_init 187 = .ok (.putfield 85, 3) := by decide +kernel
theorem dX11_init_190 : decode cX11_init 190 = .ok (.aload_n 0, 1) := by decide +kernel
theorem dX11_init_191 : decode cX11_init 191 = .ok (.bipush 18, 2) := by decide +kernel
theorem dX11_init_193 : decode cX11_init 193 = .ok (.newarray .int, 2) := by decide +kernel
theorem dX11_init_195 : decode cX11_init 195 = .ok (.putfield 88, 3) := by decide +kernel
theorem dX11_init_198 : decode cX11_init 198 = .ok (.aload_n 0, 1) := by decide +kernel
theorem dX11_init_199 : decode cX11_init 199 = .ok (.bipush 8, 2) := by decide +kernel
theorem dX11_init_201 : decode cX11_init 201 = .ok (.newarray .int, 2) := by decide +kernel
theorem dX11_init_203 : decode cX11_init 203 = .ok (.putfield 91, 3) := by decide +kernel
theorem dX11_init_206 : decode cX11_init 206 = .ok (.iconst 0, 1) := by decide +kernel
theorem dX11_init_207 : decode cX11_init 207 = .ok (.istore_n 1, 1) := by decide +kernel
theorem dX11_init_208 : decode cX11_init 208 = .ok (.iload_n 1, 1) := by decide +kernel
theorem dX11_init_209 : decode cX11_init 209 = .ok (.ldc 94, 2) := by decide +kernel
theorem dX11_init_211 : decode cX11_init 211 = .ok (.invokevirtual 96, 3) := by decide +kernel
theorem dX11_init_214 : decode cX11_init 214 = .ok (.if_icmp .ge 22, 3) := by decide +kernel
theorem dX11_init_217 : decode cX11_init 217 = .ok (.aload_n 0, 1) := by decide +kernel
theorem dX11_init_218 : decode cX11_init 218 = .ok (.getfield 64, 3) := by decide +kernel
theorem dX11_init_221 : decode cX11_init 221 = .ok (.ldc 94, 2) := by decide +kernel
theorem dX11_init_223 : decode cX11_init 223 = .ok (.iload_n 1, 1) := by decide +kernel
theorem dX11_init_224 : decode cX11_init 224 = .ok (.invokevirtual 102, 3) := by decide +kernel
theorem dX11_init_227 : decode cX11_init 227 = .ok (.invokevirtual 106, 3) := by decide +kernel
theorem dX11_init_230 : decode cX11_init 230 = .ok (.iinc 1 1, 3) := by decide +kernel
theorem dX11_init_233 : decode cX11_init 233 = .ok (.goto (-25), 3) := by decide +kernel
theorem dX11_init_236 : decode cX11_init 236 = .ok (.aload_n 0, 1) := by decide +kernel
theorem dX11_init_237 : decode cX11_init 237 = .ok (.getfield 64, 3) := by decide +kernel
theorem dX11_init_240 : decode cX11_init 240 = .ok (.invokevirtual 110, 3) := by decide +kernel
theorem dX11_init_243 : decode cX11_init 243 = .ok (.pop, 1) := by decide +kernel
theorem dX11_init_244 : decode cX11_init 244 = .ok (.aload_n 0, 1) := by decide +kernel
theorem dX11_init_245 : decode cX11_init 245 = .ok (.getfield 64, 3) := by decide +kernel
theorem dX11_init_248 : decode cX11_init 248 = .ok (.iconst 0, 1) := by decide +kernel
theorem dX11_init_249 : decode cX11_init 249 = .ok (.putfield 113, 3) := by decide +kernel
theorem dX11_init_252 : decode cX11_init 252 = .ok (.aload_n 0, 1) := by decide +kernel
theorem dX11_init_253 : decode cX11_init 253 = .ok (.getfield 55, 3) := by decide +kernel
theorem dX11_init_256 : decode cX11_init 256 = .ok (.iconst 1, 1) := by decide +kernel
theorem dX11_init_257 : decode cX11_init 257 = .ok (.putfield 117, 3) := by decide +kernel
theorem dX11_init_260 : decode cX11_init 260 = .ok (.return_, 1) := by decide +kernel
theorem dX11_count_0 : decode cX11_count 0 = .ok (.iload_n 1, 1) := by decide +kernel
theorem dX11_count_1 : decode cX11_count 1 = .ok (.tableswitch 75 0 4 #[35, 43, 51, 59, 67], 35) := by decide +kernel
theorem dX11_count_36 : decode cX11_count 36 = .ok (.aload_n 0, 1) := by decide +kernel
theorem dX11_count_37 : decode cX11_count 37 = .ok (.getfield 10, 3) := by decide +kernel
theorem dX11_count_40 : decode cX11_count 40 = .ok (.getfield 120, 3) := by decide +kernel
theorem dX11_count_43 : decode cX11_count 43 = .ok (.ireturn, 1) := by decide +kernel
theorem dX11_count_44 : decode cX11_count 44 = .ok (.aload_n 0, 1) := by decide +kernel
theorem dX11_count_45 : decode cX11_count 45 = .ok (.getfield 10, 3) := by decide +kernel
theorem dX11_count_48 : decode cX11_count 48 = .ok (.getfield 123, 3) := by decide +kernel
theorem dX11_count_51 : decode cX11_count 51 = .ok (.ireturn, 1) := by decide +kernel
theorem dX11_count_52 : decode cX11_count 52 = .ok (.aload_n 0, 1) := by decide +kernel
theorem dX11_count_53 : decode cX11_count 53 = .ok (.getfield 55, 3) := by decide +kernel
theorem dX11_count_56 : decode cX11_count 56 = .ok (.getfield 117, 3) := by decide +kernel
theorem dX11_count_59 : decode cX11_count 59 = .ok (.ireturn, 1) := by decide +kernel
theorem dX11_count_60 : decode cX11_count 60 = .ok (.aload_n 0, 1) := by decide +kernel
theorem dX11_count_61 : decode cX11_count 61 = .ok (.getfield 10, 3) := by decide +kernel
theorem dX11_count_64 : decode cX11_count 64 = .ok (.getfield 126, 3) := by decide +kernel
theorem dX11_count_67 : decode cX11_count 67 = .ok (.ireturn, 1) := by decide +kernel
theorem dX11_count_68 : decode cX11_count 68 = .ok (.aload_n 0, 1) := by decide +kernel
theorem dX11_count_69 : decode cX11_count 69 = .ok (.getfield 64, 3) := by decide +kernel
theorem dX11_count_72 : decode cX11_count 72 = .ok (.getfield 113, 3) := by decide +kernel
theorem dX11_count_75 : decode cX11_count 75 = .ok (.ireturn, 1) := by decide +kernel
theorem dX11_count_76 : decode cX11_count 76 = .ok (.bipush (-2), 2) := by decide +kernel
theorem dX11_count_78 : decode cX11_count 78 = .ok (.ireturn, 1) := by decide +kernel
theorem dX11_hours_0 : decode cX11_hours 0 = .ok (.iload_n 1, 1) := by decide +kernel
theorem dX11_hours_1 : decode cX11_hours 1 = .ok (.bipush 12, 2) := by decide +kernel
theorem dX11_hours_3 : decode cX11_hours 3 = .ok (.invokestatic 129, 3) := by decide +kernel
theorem dX11_hours_6 : decode cX11_hours 6 = .ok (.ifCond .ne 6, 3) := by decide +kernel
theorem dX11_hours_9 : decode cX11_hours 9 = .ok (.bipush (-2), 2) := by decide +kernel
theorem dX11_hours_11 : decode cX11_hours 11 = .ok (.ireturn, 1) := by decide +kernel
theorem dX11_hours_12 : decode cX11_hours 12 = .ok (.aload_n 0, 1) := by decide +kernel
theorem dX11_hours_13 : decode cX11_hours 13 = .ok (.getfield 10, 3) := by decide +kernel
theorem dX11_hours_16 : decode cX11_hours 16 = .ok (.getfield 123, 3) := by decide +kernel
theorem dX11_hours_19 : decode cX11_hours 19 = .ok (.istore_n 2, 1) := by decide +kernel
theorem dX11_hours_20 : decode cX11_hours 20 = .ok (.aload_n 0, 1) := by decide +kernel
theorem dX11_hours_21 : decode cX11_hours 21 = .ok (.getfield 10, 3) := by decide +kernel
theorem dX11_hours_24 : decode cX11_hours 24 = .ok (.iload_n 1, 1) := by decide +kernel
theorem dX11_hours_25 : decode cX11_hours 25 = .ok (.putfield 123, 3) := by decide +kernel
theorem dX11_hours_28 : decode cX11_hours 28 = .ok (.iload_n 2, 1) := by decide +kernel
theorem dX11_hours_29 : decode cX11_hours 29 = .ok (.ireturn, 1) := by decide +kernel
theorem dX11_room_0 : decode cX11_room 0 = .ok (.iload_n 1, 1) := by decide +kernel
theorem dX11_room_1 : decode cX11_room 1 = .ok (.bipush 6, 2) := by decide +kernel
theorem dX11_room_3 : decode cX11_room 3 = .ok (.invokestatic 129, 3) := by decide +kernel
theorem dX11_room_6 : decode cX11_room 6 = .ok (.ifCond .ne 6, 3) := by decide +kernel
theorem dX11_room_9 : decode cX11_room 9 = .ok (.bipush (-5), 2) := by decide +kernel
theorem dX11_room_11 : decode cX11_room 11 = .ok (.ireturn, 1) := by decide +kernel
theorem dX11_room_12 : decode cX11_room 12 = .ok (.iload_n 2, 1) := by decide +kernel
theorem dX11_room_13 : decode cX11_room 13 = .ok (.iconst 2, 1) := by decide +kernel
theorem dX11_room_14 : decode cX11_room 14 = .ok (.invokestatic 129, 3) := by decide +kernel
theorem dX11_room_17 : decode cX11_room 17 = .ok (.ifCond .eq 12, 3) := by decide +kernel
theorem dX11_room_20 : decode cX11_room 20 = .ok (.iload_n 3, 1) := by decide +kernel
theorem dX11_room_21 : decode cX11_room 21 = .ok (.bipush 100, 2) := by decide +kernel
theorem dX11_room_23 : decode cX11_room 23 = .ok (.invokestatic 129, 3) := by decide +kernel
theorem dX11_room_26 : decode cX11_room 26 = .ok (.ifCond .ne 6, 3) := by decide +kernel
theorem dX11_room_29 : decode cX11_room 29 = .ok (.bipush (-7), 2) := by decide +kernel
theorem dX11_room_31 : decode cX11_room 31 = .ok (.ireturn, 1) := by decide +kernel
theorem dX11_room_32 : decode cX11_room 32 = .ok (.iload_n 2, 1) := by decide +kernel
theorem dX11_room_33 : decode cX11_room 33 = .ok (.ifCond .ne 13, 3) := by decide +kernel
theorem dX11_room_36 : decode cX11_room 36 = .ok (.aload_n 0, 1) := by decide +kernel
theorem dX11_room_37 : decode cX11_room 37 = .ok (.getfield 10, 3) := by decide +kernel
theorem dX11_room_40 : decode cX11_room 40 = .ok (.getfield 133, 3) := by decide +kernel
theorem dX11_room_43 : decode cX11_room 43 = .ok (.goto 10, 3) := by decide +kernel
theorem dX11_room_46 : decode cX11_room 46 = .ok (.aload_n 0, 1) := by decide +kernel
theorem dX11_room_47 : decode cX11_room 47 = .ok (.getfield 10, 3) := by decide +kernel
theorem dX11_room_50 : decode cX11_room 50 = .ok (.getfield 136, 3) := by decide +kernel
theorem dX11_room_53 : decode cX11_room 53 = .ok (.astore 4, 2) := by decide +kernel
theorem dX11_room_55 : decode cX11_room 55 = .ok (.aload 4, 2) := by decide +kernel
theorem dX11_room_57 : decode cX11_room 57 = .ok (.iload_n 1, 1) := by decide +kernel
theorem dX11_room_58 : decode cX11_room 58 = .ok (.invokestatic 139, 3) := by decide +kernel
theorem dX11_room_61 : decode cX11_room 61 = .ok (.istore 5, 2) := by decide +kernel
theorem dX11_room_63 : decode cX11_room 63 = .ok (.aload 4, 2) := by decide +kernel
theorem dX11_room_65 : decode cX11_room 65 = .ok (.iload_n 1, 1) := by decide +kernel
theorem dX11_room_66 : decode cX11_room 66 = .ok (.iload_n 3, 1) := by decide +kernel
theorem dX11_room_67 : decode cX11_room 67 = .ok (.invokestatic 143, 3) := by decide +kernel
theorem dX11_room_70 : decode cX11_room 70 = .ok (.iload 5, 2) := by decide +kernel
theorem dX11_room_72 : decode cX11_room 72 = .ok (.ireturn, 1) := by decide +kernel
theorem dX11_told_0 : decode cX11_told 0 = .ok (.iload_n 1, 1) := by decide +kernel
theorem dX11_told_1 : decode cX11_told 1 = .ok (.bipush 6, 2) := by decide +kernel
theorem dX11_told_3 : decode cX11_told 3 = .ok (.invokestatic 129, 3) := by decide +kernel
theorem dX11_told_6 : decode cX11_told 6 = .ok (.ifCond .ne 6, 3) := by decide +kernel
theorem dX11_told_9 : decode cX11_told 9 = .ok (.bipush (-5), 2) := by decide +kernel
theorem dX11_told_11 : decode cX11_told 11 = .ok (.ireturn, 1) := by decide +kernel
theorem dX11_told_12 : decode cX11_told 12 = .ok (.iload_n 2, 1) := by decide +kernel
theorem dX11_told_13 : decode cX11_told 13 = .ok (.iconst 2, 1) := by decide +kernel
theorem dX11_told_14 : decode cX11_told 14 = .ok (.invokestatic 129, 3) := by decide +kernel
theorem dX11_told_17 : decode cX11_told 17 = .ok (.ifCond .ne 6, 3) := by decide +kernel
theorem dX11_told_20 : decode cX11_told 20 = .ok (.bipush (-7), 2) := by decide +kernel
theorem dX11_told_22 : decode cX11_told 22 = .ok (.ireturn, 1) := by decide +kernel
theorem dX11_told_23 : decode cX11_told 23 = .ok (.iload_n 2, 1) := by decide +kernel
theorem dX11_told_24 : decode cX11_told 24 = .ok (.ifCond .ne 13, 3) := by decide +kernel
theorem dX11_told_27 : decode cX11_told 27 = .ok (.aload_n 0, 1) := by decide +kernel
theorem dX11_told_28 : decode cX11_told 28 = .ok (.getfield 10, 3) := by decide +kernel
theorem dX11_told_31 : decode cX11_told 31 = .ok (.getfield 133, 3) := by decide +kernel
theorem dX11_told_34 : decode cX11_told 34 = .ok (.goto 10, 3) := by decide +kernel
theorem dX11_told_37 : decode cX11_told 37 = .ok (.aload_n 0, 1) := by decide +kernel
theorem dX11_told_38 : decode cX11_told 38 = .ok (.getfield 10, 3) := by decide +kernel
theorem dX11_told_41 : decode cX11_told 41 = .ok (.getfield 136, 3) := by decide +kernel
theorem dX11_told_44 : decode cX11_told 44 = .ok (.iload_n 1, 1) := by decide +kernel
theorem dX11_told_45 : decode cX11_told 45 = .ok (.invokestatic 139, 3) := by decide +kernel
theorem dX11_told_48 : decode cX11_told 48 = .ok (.ireturn, 1) := by decide +kernel
theorem dX11_feed_0 : decode cX11_feed 0 = .ok (.iload_n 1, 1) := by decide +kernel
theorem dX11_feed_1 : decode cX11_feed 1 = .ok (.iconst 1, 1) := by decide +kernel
theorem dX11_feed_2 : decode cX11_feed 2 = .ok (.if_icmp .lt 8, 3) := by decide +kernel
theorem dX11_feed_5 : decode cX11_feed 5 = .ok (.iload_n 1, 1) := by decide +kernel
theorem dX11_feed_6 : decode cX11_feed 6 = .ok (.iconst 5, 1) := by decide +kernel
theorem dX11_feed_7 : decode cX11_feed 7 = .ok (.if_icmp .le 6, 3) := by decide +kernel
theorem dX11_feed_10 : decode cX11_feed 10 = .ok (.bipush (-2), 2) := by decide +kernel
theorem dX11_feed_12 : decode cX11_feed 12 = .ok (.ireturn, 1) := by decide +kernel
theorem dX11_feed_13 : decode cX11_feed 13 = .ok (.iload_n 2, 1) := by decide +kernel
theorem dX11_feed_14 : decode cX11_feed 14 = .ok (.invokestatic 147, 3) := by decide +kernel
theorem dX11_feed_17 : decode cX11_feed 17 = .ok (.ifCond .eq 34, 3) := by decide +kernel
theorem dX11_feed_20 : decode cX11_feed 20 = .ok (.iload_n 3, 1) := by decide +kernel
theorem dX11_feed_21 : decode cX11_feed 21 = .ok (.invokestatic 147, 3) := by decide +kernel
theorem dX11_feed_24 : decode cX11_feed 24 = .ok (.ifCond .eq 27, 3) := by decide +kernel
theorem dX11_feed_27 : decode cX11_feed 27 = .ok (.iload 4, 2) := by decide +kernel
theorem dX11_feed_29 : decode cX11_feed 29 = .ok (.invokestatic 147, 3) := by decide +kernel
theorem dX11_feed_32 : decode cX11_feed 32 = .ok (.ifCond .eq 19, 3) := by decide +kernel
theorem dX11_feed_35 : decode cX11_feed 35 = .ok (.iload 5, 2) := by decide +kernel
theorem dX11_feed_37 : decode cX11_feed 37 = .ok (.invokestatic 147, 3) := by decide +kernel
theorem dX11_feed_40 : decode cX11_feed 40 = .ok (.ifCond .eq 11, 3) := by decide +kernel
theorem dX11_feed_43 : decode cX11_feed 43 = .ok (.iload 6, 2) := by decide +kernel
theorem dX11_feed_45 : decode cX11_feed 45 = .ok (.invokestatic 147, 3) := by decide +kernel
theorem dX11_feed_48 : decode cX11_feed 48 = .ok (.ifCond .ne 6, 3) := by decide +kernel
theorem dX11_feed_51 : decode cX11_feed 51 = .ok (.bipush (-2), 2) := by decide +kernel
theorem dX11_feed_53 : decode cX11_feed 53 = .ok (.ireturn, 1) := by decide +kernel
theorem dX11_feed_54 : decode cX11_feed 54 = .ok (.aload_n 0, 1) := by decide +kernel
theorem dX11_feed_55 : decode cX11_feed 55 = .ok (.getfield 64, 3) := by decide +kernel
theorem dX11_feed_58 : decode cX11_feed 58 = .ok (.getfield 113, 3) := by decide +kernel
theorem dX11_feed_61 : decode cX11_feed 61 = .ok (.iload_n 1, 1) := by decide +kernel
theorem dX11_feed_62 : decode cX11_feed 62 = .ok (.iadd, 1) := by decide +kernel
theorem dX11_feed_63 : decode cX11_feed 63 = .ok (.sipush 160, 3) := by decide +kernel
theorem dX11_feed_66 : decode cX11_feed 66 = .ok (.if_icmp .le 6, 3) := by decide +kernel
theorem dX11_feed_69 : decode cX11_feed 69 = .ok (.bipush (-4), 2) := by decide +kernel
theorem dX11_feed_71 : decode cX11_feed 71 = .ok (.ireturn, 1) := by decide +kernel
theorem dX11_feed_72 : decode cX11_feed 72 = .ok (.aload_n 0, 1) := by decide +kernel
theorem dX11_feed_73 : decode cX11_feed 73 = .ok (.getfield 64, 3) := by decide +kernel
theorem dX11_feed_76 : decode cX11_feed 76 = .ok (.iload_n 2, 1) := by decide +kernel
theorem dX11_feed_77 : decode cX11_feed 77 = .ok (.invokevirtual 106, 3) := by decide +kernel
theorem dX11_feed_80 : decode cX11_feed 80 = .ok (.iload_n 1, 1) := by decide +kernel
theorem dX11_feed_81 : decode cX11_feed 81 = .ok (.iconst 1, 1) := by decide +kernel
theorem dX11_feed_82 : decode cX11_feed 82 = .ok (.if_icmp .le 11, 3) := by decide +kernel
theorem dX11_feed_85 : decode cX11_feed 85 = .ok (.aload_n 0, 1) := by decide +kernel
theorem dX11_feed_86 : decode cX11_feed 86 = .ok (.getfield 64, 3) := by decide +kernel
theorem dX11_feed_89 : decode cX11_feed 89 = .ok (.iload_n 3, 1) := by decide +kernel
theorem dX11_feed_90 : decode cX11_feed 90 = .ok (.invokevirtual 106, 3) := by decide +kernel
theorem dX11_feed_93 : decode cX11_feed 93 = .ok (.iload_n 1, 1) := by decide +kernel
theorem dX11_feed_94 : decode cX11_feed 94 = .ok (.iconst 2, 1) := by decide +kernel
theorem dX11_feed_95 : decode cX11_feed 95 = .ok (.if_icmp .le 12, 3) := by decide +kernel
theorem dX11_feed_98 : decode cX11_feed 98 = .ok (.aload_n 0, 1) := by decide +kernel
theorem dX11_feed_99 : decode cX11_feed 99 = .ok (.getfield 64, 3) := by decide +kernel
theorem dX11_feed_102 : decode cX11_feed 102 = .ok (.iload 4, 2) := by decide +kernel
theorem dX11_feed_104 : decode cX11_feed 104 = .ok (.invokevirtual 106, 3) := by decide +kernel
theorem dX11_feed_107 : decode cX11_feed 107 = .ok (.iload_n 1, 1) := by decide +kernel
theorem dX11_feed_108 : decode cX11_feed 108 = .ok (.iconst 3, 1) := by decide +kernel
theorem dX11_feed_109 : decode cX11_feed 109 = .ok (.if_icmp .le 12, 3) := by decide +kernel
theorem dX11_feed_112 : decode cX11_feed 112 = .ok (.aload_n 0, 1) := by decide +kernel
theorem dX11_feed_113 : decode cX11_feed 113 = .ok (.getfield 64, 3) := by decide +kernel
theorem dX11_feed_116 : decode cX11_feed 116 = .ok (.iload 5, 2) := by decide +kernel
theorem dX11_feed_118 : decode cX11_feed 118 = .ok (.invokevirtual 106, 3) := by decide +kernel
theorem dX11_feed_121 : decode cX11_feed 121 = .ok (.iload_n 1, 1) := by decide +kernel
theorem dX11_feed_122 : decode cX11_feed 122 = .ok (.iconst 4, 1) := by decide +kernel
theorem dX11_feed_123 : decode cX11_feed 123 = .ok (.if_icmp .le 12, 3) := by decide +kernel
theorem dX11_feed_126 : decode cX11_feed 126 = .ok (.aload_n 0, 1) := by decide +kernel
theorem dX11_feed_127 : decode cX11_feed 127 = .ok (.getfield 64, 3) := by decide +kernel
theorem dX11_feed_130 : decode cX11_feed 130 = .ok (.iload 6, 2) := by decide +kernel
theorem dX11_feed_132 : decode cX11_feed 132 = .ok (.invokevirtual 106, 3) := by decide +kernel
theorem dX11_feed_135 : decode cX11_feed 135 = .ok (.aload_n 0, 1) := by decide +kernel
theorem dX11_feed_136 : decode cX11_feed 136 = .ok (.getfield 64, 3) := by decide +kernel
theorem dX11_feed_139 : decode cX11_feed 139 = .ok (.getfield 113, 3) := by decide +kernel
theorem dX11_feed_142 : decode cX11_feed 142 = .ok (.ireturn, 1) := by decide +kernel
theorem dX11_text_0 : decode cX11_text 0 = .ok (.aload_n 0, 1) := by decide +kernel
theorem dX11_text_1 : decode cX11_text 1 = .ok (.getfield 55, 3) := by decide +kernel
theorem dX11_text_4 : decode cX11_text 4 = .ok (.getfield 117, 3) := by decide +kernel
theorem dX11_text_7 : decode cX11_text 7 = .ok (.bipush 6, 2) := by decide +kernel
theorem dX11_text_9 : decode cX11_text 9 = .ok (.if_icmp .lt 6, 3) := by decide +kernel
theorem dX11_text_12 : decode cX11_text 12 = .ok (.bipush (-4), 2) := by decide +kernel
theorem dX11_text_14 : decode cX11_text 14 = .ok (.ireturn, 1) := by decide +kernel
theorem dX11_text_15 : decode cX11_text 15 = .ok (.aload_n 0, 1) := by decide +kernel
theorem dX11_text_16 : decode cX11_text 16 = .ok (.getfield 64, 3) := by decide +kernel
theorem dX11_text_19 : decode cX11_text 19 = .ok (.invokevirtual 110, 3) := by decide +kernel
theorem dX11_text_22 : decode cX11_text 22 = .ok (.istore_n 1, 1) := by decide +kernel
theorem dX11_text_23 : decode cX11_text 23 = .ok (.aload_n 0, 1) := by decide +kernel
theorem dX11_text_24 : decode cX11_text 24 = .ok (.getfield 64, 3) := by decide +kernel
theorem dX11_text_27 : decode cX11_text 27 = .ok (.iconst 0, 1) := by decide +kernel
theorem dX11_text_28 : decode cX11_text 28 = .ok (.putfield 113, 3) := by decide +kernel
theorem dX11_text_31 : decode cX11_text 31 = .ok (.iload_n 1, 1) := by decide +kernel
theorem dX11_text_32 : decode cX11_text 32 = .ok (.ifCond .lt 8, 3) := by decide +kernel
theorem dX11_text_35 : decode cX11_text 35 = .ok (.bipush (-100), 2) := by decide +kernel
theorem dX11_text_37 : decode cX11_text 37 = .ok (.iload_n 1, 1) := by decide +kernel
theorem dX11_text_38 : decode cX11_text 38 = .ok (.isub, 1) := by decide +kernel
theorem dX11_text_39 : decode cX11_text 39 = .ok (.ireturn, 1) := by decide +kernel
theorem dX11_text_40 : decode cX11_text 40 = .ok (.aload_n 0, 1) := by decide +kernel
theorem dX11_text_41 : decode cX11_text 41 = .ok (.getfield 55, 3) := by decide +kernel
theorem dX11_text_44 : decode cX11_text 44 = .ok (.getfield 117, 3) := by decide +kernel
theorem dX11_text_47 : decode cX11_text 47 = .ok (.istore_n 2, 1) := by decide +kernel
theorem dX11_text_48 : decode cX11_text 48 = .ok (.aload_n 0, 1) := by decide +kernel
theorem dX11_text_49 : decode cX11_text 49 = .ok (.getfield 55, 3) := by decide +kernel
theorem dX11_text_52 : decode cX11_text 52 = .ok (.iload_n 2, 1) := by decide +kernel
theorem dX11_text_53 : decode cX11_text 53 = .ok (.iconst 1, 1) := by decide +kernel
theorem dX11_text_54 : decode cX11_text 54 = .ok (.iadd, 1) := by decide +kernel
theorem dX11_text_55 : decode cX11_text 55 = .ok (.putfield 117, 3) := by decide +kernel
theorem dX11_text_58 : decode cX11_text 58 = .ok (.iload_n 2, 1) := by decide +kernel
theorem dX11_text_59 : decode cX11_text 59 = .ok (.ireturn, 1) := by decide +kernel
theorem dX11_force_0 : decode cX11_force 0 = .ok (.iload_n 1, 1) := by decide +kernel
theorem dX11_force_1 : decode cX11_force 1 = .ok (.aload_n 0, 1) := by decide +kernel
theorem dX11_force_2 : decode cX11_force 2 = .ok (.getfield 55, 3) := by decide +kernel
theorem dX11_force_5 : decode cX11_force 5 = .ok (.getfield 117, 3) := by decide +kernel
theorem dX11_force_8 : decode cX11_force 8 = .ok (.invokestatic 129, 3) := by decide +kernel
theorem dX11_force_11 : decode cX11_force 11 = .ok (.ifCond .ne 6, 3) := by decide +kernel
theorem dX11_force_14 : decode cX11_force 14 = .ok (.bipush (-2), 2) := by decide +kernel
theorem dX11_force_16 : decode cX11_force 16 = .ok (.ireturn, 1) := by decide +kernel
theorem dX11_force_17 : decode cX11_force 17 = .ok (.aload_n 0, 1) := by decide +kernel
theorem dX11_force_18 : decode cX11_force 18 = .ok (.getfield 10, 3) := by decide +kernel
theorem dX11_force_21 : decode cX11_force 21 = .ok (.getfield 126, 3) := by decide +kernel
theorem dX11_force_24 : decode cX11_force 24 = .ok (.istore_n 2, 1) := by decide +kernel
theorem dX11_force_25 : decode cX11_force 25 = .ok (.aload_n 0, 1) := by decide +kernel
theorem dX11_force_26 : decode cX11_force 26 = .ok (.getfield 10, 3) := by decide +kernel
theorem dX11_force_29 : decode cX11_force 29 = .ok (.iload_n 1, 1) := by decide +kernel
theorem dX11_force_30 : decode cX11_force 30 = .ok (.putfield 126, 3) := by decide +kernel
theorem dX11_force_33 : decode cX11_force 33 = .ok (.iload_n 2, 1) := by decide +kernel
theorem dX11_force_34 : decode cX11_force 34 = .ok (.ireturn, 1) := by decide +kernel
theorem dX11_asks_0 : decode cX11_asks 0 = .ok (.iload_n 1, 1) := by decide +kernel
theorem dX11_asks_1 : decode cX11_asks 1 = .ok (.iconst 3, 1) := by decide +kernel
theorem dX11_asks_2 : decode cX11_asks 2 = .ok (.invokestatic 129, 3) := by decide +kernel
theorem dX11_asks_5 : decode cX11_asks 5 = .ok (.ifCond .eq 28, 3) := by decide +kernel
theorem dX11_asks_8 : decode cX11_asks 8 = .ok (.aload_n 0, 1) := by decide +kernel
theorem dX11_asks_9 : decode cX11_asks 9 = .ok (.iload_n 2, 1) := by decide +kernel
theorem dX11_asks_10 : decode cX11_asks 10 = .ok (.invokevirtual 151, 3) := by decide +kernel
theorem dX11_asks_13 : decode cX11_asks 13 = .ok (.ifCond .eq 20, 3) := by decide +kernel
theorem dX11_asks_16 : decode cX11_asks 16 = .ok (.iload_n 3, 1) := by decide +kernel
theorem dX11_asks_17 : decode cX11_asks 17 = .ok (.bipush 6, 2) := by decide +kernel
theorem dX11_asks_19 : decode cX11_asks 19 = .ok (.invokestatic 129, 3) := by decide +kernel
theorem dX11_asks_22 : decode cX11_asks 22 = .ok (.ifCond .eq 11, 3) := by decide +kernel
theorem dX11_asks_25 : decode cX11_asks 25 = .ok (.iload 4, 2) := by decide +kernel
theorem dX11_asks_27 : decode cX11_asks 27 = .ok (.invokestatic 154, 3) := by decide +kernel
theorem dX11_asks_30 : decode cX11_asks 30 = .ok (.ifCond .ne 7, 3) := by decide +kernel
theorem dX11_asks_33 : decode cX11_asks 33 = .ok (.sipush (-1000), 3) := by decide +kernel
theorem dX11_asks_36 : decode cX11_asks 36 = .ok (.ireturn, 1) := by decide +kernel
theorem dX11_asks_37 : decode cX11_asks 37 = .ok (.aload_n 0, 1) := by decide +kernel
theorem dX11_asks_38 : decode cX11_asks 38 = .ok (.getfield 78, 3) := by decide +kernel
theorem dX11_asks_41 : decode cX11_asks 41 = .ok (.aload_n 0, 1) := by decide +kernel
theorem dX11_asks_42 : decode cX11_asks 42 = .ok (.getfield 10, 3) := by decide +kernel
theorem dX11_asks_45 : decode cX11_asks 45 = .ok (.invokevirtual 157, 3) := by decide +kernel
theorem dX11_asks_48 : decode cX11_asks 48 = .ok (.aload_n 0, 1) := by decide +kernel
theorem dX11_asks_49 : decode cX11_asks 49 = .ok (.iload_n 2, 1) := by decide +kernel
theorem dX11_asks_50 : decode cX11_asks 50 = .ok (.iload 4, 2) := by decide +kernel
theorem dX11_asks_52 : decode cX11_asks 52 = .ok (.invokevirtual 161, 3) := by decide +kernel
theorem dX11_asks_55 : decode cX11_asks 55 = .ok (.aload_n 0, 1) := by decide +kernel
theorem dX11_asks_56 : decode cX11_asks 56 = .ok (.getfield 78, 3) := by decide +kernel
theorem dX11_asks_59 : decode cX11_asks 59 = .ok (.iload_n 1, 1) := by decide +kernel
theorem dX11_asks_60 : decode cX11_asks 60 = .ok (.iload_n 3, 1) := by decide +kernel
theorem dX11_asks_61 : decode cX11_asks 61 = .ok (.invokevirtual 165, 3) := by decide +kernel
theorem dX11_asks_64 : decode cX11_asks 64 = .ok (.ireturn, 1) := by decide +kernel
theorem dX11_viewer_0 : decode cX11_viewer 0 = .ok (.iload_n 1, 1) := by decide +kernel
theorem dX11_viewer_1 : decode cX11_viewer 1 = .ok (.bipush 60, 2) := by decide +kernel
theorem dX11_viewer_3 : decode cX11_viewer 3 = .ok (.invokestatic 129, 3) := by decide +kernel
theorem dX11_viewer_6 : decode cX11_viewer 6 = .ok (.ifCond .eq 12, 3) := by decide +kernel
theorem dX11_viewer_9 : decode cX11_viewer 9 = .ok (.iload_n 2, 1) := by decide +kernel
theorem dX11_viewer_10 : decode cX11_viewer 10 = .ok (.ldc 169, 2) := by decide +kernel
theorem dX11_viewer_12 : decode cX11_viewer 12 = .ok (.invokestatic 129, 3) := by decide +kernel
theorem dX11_viewer_15 : decode cX11_viewer 15 = .ok (.ifCond .ne 6, 3) := by decide +kernel
theorem dX11_viewer_18 : decode cX11_viewer 18 = .ok (.bipush (-2), 2) := by decide +kernel
theorem dX11_viewer_20 : decode cX11_viewer 20 = .ok (.ireturn, 1) := by decide +kernel
theorem dX11_viewer_21 : decode cX11_viewer 21 = .ok (.aload_n 0, 1) := by decide +kernel
theorem dX11_viewer_22 : decode cX11_viewer 22 = .ok (.getfield 10, 3) := by decide +kernel
theorem dX11_viewer_25 : decode cX11_viewer 25 = .ok (.getfield 120, 3) := by decide +kernel
theorem dX11_viewer_28 : decode cX11_viewer 28 = .ok (.istore_n 3, 1) := by decide +kernel
theorem dX11_viewer_29 : decode cX11_viewer 29 = .ok (.iload_n 3, 1) := by decide +kernel
theorem dX11_viewer_30 : decode cX11_viewer 30 = .ok (.bipush 8, 2) := by decide +kernel
theorem dX11_viewer_32 : decode cX11_viewer 32 = .ok (.if_icmp .lt 6, 3) := by decide +kernel
theorem dX11_viewer_35 : decode cX11_viewer 35 = .ok (.bipush (-4), 2) := by decide +kernel
theorem dX11_viewer_37 : decode cX11_viewer 37 = .ok (.ireturn, 1) := by decide +kernel
theorem dX11_viewer_38 : decode cX11_viewer 38 = .ok (.aload_n 0, 1) := by decide +kernel
theorem dX11_viewer_39 : decode cX11_viewer 39 = .ok (.getfield 45, 3) := by decide +kernel
theorem dX11_viewer_42 : decode cX11_viewer 42 = .ok (.iload_n 3, 1) := by decide +kernel
theorem dX11_viewer_43 : decode cX11_viewer 43 = .ok (.iload_n 1, 1) := by decide +kernel
theorem dX11_viewer_44 : decode cX11_viewer 44 = .ok (.bipush 10, 2) := by decide +kernel
theorem dX11_viewer_46 : decode cX11_viewer 46 = .ok (.idiv, 1) := by decide +kernel
theorem dX11_viewer_47 : decode cX11_viewer 47 = .ok (.invokestatic 143, 3) := by decide +kernel
theorem dX11_viewer_50 : decode cX11_viewer 50 = .ok (.aload_n 0, 1) := by decide +kernel
theorem dX11_viewer_51 : decode cX11_viewer 51 = .ok (.getfield 49, 3) := by decide +kernel
theorem dX11_viewer_54 : decode cX11_viewer 54 = .ok (.iload_n 3, 1) := by decide +kernel
theorem dX11_viewer_55 : decode cX11_viewer 55 = .ok (.iload_n 1, 1) := by decide +kernel
theorem dX11_viewer_56 : decode cX11_viewer 56 = .ok (.bipush 10, 2) := by decide +kernel
theorem dX11_viewer_58 : decode cX11_viewer 58 = .ok (.irem, 1) := by decide +kernel
theorem dX11_viewer_59 : decode cX11_viewer 59 = .ok (.invokestatic 143, 3) := by decide +kernel
theorem dX11_viewer_62 : decode cX11_viewer 62 = .ok (.aload_n 0, 1) := by decide +kernel
theorem dX11_viewer_63 : decode cX11_viewer 63 = .ok (.getfield 10, 3) := by decide +kernel
theorem dX11_viewer_66 : decode cX11_viewer 66 = .ok (.getfield 170, 3) := by decide +kernel
theorem dX11_viewer_69 : decode cX11_viewer 69 = .ok (.iload_n 3, 1) := by decide +kernel
theorem dX11_viewer_70 : decode cX11_viewer 70 = .ok (.iload_n 2, 1) := by decide +kernel
theorem dX11_viewer_71 : decode cX11_viewer 71 = .ok (.bipush 100, 2) := by decide +kernel
theorem dX11_viewer_73 : decode cX11_viewer 73 = .ok (.idiv, 1) := by decide +kernel
theorem dX11_viewer_74 : decode cX11_viewer 74 = .ok (.invokestatic 143, 3) := by decide +kernel
theorem dX11_viewer_77 : decode cX11_viewer 77 = .ok (.aload_n 0, 1) := by decide +kernel
theorem dX11_viewer_78 : decode cX11_viewer 78 = .ok (.getfield 10, 3) := by decide +kernel
theorem dX11_viewer_81 : decode cX11_viewer 81 = .ok (.getfield 173, 3) := by decide +kernel
theorem dX11_viewer_84 : decode cX11_viewer 84 = .ok (.iload_n 3, 1) := by decide +kernel
theorem dX11_viewer_85 : decode cX11_viewer 85 = .ok (.iload_n 2, 1) := by decide +kernel
theorem dX11_viewer_86 : decode cX11_viewer 86 = .ok (.bipush 100, 2) := by decide +kernel
theorem dX11_viewer_88 : decode cX11_viewer 88 = .ok (.irem, 1) := by decide +kernel
theorem dX11_viewer_89 : decode cX11_viewer 89 = .ok (.invokestatic 143, 3) := by decide +kernel
theorem dX11_viewer_92 : decode cX11_viewer 92 = .ok (.aload_n 0, 1) := by decide +kernel
theorem dX11_viewer_93 : decode cX11_viewer 93 = .ok (.getfield 10, 3) := by decide +kernel
theorem dX11_viewer_96 : decode cX11_viewer 96 = .ok (.iload_n 3, 1) := by decide +kernel
theorem dX11_viewer_97 : decode cX11_viewer 97 = .ok (.iconst 1, 1) := by decide +kernel
theorem dX11_viewer_98 : decode cX11_viewer 98 = .ok (.iadd, 1) := by decide +kernel
theorem dX11_viewer_99 : decode cX11_viewer 99 = .ok (.putfield 120, 3) := by decide +kernel
theorem dX11_viewer_102 : decode cX11_viewer 102 = .ok (.iload_n 3, 1) := by decide +kernel
theorem dX11_viewer_103 : decode cX11_viewer 103 = .ok (.ireturn, 1) := by decide +kernel
theorem dX11_put_0 : decode cX11_put 0 = .ok (.aload_n 0, 1) := by decide +kernel
theorem dX11_put_1 : decode cX11_put 1 = .ok (.iload_n 1, 1) := by decide +kernel
theorem dX11_put_2 : decode cX11_put 2 = .ok (.invokevirtual 151, 3) := by decide +kernel
theorem dX11_put_5 : decode cX11_put 5 = .ok (.ifCond .ne 6, 3) := by decide +kernel
theorem dX11_put_8 : decode cX11_put 8 = .ok (.bipush (-5), 2) := by decide +kernel
theorem dX11_put_10 : decode cX11_put 10 = .ok (.ireturn, 1) := by decide +kernel
theorem dX11_put_11 : decode cX11_put 11 = .ok (.iload_n 2, 1) := by decide +kernel
theorem dX11_put_12 : decode cX11_put 12 = .ok (.iconst 2, 1) := by decide +kernel
theorem dX11_put_13 : decode cX11_put 13 = .ok (.invokestatic 129, 3) := by decide +kernel
theorem dX11_put_16 : decode cX11_put 16 = .ok (.ifCond .eq 22, 3) := by decide +kernel
theorem dX11_put_19 : decode cX11_put 19 = .ok (.iload_n 3, 1) := by decide +kernel
theorem dX11_put_20 : decode cX11_put 20 = .ok (.iload_n 2, 1) := by decide +kernel
theorem dX11_put_21 : decode cX11_put 21 = .ok (.ifCond .ne 9, 3) := by decide +kernel
theorem dX11_put_24 : decode cX11_put 24 = .ok (.sipush 1000, 3) := by decide +kernel
theorem dX11_put_27 : decode cX11_put 27 = .ok (.goto 5, 3) := by decide +kernel
theorem dX11_put_30 : decode cX11_put 30 = .ok (.bipush 100, 2) := by decide +kernel
theorem dX11_put_32 : decode cX11_put 32 = .ok (.invokestatic 129, 3) := by decide +kernel
theorem dX11_put_35 : decode cX11_put 35 = .ok (.ifCond .ne 6, 3) := by decide +kernel
theorem dX11_put_38 : decode cX11_put 38 = .ok (.bipush (-7), 2) := by decide +kernel
theorem dX11_put_40 : decode cX11_put 40 = .ok (.ireturn, 1) := by decide +kernel
theorem dX11_put_41 : decode cX11_put 41 = .ok (.iload_n 2, 1) := by decide +kernel
theorem dX11_put_42 : decode cX11_put 42 = .ok (.ifCond .ne 13, 3) := by decide +kernel
theorem dX11_put_45 : decode cX11_put 45 = .ok (.aload_n 0, 1) := by decide +kernel
theorem dX11_put_46 : decode cX11_put 46 = .ok (.getfield 10, 3) := by decide +kernel
theorem dX11_put_49 : decode cX11_put 49 = .ok (.getfield 170, 3) := by decide +kernel
theorem dX11_put_52 : decode cX11_put 52 = .ok (.goto 10, 3) := by decide +kernel
theorem dX11_put_55 : decode cX11_put 55 = .ok (.aload_n 0, 1) := by decide +kernel
theorem dX11_put_56 : decode cX11_put 56 = .ok (.getfield 10, 3) := by decide +kernel
theorem dX11_put_59 : decode cX11_put 59 = .ok (.getfield 173, 3) := by decide +kernel
theorem dX11_put_62 : decode cX11_put 62 = .ok (.astore 4, 2) := by decide +kernel
theorem dX11_put_64 : decode cX11_put 64 = .ok (.aload 4, 2) := by decide +kernel
theorem dX11_put_66 : decode cX11_put 66 = .ok (.iload_n 1, 1) := by decide +kernel
theorem dX11_put_67 : decode cX11_put 67 = .ok (.invokestatic 139, 3) := by decide +kernel
theorem dX11_put_70 : decode cX11_put 70 = .ok (.istore 5, 2) := by decide +kernel
theorem dX11_put_72 : decode cX11_put 72 = .ok (.aload 4, 2) := by decide +kernel
theorem dX11_put_74 : decode cX11_put 74 = .ok (.iload_n 1, 1) := by decide +kernel
theorem dX11_put_75 : decode cX11_put 75 = .ok (.iload_n 3, 1) := by decide +kernel
theorem dX11_put_76 : decode cX11_put 76 = .ok (.invokestatic 143, 3) := by decide +kernel
theorem dX11_put_79 : decode cX11_put 79 = .ok (.iload 5, 2) := by decide +kernel
theorem dX11_put_81 : decode cX11_put 81 = .ok (.ireturn, 1) := by decide +kernel
theorem dX11_one_0 : decode cX11_one 0 = .ok (.aload_n 0, 1) := by decide +kernel
theorem dX11_one_1 : decode cX11_one 1 = .ok (.iload_n 1, 1) := by decide +kernel
theorem dX11_one_2 : decode cX11_one 2 = .ok (.invokevirtual 151, 3) := by decide +kernel
theorem dX11_one_5 : decode cX11_one 5 = .ok (.ifCond .ne 6, 3) := by decide +kernel
theorem dX11_one_8 : decode cX11_one 8 = .ok (.bipush (-5), 2) := by decide +kernel
theorem dX11_one_10 : decode cX11_one 10 = .ok (.ireturn, 1) := by decide +kernel
theorem dX11_one_11 : decode cX11_one 11 = .ok (.iload_n 2, 1) := by decide +kernel
theorem dX11_one_12 : decode cX11_one 12 = .ok (.tableswitch 74 0 3 #[32, 44, 56, 65], 32) := by decide +kernel
theorem dX11_one_44 : decode cX11_one 44 = .ok (.aload_n 0, 1) := by decide +kernel
theorem dX11_one_45 : decode cX11_one 45 = .ok (.getfield 10, 3) := by decide +kernel
theorem dX11_one_48 : decode cX11_one 48 = .ok (.getfield 170, 3) := by decide +kernel
theorem dX11_one_51 : decode cX11_one 51 = .ok (.iload_n 1, 1) := by decide +kernel
theorem dX11_one_52 : decode cX11_one 52 = .ok (.invokestatic 139, 3) := by decide +kernel
theorem dX11_one_55 : decode cX11_one 55 = .ok (.ireturn, 1) := by decide +kernel
theorem dX11_one_56 : decode cX11_one 56 = .ok (.aload_n 0, 1) := by decide +kernel
theorem dX11_one_57 : decode cX11_one 57 = .ok (.getfield 10, 3) := by decide +kernel
theorem dX11_one_60 : decode cX11_one 60 = .ok (.getfield 173, 3) := by decide +kernel
theorem dX11_one_63 : decode cX11_one 63 = .ok (.iload_n 1, 1) := by decide +kernel
theorem dX11_one_64 : decode cX11_one 64 = .ok (.invokestatic 139, 3) := by decide +kernel
theorem dX11_one_67 : decode cX11_one 67 = .ok (.ireturn, 1) := by decide +kernel
theorem dX11_one_68 : decode cX11_one 68 = .ok (.aload_n 0, 1) := by decide +kernel
theorem dX11_one_69 : decode cX11_one 69 = .ok (.getfield 45, 3) := by decide +kernel
theorem dX11_one_72 : decode cX11_one 72 = .ok (.iload_n 1, 1) := by decide +kernel
theorem dX11_one_73 : decode cX11_one 73 = .ok (.invokestatic 139, 3) := by decide +kernel
theorem dX11_one_76 : decode cX11_one 76 = .ok (.ireturn, 1) := by decide +kernel
theorem dX11_one_77 : decode cX11_one 77 = .ok (.aload_n 0, 1) := by decide +kernel
theorem dX11_one_78 : decode cX11_one 78 = .ok (.getfield 49, 3) := by decide +kernel
theorem dX11_one_81 : decode cX11_one 81 = .ok (.iload_n 1, 1) := by decide +kernel
theorem dX11_one_82 : decode cX11_one 82 = .ok (.invokestatic 139, 3) := by decide +kernel
theorem dX11_one_85 : decode cX11_one 85 = .ok (.ireturn, 1) := by decide +kernel
theorem dX11_one_86 : decode cX11_one 86 = .ok (.bipush (-7), 2) := by decide +kernel
theorem dX11_one_88 : decode cX11_one 88 = .ok (.ireturn, 1) := by decide +kernel
theorem dX11_tour_0 : decode cX11_tour 0 = .ok (.aload_n 0, 1) := by decide +kernel
theorem dX11_tour_1 : decode cX11_tour 1 = .ok (.iload_n 1, 1) := by decide +kernel
theorem dX11_tour_2 : decode cX11_tour 2 = .ok (.invokevirtual 176, 3) := by decide +kernel
theorem dX11_tour_5 : decode cX11_tour 5 = .ok (.istore 5, 2) := by decide +kernel
theorem dX11_tour_7 : decode cX11_tour 7 = .ok (.iload 5, 2) := by decide +kernel
theorem dX11_tour_9 : decode cX11_tour 9 = .ok (.ifCond .eq 9, 3) := by decide +kernel
theorem dX11_tour_12 : decode cX11_tour 12 = .ok (.ldc 180, 2) := by decide +kernel
theorem dX11_tour_14 : decode cX11_tour 14 = .ok (.iload 5, 2) := by decide +kernel
theorem dX11_tour_16 : decode cX11_tour 16 = .ok (.iadd, 1) := by decide +kernel
theorem dX11_tour_17 : decode cX11_tour 17 = .ok (.ireturn, 1) := by decide +kernel
theorem dX11_tour_18 : decode cX11_tour 18 = .ok (.aload_n 0, 1) := by decide +kernel
theorem dX11_tour_19 : decode cX11_tour 19 = .ok (.iload_n 2, 1) := by decide +kernel
theorem dX11_tour_20 : decode cX11_tour 20 = .ok (.invokevirtual 151, 3) := by decide +kernel
theorem dX11_tour_23 : decode cX11_tour 23 = .ok (.ifCond .eq 19, 3) := by decide +kernel
theorem dX11_tour_26 : decode cX11_tour 26 = .ok (.iload_n 3, 1) := by decide +kernel
theorem dX11_tour_27 : decode cX11_tour 27 = .ok (.invokestatic 154, 3) := by decide +kernel
theorem dX11_tour_30 : decode cX11_tour 30 = .ok (.ifCond .eq 12, 3) := by decide +kernel
theorem dX11_tour_33 : decode cX11_tour 33 = .ok (.iload 4, 2) := by decide +kernel
theorem dX11_tour_35 : decode cX11_tour 35 = .ok (.iconst 3, 1) := by decide +kernel
theorem dX11_tour_36 : decode cX11_tour 36 = .ok (.invokestatic 129, 3) := by decide +kernel
theorem dX11_tour_39 : decode cX11_tour 39 = .ok (.ifCond .ne 6, 3) := by decide +kernel
theorem dX11_tour_42 : decode cX11_tour 42 = .ok (.ldc 181, 2) := by decide +kernel
theorem dX11_tour_44 : decode cX11_tour 44 = .ok (.ireturn, 1) := by decide +kernel
theorem dX11_tour_45 : decode cX11_tour 45 = .ok (.aload_n 0, 1) := by decide +kernel
theorem dX11_tour_46 : decode cX11_tour 46 = .ok (.iload_n 2, 1) := by decide +kernel
theorem dX11_tour_47 : decode cX11_tour 47 = .ok (.iload_n 3, 1) := by decide +kernel
theorem dX11_tour_48 : decode cX11_tour 48 = .ok (.invokevirtual 161, 3) := by decide +kernel
theorem dX11_tour_51 : decode cX11_tour 51 = .ok (.iload 4, 2) := by decide +kernel
theorem dX11_tour_53 : decode cX11_tour 53 = .ok (.ifCond .ne 11, 3) := by decide +kernel
theorem dX11_tour_56 : decode cX11_tour 56 = .ok (.aload_n 0, 1) := by decide +kernel
theorem dX11_tour_57 : decode cX11_tour 57 = .ok (.getfield 78, 3) := by decide +kernel
theorem dX11_tour_60 : decode cX11_tour 60 = .ok (.invokevirtual 182, 3) := by decide +kernel
theorem dX11_tour_63 : decode cX11_tour 63 = .ok (.ireturn, 1) := by decide +kernel
theorem dX11_tour_64 : decode cX11_tour 64 = .ok (.iload 4, 2) := by decide +kernel
theorem dX11_tour_66 : decode cX11_tour 66 = .ok (.iconst 1, 1) := by decide +kernel
theorem dX11_tour_67 : decode cX11_tour 67 = .ok (.if_icmp .ne 11, 3) := by decide +kernel
theorem dX11_tour_70 : decode cX11_tour 70 = .ok (.aload_n 0, 1) := by decide +kernel
theorem dX11_tour_71 : decode cX11_tour 71 = .ok (.getfield 78, 3) := by decide +kernel
theorem dX11_tour_74 : decode cX11_tour 74 = .ok (.invokevirtual 185, 3) := by decide +kernel
theorem dX11_tour_77 : decode cX11_tour 77 = .ok (.ireturn, 1) := by decide +kernel
theorem dX11_tour_78 : decode cX11_tour 78 = .ok (.aload_n 0, 1) := by decide +kernel
theorem dX11_tour_79 : decode cX11_tour 79 = .ok (.getfield 188, 3) := by decide +kernel
theorem dX11_tour_82 : decode cX11_tour 82 = .ok (.ifCond .le 26, 3) := by decide +kernel
theorem dX11_tour_85 : decode cX11_tour 85 = .ok (.aload_n 0, 1) := by decide +kernel
theorem dX11_tour_86 : decode cX11_tour 86 = .ok (.getfield 78, 3) := by decide +kernel
theorem dX11_tour_89 : decode cX11_tour 89 = .ok (.aload_n 0, 1) := by decide +kernel
theorem dX11_tour_90 : decode cX11_tour 90 = .ok (.getfield 85, 3) := by decide +kernel
theorem dX11_tour_93 : decode cX11_tour 93 = .ok (.aload_n 0, 1) := by decide +kernel
theorem dX11_tour_94 : decode cX11_tour 94 = .ok (.getfield 188, 3) := by decide +kernel
theorem dX11_tour_97 : decode cX11_tour 97 = .ok (.iconst 1, 1) := by decide +kernel
theorem dX11_tour_98 : decode cX11_tour 98 = .ok (.isub, 1) := by decide +kernel
theorem dX11_tour_99 : decode cX11_tour 99 = .ok (.invokestatic 139, 3) := by decide +kernel
theorem dX11_tour_102 : decode cX11_tour 102 = .ok (.invokevirtual 191, 3) := by decide +kernel
theorem dX11_tour_105 : decode cX11_tour 105 = .ok (.goto 4, 3) := by decide +kernel
theorem dX11_tour_108 : decode cX11_tour 108 = .ok (.iconst 0, 1) := by decide +kernel
theorem dX11_tour_109 : decode cX11_tour 109 = .ok (.ireturn, 1) := by decide +kernel
theorem dX11_shown_0 : decode cX11_shown 0 = .ok (.aload_n 0, 1) := by decide +kernel
theorem dX11_shown_1 : decode cX11_shown 1 = .ok (.iload_n 1, 1) := by decide +kernel
theorem dX11_shown_2 : decode cX11_shown 2 = .ok (.invokevirtual 176, 3) := by decide +kernel
theorem dX11_shown_5 : decode cX11_shown 5 = .ok (.istore 4, 2) := by decide +kernel
theorem dX11_shown_7 : decode cX11_shown 7 = .ok (.iload 4, 2) := by decide +kernel
theorem dX11_shown_9 : decode cX11_shown 9 = .ok (.ifCond .eq 6, 3) := by decide +kernel
theorem dX11_shown_12 : decode cX11_shown 12 = .ok (.iload 4, 2) := by decide +kernel
theorem dX11_shown_14 : decode cX11_shown 14 = .ok (.ireturn, 1) := by decide +kernel
theorem dX11_shown_15 : decode cX11_shown 15 = .ok (.aload_n 0, 1) := by decide +kernel
theorem dX11_shown_16 : decode cX11_shown 16 = .ok (.iload_n 2, 1) := by decide +kernel
theorem dX11_shown_17 : decode cX11_shown 17 = .ok (.invokevirtual 194, 3) := by decide +kernel
theorem dX11_shown_20 : decode cX11_shown 20 = .ok (.ifCond .eq 11, 3) := by decide +kernel
theorem dX11_shown_23 : decode cX11_shown 23 = .ok (.iload_n 3, 1) := by decide +kernel
theorem dX11_shown_24 : decode cX11_shown 24 = .ok (.iconst 3, 1) := by decide +kernel
theorem dX11_shown_25 : decode cX11_shown 25 = .ok (.invokestatic 129, 3) := by decide +kernel
theorem dX11_shown_28 : decode cX11_shown 28 = .ok (.ifCond .ne 6, 3) := by decide +kernel
theorem dX11_shown_31 : decode cX11_shown 31 = .ok (.bipush (-7), 2) := by decide +kernel
theorem dX11_shown_33 : decode cX11_shown 33 = .ok (.ireturn, 1) := by decide +kernel
theorem dX11_shown_34 : decode cX11_shown 34 = .ok (.aload_n 0, 1) := by decide +kernel
theorem dX11_shown_35 : decode cX11_shown 35 = .ok (.iload_n 2, 1) := by decide +kernel
theorem dX11_shown_36 : decode cX11_shown 36 = .ok (.iload_n 2, 1) := by decide +kernel
theorem dX11_shown_37 : decode cX11_shown 37 = .ok (.invokestatic 197, 3) := by decide +kernel
theorem dX11_shown_40 : decode cX11_shown 40 = .ok (.invokevirtual 202, 3) := by decide +kernel
theorem dX11_shown_43 : decode cX11_shown 43 = .ok (.aload_n 0, 1) := by decide +kernel
theorem dX11_shown_44 : decode cX11_shown 44 = .ok (.iload_n 2, 1) := by decide +kernel
theorem dX11_shown_45 : decode cX11_shown 45 = .ok (.invokevirtual 205, 3) := by decide +kernel
theorem dX11_shown_48 : decode cX11_shown 48 = .ok (.istore 5, 2) := by decide +kernel
theorem dX11_shown_50 : decode cX11_shown 50 = .ok (.iload_n 3, 1) := by decide +kernel
theorem dX11_shown_51 : decode cX11_shown 51 = .ok (.ifCond .ne 6, 3) := by decide +kernel
theorem dX11_shown_54 : decode cX11_shown 54 = .ok (.iload 5, 2) := by decide +kernel
theorem dX11_shown_56 : decode cX11_shown 56 = .ok (.ireturn, 1) := by decide +kernel
theorem dX11_shown_57 : decode cX11_shown 57 = .ok (.iload_n 3, 1) := by decide +kernel
theorem dX11_shown_58 : decode cX11_shown 58 = .ok (.iconst 1, 1) := by decide +kernel
theorem dX11_shown_59 : decode cX11_shown 59 = .ok (.if_icmp .ne 9, 3) := by decide +kernel
theorem dX11_shown_62 : decode cX11_shown 62 = .ok (.aload_n 0, 1) := by decide +kernel
theorem dX11_shown_63 : decode cX11_shown 63 = .ok (.iload_n 2, 1) := by decide +kernel
theorem dX11_shown_64 : decode cX11_shown 64 = .ok (.invokevirtual 208, 3) := by decide +kernel
theorem dX11_shown_67 : decode cX11_shown 67 = .ok (.ireturn, 1) := by decide +kernel
theorem dX11_shown_68 : decode cX11_shown 68 = .ok (.iload 5, 2) := by decide +kernel
theorem dX11_shown_70 : decode cX11_shown 70 = .ok (.iconst (-1), 1) := by decide +kernel
theorem dX11_shown_71 : decode cX11_shown 71 = .ok (.if_icmp .ne 7, 3) := by decide +kernel
theorem dX11_shown_74 : decode cX11_shown 74 = .ok (.iconst 0, 1) := by decide +kernel
theorem dX11_shown_75 : decode cX11_shown 75 = .ok (.goto 15, 3) := by decide +kernel
theorem dX11_shown_78 : decode cX11_shown 78 = .ok (.aload_n 0, 1) := by decide +kernel
theorem dX11_shown_79 : decode cX11_shown 79 = .ok (.iload_n 2, 1) := by decide +kernel
theorem dX11_shown_80 : decode cX11_shown 80 = .ok (.iconst 1, 1) := by decide +kernel
theorem dX11_shown_81 : decode cX11_shown 81 = .ok (.iload 5, 2) := by decide +kernel
theorem dX11_shown_83 : decode cX11_shown 83 = .ok (.ishl, 1) := by decide +kernel
theorem dX11_shown_84 : decode cX11_shown 84 = .ok (.iconst (-1), 1) := by decide +kernel
theorem dX11_shown_85 : decode cX11_shown 85 = .ok (.ixor, 1) := by decide +kernel
theorem dX11_shown_86 : decode cX11_shown 86 = .ok (.iand, 1) := by decide +kernel
theorem dX11_shown_87 : decode cX11_shown 87 = .ok (.invokevirtual 208, 3) := by decide +kernel
theorem dX11_shown_90 : decode cX11_shown 90 = .ok (.ireturn, 1) := by decide +kernel
theorem dX11_best_0 : decode cX11_best 0 = .ok (.iload_n 1, 1) := by decide +kernel
theorem dX11_best_1 : decode cX11_best 1 = .ok (.iconst (-1), 1) := by decide +kernel
theorem dX11_best_2 : decode cX11_best 2 = .ok (.if_icmp .eq 14, 3) := by decide +kernel
theorem dX11_best_5 : decode cX11_best 5 = .ok (.aload_n 0, 1) := by decide +kernel
theorem dX11_best_6 : decode cX11_best 6 = .ok (.iload_n 1, 1) := by decide +kernel
theorem dX11_best_7 : decode cX11_best 7 = .ok (.invokevirtual 151, 3) := by decide +kernel
theorem dX11_best_10 : decode cX11_best 10 = .ok (.ifCond .ne 6, 3) := by decide +kernel
theorem dX11_best_13 : decode cX11_best 13 = .ok (.ldc 211, 2) := by decide +kernel
theorem dX11_best_15 : decode cX11_best 15 = .ok (.ireturn, 1) := by decide +kernel
theorem dX11_best_16 : decode cX11_best 16 = .ok (.iload_n 2, 1) := by decide +kernel
theorem dX11_best_17 : decode cX11_best 17 = .ok (.invokestatic 154, 3) := by decide +kernel
theorem dX11_best_20 : decode cX11_best 20 = .ok (.ifCond .eq 11, 3) := by decide +kernel
theorem dX11_best_23 : decode cX11_best 23 = .ok (.iload_n 3, 1) := by decide +kernel
theorem dX11_best_24 : decode cX11_best 24 = .ok (.iconst 2, 1) := by decide +kernel
theorem dX11_best_25 : decode cX11_best 25 = .ok (.invokestatic 129, 3) := by decide +kernel
theorem dX11_best_28 : decode cX11_best 28 = .ok (.ifCond .ne 6, 3) := by decide +kernel
theorem dX11_best_31 : decode cX11_best 31 = .ok (.ldc 181, 2) := by decide +kernel
theorem dX11_best_33 : decode cX11_best 33 = .ok (.ireturn, 1) := by decide +kernel
theorem dX11_best_34 : decode cX11_best 34 = .ok (.aload_n 0, 1) := by decide +kernel
theorem dX11_best_35 : decode cX11_best 35 = .ok (.getfield 78, 3) := by decide +kernel
theorem dX11_best_38 : decode cX11_best 38 = .ok (.aload_n 0, 1) := by decide +kernel
theorem dX11_best_39 : decode cX11_best 39 = .ok (.getfield 10, 3) := by decide +kernel
theorem dX11_best_42 : decode cX11_best 42 = .ok (.invokevirtual 157, 3) := by decide +kernel
theorem dX11_best_45 : decode cX11_best 45 = .ok (.aload_n 0, 1) := by decide +kernel
theorem dX11_best_46 : decode cX11_best 46 = .ok (.iload_n 1, 1) := by decide +kernel
theorem dX11_best_47 : decode cX11_best 47 = .ok (.iload_n 2, 1) := by decide +kernel
theorem dX11_best_48 : decode cX11_best 48 = .ok (.invokevirtual 212, 3) := by decide +kernel
theorem dX11_best_51 : decode cX11_best 51 = .ok (.iconst 0, 1) := by decide +kernel
theorem dX11_best_52 : decode cX11_best 52 = .ok (.istore 4, 2) := by decide +kernel
theorem dX11_best_54 : decode cX11_best 54 = .ok (.iconst 0, 1) := by decide +kernel
theorem dX11_best_55 : decode cX11_best 55 = .ok (.istore 5, 2) := by decide +kernel
theorem dX11_best_57 : decode cX11_best 57 = .ok (.aload_n 0, 1) := by decide +kernel
theorem dX11_best_58 : decode cX11_best 58 = .ok (.bipush 6, 2) := by decide +kernel
theorem dX11_best_60 : decode cX11_best 60 = .ok (.invokevirtual 215, 3) := by decide +kernel
theorem dX11_best_63 : decode cX11_best 63 = .ok (.iconst 1, 1) := by decide +kernel
theorem dX11_best_64 : decode cX11_best 64 = .ok (.istore 6, 2) := by decide +kernel
theorem dX11_best_66 : decode cX11_best 66 = .ok (.iconst 0, 1) := by decide +kernel
theorem dX11_best_67 : decode cX11_best 67 = .ok (.istore 7, 2) := by decide +kernel
theorem dX11_best_69 : decode cX11_best 69 = .ok (.iload 7, 2) := by decide +kernel
theorem dX11_best_71 : decode cX11_best 71 = .ok (.sipush 720, 3) := by decide +kernel
theorem dX11_best_74 : decode cX11_best 74 = .ok (.if_icmp .ge 50, 3) := by decide +kernel
theorem dX11_best_77 : decode cX11_best 77 = .ok (.iload 6, 2) := by decide +kernel
theorem dX11_best_79 : decode cX11_best 79 = .ok (.ifCond .eq 45, 3) := by decide +kernel
theorem dX11_best_82 : decode cX11_best 82 = .ok (.aload_n 0, 1) := by decide +kernel
theorem dX11_best_83 : decode cX11_best 83 = .ok (.invokevirtual 218, 3) := by decide +kernel
theorem dX11_best_86 : decode cX11_best 86 = .ok (.istore 8, 2) := by decide +kernel
theorem dX11_best_88 : decode cX11_best 88 = .ok (.iload 7, 2) := by decide +kernel
theorem dX11_best_90 : decode cX11_best 90 = .ok (.ifCond .eq 10, 3) := by decide +kernel
theorem dX11_best_93 : decode cX11_best 93 = .ok (.iload 8, 2) := by decide +kernel
theorem dX11_best_95 : decode cX11_best 95 = .ok (.iload 4, 2) := by decide +kernel
theorem dX11_best_97 : decode cX11_best 97 = .ok (.if_icmp .le 13, 3) := by decide +kernel
theorem dX11_best_100 : decode cX11_best 100 = .ok (.iload 8, 2) := by decide +kernel
theorem dX11_best_102 : decode cX11_best 102 = .ok (.istore 4, 2) := by decide +kernel
theorem dX11_best_104 : decode cX11_best 104 = .ok (.aload_n 0, 1) := by decide +kernel
theorem dX11_best_105 : decode cX11_best 105 = .ok (.invokevirtual 221, 3) := by decide +kernel
theorem dX11_best_108 : decode cX11_best 108 = .ok (.istore 5, 2) := by decide +kernel
theorem dX11_best_110 : decode cX11_best 110 = .ok (.aload_n 0, 1) := by decide +kernel
theorem dX11_best_111 : decode cX11_best 111 = .ok (.bipush 6, 2) := by decide +kernel
theorem dX11_best_113 : decode cX11_best 113 = .ok (.invokevirtual 224, 3) := by decide +kernel
theorem dX11_best_116 : decode cX11_best 116 = .ok (.istore 6, 2) := by decide +kernel
theorem dX11_best_118 : decode cX11_best 118 = .ok (.iinc 7 1, 3) := by decide +kernel
theorem dX11_best_121 : decode cX11_best 121 = .ok (.goto (-52), 3) := by decide +kernel
theorem dX11_best_124 : decode cX11_best 124 = .ok (.iload_n 3, 1) := by decide +kernel
theorem dX11_best_125 : decode cX11_best 125 = .ok (.ifCond .ne 8, 3) := by decide +kernel
theorem dX11_best_128 : decode cX11_best 128 = .ok (.iload 5, 2) := by decide +kernel
theorem dX11_best_130 : decode cX11_best 130 = .ok (.goto 5, 3) := by decide +kernel
theorem dX11_best_133 : decode cX11_best 133 = .ok (.iload 4, 2) := by decide +kernel
theorem dX11_best_135 : decode cX11_best 135 = .ok (.ireturn, 1) := by decide +kernel
theorem dX11_when_0 : decode cX11_when 0 = .ok (.aload_n 0, 1) := by decide +kernel
theorem dX11_when_1 : decode cX11_when 1 = .ok (.iload_n 1, 1) := by decide +kernel
theorem dX11_when_2 : decode cX11_when 2 = .ok (.invokevirtual 176, 3) := by decide +kernel
theorem dX11_when_5 : decode cX11_when 5 = .ok (.istore 4, 2) := by decide +kernel
theorem dX11_when_7 : decode cX11_when 7 = .ok (.iload 4, 2) := by decide +kernel
theorem dX11_when_9 : decode cX11_when 9 = .ok (.ifCond .eq 6, 3) := by decide +kernel
theorem dX11_when_12 : decode cX11_when 12 = .ok (.iload 4, 2) := by decide +kernel
theorem dX11_when_14 : decode cX11_when 14 = .ok (.ireturn, 1) := by decide +kernel
theorem dX11_when_15 : decode cX11_when 15 = .ok (.aload_n 0, 1) := by decide +kernel
theorem dX11_when_16 : decode cX11_when 16 = .ok (.iload_n 2, 1) := by decide +kernel
theorem dX11_when_17 : decode cX11_when 17 = .ok (.invokevirtual 194, 3) := by decide +kernel
theorem dX11_when_20 : decode cX11_when 20 = .ok (.ifCond .eq 11, 3) := by decide +kernel
theorem dX11_when_23 : decode cX11_when 23 = .ok (.iload_n 3, 1) := by decide +kernel
theorem dX11_when_24 : decode cX11_when 24 = .ok (.iconst 2, 1) := by decide +kernel
theorem dX11_when_25 : decode cX11_when 25 = .ok (.invokestatic 129, 3) := by decide +kernel
theorem dX11_when_28 : decode cX11_when 28 = .ok (.ifCond .ne 6, 3) := by decide +kernel
theorem dX11_when_31 : decode cX11_when 31 = .ok (.bipush (-7), 2) := by decide +kernel
theorem dX11_when_33 : decode cX11_when 33 = .ok (.ireturn, 1) := by decide +kernel
theorem dX11_when_34 : decode cX11_when 34 = .ok (.iconst 0, 1) := by decide +kernel
theorem dX11_when_35 : decode cX11_when 35 = .ok (.istore 5, 2) := by decide +kernel
theorem dX11_when_37 : decode cX11_when 37 = .ok (.iconst 0, 1) := by decide +kernel
theorem dX11_when_38 : decode cX11_when 38 = .ok (.istore 6, 2) := by decide +kernel
theorem dX11_when_40 : decode cX11_when 40 = .ok (.iconst 0, 1) := by decide +kernel
theorem dX11_when_41 : decode cX11_when 41 = .ok (.istore 7, 2) := by decide +kernel
theorem dX11_when_43 : decode cX11_when 43 = .ok (.iload 7, 2) := by decide +kernel
theorem dX11_when_45 : decode cX11_when 45 = .ok (.bipush 12, 2) := by decide +kernel
theorem dX11_when_47 : decode cX11_when 47 = .ok (.if_icmp .ge 49, 3) := by decide +kernel
theorem dX11_when_50 : decode cX11_when 50 = .ok (.aload_n 0, 1) := by decide +kernel
theorem dX11_when_51 : decode cX11_when 51 = .ok (.getfield 78, 3) := by decide +kernel
theorem dX11_when_54 : decode cX11_when 54 = .ok (.iload 7, 2) := by decide +kernel
theorem dX11_when_56 : decode cX11_when 56 = .ok (.invokevirtual 227, 3) := by decide +kernel
theorem dX11_when_59 : decode cX11_when 59 = .ok (.aload_n 0, 1) := by decide +kernel
theorem dX11_when_60 : decode cX11_when 60 = .ok (.iload_n 2, 1) := by decide +kernel
theorem dX11_when_61 : decode cX11_when 61 = .ok (.iload_n 2, 1) := by decide +kernel
theorem dX11_when_62 : decode cX11_when 62 = .ok (.invokestatic 197, 3) := by decide +kernel
theorem dX11_when_65 : decode cX11_when 65 = .ok (.invokevirtual 202, 3) := by decide +kernel
theorem dX11_when_68 : decode cX11_when 68 = .ok (.aload_n 0, 1) := by decide +kernel
theorem dX11_when_69 : decode cX11_when 69 = .ok (.iload_n 2, 1) := by decide +kernel
theorem dX11_when_70 : decode cX11_when 70 = .ok (.invokevirtual 208, 3) := by decide +kernel
theorem dX11_when_73 : decode cX11_when 73 = .ok (.istore 8, 2) := by decide +kernel
theorem dX11_when_75 : decode cX11_when 75 = .ok (.iload 8, 2) := by decide +kernel
theorem dX11_when_77 : decode cX11_when 77 = .ok (.iload 5, 2) := by decide +kernel
theorem dX11_when_79 : decode cX11_when 79 = .ok (.if_icmp .le 11, 3) := by decide +kernel
theorem dX11_when_82 : decode cX11_when 82 = .ok (.iload 8, 2) := by decide +kernel
theorem dX11_when_84 : decode cX11_when 84 = .ok (.istore 5, 2) := by decide +kernel
theorem dX11_when_86 : decode cX11_when 86 = .ok (.iload 7, 2) := by decide +kernel
theorem dX11_when_88 : decode cX11_when 88 = .ok (.istore 6, 2) := by decide +kernel
theorem dX11_when_90 : decode cX11_when 90 = .ok (.iinc 7 1, 3) := by decide +kernel
theorem dX11_when_93 : decode cX11_when 93 = .ok (.goto (-50), 3) := by decide +kernel
theorem dX11_when_96 : decode cX11_when 96 = .ok (.iload_n 3, 1) := by decide +kernel
theorem dX11_when_97 : decode cX11_when 97 = .ok (.ifCond .ne 8, 3) := by decide +kernel
theorem dX11_when_100 : decode cX11_when 100 = .ok (.iload 6, 2) := by decide +kernel
theorem dX11_when_102 : decode cX11_when 102 = .ok (.goto 5, 3) := by decide +kernel
theorem dX11_when_105 : decode cX11_when 105 = .ok (.iload 5, 2) := by decide +kernel
theorem dX11_when_107 : decode cX11_when 107 = .ok (.ireturn, 1) := by decide +kernel
theorem dX11_together_0 : decode cX11_together 0 = .ok (.aload_n 0, 1) := by decide +kernel
theorem dX11_together_1 : decode cX11_together 1 = .ok (.iload_n 1, 1) := by decide +kernel
theorem dX11_together_2 : decode cX11_together 2 = .ok (.invokevirtual 176, 3) := by decide +kernel
theorem dX11_together_5 : decode cX11_together 5 = .ok (.istore_n 3, 1) := by decide +kernel
theorem dX11_together_6 : decode cX11_together 6 = .ok (.iload_n 3, 1) := by decide +kernel
theorem dX11_together_7 : decode cX11_together 7 = .ok (.ifCond .eq 5, 3) := by decide +kernel
theorem dX11_together_10 : decode cX11_together 10 = .ok (.iload_n 3, 1) := by decide +kernel
theorem dX11_together_11 : decode cX11_together 11 = .ok (.ireturn, 1) := by decide +kernel
theorem dX11_together_12 : decode cX11_together 12 = .ok (.iload_n 2, 1) := by decide +kernel
theorem dX11_together_13 : decode cX11_together 13 = .ok (.iconst 2, 1) := by decide +kernel
theorem dX11_together_14 : decode cX11_together 14 = .ok (.invokestatic 129, 3) := by decide +kernel
theorem dX11_together_17 : decode cX11_together 17 = .ok (.ifCond .ne 6, 3) := by decide +kernel
theorem dX11_together_20 : decode cX11_together 20 = .ok (.bipush (-7), 2) := by decide +kernel
theorem dX11_together_22 : decode cX11_together 22 = .ok (.ireturn, 1) := by decide +kernel
theorem dX11_together_23 : decode cX11_together 23 = .ok (.iconst 1, 1) := by decide +kernel
theorem dX11_together_24 : decode cX11_together 24 = .ok (.aload_n 0, 1) := by decide +kernel
theorem dX11_together_25 : decode cX11_together 25 = .ok (.getfield 10, 3) := by decide +kernel
theorem dX11_together_28 : decode cX11_together 28 = .ok (.getfield 120, 3) := by decide +kernel
theorem dX11_together_31 : decode cX11_together 31 = .ok (.ishl, 1) := by decide +kernel
theorem dX11_together_32 : decode cX11_together 32 = .ok (.iconst 1, 1) := by decide +kernel
theorem dX11_together_33 : decode cX11_together 33 = .ok (.isub, 1) := by decide +kernel
theorem dX11_together_34 : decode cX11_together 34 = .ok (.istore 4, 2) := by decide +kernel
theorem dX11_together_36 : decode cX11_together 36 = .ok (.iconst 0, 1) := by decide +kernel
theorem dX11_together_37 : decode cX11_together 37 = .ok (.istore 5, 2) := by decide +kernel
theorem dX11_together_39 : decode cX11_together 39 = .ok (.iconst 0, 1) := by decide +kernel
theorem dX11_together_40 : decode cX11_together 40 = .ok (.istore 6, 2) := by decide +kernel
theorem dX11_together_42 : decode cX11_together 42 = .ok (.iconst 1, 1) := by decide +kernel
theorem dX11_together_43 : decode cX11_together 43 = .ok (.istore 7, 2) := by decide +kernel
theorem dX11_together_45 : decode cX11_together 45 = .ok (.iload 7, 2) := by decide +kernel
theorem dX11_together_47 : decode cX11_together 47 = .ok (.aload_n 0, 1) := by decide +kernel
theorem dX11_together_48 : decode cX11_together 48 = .ok (.getfield 10, 3) := by decide +kernel
theorem dX11_together_51 : decode cX11_together 51 = .ok (.getfield 120, 3) := by decide +kernel
theorem dX11_together_54 : decode cX11_together 54 = .ok (.if_icmp .gt 69, 3) := by decide +kernel
theorem dX11_together_57 : decode cX11_together 57 = .ok (.aload_n 0, 1) := by decide +kernel
theorem dX11_together_58 : decode cX11_together 58 = .ok (.iload 4, 2) := by decide +kernel
theorem dX11_together_60 : decode cX11_together 60 = .ok (.iload 7, 2) := by decide +kernel
theorem dX11_together_62 : decode cX11_together 62 = .ok (.invokevirtual 202, 3) := by decide +kernel
theorem dX11_together_65 : decode cX11_together 65 = .ok (.iconst 1, 1) := by decide +kernel
theorem dX11_together_66 : decode cX11_together 66 = .ok (.istore 8, 2) := by decide +kernel
theorem dX11_together_68 : decode cX11_together 68 = .ok (.iload 8, 2) := by decide +kernel
theorem dX11_together_70 : decode cX11_together 70 = .ok (.iload 4, 2) := by decide +kernel
theorem dX11_together_72 : decode cX11_together 72 = .ok (.if_icmp .gt 45, 3) := by decide +kernel
theorem dX11_together_75 : decode cX11_together 75 = .ok (.iload 8, 2) := by decide +kernel
theorem dX11_together_77 : decode cX11_together 77 = .ok (.invokestatic 197, 3) := by decide +kernel
theorem dX11_together_80 : decode cX11_together 80 = .ok (.iload 7, 2) := by decide +kernel
theorem dX11_together_82 : decode cX11_together 82 = .ok (.if_icmp .eq 6, 3) := by decide +kernel
theorem dX11_together_85 : decode cX11_together 85 = .ok (.goto 26, 3) := by decide +kernel
theorem dX11_together_88 : decode cX11_together 88 = .ok (.aload_n 0, 1) := by decide +kernel
theorem dX11_together_89 : decode cX11_together 89 = .ok (.iload 8, 2) := by decide +kernel
theorem dX11_together_91 : decode cX11_together 91 = .ok (.invokevirtual 208, 3) := by decide +kernel
theorem dX11_together_94 : decode cX11_together 94 = .ok (.istore 9, 2) := by decide +kernel
theorem dX11_together_96 : decode cX11_together 96 = .ok (.iload 9, 2) := by decide +kernel
theorem dX11_together_98 : decode cX11_together 98 = .ok (.iload 5, 2) := by decide +kernel
theorem dX11_together_100 : decode cX11_together 100 = .ok (.if_icmp .le 11, 3) := by decide +kernel
theorem dX11_together_103 : decode cX11_together 103 = .ok (.iload 9, 2) := by decide +kernel
theorem dX11_together_105 : decode cX11_together 105 = .ok (.istore 5, 2) := by decide +kernel
theorem dX11_together_107 : decode cX11_together 107 = .ok (.iload 8, 2) := by decide +kernel
theorem dX11_together_109 : decode cX11_together 109 = .ok (.istore 6, 2) := by decide +kernel
theorem dX11_together_111 : decode cX11_together 111 = .ok (.iinc 8 1, 3) := by decide +kernel
theorem dX11_together_114 : decode cX11_together 114 = .ok (.goto (-46), 3) := by decide +kernel
theorem dX11_together_117 : decode cX11_together 117 = .ok (.iinc 7 1, 3) := by decide +kernel
theorem dX11_together_120 : decode cX11_together 120 = .ok (.goto (-75), 3) := by decide +kernel
theorem dX11_together_123 : decode cX11_together 123 = .ok (.iload_n 2, 1) := by decide +kernel
theorem dX11_together_124 : decode cX11_together 124 = .ok (.ifCond .ne 8, 3) := by decide +kernel
theorem dX11_together_127 : decode cX11_together 127 = .ok (.iload 6, 2) := by decide +kernel
theorem dX11_together_129 : decode cX11_together 129 = .ok (.goto 5, 3) := by decide +kernel
theorem dX11_together_132 : decode cX11_together 132 = .ok (.iload 5, 2) := by decide +kernel
theorem dX11_together_134 : decode cX11_together 134 = .ok (.ireturn, 1) := by decide +kernel
theorem dX11_without_0 : decode cX11_without 0 = .ok (.aload_n 0, 1) := by decide +kernel
theorem dX11_without_1 : decode cX11_without 1 = .ok (.iload_n 1, 1) := by decide +kernel
theorem dX11_without_2 : decode cX11_without 2 = .ok (.invokevirtual 176, 3) := by decide +kernel
theorem dX11_without_5 : decode cX11_without 5 = .ok (.istore 4, 2) := by decide +kernel
theorem dX11_without_7 : decode cX11_without 7 = .ok (.iload 4, 2) := by decide +kernel
theorem dX11_without_9 : decode cX11_without 9 = .ok (.ifCond .eq 9, 3) := by decide +kernel
theorem dX11_without_12 : decode cX11_without 12 = .ok (.ldc 180, 2) := by decide +kernel
theorem dX11_without_14 : decode cX11_without 14 = .ok (.iload 4, 2) := by decide +kernel
theorem dX11_without_16 : decode cX11_without 16 = .ok (.iadd, 1) := by decide +kernel
theorem dX11_without_17 : decode cX11_without 17 = .ok (.ireturn, 1) := by decide +kernel
theorem dX11_without_18 : decode cX11_without 18 = .ok (.aload_n 0, 1) := by decide +kernel
theorem dX11_without_19 : decode cX11_without 19 = .ok (.iload_n 2, 1) := by decide +kernel
theorem dX11_without_20 : decode cX11_without 20 = .ok (.invokevirtual 151, 3) := by decide +kernel
theorem dX11_without_23 : decode cX11_without 23 = .ok (.ifCond .eq 11, 3) := by decide +kernel
theorem dX11_without_26 : decode cX11_without 26 = .ok (.iload_n 3, 1) := by decide +kernel
theorem dX11_without_27 : decode cX11_without 27 = .ok (.iconst 2, 1) := by decide +kernel
theorem dX11_without_28 : decode cX11_without 28 = .ok (.invokestatic 129, 3) := by decide +kernel
theorem dX11_without_31 : decode cX11_without 31 = .ok (.ifCond .ne 6, 3) := by decide +kernel
theorem dX11_without_34 : decode cX11_without 34 = .ok (.ldc 181, 2) := by decide +kernel
theorem dX11_without_36 : decode cX11_without 36 = .ok (.ireturn, 1) := by decide +kernel
theorem dX11_without_37 : decode cX11_without 37 = .ok (.aload_n 0, 1) := by decide +kernel
theorem dX11_without_38 : decode cX11_without 38 = .ok (.iload_n 2, 1) := by decide +kernel
theorem dX11_without_39 : decode cX11_without 39 = .ok (.iconst 1, 1) := by decide +kernel
theorem dX11_without_40 : decode cX11_without 40 = .ok (.invokevirtual 161, 3) := by decide +kernel
theorem dX11_without_43 : decode cX11_without 43 = .ok (.aload_n 0, 1) := by decide +kernel
theorem dX11_without_44 : decode cX11_without 44 = .ok (.getfield 78, 3) := by decide +kernel
theorem dX11_without_47 : decode cX11_without 47 = .ok (.invokevirtual 182, 3) := by decide +kernel
theorem dX11_without_50 : decode cX11_without 50 = .ok (.istore 5, 2) := by decide +kernel
theorem dX11_without_52 : decode cX11_without 52 = .ok (.iconst (-1), 1) := by decide +kernel
theorem dX11_without_53 : decode cX11_without 53 = .ok (.istore 6, 2) := by decide +kernel
theorem dX11_without_55 : decode cX11_without 55 = .ok (.iconst 0, 1) := by decide +kernel
theorem dX11_without_56 : decode cX11_without 56 = .ok (.istore 7, 2) := by decide +kernel
theorem dX11_without_58 : decode cX11_without 58 = .ok (.iload 7, 2) := by decide +kernel
theorem dX11_without_60 : decode cX11_without 60 = .ok (.aload_n 0, 1) := by decide +kernel
theorem dX11_without_61 : decode cX11_without 61 = .ok (.getfield 188, 3) := by decide +kernel
theorem dX11_without_64 : decode cX11_without 64 = .ok (.if_icmp .ge 58, 3) := by decide +kernel
theorem dX11_without_67 : decode cX11_without 67 = .ok (.aload_n 0, 1) := by decide +kernel
theorem dX11_without_68 : decode cX11_without 68 = .ok (.getfield 78, 3) := by decide +kernel
theorem dX11_without_71 : decode cX11_without 71 = .ok (.aload_n 0, 1) := by decide +kernel
theorem dX11_without_72 : decode cX11_without 72 = .ok (.getfield 85, 3) := by decide +kernel
theorem dX11_without_75 : decode cX11_without 75 = .ok (.aload_n 0, 1) := by decide +kernel
theorem dX11_without_76 : decode cX11_without 76 = .ok (.getfield 188, 3) := by decide +kernel
theorem dX11_without_79 : decode cX11_without 79 = .ok (.iload 7, 2) := by decide +kernel
theorem dX11_without_81 : decode cX11_without 81 = .ok (.invokevirtual 230, 3) := by decide +kernel
theorem dX11_without_84 : decode cX11_without 84 = .ok (.aload_n 0, 1) := by decide +kernel
theorem dX11_without_85 : decode cX11_without 85 = .ok (.getfield 78, 3) := by decide +kernel
theorem dX11_without_88 : decode cX11_without 88 = .ok (.invokevirtual 182, 3) := by decide +kernel
theorem dX11_without_91 : decode cX11_without 91 = .ok (.iload 5, 2) := by decide +kernel
theorem dX11_without_93 : decode cX11_without 93 = .ok (.if_icmp .le 23, 3) := by decide +kernel
theorem dX11_without_96 : decode cX11_without 96 = .ok (.aload_n 0, 1) := by decide +kernel
theorem dX11_without_97 : decode cX11_without 97 = .ok (.getfield 78, 3) := by decide +kernel
theorem dX11_without_100 : decode cX11_without 100 = .ok (.invokevirtual 182, 3) := by decide +kernel
theorem dX11_without_103 : decode cX11_without 103 = .ok (.istore 5, 2) := by decide +kernel
theorem dX11_without_105 : decode cX11_without 105 = .ok (.aload_n 0, 1) := by decide +kernel
theorem dX11_without_106 : decode cX11_without 106 = .ok (.getfield 85, 3) := by decide +kernel
theorem dX11_without_109 : decode cX11_without 109 = .ok (.iload 7, 2) := by decide +kernel
theorem dX11_without_111 : decode cX11_without 111 = .ok (.invokestatic 139, 3) := by decide +kernel
theorem dX11_without_114 : decode cX11_without 114 = .ok (.istore 6, 2) := by decide +kernel
theorem dX11_without_116 : decode cX11_without 116 = .ok (.iinc 7 1, 3) := by decide +kernel
theorem dX11_without_119 : decode cX11_without 119 = .ok (.goto (-61), 3) := by decide +kernel
theorem dX11_without_122 : decode cX11_without 122 = .ok (.iload_n 3, 1) := by decide +kernel
theorem dX11_without_123 : decode cX11_without 123 = .ok (.ifCond .ne 8, 3) := by decide +kernel
theorem dX11_without_126 : decode cX11_without 126 = .ok (.iload 6, 2) := by decide +kernel
theorem dX11_without_128 : decode cX11_without 128 = .ok (.goto 5, 3) := by decide +kernel
theorem dX11_without_131 : decode cX11_without 131 = .ok (.iload 5, 2) := by decide +kernel
theorem dX11_without_133 : decode cX11_without 133 = .ok (.ireturn, 1) := by decide +kernel
theorem dX11_paint_0 : decode cX11_paint 0 = .ok (.aload_n 0, 1) := by decide +kernel
theorem dX11_paint_1 : decode cX11_paint 1 = .ok (.iload_n 1, 1) := by decide +kernel
theorem dX11_paint_2 : decode cX11_paint 2 = .ok (.invokevirtual 176, 3) := by decide +kernel
theorem dX11_paint_5 : decode cX11_paint 5 = .ok (.istore 4, 2) := by decide +kernel
theorem dX11_paint_7 : decode cX11_paint 7 = .ok (.iload 4, 2) := by decide +kernel
theorem dX11_paint_9 : decode cX11_paint 9 = .ok (.ifCond .eq 9, 3) := by decide +kernel
theorem dX11_paint_12 : decode cX11_paint 12 = .ok (.ldc 180, 2) := by decide +kernel
theorem dX11_paint_14 : decode cX11_paint 14 = .ok (.iload 4, 2) := by decide +kernel
theorem dX11_paint_16 : decode cX11_paint 16 = .ok (.iadd, 1) := by decide +kernel
theorem dX11_paint_17 : decode cX11_paint 17 = .ok (.ireturn, 1) := by decide +kernel
theorem dX11_paint_18 : decode cX11_paint 18 = .ok (.aload_n 0, 1) := by decide +kernel
theorem dX11_paint_19 : decode cX11_paint 19 = .ok (.iload_n 2, 1) := by decide +kernel
theorem dX11_paint_20 : decode cX11_paint 20 = .ok (.invokevirtual 151, 3) := by decide +kernel
theorem dX11_paint_23 : decode cX11_paint 23 = .ok (.ifCond .eq 12, 3) := by decide +kernel
theorem dX11_paint_26 : decode cX11_paint 26 = .ok (.iload_n 3, 1) := by decide +kernel
theorem dX11_paint_27 : decode cX11_paint 27 = .ok (.bipush 6, 2) := by decide +kernel
theorem dX11_paint_29 : decode cX11_paint 29 = .ok (.invokestatic 129, 3) := by decide +kernel
theorem dX11_paint_32 : decode cX11_paint 32 = .ok (.ifCond .ne 6, 3) := by decide +kernel
theorem dX11_paint_35 : decode cX11_paint 35 = .ok (.ldc 211, 2) := by decide +kernel
theorem dX11_paint_37 : decode cX11_paint 37 = .ok (.ireturn, 1) := by decide +kernel
theorem dX11_paint_38 : decode cX11_paint 38 = .ok (.aload_n 0, 1) := by decide +kernel
theorem dX11_paint_39 : decode cX11_paint 39 = .ok (.iload_n 2, 1) := by decide +kernel
theorem dX11_paint_40 : decode cX11_paint 40 = .ok (.iconst 1, 1) := by decide +kernel
theorem dX11_paint_41 : decode cX11_paint 41 = .ok (.invokevirtual 161, 3) := by decide +kernel
theorem dX11_paint_44 : decode cX11_paint 44 = .ok (.aload_n 0, 1) := by decide +kernel
theorem dX11_paint_45 : decode cX11_paint 45 = .ok (.getfield 78, 3) := by decide +kernel
theorem dX11_paint_48 : decode cX11_paint 48 = .ok (.invokevirtual 185, 3) := by decide +kernel
theorem dX11_paint_51 : decode cX11_paint 51 = .ok (.istore 5, 2) := by decide +kernel
theorem dX11_paint_53 : decode cX11_paint 53 = .ok (.aload_n 0, 1) := by decide +kernel
theorem dX11_paint_54 : decode cX11_paint 54 = .ok (.getfield 78, 3) := by decide +kernel
theorem dX11_paint_57 : decode cX11_paint 57 = .ok (.iload_n 3, 1) := by decide +kernel
theorem dX11_paint_58 : decode cX11_paint 58 = .ok (.iconst 0, 1) := by decide +kernel
theorem dX11_paint_59 : decode cX11_paint 59 = .ok (.invokevirtual 233, 3) := by decide +kernel
theorem dX11_paint_62 : decode cX11_paint 62 = .ok (.aload_n 0, 1) := by decide +kernel
theorem dX11_paint_63 : decode cX11_paint 63 = .ok (.getfield 78, 3) := by decide +kernel
theorem dX11_paint_66 : decode cX11_paint 66 = .ok (.invokevirtual 185, 3) := by decide +kernel
theorem dX11_paint_69 : decode cX11_paint 69 = .ok (.iload 5, 2) := by decide +kernel
theorem dX11_paint_71 : decode cX11_paint 71 = .ok (.isub, 1) := by decide +kernel
theorem dX11_paint_72 : decode cX11_paint 72 = .ok (.ireturn, 1) := by decide +kernel
theorem dX11_tenant_0 : decode cX11_tenant 0 = .ok (.aload_n 0, 1) := by decide +kernel
theorem dX11_tenant_1 : decode cX11_tenant 1 = .ok (.iload_n 1, 1) := by decide +kernel
theorem dX11_tenant_2 : decode cX11_tenant 2 = .ok (.invokevirtual 176, 3) := by decide +kernel
theorem dX11_tenant_5 : decode cX11_tenant 5 = .ok (.istore 4, 2) := by decide +kernel
theorem dX11_tenant_7 : decode cX11_tenant 7 = .ok (.iload 4, 2) := by decide +kernel
theorem dX11_tenant_9 : decode cX11_tenant 9 = .ok (.ifCond .eq 6, 3) := by decide +kernel
theorem dX11_tenant_12 : decode cX11_tenant 12 = .ok (.iload 4, 2) := by decide +kernel
theorem dX11_tenant_14 : decode cX11_tenant 14 = .ok (.ireturn, 1) := by decide +kernel
theorem dX11_tenant_15 : decode cX11_tenant 15 = .ok (.iload_n 2, 1) := by decide +kernel
theorem dX11_tenant_16 : decode cX11_tenant 16 = .ok (.bipush 100, 2) := by decide +kernel
theorem dX11_tenant_18 : decode cX11_tenant 18 = .ok (.invokestatic 129, 3) := by decide +kernel
theorem dX11_tenant_21 : decode cX11_tenant 21 = .ok (.ifCond .eq 13, 3) := by decide +kernel
theorem dX11_tenant_24 : decode cX11_tenant 24 = .ok (.iload_n 3, 1) := by decide +kernel
theorem dX11_tenant_25 : decode cX11_tenant 25 = .ok (.sipush 10000, 3) := by decide +kernel
theorem dX11_tenant_28 : decode cX11_tenant 28 = .ok (.invokestatic 129, 3) := by decide +kernel
theorem dX11_tenant_31 : decode cX11_tenant 31 = .ok (.ifCond .ne 6, 3) := by decide +kernel
theorem dX11_tenant_34 : decode cX11_tenant 34 = .ok (.bipush (-7), 2) := by decide +kernel
theorem dX11_tenant_36 : decode cX11_tenant 36 = .ok (.ireturn, 1) := by decide +kernel
theorem dX11_tenant_37 : decode cX11_tenant 37 = .ok (.iconst (-1), 1) := by decide +kernel
theorem dX11_tenant_38 : decode cX11_tenant 38 = .ok (.istore 5, 2) := by decide +kernel
theorem dX11_tenant_40 : decode cX11_tenant 40 = .ok (.iconst 0, 1) := by decide +kernel
theorem dX11_tenant_41 : decode cX11_tenant 41 = .ok (.istore 6, 2) := by decide +kernel
theorem dX11_tenant_43 : decode cX11_tenant 43 = .ok (.iconst 0, 1) := by decide +kernel
theorem dX11_tenant_44 : decode cX11_tenant 44 = .ok (.istore 7, 2) := by decide +kernel
theorem dX11_tenant_46 : decode cX11_tenant 46 = .ok (.iconst 0, 1) := by decide +kernel
theorem dX11_tenant_47 : decode cX11_tenant 47 = .ok (.istore 8, 2) := by decide +kernel
theorem dX11_tenant_49 : decode cX11_tenant 49 = .ok (.iload 8, 2) := by decide +kernel
theorem dX11_tenant_51 : decode cX11_tenant 51 = .ok (.aload_n 0, 1) := by decide +kernel
theorem dX11_tenant_52 : decode cX11_tenant 52 = .ok (.getfield 10, 3) := by decide +kernel
theorem dX11_tenant_55 : decode cX11_tenant 55 = .ok (.getfield 120, 3) := by decide +kernel
theorem dX11_tenant_58 : decode cX11_tenant 58 = .ok (.if_icmp .ge 93, 3) := by decide +kernel
theorem dX11_tenant_61 : decode cX11_tenant 61 = .ok (.aload_n 0, 1) := by decide +kernel
theorem dX11_tenant_62 : decode cX11_tenant 62 = .ok (.getfield 10, 3) := by decide +kernel
theorem dX11_tenant_65 : decode cX11_tenant 65 = .ok (.getfield 173, 3) := by decide +kernel
theorem dX11_tenant_68 : decode cX11_tenant 68 = .ok (.iload 8, 2) := by decide +kernel
theorem dX11_tenant_70 : decode cX11_tenant 70 = .ok (.invokestatic 139, 3) := by decide +kernel
theorem dX11_tenant_73 : decode cX11_tenant 73 = .ok (.istore 9, 2) := by decide +kernel
theorem dX11_tenant_75 : decode cX11_tenant 75 = .ok (.aload_n 0, 1) := by decide +kernel
theorem dX11_tenant_76 : decode cX11_tenant 76 = .ok (.iload 8, 2) := by decide +kernel
theorem dX11_tenant_78 : decode cX11_tenant 78 = .ok (.iconst 1, 1) := by decide +kernel
theorem dX11_tenant_79 : decode cX11_tenant 79 = .ok (.invokevirtual 161, 3) := by decide +kernel
theorem dX11_tenant_82 : decode cX11_tenant 82 = .ok (.aload_n 0, 1) := by decide +kernel
theorem dX11_tenant_83 : decode cX11_tenant 83 = .ok (.getfield 78, 3) := by decide +kernel
theorem dX11_tenant_86 : decode cX11_tenant 86 = .ok (.invokevirtual 185, 3) := by decide +kernel
theorem dX11_tenant_89 : decode cX11_tenant 89 = .ok (.istore 10, 2) := by decide +kernel
theorem dX11_tenant_91 : decode cX11_tenant 91 = .ok (.iload 9, 2) := by decide +kernel
theorem dX11_tenant_93 : decode cX11_tenant 93 = .ok (.iload_n 2, 1) := by decide +kernel
theorem dX11_tenant_94 : decode cX11_tenant 94 = .ok (.if_icmp .lt 51, 3) := by decide +kernel
theorem dX11_tenant_97 : decode cX11_tenant 97 = .ok (.iload 10, 2) := by decide +kernel
theorem dX11_tenant_99 : decode cX11_tenant 99 = .ok (.iload_n 3, 1) := by decide +kernel
theorem dX11_tenant_100 : decode cX11_tenant 100 = .ok (.if_icmp .ge 6, 3) := by decide +kernel
theorem dX11_tenant_103 : decode cX11_tenant 103 = .ok (.goto 42, 3) := by decide +kernel
theorem dX11_tenant_106 : decode cX11_tenant 106 = .ok (.iload 5, 2) := by decide +kernel
theorem dX11_tenant_108 : decode cX11_tenant 108 = .ok (.iconst (-1), 1) := by decide +kernel
theorem dX11_tenant_109 : decode cX11_tenant 109 = .ok (.if_icmp .eq 24, 3) := by decide +kernel
theorem dX11_tenant_112 : decode cX11_tenant 112 = .ok (.iload 10, 2) := by decide +kernel
theorem dX11_tenant_114 : decode cX11_tenant 114 = .ok (.iload 6, 2) := by decide +kernel
theorem dX11_tenant_116 : decode cX11_tenant 116 = .ok (.if_icmp .gt 17, 3) := by decide +kernel
theorem dX11_tenant_119 : decode cX11_tenant 119 = .ok (.iload 10, 2) := by decide +kernel
theorem dX11_tenant_121 : decode cX11_tenant 121 = .ok (.iload 6, 2) := by decide +kernel
theorem dX11_tenant_123 : decode cX11_tenant 123 = .ok (.if_icmp .ne 22, 3) := by decide +kernel
theorem dX11_tenant_126 : decode cX11_tenant 126 = .ok (.iload 9, 2) := by decide +kernel
theorem dX11_tenant_128 : decode cX11_tenant 128 = .ok (.iload 7, 2) := by decide +kernel
theorem dX11_tenant_130 : decode cX11_tenant 130 = .ok (.if_icmp .le 15, 3) := by decide +kernel
theorem dX11_tenant_133 : decode cX11_tenant 133 = .ok (.iload 8, 2) := by decide +kernel
theorem dX11_tenant_135 : decode cX11_tenant 135 = .ok (.istore 5, 2) := by decide +kernel
theorem dX11_tenant_137 : decode cX11_tenant 137 = .ok (.iload 10, 2) := by decide +kernel
theorem dX11_tenant_139 : decode cX11_tenant 139 = .ok (.istore 6, 2) := by decide +kernel
theorem dX11_tenant_141 : decode cX11_tenant 141 = .ok (.iload 9, 2) := by decide +kernel
theorem dX11_tenant_143 : decode cX11_tenant 143 = .ok (.istore 7, 2) := by decide +kernel
theorem dX11_tenant_145 : decode cX11_tenant 145 = .ok (.iinc 8 1, 3) := by decide +kernel
theorem dX11_tenant_148 : decode cX11_tenant 148 = .ok (.goto (-99), 3) := by decide +kernel
theorem dX11_tenant_151 : decode cX11_tenant 151 = .ok (.iload 5, 2) := by decide +kernel
theorem dX11_tenant_153 : decode cX11_tenant 153 = .ok (.ireturn, 1) := by decide +kernel
theorem dX11_waits_0 : decode cX11_waits 0 = .ok (.aload_n 0, 1) := by decide +kernel
theorem dX11_waits_1 : decode cX11_waits 1 = .ok (.iload_n 1, 1) := by decide +kernel
theorem dX11_waits_2 : decode cX11_waits 2 = .ok (.invokevirtual 176, 3) := by decide +kernel
theorem dX11_waits_5 : decode cX11_waits 5 = .ok (.ifCond .eq 7, 3) := by decide +kernel
theorem dX11_waits_8 : decode cX11_waits 8 = .ok (.ldc2_w 236, 3) := by decide +kernel
theorem dX11_waits_11 : decode cX11_waits 11 = .ok (.lreturn, 1) := by decide +kernel
theorem dX11_waits_12 : decode cX11_waits 12 = .ok (.iload_n 2, 1) := by decide +kernel
theorem dX11_waits_13 : decode cX11_waits 13 = .ok (.iconst 1, 1) := by decide +kernel
theorem dX11_waits_14 : decode cX11_waits 14 = .ok (.if_icmp .lt 20, 3) := by decide +kernel
theorem dX11_waits_17 : decode cX11_waits 17 = .ok (.iload_n 2, 1) := by decide +kernel
theorem dX11_waits_18 : decode cX11_waits 18 = .ok (.bipush 6, 2) := by decide +kernel
theorem dX11_waits_20 : decode cX11_waits 20 = .ok (.if_icmp .gt 14, 3) := by decide +kernel
theorem dX11_waits_23 : decode cX11_waits 23 = .ok (.iload_n 2, 1) := by decide +kernel
theorem dX11_waits_24 : decode cX11_waits 24 = .ok (.aload_n 0, 1) := by decide +kernel
theorem dX11_waits_25 : decode cX11_waits 25 = .ok (.getfield 10, 3) := by decide +kernel
theorem dX11_waits_28 : decode cX11_waits 28 = .ok (.getfield 120, 3) := by decide +kernel
theorem dX11_waits_31 : decode cX11_waits 31 = .ok (.if_icmp .le 7, 3) := by decide +kernel
theorem dX11_waits_34 : decode cX11_waits 34 = .ok (.ldc2_w 236, 3) := by decide +kernel
theorem dX11_waits_37 : decode cX11_waits 37 = .ok (.lreturn, 1) := by decide +kernel
theorem dX11_waits_38 : decode cX11_waits 38 = .ok (.iload_n 3, 1) := by decide +kernel
theorem dX11_waits_39 : decode cX11_waits 39 = .ok (.iload_n 2, 1) := by decide +kernel
theorem dX11_waits_40 : decode cX11_waits 40 = .ok (.invokestatic 129, 3) := by decide +kernel
theorem dX11_waits_43 : decode cX11_waits 43 = .ok (.ifCond .eq 12, 3) := by decide +kernel
theorem dX11_waits_46 : decode cX11_waits 46 = .ok (.iload 4, 2) := by decide +kernel
theorem dX11_waits_48 : decode cX11_waits 48 = .ok (.iconst 2, 1) := by decide +kernel
theorem dX11_waits_49 : decode cX11_waits 49 = .ok (.invokestatic 129, 3) := by decide +kernel
theorem dX11_waits_52 : decode cX11_waits 52 = .ok (.ifCond .ne 7, 3) := by decide +kernel
theorem dX11_waits_55 : decode cX11_waits 55 = .ok (.ldc2_w 236, 3) := by decide +kernel
theorem dX11_waits_58 : decode cX11_waits 58 = .ok (.lreturn, 1) := by decide +kernel
theorem dX11_waits_59 : decode cX11_waits 59 = .ok (.iconst 1, 1) := by decide +kernel
theorem dX11_waits_60 : decode cX11_waits 60 = .ok (.iload_n 2, 1) := by decide +kernel
theorem dX11_waits_61 : decode cX11_waits 61 = .ok (.ishl, 1) := by decide +kernel
theorem dX11_waits_62 : decode cX11_waits 62 = .ok (.iconst 1, 1) := by decide +kernel
theorem dX11_waits_63 : decode cX11_waits 63 = .ok (.isub, 1) := by decide +kernel
theorem dX11_waits_64 : decode cX11_waits 64 = .ok (.istore 5, 2) := by decide +kernel
theorem dX11_waits_66 : decode cX11_waits 66 = .ok (.aload_n 0, 1) := by decide +kernel
theorem dX11_waits_67 : decode cX11_waits 67 = .ok (.iload 5, 2) := by decide +kernel
theorem dX11_waits_69 : decode cX11_waits 69 = .ok (.iconst 1, 1) := by decide +kernel
theorem dX11_waits_70 : decode cX11_waits 70 = .ok (.invokevirtual 202, 3) := by decide +kernel
theorem dX11_waits_73 : decode cX11_waits 73 = .ok (.aload_n 0, 1) := by decide +kernel
theorem dX11_waits_74 : decode cX11_waits 74 = .ok (.iload 5, 2) := by decide +kernel
theorem dX11_waits_76 : decode cX11_waits 76 = .ok (.invokevirtual 208, 3) := by decide +kernel
theorem dX11_waits_79 : decode cX11_waits 79 = .ok (.istore 6, 2) := by decide +kernel
theorem dX11_waits_81 : decode cX11_waits 81 = .ok (.iconst 0, 1) := by decide +kernel
theorem dX11_waits_82 : decode cX11_waits 82 = .ok (.istore 7, 2) := by decide +kernel
theorem dX11_waits_84 : decode cX11_waits 84 = .ok (.iconst 0, 1) := by decide +kernel
theorem dX11_waits_85 : decode cX11_waits 85 = .ok (.istore 8, 2) := by decide +kernel
theorem dX11_waits_87 : decode cX11_waits 87 = .ok (.aload_n 0, 1) := by decide +kernel
theorem dX11_waits_88 : decode cX11_waits 88 = .ok (.iload_n 2, 1) := by decide +kernel
theorem dX11_waits_89 : decode cX11_waits 89 = .ok (.invokevirtual 215, 3) := by decide +kernel
theorem dX11_waits_92 : decode cX11_waits 92 = .ok (.iconst 1, 1) := by decide +kernel
theorem dX11_waits_93 : decode cX11_waits 93 = .ok (.istore 9, 2) := by decide +kernel
theorem dX11_waits_95 : decode cX11_waits 95 = .ok (.iconst 0, 1) := by decide +kernel
theorem dX11_waits_96 : decode cX11_waits 96 = .ok (.istore 10, 2) := by decide +kernel
theorem dX11_waits_98 : decode cX11_waits 98 = .ok (.iload 10, 2) := by decide +kernel
theorem dX11_waits_100 : decode cX11_waits 100 = .ok (.sipush 720, 3) := by decide +kernel
theorem dX11_waits_103 : decode cX11_waits 103 = .ok (.if_icmp .ge 45, 3) := by decide +kernel
theorem dX11_waits_106 : decode cX11_waits 106 = .ok (.iload 9, 2) := by decide +kernel
theorem dX11_waits_108 : decode cX11_waits 108 = .ok (.ifCond .eq 40, 3) := by decide +kernel
theorem dX11_waits_111 : decode cX11_waits 111 = .ok (.aload_n 0, 1) := by decide +kernel
theorem dX11_waits_112 : decode cX11_waits 112 = .ok (.getfield 91, 3) := by decide +kernel
theorem dX11_waits_115 : decode cX11_waits 115 = .ok (.aload_n 0, 1) := by decide +kernel
theorem dX11_waits_116 : decode cX11_waits 116 = .ok (.iload_n 2, 1) := by decide +kernel
theorem dX11_waits_117 : decode cX11_waits 117 = .ok (.iload_n 3, 1) := by decide +kernel
theorem dX11_waits_118 : decode cX11_waits 118 = .ok (.invokevirtual 238, 3) := by decide +kernel
theorem dX11_waits_121 : decode cX11_waits 121 = .ok (.invokestatic 139, 3) := by decide +kernel
theorem dX11_waits_124 : decode cX11_waits 124 = .ok (.iload 6, 2) := by decide +kernel
theorem dX11_waits_126 : decode cX11_waits 126 = .ok (.if_icmp .ne 6, 3) := by decide +kernel
theorem dX11_waits_129 : decode cX11_waits 129 = .ok (.iinc 7 1, 3) := by decide +kernel
theorem dX11_waits_132 : decode cX11_waits 132 = .ok (.iinc 8 1, 3) := by decide +kernel
theorem dX11_waits_135 : decode cX11_waits 135 = .ok (.aload_n 0, 1) := by decide +kernel
theorem dX11_waits_136 : decode cX11_waits 136 = .ok (.iload_n 2, 1) := by decide +kernel
theorem dX11_waits_137 : decode cX11_waits 137 = .ok (.invokevirtual 224, 3) := by decide +kernel
theorem dX11_waits_140 : decode cX11_waits 140 = .ok (.istore 9, 2) := by decide +kernel
theorem dX11_waits_142 : decode cX11_waits 142 = .ok (.iinc 10 1, 3) := by decide +kernel
theorem dX11_waits_145 : decode cX11_waits 145 = .ok (.goto (-47), 3) := by decide +kernel
theorem dX11_waits_148 : decode cX11_waits 148 = .ok (.iload 7, 2) := by decide +kernel
theorem dX11_waits_150 : decode cX11_waits 150 = .ok (.iload 8, 2) := by decide +kernel
theorem dX11_waits_152 : decode cX11_waits 152 = .ok (.iload 4, 2) := by decide +kernel
theorem dX11_waits_154 : decode cX11_waits 154 = .ok (.invokestatic 241, 3) := by decide +kernel
theorem dX11_waits_157 : decode cX11_waits 157 = .ok (.lreturn, 1) := by decide +kernel
theorem dX11_judge_0 : decode cX11_judge 0 = .ok (.aload_n 0, 1) := by decide +kernel
theorem dX11_judge_1 : decode cX11_judge 1 = .ok (.iload_n 1, 1) := by decide +kernel
theorem dX11_judge_2 : decode cX11_judge 2 = .ok (.iload_n 2, 1) := by decide +kernel
theorem dX11_judge_3 : decode cX11_judge 3 = .ok (.iload_n 3, 1) := by decide +kernel
theorem dX11_judge_4 : decode cX11_judge 4 = .ok (.invokevirtual 245, 3) := by decide +kernel
theorem dX11_judge_7 : decode cX11_judge 7 = .ok (.istore 4, 2) := by decide +kernel
theorem dX11_judge_9 : decode cX11_judge 9 = .ok (.iload 4, 2) := by decide +kernel
theorem dX11_judge_11 : decode cX11_judge 11 = .ok (.ifCond .eq 8, 3) := by decide +kernel
theorem dX11_judge_14 : decode cX11_judge 14 = .ok (.iload 4, 2) := by decide +kernel
theorem dX11_judge_16 : decode cX11_judge 16 = .ok (.goto 8, 3) := by decide +kernel
theorem dX11_judge_19 : decode cX11_judge 19 = .ok (.aload_n 0, 1) := by decide +kernel
theorem dX11_judge_20 : decode cX11_judge 20 = .ok (.iload_n 2, 1) := by decide +kernel
theorem dX11_judge_21 : decode cX11_judge 21 = .ok (.invokevirtual 249, 3) := by decide +kernel
theorem dX11_judge_24 : decode cX11_judge 24 = .ok (.ireturn, 1) := by decide +kernel
theorem dX11_kinds_0 : decode cX11_kinds 0 = .ok (.aload_n 0, 1) := by decide +kernel
theorem dX11_kinds_1 : decode cX11_kinds 1 = .ok (.iload_n 1, 1) := by decide +kernel
theorem dX11_kinds_2 : decode cX11_kinds 2 = .ok (.iload_n 2, 1) := by decide +kernel
theorem dX11_kinds_3 : decode cX11_kinds 3 = .ok (.iload_n 3, 1) := by decide +kernel
theorem dX11_kinds_4 : decode cX11_kinds 4 = .ok (.invokevirtual 245, 3) := by decide +kernel
theorem dX11_kinds_7 : decode cX11_kinds 7 = .ok (.istore 5, 2) := by decide +kernel
theorem dX11_kinds_9 : decode cX11_kinds 9 = .ok (.iload 5, 2) := by decide +kernel
theorem dX11_kinds_11 : decode cX11_kinds 11 = .ok (.ifCond .eq 6, 3) := by decide +kernel
theorem dX11_kinds_14 : decode cX11_kinds 14 = .ok (.iload 5, 2) := by decide +kernel
theorem dX11_kinds_16 : decode cX11_kinds 16 = .ok (.ireturn, 1) := by decide +kernel
theorem dX11_kinds_17 : decode cX11_kinds 17 = .ok (.iload 4, 2) := by decide +kernel
theorem dX11_kinds_19 : decode cX11_kinds 19 = .ok (.iconst 2, 1) := by decide +kernel
theorem dX11_kinds_20 : decode cX11_kinds 20 = .ok (.invokestatic 129, 3) := by decide +kernel
theorem dX11_kinds_23 : decode cX11_kinds 23 = .ok (.ifCond .ne 6, 3) := by decide +kernel
theorem dX11_kinds_26 : decode cX11_kinds 26 = .ok (.bipush (-7), 2) := by decide +kernel
theorem dX11_kinds_28 : decode cX11_kinds 28 = .ok (.ireturn, 1) := by decide +kernel
theorem dX11_kinds_29 : decode cX11_kinds 29 = .ok (.iconst 0, 1) := by decide +kernel
theorem dX11_kinds_30 : decode cX11_kinds 30 = .ok (.istore 6, 2) := by decide +kernel
theorem dX11_kinds_32 : decode cX11_kinds 32 = .ok (.iconst 0, 1) := by decide +kernel
theorem dX11_kinds_33 : decode cX11_kinds 33 = .ok (.istore 7, 2) := by decide +kernel
theorem dX11_kinds_35 : decode cX11_kinds 35 = .ok (.iload 7, 2) := by decide +kernel
theorem dX11_kinds_37 : decode cX11_kinds 37 = .ok (.iload 4, 2) := by decide +kernel
theorem dX11_kinds_39 : decode cX11_kinds 39 = .ok (.ifCond .ne 8, 3) := by decide +kernel
theorem dX11_kinds_42 : decode cX11_kinds 42 = .ok (.bipush 6, 2) := by decide +kernel
theorem dX11_kinds_44 : decode cX11_kinds 44 = .ok (.goto 5, 3) := by decide +kernel
theorem dX11_kinds_47 : decode cX11_kinds 47 = .ok (.bipush 10, 2) := by decide +kernel
theorem dX11_kinds_49 : decode cX11_kinds 49 = .ok (.if_icmp .ge 57, 3) := by decide +kernel
theorem dX11_kinds_52 : decode cX11_kinds 52 = .ok (.iload 4, 2) := by decide +kernel
theorem dX11_kinds_54 : decode cX11_kinds 54 = .ok (.ifCond .ne 19, 3) := by decide +kernel
theorem dX11_kinds_57 : decode cX11_kinds 57 = .ok (.aload_n 0, 1) := by decide +kernel
theorem dX11_kinds_58 : decode cX11_kinds 58 = .ok (.getfield 78, 3) := by decide +kernel
theorem dX11_kinds_61 : decode cX11_kinds 61 = .ok (.aload_n 0, 1) := by decide +kernel
theorem dX11_kinds_62 : decode cX11_kinds 62 = .ok (.iload 7, 2) := by decide +kernel
theorem dX11_kinds_64 : decode cX11_kinds 64 = .ok (.invokevirtual 252, 3) := by decide +kernel
theorem dX11_kinds_67 : decode cX11_kinds 67 = .ok (.invokevirtual 256, 3) := by decide +kernel
theorem dX11_kinds_70 : decode cX11_kinds 70 = .ok (.goto 12, 3) := by decide +kernel
theorem dX11_kinds_73 : decode cX11_kinds 73 = .ok (.aload_n 0, 1) := by decide +kernel
theorem dX11_kinds_74 : decode cX11_kinds 74 = .ok (.getfield 78, 3) := by decide +kernel
theorem dX11_kinds_77 : decode cX11_kinds 77 = .ok (.iload 7, 2) := by decide +kernel
theorem dX11_kinds_79 : decode cX11_kinds 79 = .ok (.invokevirtual 260, 3) := by decide +kernel
theorem dX11_kinds_82 : decode cX11_kinds 82 = .ok (.aload_n 0, 1) := by decide +kernel
theorem dX11_kinds_83 : decode cX11_kinds 83 = .ok (.iload_n 2, 1) := by decide +kernel
theorem dX11_kinds_84 : decode cX11_kinds 84 = .ok (.invokevirtual 249, 3) := by decide +kernel
theorem dX11_kinds_87 : decode cX11_kinds 87 = .ok (.iconst (-1), 1) := by decide +kernel
theorem dX11_kinds_88 : decode cX11_kinds 88 = .ok (.if_icmp .ne 12, 3) := by decide +kernel
theorem dX11_kinds_91 : decode cX11_kinds 91 = .ok (.iload 6, 2) := by decide +kernel
theorem dX11_kinds_93 : decode cX11_kinds 93 = .ok (.iconst 1, 1) := by decide +kernel
theorem dX11_kinds_94 : decode cX11_kinds 94 = .ok (.iload 7, 2) := by decide +kernel
theorem dX11_kinds_96 : decode cX11_kinds 96 = .ok (.ishl, 1) := by decide +kernel
theorem dX11_kinds_97 : decode cX11_kinds 97 = .ok (.ior, 1) := by decide +kernel
theorem dX11_kinds_98 : decode cX11_kinds 98 = .ok (.istore 6, 2) := by decide +kernel
theorem dX11_kinds_100 : decode cX11_kinds 100 = .ok (.iinc 7 1, 3) := by decide +kernel
theorem dX11_kinds_103 : decode cX11_kinds 103 = .ok (.goto (-68), 3) := by decide +kernel
theorem dX11_kinds_106 : decode cX11_kinds 106 = .ok (.iload 6, 2) := by decide +kernel
theorem dX11_kinds_108 : decode cX11_kinds 108 = .ok (.ireturn, 1) := by decide +kernel
theorem dX11_riches_0 : decode cX11_riches 0 = .ok (.aload_n 0, 1) := by decide +kernel
theorem dX11_riches_1 : decode cX11_riches 1 = .ok (.iload_n 1, 1) := by decide +kernel
theorem dX11_riches_2 : decode cX11_riches 2 = .ok (.iload_n 2, 1) := by decide +kernel
theorem dX11_riches_3 : decode cX11_riches 3 = .ok (.iload_n 3, 1) := by decide +kernel
theorem dX11_riches_4 : decode cX11_riches 4 = .ok (.invokevirtual 245, 3) := by decide +kernel
theorem dX11_riches_7 : decode cX11_riches 7 = .ok (.istore 5, 2) := by decide +kernel
theorem dX11_riches_9 : decode cX11_riches 9 = .ok (.iload 5, 2) := by decide +kernel
theorem dX11_riches_11 : decode cX11_riches 11 = .ok (.ifCond .eq 6, 3) := by decide +kernel
theorem dX11_riches_14 : decode cX11_riches 14 = .ok (.iload 5, 2) := by decide +kernel
theorem dX11_riches_16 : decode cX11_riches 16 = .ok (.ireturn, 1) := by decide +kernel
theorem dX11_riches_17 : decode cX11_riches 17 = .ok (.iload 4, 2) := by decide +kernel
theorem dX11_riches_19 : decode cX11_riches 19 = .ok (.iconst 2, 1) := by decide +kernel
theorem dX11_riches_20 : decode cX11_riches 20 = .ok (.invokestatic 129, 3) := by decide +kernel
theorem dX11_riches_23 : decode cX11_riches 23 = .ok (.ifCond .ne 6, 3) := by decide +kernel
theorem dX11_riches_26 : decode cX11_riches 26 = .ok (.bipush (-7), 2) := by decide +kernel
theorem dX11_riches_28 : decode cX11_riches 28 = .ok (.ireturn, 1) := by decide +kernel
theorem dX11_riches_29 : decode cX11_riches 29 = .ok (.iconst 0, 1) := by decide +kernel
theorem dX11_riches_30 : decode cX11_riches 30 = .ok (.istore 6, 2) := by decide +kernel
theorem dX11_riches_32 : decode cX11_riches 32 = .ok (.iconst (-1), 1) := by decide +kernel
theorem dX11_riches_33 : decode cX11_riches 33 = .ok (.istore 7, 2) := by decide +kernel
theorem dX11_riches_35 : decode cX11_riches 35 = .ok (.iconst 0, 1) := by decide +kernel
theorem dX11_riches_36 : decode cX11_riches 36 = .ok (.istore 8, 2) := by decide +kernel
theorem dX11_riches_38 : decode cX11_riches 38 = .ok (.iload 8, 2) := by decide +kernel
theorem dX11_riches_40 : decode cX11_riches 40 = .ok (.sipush 1000, 3) := by decide +kernel
theorem dX11_riches_43 : decode cX11_riches 43 = .ok (.if_icmp .ge 42, 3) := by decide +kernel
theorem dX11_riches_46 : decode cX11_riches 46 = .ok (.aload_n 0, 1) := by decide +kernel
theorem dX11_riches_47 : decode cX11_riches 47 = .ok (.getfield 78, 3) := by decide +kernel
theorem dX11_riches_50 : decode cX11_riches 50 = .ok (.iload 8, 2) := by decide +kernel
theorem dX11_riches_52 : decode cX11_riches 52 = .ok (.invokevirtual 263, 3) := by decide +kernel
theorem dX11_riches_55 : decode cX11_riches 55 = .ok (.aload_n 0, 1) := by decide +kernel
theorem dX11_riches_56 : decode cX11_riches 56 = .ok (.iload_n 2, 1) := by decide +kernel
theorem dX11_riches_57 : decode cX11_riches 57 = .ok (.invokevirtual 249, 3) := by decide +kernel
theorem dX11_riches_60 : decode cX11_riches 60 = .ok (.iconst (-1), 1) := by decide +kernel
theorem dX11_riches_61 : decode cX11_riches 61 = .ok (.if_icmp .eq 6, 3) := by decide +kernel
theorem dX11_riches_64 : decode cX11_riches 64 = .ok (.goto 15, 3) := by decide +kernel
theorem dX11_riches_67 : decode cX11_riches 67 = .ok (.iload 6, 2) := by decide +kernel
theorem dX11_riches_69 : decode cX11_riches 69 = .ok (.ifCond .ne 7, 3) := by decide +kernel
theorem dX11_riches_72 : decode cX11_riches 72 = .ok (.iload 8, 2) := by decide +kernel
theorem dX11_riches_74 : decode cX11_riches 74 = .ok (.istore 7, 2) := by decide +kernel
theorem dX11_riches_76 : decode cX11_riches 76 = .ok (.iinc 6 1, 3) := by decide +kernel
theorem dX11_riches_79 : decode cX11_riches 79 = .ok (.iinc 8 1, 3) := by decide +kernel
theorem dX11_riches_82 : decode cX11_riches 82 = .ok (.goto (-44), 3) := by decide +kernel
theorem dX11_riches_85 : decode cX11_riches 85 = .ok (.iload 4, 2) := by decide +kernel
theorem dX11_riches_87 : decode cX11_riches 87 = .ok (.ifCond .ne 8, 3) := by decide +kernel
theorem dX11_riches_90 : decode cX11_riches 90 = .ok (.iload 6, 2) := by decide +kernel
theorem dX11_riches_92 : decode cX11_riches 92 = .ok (.goto 5, 3) := by decide +kernel
theorem dX11_riches_95 : decode cX11_riches 95 = .ok (.iload 7, 2) := by decide +kernel
theorem dX11_riches_97 : decode cX11_riches 97 = .ok (.ireturn, 1) := by decide +kernel
theorem dX11_rooms_0 : decode cX11_rooms 0 = .ok (.aload_n 0, 1) := by decide +kernel
theorem dX11_rooms_1 : decode cX11_rooms 1 = .ok (.iload_n 1, 1) := by decide +kernel
theorem dX11_rooms_2 : decode cX11_rooms 2 = .ok (.iload_n 2, 1) := by decide +kernel
theorem dX11_rooms_3 : decode cX11_rooms 3 = .ok (.iload_n 3, 1) := by decide +kernel
theorem dX11_rooms_4 : decode cX11_rooms 4 = .ok (.invokevirtual 245, 3) := by decide +kernel
theorem dX11_rooms_7 : decode cX11_rooms 7 = .ok (.istore 5, 2) := by decide +kernel
theorem dX11_rooms_9 : decode cX11_rooms 9 = .ok (.iload 5, 2) := by decide +kernel
theorem dX11_rooms_11 : decode cX11_rooms 11 = .ok (.ifCond .eq 6, 3) := by decide +kernel
theorem dX11_rooms_14 : decode cX11_rooms 14 = .ok (.iload 5, 2) := by decide +kernel
theorem dX11_rooms_16 : decode cX11_rooms 16 = .ok (.ireturn, 1) := by decide +kernel
theorem dX11_rooms_17 : decode cX11_rooms 17 = .ok (.iload 4, 2) := by decide +kernel
theorem dX11_rooms_19 : decode cX11_rooms 19 = .ok (.sipush 600, 3) := by decide +kernel
theorem dX11_rooms_22 : decode cX11_rooms 22 = .ok (.invokestatic 129, 3) := by decide +kernel
theorem dX11_rooms_25 : decode cX11_rooms 25 = .ok (.ifCond .ne 6, 3) := by decide +kernel
theorem dX11_rooms_28 : decode cX11_rooms 28 = .ok (.bipush (-7), 2) := by decide +kernel
theorem dX11_rooms_30 : decode cX11_rooms 30 = .ok (.ireturn, 1) := by decide +kernel
theorem dX11_rooms_31 : decode cX11_rooms 31 = .ok (.iload 4, 2) := by decide +kernel
theorem dX11_rooms_33 : decode cX11_rooms 33 = .ok (.bipush 100, 2) := by decide +kernel
theorem dX11_rooms_35 : decode cX11_rooms 35 = .ok (.idiv, 1) := by decide +kernel
theorem dX11_rooms_36 : decode cX11_rooms 36 = .ok (.istore 6, 2) := by decide +kernel
theorem dX11_rooms_38 : decode cX11_rooms 38 = .ok (.iload 4, 2) := by decide +kernel
