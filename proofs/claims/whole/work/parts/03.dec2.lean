theorem dX3_orderByRank_70 : decode cX3_orderByRank 70 = .ok (.irem, 1) := by decide +kernel
theorem dX3_orderByRank_71 : decode cX3_orderByRank 71 = .ok (.istore_n 2, 1) := by decide +kernel
theorem dX3_orderByRank_72 : decode cX3_orderByRank 72 = .ok (.iinc 3 1, 3) := by decide +kernel
theorem dX3_orderByRank_75 : decode cX3_orderByRank 75 = .ok (.goto (-43), 3) := by decide +kernel
theorem dX3_orderByRank_78 : decode cX3_orderByRank 78 = .ok (.return_, 1) := by decide +kernel
theorem dX3_placeAfter_0 : decode cX3_placeAfter 0 = .ok (.iload_n 1, 1) := by decide +kernel
theorem dX3_placeAfter_1 : decode cX3_placeAfter 1 = .ok (.istore_n 3, 1) := by decide +kernel
theorem dX3_placeAfter_2 : decode cX3_placeAfter 2 = .ok (.iconst 0, 1) := by decide +kernel
theorem dX3_placeAfter_3 : decode cX3_placeAfter 3 = .ok (.istore 4, 2) := by decide +kernel
theorem dX3_placeAfter_5 : decode cX3_placeAfter 5 = .ok (.iload 4, 2) := by decide +kernel
theorem dX3_placeAfter_7 : decode cX3_placeAfter 7 = .ok (.iconst 5, 1) := by decide +kernel
theorem dX3_placeAfter_8 : decode cX3_placeAfter 8 = .ok (.if_icmp .ge 45, 3) := by decide +kernel
theorem dX3_placeAfter_11 : decode cX3_placeAfter 11 = .ok (.aload_n 0, 1) := by decide +kernel
theorem dX3_placeAfter_12 : decode cX3_placeAfter 12 = .ok (.iload 4, 2) := by decide +kernel
theorem dX3_placeAfter_14 : decode cX3_placeAfter 14 = .ok (.invokevirtual 60, 3) := by decide +kernel
theorem dX3_placeAfter_17 : decode cX3_placeAfter 17 = .ok (.astore 5, 2) := by decide +kernel
theorem dX3_placeAfter_19 : decode cX3_placeAfter 19 = .ok (.aload 5, 2) := by decide +kernel
theorem dX3_placeAfter_21 : decode cX3_placeAfter 21 = .ok (.ifnull 26, 3) := by decide +kernel
theorem dX3_placeAfter_24 : decode cX3_placeAfter 24 = .ok (.aload 5, 2) := by decide +kernel
theorem dX3_placeAfter_26 : decode cX3_placeAfter 26 = .ok (.getfield 76, 3) := by decide +kernel
theorem dX3_placeAfter_29 : decode cX3_placeAfter 29 = .ok (.iconst (-1), 1) := by decide +kernel
theorem dX3_placeAfter_30 : decode cX3_placeAfter 30 = .ok (.if_icmp .ne 17, 3) := by decide +kernel
theorem dX3_placeAfter_33 : decode cX3_placeAfter 33 = .ok (.iload_n 3, 1) := by decide +kernel
theorem dX3_placeAfter_34 : decode cX3_placeAfter 34 = .ok (.ifCond .ne 10, 3) := by decide +kernel
theorem dX3_placeAfter_37 : decode cX3_placeAfter 37 = .ok (.aload 5, 2) := by decide +kernel
theorem dX3_placeAfter_39 : decode cX3_placeAfter 39 = .ok (.iload_n 2, 1) := by decide +kernel
theorem dX3_placeAfter_40 : decode cX3_placeAfter 40 = .ok (.putfield 76, 3) := by decide +kernel
theorem dX3_placeAfter_43 : decode cX3_placeAfter 43 = .ok (.return_, 1) := by decide +kernel
theorem dX3_placeAfter_44 : decode cX3_placeAfter 44 = .ok (.iinc 3 (-1), 3) := by decide +kernel
theorem dX3_placeAfter_47 : decode cX3_placeAfter 47 = .ok (.iinc 4 1, 3) := by decide +kernel
theorem dX3_placeAfter_50 : decode cX3_placeAfter 50 = .ok (.goto (-45), 3) := by decide +kernel
theorem dX3_placeAfter_53 : decode cX3_placeAfter 53 = .ok (.return_, 1) := by decide +kernel
theorem dX3_runMinutes_0 : decode cX3_runMinutes 0 = .ok (.iconst 0, 1) := by decide +kernel
theorem dX3_runMinutes_1 : decode cX3_runMinutes 1 = .ok (.istore_n 2, 1) := by decide +kernel
theorem dX3_runMinutes_2 : decode cX3_runMinutes 2 = .ok (.iload_n 2, 1) := by decide +kernel
theorem dX3_runMinutes_3 : decode cX3_runMinutes 3 = .ok (.iload_n 1, 1) := by decide +kernel
theorem dX3_runMinutes_4 : decode cX3_runMinutes 4 = .ok (.if_icmp .ge 14, 3) := by decide +kernel
theorem dX3_runMinutes_7 : decode cX3_runMinutes 7 = .ok (.aload_n 0, 1) := by decide +kernel
theorem dX3_runMinutes_8 : decode cX3_runMinutes 8 = .ok (.invokevirtual 130, 3) := by decide +kernel
theorem dX3_runMinutes_11 : decode cX3_runMinutes 11 = .ok (.pop, 1) := by decide +kernel
theorem dX3_runMinutes_12 : decode cX3_runMinutes 12 = .ok (.iinc 2 1, 3) := by decide +kernel
theorem dX3_runMinutes_15 : decode cX3_runMinutes 15 = .ok (.goto (-13), 3) := by decide +kernel
theorem dX3_runMinutes_18 : decode cX3_runMinutes 18 = .ok (.return_, 1) := by decide +kernel
theorem dX3_runMinute_0 : decode cX3_runMinute 0 = .ok (.aload_n 0, 1) := by decide +kernel
theorem dX3_runMinute_1 : decode cX3_runMinute 1 = .ok (.getfield 48, 3) := by decide +kernel
theorem dX3_runMinute_4 : decode cX3_runMinute 4 = .ok (.aload_n 0, 1) := by decide +kernel
theorem dX3_runMinute_5 : decode cX3_runMinute 5 = .ok (.getfield 18, 3) := by decide +kernel
theorem dX3_runMinute_8 : decode cX3_runMinute 8 = .ok (.bipush 7, 2) := by decide +kernel
theorem dX3_runMinute_10 : decode cX3_runMinute 10 = .ok (.iaload, 1) := by decide +kernel
theorem dX3_runMinute_11 : decode cX3_runMinute 11 = .ok (.if_icmp .lt 8, 3) := by decide +kernel
theorem dX3_runMinute_14 : decode cX3_runMinute 14 = .ok (.aload_n 0, 1) := by decide +kernel
theorem dX3_runMinute_15 : decode cX3_runMinute 15 = .ok (.invokevirtual 134, 3) := by decide +kernel
theorem dX3_runMinute_18 : decode cX3_runMinute 18 = .ok (.pop, 1) := by decide +kernel
theorem dX3_runMinute_19 : decode cX3_runMinute 19 = .ok (.aload_n 0, 1) := by decide +kernel
theorem dX3_runMinute_20 : decode cX3_runMinute 20 = .ok (.invokevirtual 80, 3) := by decide +kernel
theorem dX3_runMinute_23 : decode cX3_runMinute 23 = .ok (.istore_n 1, 1) := by decide +kernel
theorem dX3_runMinute_24 : decode cX3_runMinute 24 = .ok (.aload_n 0, 1) := by decide +kernel
theorem dX3_runMinute_25 : decode cX3_runMinute 25 = .ok (.iload_n 1, 1) := by decide +kernel
theorem dX3_runMinute_26 : decode cX3_runMinute 26 = .ok (.invokevirtual 137, 3) := by decide +kernel
theorem dX3_runMinute_29 : decode cX3_runMinute 29 = .ok (.istore_n 2, 1) := by decide +kernel
theorem dX3_runMinute_30 : decode cX3_runMinute 30 = .ok (.aload_n 0, 1) := by decide +kernel
theorem dX3_runMinute_31 : decode cX3_runMinute 31 = .ok (.iload_n 1, 1) := by decide +kernel
theorem dX3_runMinute_32 : decode cX3_runMinute 32 = .ok (.aload_n 0, 1) := by decide +kernel
theorem dX3_runMinute_33 : decode cX3_runMinute 33 = .ok (.getfield 18, 3) := by decide +kernel
theorem dX3_runMinute_36 : decode cX3_runMinute 36 = .ok (.bipush 6, 2) := by decide +kernel
theorem dX3_runMinute_38 : decode cX3_runMinute 38 = .ok (.iaload, 1) := by decide +kernel
theorem dX3_runMinute_39 : decode cX3_runMinute 39 = .ok (.invokevirtual 141, 3) := by decide +kernel
theorem dX3_runMinute_42 : decode cX3_runMinute 42 = .ok (.pop, 1) := by decide +kernel
theorem dX3_runMinute_43 : decode cX3_runMinute 43 = .ok (.iload_n 2, 1) := by decide +kernel
theorem dX3_runMinute_44 : decode cX3_runMinute 44 = .ok (.ireturn, 1) := by decide +kernel
theorem dX3_runLeakTest_0 : decode cX3_runLeakTest 0 = .ok (.aload_n 0, 1) := by decide +kernel
theorem dX3_runLeakTest_1 : decode cX3_runLeakTest 1 = .ok (.invokevirtual 144, 3) := by decide +kernel
theorem dX3_runLeakTest_4 : decode cX3_runLeakTest 4 = .ok (.iconst 0, 1) := by decide +kernel
theorem dX3_runLeakTest_5 : decode cX3_runLeakTest 5 = .ok (.istore_n 2, 1) := by decide +kernel
theorem dX3_runLeakTest_6 : decode cX3_runLeakTest 6 = .ok (.iconst 0, 1) := by decide +kernel
theorem dX3_runLeakTest_7 : decode cX3_runLeakTest 7 = .ok (.istore_n 3, 1) := by decide +kernel
theorem dX3_runLeakTest_8 : decode cX3_runLeakTest 8 = .ok (.iload_n 3, 1) := by decide +kernel
theorem dX3_runLeakTest_9 : decode cX3_runLeakTest 9 = .ok (.iload_n 1, 1) := by decide +kernel
theorem dX3_runLeakTest_10 : decode cX3_runLeakTest 10 = .ok (.if_icmp .ge 40, 3) := by decide +kernel
theorem dX3_runLeakTest_13 : decode cX3_runLeakTest 13 = .ok (.aload_n 0, 1) := by decide +kernel
theorem dX3_runLeakTest_14 : decode cX3_runLeakTest 14 = .ok (.getfield 48, 3) := by decide +kernel
theorem dX3_runLeakTest_17 : decode cX3_runLeakTest 17 = .ok (.aload_n 0, 1) := by decide +kernel
theorem dX3_runLeakTest_18 : decode cX3_runLeakTest 18 = .ok (.getfield 18, 3) := by decide +kernel
theorem dX3_runLeakTest_21 : decode cX3_runLeakTest 21 = .ok (.bipush 7, 2) := by decide +kernel
theorem dX3_runLeakTest_23 : decode cX3_runLeakTest 23 = .ok (.iaload, 1) := by decide +kernel
theorem dX3_runLeakTest_24 : decode cX3_runLeakTest 24 = .ok (.if_icmp .lt 8, 3) := by decide +kernel
theorem dX3_runLeakTest_27 : decode cX3_runLeakTest 27 = .ok (.aload_n 0, 1) := by decide +kernel
theorem dX3_runLeakTest_28 : decode cX3_runLeakTest 28 = .ok (.invokevirtual 134, 3) := by decide +kernel
theorem dX3_runLeakTest_31 : decode cX3_runLeakTest 31 = .ok (.pop, 1) := by decide +kernel
theorem dX3_runLeakTest_32 : decode cX3_runLeakTest 32 = .ok (.iload_n 2, 1) := by decide +kernel
theorem dX3_runLeakTest_33 : decode cX3_runLeakTest 33 = .ok (.aload_n 0, 1) := by decide +kernel
theorem dX3_runLeakTest_34 : decode cX3_runLeakTest 34 = .ok (.aload_n 0, 1) := by decide +kernel
theorem dX3_runLeakTest_35 : decode cX3_runLeakTest 35 = .ok (.invokevirtual 80, 3) := by decide +kernel
theorem dX3_runLeakTest_38 : decode cX3_runLeakTest 38 = .ok (.iconst 0, 1) := by decide +kernel
theorem dX3_runLeakTest_39 : decode cX3_runLeakTest 39 = .ok (.invokevirtual 141, 3) := by decide +kernel
theorem dX3_runLeakTest_42 : decode cX3_runLeakTest 42 = .ok (.iadd, 1) := by decide +kernel
theorem dX3_runLeakTest_43 : decode cX3_runLeakTest 43 = .ok (.istore_n 2, 1) := by decide +kernel
theorem dX3_runLeakTest_44 : decode cX3_runLeakTest 44 = .ok (.iinc 3 1, 3) := by decide +kernel
theorem dX3_runLeakTest_47 : decode cX3_runLeakTest 47 = .ok (.goto (-39), 3) := by decide +kernel
theorem dX3_runLeakTest_50 : decode cX3_runLeakTest 50 = .ok (.aload_n 0, 1) := by decide +kernel
theorem dX3_runLeakTest_51 : decode cX3_runLeakTest 51 = .ok (.iload_n 2, 1) := by decide +kernel
theorem dX3_runLeakTest_52 : decode cX3_runLeakTest 52 = .ok (.invokevirtual 147, 3) := by decide +kernel
theorem dX3_runLeakTest_55 : decode cX3_runLeakTest 55 = .ok (.iload_n 2, 1) := by decide +kernel
theorem dX3_runLeakTest_56 : decode cX3_runLeakTest 56 = .ok (.ireturn, 1) := by decide +kernel
theorem dX3_unloadAll_0 : decode cX3_unloadAll 0 = .ok (.iconst 0, 1) := by decide +kernel
theorem dX3_unloadAll_1 : decode cX3_unloadAll 1 = .ok (.istore_n 1, 1) := by decide +kernel
theorem dX3_unloadAll_2 : decode cX3_unloadAll 2 = .ok (.iload_n 1, 1) := by decide +kernel
theorem dX3_unloadAll_3 : decode cX3_unloadAll 3 = .ok (.iconst 5, 1) := by decide +kernel
theorem dX3_unloadAll_4 : decode cX3_unloadAll 4 = .ok (.if_icmp .ge 31, 3) := by decide +kernel
theorem dX3_unloadAll_7 : decode cX3_unloadAll 7 = .ok (.aload_n 0, 1) := by decide +kernel
theorem dX3_unloadAll_8 : decode cX3_unloadAll 8 = .ok (.iload_n 1, 1) := by decide +kernel
theorem dX3_unloadAll_9 : decode cX3_unloadAll 9 = .ok (.invokevirtual 60, 3) := by decide +kernel
theorem dX3_unloadAll_12 : decode cX3_unloadAll 12 = .ok (.astore_n 2, 1) := by decide +kernel
theorem dX3_unloadAll_13 : decode cX3_unloadAll 13 = .ok (.aload_n 2, 1) := by decide +kernel
theorem dX3_unloadAll_14 : decode cX3_unloadAll 14 = .ok (.ifnull 15, 3) := by decide +kernel
theorem dX3_unloadAll_17 : decode cX3_unloadAll 17 = .ok (.aload_n 2, 1) := by decide +kernel
theorem dX3_unloadAll_18 : decode cX3_unloadAll 18 = .ok (.getfield 94, 3) := by decide +kernel
theorem dX3_unloadAll_21 : decode cX3_unloadAll 21 = .ok (.iconst 1, 1) := by decide +kernel
theorem dX3_unloadAll_22 : decode cX3_unloadAll 22 = .ok (.if_icmp .ne 7, 3) := by decide +kernel
theorem dX3_unloadAll_25 : decode cX3_unloadAll 25 = .ok (.aload_n 2, 1) := by decide +kernel
theorem dX3_unloadAll_26 : decode cX3_unloadAll 26 = .ok (.invokevirtual 151, 3) := by decide +kernel
theorem dX3_unloadAll_29 : decode cX3_unloadAll 29 = .ok (.iinc 1 1, 3) := by decide +kernel
theorem dX3_unloadAll_32 : decode cX3_unloadAll 32 = .ok (.goto (-30), 3) := by decide +kernel
theorem dX3_unloadAll_35 : decode cX3_unloadAll 35 = .ok (.return_, 1) := by decide +kernel
theorem dX3_keepResult_0 : decode cX3_keepResult 0 = .ok (.iconst 5, 1) := by decide +kernel
theorem dX3_keepResult_1 : decode cX3_keepResult 1 = .ok (.istore_n 2, 1) := by decide +kernel
theorem dX3_keepResult_2 : decode cX3_keepResult 2 = .ok (.iload_n 2, 1) := by decide +kernel
theorem dX3_keepResult_3 : decode cX3_keepResult 3 = .ok (.ifCond .le 23, 3) := by decide +kernel
theorem dX3_keepResult_6 : decode cX3_keepResult 6 = .ok (.aload_n 0, 1) := by decide +kernel
theorem dX3_keepResult_7 : decode cX3_keepResult 7 = .ok (.getfield 26, 3) := by decide +kernel
theorem dX3_keepResult_10 : decode cX3_keepResult 10 = .ok (.iload_n 2, 1) := by decide +kernel
theorem dX3_keepResult_11 : decode cX3_keepResult 11 = .ok (.aload_n 0, 1) := by decide +kernel
theorem dX3_keepResult_12 : decode cX3_keepResult 12 = .ok (.getfield 26, 3) := by decide +kernel
theorem dX3_keepResult_15 : decode cX3_keepResult 15 = .ok (.iload_n 2, 1) := by decide +kernel
theorem dX3_keepResult_16 : decode cX3_keepResult 16 = .ok (.iconst 1, 1) := by decide +kernel
theorem dX3_keepResult_17 : decode cX3_keepResult 17 = .ok (.isub, 1) := by decide +kernel
theorem dX3_keepResult_18 : decode cX3_keepResult 18 = .ok (.iaload, 1) := by decide +kernel
theorem dX3_keepResult_19 : decode cX3_keepResult 19 = .ok (.iastore, 1) := by decide +kernel
theorem dX3_keepResult_20 : decode cX3_keepResult 20 = .ok (.iinc 2 (-1), 3) := by decide +kernel
theorem dX3_keepResult_23 : decode cX3_keepResult 23 = .ok (.goto (-21), 3) := by decide +kernel
theorem dX3_keepResult_26 : decode cX3_keepResult 26 = .ok (.aload_n 0, 1) := by decide +kernel
theorem dX3_keepResult_27 : decode cX3_keepResult 27 = .ok (.getfield 26, 3) := by decide +kernel
theorem dX3_keepResult_30 : decode cX3_keepResult 30 = .ok (.iconst 0, 1) := by decide +kernel
theorem dX3_keepResult_31 : decode cX3_keepResult 31 = .ok (.iload_n 1, 1) := by decide +kernel
theorem dX3_keepResult_32 : decode cX3_keepResult 32 = .ok (.iastore, 1) := by decide +kernel
theorem dX3_keepResult_33 : decode cX3_keepResult 33 = .ok (.aload_n 0, 1) := by decide +kernel
theorem dX3_keepResult_34 : decode cX3_keepResult 34 = .ok (.aload_n 0, 1) := by decide +kernel
theorem dX3_keepResult_35 : decode cX3_keepResult 35 = .ok (.getfield 57, 3) := by decide +kernel
theorem dX3_keepResult_38 : decode cX3_keepResult 38 = .ok (.iconst 1, 1) := by decide +kernel
theorem dX3_keepResult_39 : decode cX3_keepResult 39 = .ok (.iadd, 1) := by decide +kernel
theorem dX3_keepResult_40 : decode cX3_keepResult 40 = .ok (.bipush 6, 2) := by decide +kernel
theorem dX3_keepResult_42 : decode cX3_keepResult 42 = .ok (.invokestatic 154, 3) := by decide +kernel
theorem dX3_keepResult_45 : decode cX3_keepResult 45 = .ok (.putfield 57, 3) := by decide +kernel
theorem dX3_keepResult_48 : decode cX3_keepResult 48 = .ok (.return_, 1) := by decide +kernel
theorem dX3_lookAtAll_0 : decode cX3_lookAtAll 0 = .ok (.iconst 0, 1) := by decide +kernel
theorem dX3_lookAtAll_1 : decode cX3_lookAtAll 1 = .ok (.istore_n 2, 1) := by decide +kernel
theorem dX3_lookAtAll_2 : decode cX3_lookAtAll 2 = .ok (.iconst 0, 1) := by decide +kernel
theorem dX3_lookAtAll_3 : decode cX3_lookAtAll 3 = .ok (.istore_n 3, 1) := by decide +kernel
theorem dX3_lookAtAll_4 : decode cX3_lookAtAll 4 = .ok (.iload_n 3, 1) := by decide +kernel
theorem dX3_lookAtAll_5 : decode cX3_lookAtAll 5 = .ok (.iconst 5, 1) := by decide +kernel
theorem dX3_lookAtAll_6 : decode cX3_lookAtAll 6 = .ok (.if_icmp .ge 59, 3) := by decide +kernel
theorem dX3_lookAtAll_9 : decode cX3_lookAtAll 9 = .ok (.aload_n 0, 1) := by decide +kernel
theorem dX3_lookAtAll_10 : decode cX3_lookAtAll 10 = .ok (.iload_n 3, 1) := by decide +kernel
theorem dX3_lookAtAll_11 : decode cX3_lookAtAll 11 = .ok (.invokevirtual 60, 3) := by decide +kernel
theorem dX3_lookAtAll_14 : decode cX3_lookAtAll 14 = .ok (.astore 4, 2) := by decide +kernel
theorem dX3_lookAtAll_16 : decode cX3_lookAtAll 16 = .ok (.aload 4, 2) := by decide +kernel
theorem dX3_lookAtAll_18 : decode cX3_lookAtAll 18 = .ok (.ifnull 41, 3) := by decide +kernel
theorem dX3_lookAtAll_21 : decode cX3_lookAtAll 21 = .ok (.aload_n 0, 1) := by decide +kernel
theorem dX3_lookAtAll_22 : decode cX3_lookAtAll 22 = .ok (.aload 4, 2) := by decide +kernel
theorem dX3_lookAtAll_24 : decode cX3_lookAtAll 24 = .ok (.iload_n 1, 1) := by decide +kernel
theorem dX3_lookAtAll_25 : decode cX3_lookAtAll 25 = .ok (.invokevirtual 159, 3) := by decide +kernel
theorem dX3_lookAtAll_28 : decode cX3_lookAtAll 28 = .ok (.istore 5, 2) := by decide +kernel
theorem dX3_lookAtAll_30 : decode cX3_lookAtAll 30 = .ok (.aload 4, 2) := by decide +kernel
theorem dX3_lookAtAll_32 : decode cX3_lookAtAll 32 = .ok (.iload 5, 2) := by decide +kernel
theorem dX3_lookAtAll_34 : decode cX3_lookAtAll 34 = .ok (.aload_n 0, 1) := by decide +kernel
theorem dX3_lookAtAll_35 : decode cX3_lookAtAll 35 = .ok (.getfield 18, 3) := by decide +kernel
theorem dX3_lookAtAll_38 : decode cX3_lookAtAll 38 = .ok (.iconst 4, 1) := by decide +kernel
theorem dX3_lookAtAll_39 : decode cX3_lookAtAll 39 = .ok (.iaload, 1) := by decide +kernel
theorem dX3_lookAtAll_40 : decode cX3_lookAtAll 40 = .ok (.invokevirtual 163, 3) := by decide +kernel
theorem dX3_lookAtAll_43 : decode cX3_lookAtAll 43 = .ok (.iload_n 2, 1) := by decide +kernel
theorem dX3_lookAtAll_44 : decode cX3_lookAtAll 44 = .ok (.ifCond .ne 9, 3) := by decide +kernel
theorem dX3_lookAtAll_47 : decode cX3_lookAtAll 47 = .ok (.iload 5, 2) := by decide +kernel
theorem dX3_lookAtAll_49 : decode cX3_lookAtAll 49 = .ok (.iconst 2, 1) := by decide +kernel
theorem dX3_lookAtAll_50 : decode cX3_lookAtAll 50 = .ok (.if_icmp .ne 7, 3) := by decide +kernel
theorem dX3_lookAtAll_53 : decode cX3_lookAtAll 53 = .ok (.iconst 1, 1) := by decide +kernel
theorem dX3_lookAtAll_54 : decode cX3_lookAtAll 54 = .ok (.goto 4, 3) := by decide +kernel
theorem dX3_lookAtAll_57 : decode cX3_lookAtAll 57 = .ok (.iconst 0, 1) := by decide +kernel
theorem dX3_lookAtAll_58 : decode cX3_lookAtAll 58 = .ok (.istore_n 2, 1) := by decide +kernel
theorem dX3_lookAtAll_59 : decode cX3_lookAtAll 59 = .ok (.iinc 3 1, 3) := by decide +kernel
theorem dX3_lookAtAll_62 : decode cX3_lookAtAll 62 = .ok (.goto (-58), 3) := by decide +kernel
theorem dX3_lookAtAll_65 : decode cX3_lookAtAll 65 = .ok (.iload_n 2, 1) := by decide +kernel
theorem dX3_lookAtAll_66 : decode cX3_lookAtAll 66 = .ok (.ireturn, 1) := by decide +kernel
theorem dX3_doingOf_0 : decode cX3_doingOf 0 = .ok (.aload_n 1, 1) := by decide +kernel
theorem dX3_doingOf_1 : decode cX3_doingOf 1 = .ok (.getfield 94, 3) := by decide +kernel
theorem dX3_doingOf_4 : decode cX3_doingOf 4 = .ok (.tableswitch 101 0 2 #[28, 53, 68], 28) := by decide +kernel
theorem dX3_doingOf_32 : decode cX3_doingOf 32 = .ok (.aload_n 1, 1) := by decide +kernel
theorem dX3_doingOf_33 : decode cX3_doingOf 33 = .ok (.getfield 106, 3) := by decide +kernel
theorem dX3_doingOf_36 : decode cX3_doingOf 36 = .ok (.ifCond .le 5, 3) := by decide +kernel
theorem dX3_doingOf_39 : decode cX3_doingOf 39 = .ok (.iconst 1, 1) := by decide +kernel
theorem dX3_doingOf_40 : decode cX3_doingOf 40 = .ok (.ireturn, 1) := by decide +kernel
theorem dX3_doingOf_41 : decode cX3_doingOf 41 = .ok (.iload_n 2, 1) := by decide +kernel
theorem dX3_doingOf_42 : decode cX3_doingOf 42 = .ok (.aload_n 0, 1) := by decide +kernel
theorem dX3_doingOf_43 : decode cX3_doingOf 43 = .ok (.aload_n 1, 1) := by decide +kernel
theorem dX3_doingOf_44 : decode cX3_doingOf 44 = .ok (.invokevirtual 112, 3) := by decide +kernel
theorem dX3_doingOf_47 : decode cX3_doingOf 47 = .ok (.if_icmp .ge 7, 3) := by decide +kernel
theorem dX3_doingOf_50 : decode cX3_doingOf 50 = .ok (.iconst 2, 1) := by decide +kernel
theorem dX3_doingOf_51 : decode cX3_doingOf 51 = .ok (.goto 5, 3) := by decide +kernel
theorem dX3_doingOf_54 : decode cX3_doingOf 54 = .ok (.bipush 7, 2) := by decide +kernel
theorem dX3_doingOf_56 : decode cX3_doingOf 56 = .ok (.ireturn, 1) := by decide +kernel
theorem dX3_doingOf_57 : decode cX3_doingOf 57 = .ok (.iload_n 2, 1) := by decide +kernel
theorem dX3_doingOf_58 : decode cX3_doingOf 58 = .ok (.aload_n 0, 1) := by decide +kernel
theorem dX3_doingOf_59 : decode cX3_doingOf 59 = .ok (.aload_n 1, 1) := by decide +kernel
theorem dX3_doingOf_60 : decode cX3_doingOf 60 = .ok (.invokevirtual 116, 3) := by decide +kernel
theorem dX3_doingOf_63 : decode cX3_doingOf 63 = .ok (.if_icmp .le 7, 3) := by decide +kernel
theorem dX3_doingOf_66 : decode cX3_doingOf 66 = .ok (.iconst 4, 1) := by decide +kernel
theorem dX3_doingOf_67 : decode cX3_doingOf 67 = .ok (.goto 4, 3) := by decide +kernel
theorem dX3_doingOf_70 : decode cX3_doingOf 70 = .ok (.iconst 3, 1) := by decide +kernel
theorem dX3_doingOf_71 : decode cX3_doingOf 71 = .ok (.ireturn, 1) := by decide +kernel
theorem dX3_doingOf_72 : decode cX3_doingOf 72 = .ok (.iload_n 2, 1) := by decide +kernel
theorem dX3_doingOf_73 : decode cX3_doingOf 73 = .ok (.aload_n 0, 1) := by decide +kernel
theorem dX3_doingOf_74 : decode cX3_doingOf 74 = .ok (.aload_n 1, 1) := by decide +kernel
theorem dX3_doingOf_75 : decode cX3_doingOf 75 = .ok (.invokevirtual 112, 3) := by decide +kernel
theorem dX3_doingOf_78 : decode cX3_doingOf 78 = .ok (.if_icmp .ge 5, 3) := by decide +kernel
theorem dX3_doingOf_81 : decode cX3_doingOf 81 = .ok (.iconst 2, 1) := by decide +kernel
theorem dX3_doingOf_82 : decode cX3_doingOf 82 = .ok (.ireturn, 1) := by decide +kernel
theorem dX3_doingOf_83 : decode cX3_doingOf 83 = .ok (.aload_n 1, 1) := by decide +kernel
theorem dX3_doingOf_84 : decode cX3_doingOf 84 = .ok (.getfield 103, 3) := by decide +kernel
theorem dX3_doingOf_87 : decode cX3_doingOf 87 = .ok (.iconst 1, 1) := by decide +kernel
theorem dX3_doingOf_88 : decode cX3_doingOf 88 = .ok (.iadd, 1) := by decide +kernel
theorem dX3_doingOf_89 : decode cX3_doingOf 89 = .ok (.aload_n 0, 1) := by decide +kernel
theorem dX3_doingOf_90 : decode cX3_doingOf 90 = .ok (.getfield 18, 3) := by decide +kernel
theorem dX3_doingOf_93 : decode cX3_doingOf 93 = .ok (.iconst 3, 1) := by decide +kernel
theorem dX3_doingOf_94 : decode cX3_doingOf 94 = .ok (.iaload, 1) := by decide +kernel
theorem dX3_doingOf_95 : decode cX3_doingOf 95 = .ok (.if_icmp .lt 8, 3) := by decide +kernel
theorem dX3_doingOf_98 : decode cX3_doingOf 98 = .ok (.bipush 6, 2) := by decide +kernel
theorem dX3_doingOf_100 : decode cX3_doingOf 100 = .ok (.goto 4, 3) := by decide +kernel
theorem dX3_doingOf_103 : decode cX3_doingOf 103 = .ok (.iconst 5, 1) := by decide +kernel
theorem dX3_doingOf_104 : decode cX3_doingOf 104 = .ok (.ireturn, 1) := by decide +kernel
theorem dX3_doingOf_105 : decode cX3_doingOf 105 = .ok (.iconst 0, 1) := by decide +kernel
theorem dX3_doingOf_106 : decode cX3_doingOf 106 = .ok (.ireturn, 1) := by decide +kernel
theorem dX3_runFlows_0 : decode cX3_runFlows 0 = .ok (.aload_n 0, 1) := by decide +kernel
theorem dX3_runFlows_1 : decode cX3_runFlows 1 = .ok (.invokevirtual 166, 3) := by decide +kernel
theorem dX3_runFlows_4 : decode cX3_runFlows 4 = .ok (.aload_n 0, 1) := by decide +kernel
theorem dX3_runFlows_5 : decode cX3_runFlows 5 = .ok (.iload_n 1, 1) := by decide +kernel
theorem dX3_runFlows_6 : decode cX3_runFlows 6 = .ok (.invokevirtual 169, 3) := by decide +kernel
theorem dX3_runFlows_9 : decode cX3_runFlows 9 = .ok (.aload_n 0, 1) := by decide +kernel
theorem dX3_runFlows_10 : decode cX3_runFlows 10 = .ok (.getfield 15, 3) := by decide +kernel
theorem dX3_runFlows_13 : decode cX3_runFlows 13 = .ok (.invokestatic 154, 3) := by decide +kernel
theorem dX3_runFlows_16 : decode cX3_runFlows 16 = .ok (.istore_n 3, 1) := by decide +kernel
theorem dX3_runFlows_17 : decode cX3_runFlows 17 = .ok (.aload_n 0, 1) := by decide +kernel
theorem dX3_runFlows_18 : decode cX3_runFlows 18 = .ok (.dup, 1) := by decide +kernel
theorem dX3_runFlows_19 : decode cX3_runFlows 19 = .ok (.getfield 15, 3) := by decide +kernel
theorem dX3_runFlows_22 : decode cX3_runFlows 22 = .ok (.iload_n 3, 1) := by decide +kernel
theorem dX3_runFlows_23 : decode cX3_runFlows 23 = .ok (.isub, 1) := by decide +kernel
theorem dX3_runFlows_24 : decode cX3_runFlows 24 = .ok (.putfield 15, 3) := by decide +kernel
theorem dX3_runFlows_27 : decode cX3_runFlows 27 = .ok (.iload_n 2, 1) := by decide +kernel
theorem dX3_runFlows_28 : decode cX3_runFlows 28 = .ok (.aload_n 0, 1) := by decide +kernel
theorem dX3_runFlows_29 : decode cX3_runFlows 29 = .ok (.getfield 15, 3) := by decide +kernel
theorem dX3_runFlows_32 : decode cX3_runFlows 32 = .ok (.invokestatic 154, 3) := by decide +kernel
theorem dX3_runFlows_35 : decode cX3_runFlows 35 = .ok (.istore 4, 2) := by decide +kernel
theorem dX3_runFlows_37 : decode cX3_runFlows 37 = .ok (.aload_n 0, 1) := by decide +kernel
theorem dX3_runFlows_38 : decode cX3_runFlows 38 = .ok (.dup, 1) := by decide +kernel
theorem dX3_runFlows_39 : decode cX3_runFlows 39 = .ok (.getfield 15, 3) := by decide +kernel
theorem dX3_runFlows_42 : decode cX3_runFlows 42 = .ok (.iload 4, 2) := by decide +kernel
theorem dX3_runFlows_44 : decode cX3_runFlows 44 = .ok (.isub, 1) := by decide +kernel
theorem dX3_runFlows_45 : decode cX3_runFlows 45 = .ok (.putfield 15, 3) := by decide +kernel
theorem dX3_runFlows_48 : decode cX3_runFlows 48 = .ok (.aload_n 0, 1) := by decide +kernel
theorem dX3_runFlows_49 : decode cX3_runFlows 49 = .ok (.getfield 22, 3) := by decide +kernel
theorem dX3_runFlows_52 : decode cX3_runFlows 52 = .ok (.iconst 1, 1) := by decide +kernel
theorem dX3_runFlows_53 : decode cX3_runFlows 53 = .ok (.dup2, 1) := by decide +kernel
theorem dX3_runFlows_54 : decode cX3_runFlows 54 = .ok (.laload, 1) := by decide +kernel
theorem dX3_runFlows_55 : decode cX3_runFlows 55 = .ok (.iload_n 3, 1) := by decide +kernel
theorem dX3_runFlows_56 : decode cX3_runFlows 56 = .ok (.i2l, 1) := by decide +kernel
theorem dX3_runFlows_57 : decode cX3_runFlows 57 = .ok (.ladd, 1) := by decide +kernel
theorem dX3_runFlows_58 : decode cX3_runFlows 58 = .ok (.lastore, 1) := by decide +kernel
theorem dX3_runFlows_59 : decode cX3_runFlows 59 = .ok (.aload_n 0, 1) := by decide +kernel
theorem dX3_runFlows_60 : decode cX3_runFlows 60 = .ok (.getfield 22, 3) := by decide +kernel
theorem dX3_runFlows_63 : decode cX3_runFlows 63 = .ok (.iconst 2, 1) := by decide +kernel
theorem dX3_runFlows_64 : decode cX3_runFlows 64 = .ok (.dup2, 1) := by decide +kernel
theorem dX3_runFlows_65 : decode cX3_runFlows 65 = .ok (.laload, 1) := by decide +kernel
theorem dX3_runFlows_66 : decode cX3_runFlows 66 = .ok (.iload 4, 2) := by decide +kernel
theorem dX3_runFlows_68 : decode cX3_runFlows 68 = .ok (.i2l, 1) := by decide +kernel
theorem dX3_runFlows_69 : decode cX3_runFlows 69 = .ok (.ladd, 1) := by decide +kernel
theorem dX3_runFlows_70 : decode cX3_runFlows 70 = .ok (.lastore, 1) := by decide +kernel
theorem dX3_runFlows_71 : decode cX3_runFlows 71 = .ok (.aload_n 0, 1) := by decide +kernel
theorem dX3_runFlows_72 : decode cX3_runFlows 72 = .ok (.getfield 22, 3) := by decide +kernel
theorem dX3_runFlows_75 : decode cX3_runFlows 75 = .ok (.iconst 3, 1) := by decide +kernel
theorem dX3_runFlows_76 : decode cX3_runFlows 76 = .ok (.dup2, 1) := by decide +kernel
theorem dX3_runFlows_77 : decode cX3_runFlows 77 = .ok (.laload, 1) := by decide +kernel
theorem dX3_runFlows_78 : decode cX3_runFlows 78 = .ok (.iload_n 2, 1) := by decide +kernel
theorem dX3_runFlows_79 : decode cX3_runFlows 79 = .ok (.iload 4, 2) := by decide +kernel
theorem dX3_runFlows_81 : decode cX3_runFlows 81 = .ok (.isub, 1) := by decide +kernel
theorem dX3_runFlows_82 : decode cX3_runFlows 82 = .ok (.i2l, 1) := by decide +kernel
theorem dX3_runFlows_83 : decode cX3_runFlows 83 = .ok (.ladd, 1) := by decide +kernel
theorem dX3_runFlows_84 : decode cX3_runFlows 84 = .ok (.lastore, 1) := by decide +kernel
theorem dX3_runFlows_85 : decode cX3_runFlows 85 = .ok (.aload_n 0, 1) := by decide +kernel
theorem dX3_runFlows_86 : decode cX3_runFlows 86 = .ok (.invokevirtual 172, 3) := by decide +kernel
theorem dX3_runFlows_89 : decode cX3_runFlows 89 = .ok (.aload_n 0, 1) := by decide +kernel
theorem dX3_runFlows_90 : decode cX3_runFlows 90 = .ok (.dup, 1) := by decide +kernel
theorem dX3_runFlows_91 : decode cX3_runFlows 91 = .ok (.getfield 45, 3) := by decide +kernel
theorem dX3_runFlows_94 : decode cX3_runFlows 94 = .ok (.iconst 1, 1) := by decide +kernel
theorem dX3_runFlows_95 : decode cX3_runFlows 95 = .ok (.iadd, 1) := by decide +kernel
theorem dX3_runFlows_96 : decode cX3_runFlows 96 = .ok (.putfield 45, 3) := by decide +kernel
theorem dX3_runFlows_99 : decode cX3_runFlows 99 = .ok (.aload_n 0, 1) := by decide +kernel
theorem dX3_runFlows_100 : decode cX3_runFlows 100 = .ok (.dup, 1) := by decide +kernel
theorem dX3_runFlows_101 : decode cX3_runFlows 101 = .ok (.getfield 48, 3) := by decide +kernel
theorem dX3_runFlows_104 : decode cX3_runFlows 104 = .ok (.iconst 1, 1) := by decide +kernel
theorem dX3_runFlows_105 : decode cX3_runFlows 105 = .ok (.iadd, 1) := by decide +kernel
theorem dX3_runFlows_106 : decode cX3_runFlows 106 = .ok (.putfield 48, 3) := by decide +kernel
theorem dX3_runFlows_109 : decode cX3_runFlows 109 = .ok (.iload_n 3, 1) := by decide +kernel
theorem dX3_runFlows_110 : decode cX3_runFlows 110 = .ok (.ireturn, 1) := by decide +kernel
theorem dX3_runCompressors_0 : decode cX3_runCompressors 0 = .ok (.iconst 0, 1) := by decide +kernel
theorem dX3_runCompressors_1 : decode cX3_runCompressors 1 = .ok (.istore_n 1, 1) := by decide +kernel
theorem dX3_runCompressors_2 : decode cX3_runCompressors 2 = .ok (.iload_n 1, 1) := by decide +kernel
theorem dX3_runCompressors_3 : decode cX3_runCompressors 3 = .ok (.iconst 5, 1) := by decide +kernel
theorem dX3_runCompressors_4 : decode cX3_runCompressors 4 = .ok (.if_icmp .ge 122, 3) := by decide +kernel
theorem dX3_runCompressors_7 : decode cX3_runCompressors 7 = .ok (.aload_n 0, 1) := by decide +kernel
theorem dX3_runCompressors_8 : decode cX3_runCompressors 8 = .ok (.iload_n 1, 1) := by decide +kernel
theorem dX3_runCompressors_9 : decode cX3_runCompressors 9 = .ok (.invokevirtual 60, 3) := by decide +kernel
theorem dX3_runCompressors_12 : decode cX3_runCompressors 12 = .ok (.astore_n 2, 1) := by decide +kernel
theorem dX3_runCompressors_13 : decode cX3_runCompressors 13 = .ok (.aload_n 2, 1) := by decide +kernel
theorem dX3_runCompressors_14 : decode cX3_runCompressors 14 = .ok (.ifnull 68, 3) := by decide +kernel
theorem dX3_runCompressors_17 : decode cX3_runCompressors 17 = .ok (.aload_n 2, 1) := by decide +kernel
theorem dX3_runCompressors_18 : decode cX3_runCompressors 18 = .ok (.getfield 94, 3) := by decide +kernel
theorem dX3_runCompressors_21 : decode cX3_runCompressors 21 = .ok (.iconst 1, 1) := by decide +kernel
theorem dX3_runCompressors_22 : decode cX3_runCompressors 22 = .ok (.if_icmp .ne 60, 3) := by decide +kernel
theorem dX3_runCompressors_25 : decode cX3_runCompressors 25 = .ok (.aload_n 0, 1) := by decide +kernel
theorem dX3_runCompressors_26 : decode cX3_runCompressors 26 = .ok (.dup, 1) := by decide +kernel
theorem dX3_runCompressors_27 : decode cX3_runCompressors 27 = .ok (.getfield 15, 3) := by decide +kernel
theorem dX3_runCompressors_30 : decode cX3_runCompressors 30 = .ok (.aload_n 2, 1) := by decide +kernel
theorem dX3_runCompressors_31 : decode cX3_runCompressors 31 = .ok (.getfield 91, 3) := by decide +kernel
theorem dX3_runCompressors_34 : decode cX3_runCompressors 34 = .ok (.iadd, 1) := by decide +kernel
theorem dX3_runCompressors_35 : decode cX3_runCompressors 35 = .ok (.putfield 15, 3) := by decide +kernel
theorem dX3_runCompressors_38 : decode cX3_runCompressors 38 = .ok (.aload_n 0, 1) := by decide +kernel
theorem dX3_runCompressors_39 : decode cX3_runCompressors 39 = .ok (.getfield 22, 3) := by decide +kernel
theorem dX3_runCompressors_42 : decode cX3_runCompressors 42 = .ok (.iconst 0, 1) := by decide +kernel
theorem dX3_runCompressors_43 : decode cX3_runCompressors 43 = .ok (.dup2, 1) := by decide +kernel
theorem dX3_runCompressors_44 : decode cX3_runCompressors 44 = .ok (.laload, 1) := by decide +kernel
theorem dX3_runCompressors_45 : decode cX3_runCompressors 45 = .ok (.aload_n 2, 1) := by decide +kernel
theorem dX3_runCompressors_46 : decode cX3_runCompressors 46 = .ok (.getfield 91, 3) := by decide +kernel
theorem dX3_runCompressors_49 : decode cX3_runCompressors 49 = .ok (.i2l, 1) := by decide +kernel
theorem dX3_runCompressors_50 : decode cX3_runCompressors 50 = .ok (.ladd, 1) := by decide +kernel
theorem dX3_runCompressors_51 : decode cX3_runCompressors 51 = .ok (.lastore, 1) := by decide +kernel
theorem dX3_runCompressors_52 : decode cX3_runCompressors 52 = .ok (.aload_n 0, 1) := by decide +kernel
theorem dX3_runCompressors_53 : decode cX3_runCompressors 53 = .ok (.getfield 22, 3) := by decide +kernel
theorem dX3_runCompressors_56 : decode cX3_runCompressors 56 = .ok (.iconst 5, 1) := by decide +kernel
theorem dX3_runCompressors_57 : decode cX3_runCompressors 57 = .ok (.dup2, 1) := by decide +kernel
theorem dX3_runCompressors_58 : decode cX3_runCompressors 58 = .ok (.laload, 1) := by decide +kernel
theorem dX3_runCompressors_59 : decode cX3_runCompressors 59 = .ok (.bipush 10, 2) := by decide +kernel
theorem dX3_runCompressors_61 : decode cX3_runCompressors 61 = .ok (.aload_n 2, 1) := by decide +kernel
theorem dX3_runCompressors_62 : decode cX3_runCompressors 62 = .ok (.getfield 91, 3) := by decide +kernel
theorem dX3_runCompressors_65 : decode cX3_runCompressors 65 = .ok (.imul, 1) := by decide +kernel
theorem dX3_runCompressors_66 : decode cX3_runCompressors 66 = .ok (.i2l, 1) := by decide +kernel
theorem dX3_runCompressors_67 : decode cX3_runCompressors 67 = .ok (.ladd, 1) := by decide +kernel
theorem dX3_runCompressors_68 : decode cX3_runCompressors 68 = .ok (.lastore, 1) := by decide +kernel
theorem dX3_runCompressors_69 : decode cX3_runCompressors 69 = .ok (.aload_n 2, 1) := by decide +kernel
theorem dX3_runCompressors_70 : decode cX3_runCompressors 70 = .ok (.dup, 1) := by decide +kernel
theorem dX3_runCompressors_71 : decode cX3_runCompressors 71 = .ok (.getfield 97, 3) := by decide +kernel
theorem dX3_runCompressors_74 : decode cX3_runCompressors 74 = .ok (.iconst 1, 1) := by decide +kernel
theorem dX3_runCompressors_75 : decode cX3_runCompressors 75 = .ok (.iadd, 1) := by decide +kernel
theorem dX3_runCompressors_76 : decode cX3_runCompressors 76 = .ok (.putfield 97, 3) := by decide +kernel
theorem dX3_runCompressors_79 : decode cX3_runCompressors 79 = .ok (.goto 41, 3) := by decide +kernel
theorem dX3_runCompressors_82 : decode cX3_runCompressors 82 = .ok (.aload_n 2, 1) := by decide +kernel
theorem dX3_runCompressors_83 : decode cX3_runCompressors 83 = .ok (.ifnull 37, 3) := by decide +kernel
theorem dX3_runCompressors_86 : decode cX3_runCompressors 86 = .ok (.aload_n 2, 1) := by decide +kernel
theorem dX3_runCompressors_87 : decode cX3_runCompressors 87 = .ok (.getfield 94, 3) := by decide +kernel
theorem dX3_runCompressors_90 : decode cX3_runCompressors 90 = .ok (.iconst 2, 1) := by decide +kernel
theorem dX3_runCompressors_91 : decode cX3_runCompressors 91 = .ok (.if_icmp .ne 29, 3) := by decide +kernel
theorem dX3_runCompressors_94 : decode cX3_runCompressors 94 = .ok (.aload_n 0, 1) := by decide +kernel
theorem dX3_runCompressors_95 : decode cX3_runCompressors 95 = .ok (.getfield 22, 3) := by decide +kernel
theorem dX3_runCompressors_98 : decode cX3_runCompressors 98 = .ok (.iconst 5, 1) := by decide +kernel
theorem dX3_runCompressors_99 : decode cX3_runCompressors 99 = .ok (.dup2, 1) := by decide +kernel
theorem dX3_runCompressors_100 : decode cX3_runCompressors 100 = .ok (.laload, 1) := by decide +kernel
theorem dX3_runCompressors_101 : decode cX3_runCompressors 101 = .ok (.iconst 3, 1) := by decide +kernel
theorem dX3_runCompressors_102 : decode cX3_runCompressors 102 = .ok (.aload_n 2, 1) := by decide +kernel
theorem dX3_runCompressors_103 : decode cX3_runCompressors 103 = .ok (.getfield 91, 3) := by decide +kernel
theorem dX3_runCompressors_106 : decode cX3_runCompressors 106 = .ok (.imul, 1) := by decide +kernel
theorem dX3_runCompressors_107 : decode cX3_runCompressors 107 = .ok (.i2l, 1) := by decide +kernel
theorem dX3_runCompressors_108 : decode cX3_runCompressors 108 = .ok (.ladd, 1) := by decide +kernel
theorem dX3_runCompressors_109 : decode cX3_runCompressors 109 = .ok (.lastore, 1) := by decide +kernel
theorem dX3_runCompressors_110 : decode cX3_runCompressors 110 = .ok (.aload_n 2, 1) := by decide +kernel
theorem dX3_runCompressors_111 : decode cX3_runCompressors 111 = .ok (.dup, 1) := by decide +kernel
theorem dX3_runCompressors_112 : decode cX3_runCompressors 112 = .ok (.getfield 100, 3) := by decide +kernel
theorem dX3_runCompressors_115 : decode cX3_runCompressors 115 = .ok (.iconst 1, 1) := by decide +kernel
theorem dX3_runCompressors_116 : decode cX3_runCompressors 116 = .ok (.iadd, 1) := by decide +kernel
theorem dX3_runCompressors_117 : decode cX3_runCompressors 117 = .ok (.putfield 100, 3) := by decide +kernel
theorem dX3_runCompressors_120 : decode cX3_runCompressors 120 = .ok (.iinc 1 1, 3) := by decide +kernel
theorem dX3_runCompressors_123 : decode cX3_runCompressors 123 = .ok (.goto (-121), 3) := by decide +kernel
theorem dX3_runCompressors_126 : decode cX3_runCompressors 126 = .ok (.return_, 1) := by decide +kernel
theorem dX3_blowOff_0 : decode cX3_blowOff 0 = .ok (.aload_n 0, 1) := by decide +kernel
theorem dX3_blowOff_1 : decode cX3_blowOff 1 = .ok (.getfield 15, 3) := by decide +kernel
theorem dX3_blowOff_4 : decode cX3_blowOff 4 = .ok (.aload_n 0, 1) := by decide +kernel
theorem dX3_blowOff_5 : decode cX3_blowOff 5 = .ok (.getfield 9, 3) := by decide +kernel
theorem dX3_blowOff_8 : decode cX3_blowOff 8 = .ok (.invokestatic 72, 3) := by decide +kernel
theorem dX3_blowOff_11 : decode cX3_blowOff 11 = .ok (.aload_n 0, 1) := by decide +kernel
theorem dX3_blowOff_12 : decode cX3_blowOff 12 = .ok (.getfield 18, 3) := by decide +kernel
theorem dX3_blowOff_15 : decode cX3_blowOff 15 = .ok (.iconst 2, 1) := by decide +kernel
theorem dX3_blowOff_16 : decode cX3_blowOff 16 = .ok (.iaload, 1) := by decide +kernel
theorem dX3_blowOff_17 : decode cX3_blowOff 17 = .ok (.if_icmp .le 40, 3) := by decide +kernel
theorem dX3_blowOff_20 : decode cX3_blowOff 20 = .ok (.aload_n 0, 1) := by decide +kernel
theorem dX3_blowOff_21 : decode cX3_blowOff 21 = .ok (.getfield 18, 3) := by decide +kernel
theorem dX3_blowOff_24 : decode cX3_blowOff 24 = .ok (.iconst 2, 1) := by decide +kernel
theorem dX3_blowOff_25 : decode cX3_blowOff 25 = .ok (.iaload, 1) := by decide +kernel
theorem dX3_blowOff_26 : decode cX3_blowOff 26 = .ok (.aload_n 0, 1) := by decide +kernel
theorem dX3_blowOff_27 : decode cX3_blowOff 27 = .ok (.getfield 9, 3) := by decide +kernel
theorem dX3_blowOff_30 : decode cX3_blowOff 30 = .ok (.imul, 1) := by decide +kernel
theorem dX3_blowOff_31 : decode cX3_blowOff 31 = .ok (.sipush 1000, 3) := by decide +kernel
theorem dX3_blowOff_34 : decode cX3_blowOff 34 = .ok (.idiv, 1) := by decide +kernel
theorem dX3_blowOff_35 : decode cX3_blowOff 35 = .ok (.istore_n 1, 1) := by decide +kernel
theorem dX3_blowOff_36 : decode cX3_blowOff 36 = .ok (.aload_n 0, 1) := by decide +kernel
theorem dX3_blowOff_37 : decode cX3_blowOff 37 = .ok (.getfield 22, 3) := by decide +kernel
theorem dX3_blowOff_40 : decode cX3_blowOff 40 = .ok (.iconst 4, 1) := by decide +kernel
theorem dX3_blowOff_41 : decode cX3_blowOff 41 = .ok (.dup2, 1) := by decide +kernel
theorem dX3_blowOff_42 : decode cX3_blowOff 42 = .ok (.laload, 1) := by decide +kernel
theorem dX3_blowOff_43 : decode cX3_blowOff 43 = .ok (.aload_n 0, 1) := by decide +kernel
theorem dX3_blowOff_44 : decode cX3_blowOff 44 = .ok (.getfield 15, 3) := by decide +kernel
theorem dX3_blowOff_47 : decode cX3_blowOff 47 = .ok (.iload_n 1, 1) := by decide +kernel
theorem dX3_blowOff_48 : decode cX3_blowOff 48 = .ok (.isub, 1) := by decide +kernel
theorem dX3_blowOff_49 : decode cX3_blowOff 49 = .ok (.i2l, 1) := by decide +kernel
theorem dX3_blowOff_50 : decode cX3_blowOff 50 = .ok (.ladd, 1) := by decide +kernel
theorem dX3_blowOff_51 : decode cX3_blowOff 51 = .ok (.lastore, 1) := by decide +kernel
theorem dX3_blowOff_52 : decode cX3_blowOff 52 = .ok (.aload_n 0, 1) := by decide +kernel
theorem dX3_blowOff_53 : decode cX3_blowOff 53 = .ok (.iload_n 1, 1) := by decide +kernel
theorem dX3_blowOff_54 : decode cX3_blowOff 54 = .ok (.putfield 15, 3) := by decide +kernel
theorem dX3_blowOff_57 : decode cX3_blowOff 57 = .ok (.return_, 1) := by decide +kernel
theorem dX3_obeys_0 : decode cX3_obeys 0 = .ok (.iload_n 1, 1) := by decide +kernel
theorem dX3_obeys_1 : decode cX3_obeys 1 = .ok (.lookupswitch 90 #[(99, 80), (100, 43), (109, 53), (116, 70)], 43) := by decide +kernel
theorem dX3_obeys_44 : decode cX3_obeys 44 = .ok (.aload_n 0, 1) := by decide +kernel
theorem dX3_obeys_45 : decode cX3_obeys 45 = .ok (.getfield 18, 3) := by decide +kernel
theorem dX3_obeys_48 : decode cX3_obeys 48 = .ok (.bipush 6, 2) := by decide +kernel
theorem dX3_obeys_50 : decode cX3_obeys 50 = .ok (.iload_n 2, 1) := by decide +kernel
theorem dX3_obeys_51 : decode cX3_obeys 51 = .ok (.iastore, 1) := by decide +kernel
theorem dX3_obeys_52 : decode cX3_obeys 52 = .ok (.iconst 1, 1) := by decide +kernel
theorem dX3_obeys_53 : decode cX3_obeys 53 = .ok (.ireturn, 1) := by decide +kernel
theorem dX3_obeys_54 : decode cX3_obeys 54 = .ok (.aload_n 0, 1) := by decide +kernel
theorem dX3_obeys_55 : decode cX3_obeys 55 = .ok (.iload_n 2, 1) := by decide +kernel
theorem dX3_obeys_56 : decode cX3_obeys 56 = .ok (.invokevirtual 175, 3) := by decide +kernel
theorem dX3_obeys_59 : decode cX3_obeys 59 = .ok (.ifCond .ne 5, 3) := by decide +kernel
theorem dX3_obeys_62 : decode cX3_obeys 62 = .ok (.iconst 0, 1) := by decide +kernel
theorem dX3_obeys_63 : decode cX3_obeys 63 = .ok (.ireturn, 1) := by decide +kernel
theorem dX3_obeys_64 : decode cX3_obeys 64 = .ok (.aload_n 0, 1) := by decide +kernel
theorem dX3_obeys_65 : decode cX3_obeys 65 = .ok (.iload_n 2, 1) := by decide +kernel
theorem dX3_obeys_66 : decode cX3_obeys 66 = .ok (.invokevirtual 178, 3) := by decide +kernel
theorem dX3_obeys_69 : decode cX3_obeys 69 = .ok (.iconst 1, 1) := by decide +kernel
theorem dX3_obeys_70 : decode cX3_obeys 70 = .ok (.ireturn, 1) := by decide +kernel
theorem dX3_obeys_71 : decode cX3_obeys 71 = .ok (.aload_n 0, 1) := by decide +kernel
theorem dX3_obeys_72 : decode cX3_obeys 72 = .ok (.aload_n 0, 1) := by decide +kernel
theorem dX3_obeys_73 : decode cX3_obeys 73 = .ok (.iload_n 2, 1) := by decide +kernel
theorem dX3_obeys_74 : decode cX3_obeys 74 = .ok (.invokevirtual 60, 3) := by decide +kernel
theorem dX3_obeys_77 : decode cX3_obeys 77 = .ok (.invokevirtual 181, 3) := by decide +kernel
theorem dX3_obeys_80 : decode cX3_obeys 80 = .ok (.ireturn, 1) := by decide +kernel
theorem dX3_obeys_81 : decode cX3_obeys 81 = .ok (.aload_n 0, 1) := by decide +kernel
theorem dX3_obeys_82 : decode cX3_obeys 82 = .ok (.aload_n 0, 1) := by decide +kernel
theorem dX3_obeys_83 : decode cX3_obeys 83 = .ok (.iload_n 2, 1) := by decide +kernel
theorem dX3_obeys_84 : decode cX3_obeys 84 = .ok (.invokevirtual 60, 3) := by decide +kernel
theorem dX3_obeys_87 : decode cX3_obeys 87 = .ok (.invokevirtual 185, 3) := by decide +kernel
theorem dX3_obeys_90 : decode cX3_obeys 90 = .ok (.ireturn, 1) := by decide +kernel
theorem dX3_obeys_91 : decode cX3_obeys 91 = .ok (.aload_n 0, 1) := by decide +kernel
theorem dX3_obeys_92 : decode cX3_obeys 92 = .ok (.invokevirtual 134, 3) := by decide +kernel
theorem dX3_obeys_95 : decode cX3_obeys 95 = .ok (.pop, 1) := by decide +kernel
theorem dX3_obeys_96 : decode cX3_obeys 96 = .ok (.iconst 1, 1) := by decide +kernel
theorem dX3_obeys_97 : decode cX3_obeys 97 = .ok (.ireturn, 1) := by decide +kernel
theorem dX3_trips_0 : decode cX3_trips 0 = .ok (.aload_n 1, 1) := by decide +kernel
theorem dX3_trips_1 : decode cX3_trips 1 = .ok (.ifnull 11, 3) := by decide +kernel
theorem dX3_trips_4 : decode cX3_trips 4 = .ok (.aload_n 1, 1) := by decide +kernel
theorem dX3_trips_5 : decode cX3_trips 5 = .ok (.getfield 94, 3) := by decide +kernel
theorem dX3_trips_8 : decode cX3_trips 8 = .ok (.iconst 3, 1) := by decide +kernel
theorem dX3_trips_9 : decode cX3_trips 9 = .ok (.if_icmp .ne 5, 3) := by decide +kernel
theorem dX3_trips_12 : decode cX3_trips 12 = .ok (.iconst 0, 1) := by decide +kernel
theorem dX3_trips_13 : decode cX3_trips 13 = .ok (.ireturn, 1) := by decide +kernel
theorem dX3_trips_14 : decode cX3_trips 14 = .ok (.aload_n 1, 1) := by decide +kernel
theorem dX3_trips_15 : decode cX3_trips 15 = .ok (.invokevirtual 188, 3) := by decide +kernel
theorem dX3_trips_18 : decode cX3_trips 18 = .ok (.iconst 1, 1) := by decide +kernel
theorem dX3_trips_19 : decode cX3_trips 19 = .ok (.ireturn, 1) := by decide +kernel
theorem dX3_clears_0 : decode cX3_clears 0 = .ok (.aload_n 1, 1) := by decide +kernel
theorem dX3_clears_1 : decode cX3_clears 1 = .ok (.ifnull 11, 3) := by decide +kernel
theorem dX3_clears_4 : decode cX3_clears 4 = .ok (.aload_n 1, 1) := by decide +kernel
theorem dX3_clears_5 : decode cX3_clears 5 = .ok (.getfield 94, 3) := by decide +kernel
theorem dX3_clears_8 : decode cX3_clears 8 = .ok (.iconst 3, 1) := by decide +kernel
theorem dX3_clears_9 : decode cX3_clears 9 = .ok (.if_icmp .eq 5, 3) := by decide +kernel
theorem dX3_clears_12 : decode cX3_clears 12 = .ok (.iconst 0, 1) := by decide +kernel
theorem dX3_clears_13 : decode cX3_clears 13 = .ok (.ireturn, 1) := by decide +kernel
theorem dX3_clears_14 : decode cX3_clears 14 = .ok (.aload_n 1, 1) := by decide +kernel
theorem dX3_clears_15 : decode cX3_clears 15 = .ok (.aload_n 0, 1) := by decide +kernel
theorem dX3_clears_16 : decode cX3_clears 16 = .ok (.getfield 18, 3) := by decide +kernel
theorem dX3_clears_19 : decode cX3_clears 19 = .ok (.iconst 4, 1) := by decide +kernel
theorem dX3_clears_20 : decode cX3_clears 20 = .ok (.iaload, 1) := by decide +kernel
theorem dX3_clears_21 : decode cX3_clears 21 = .ok (.invokevirtual 191, 3) := by decide +kernel
theorem dX3_clears_24 : decode cX3_clears 24 = .ok (.iconst 1, 1) := by decide +kernel
theorem dX3_clears_25 : decode cX3_clears 25 = .ok (.ireturn, 1) := by decide +kernel
theorem dX4_init_0 : decode cX4_init 0 = .ok (.aload_n 0, 1) := by decide +kernel
theorem dX4_init_1 : decode cX4_init 1 = .ok (.invokespecial 1, 3) := by decide +kernel
theorem dX4_init_4 : decode cX4_init 4 = .ok (.aload_n 0, 1) := by decide +kernel
theorem dX4_init_5 : decode cX4_init 5 = .ok (.new 7, 3) := by decide +kernel
theorem dX4_init_8 : decode cX4_init 8 = .ok (.dup, 1) := by decide +kernel
theorem dX4_init_9 : decode cX4_init 9 = .ok (.invokespecial 9, 3) := by decide +kernel
theorem dX4_init_12 : decode cX4_init 12 = .ok (.putfield 10, 3) := by decide +kernel
theorem dX4_init_15 : decode cX4_init 15 = .ok (.aload_n 0, 1) := by decide +kernel
theorem dX4_init_16 : decode cX4_init 16 = .ok (.new 7, 3) := by decide +kernel
theorem dX4_init_19 : decode cX4_init 19 = .ok (.dup, 1) := by decide +kernel
theorem dX4_init_20 : decode cX4_init 20 = .ok (.invokespecial 9, 3) := by decide +kernel
theorem dX4_init_23 : decode cX4_init 23 = .ok (.putfield 16, 3) := by decide +kernel
theorem dX4_init_26 : decode cX4_init 26 = .ok (.aload_n 0, 1) := by decide +kernel
theorem dX4_init_27 : decode cX4_init 27 = .ok (.new 19, 3) := by decide +kernel
theorem dX4_init_30 : decode cX4_init 30 = .ok (.dup, 1) := by decide +kernel
theorem dX4_init_31 : decode cX4_init 31 = .ok (.invokespecial 21, 3) := by decide +kernel
theorem dX4_init_34 : decode cX4_init 34 = .ok (.putfield 22, 3) := by decide +kernel
theorem dX4_init_37 : decode cX4_init 37 = .ok (.aload_n 0, 1) := by decide +kernel
theorem dX4_init_38 : decode cX4_init 38 = .ok (.new 26, 3) := by decide +kernel
theorem dX4_init_41 : decode cX4_init 41 = .ok (.dup, 1) := by decide +kernel
theorem dX4_init_42 : decode cX4_init 42 = .ok (.invokespecial 28, 3) := by decide +kernel
theorem dX4_init_45 : decode cX4_init 45 = .ok (.putfield 29, 3) := by decide +kernel
theorem dX4_init_48 : decode cX4_init 48 = .ok (.return_, 1) := by decide +kernel
theorem dX4_setVolume_0 : decode cX4_setVolume 0 = .ok (.iload_n 1, 1) := by decide +kernel
theorem dX4_setVolume_1 : decode cX4_setVolume 1 = .ok (.bipush 100, 2) := by decide +kernel
theorem dX4_setVolume_3 : decode cX4_setVolume 3 = .ok (.sipush 5000, 3) := by decide +kernel
theorem dX4_setVolume_6 : decode cX4_setVolume 6 = .ok (.invokestatic 33, 3) := by decide +kernel
theorem dX4_setVolume_9 : decode cX4_setVolume 9 = .ok (.ifCond .ne 13, 3) := by decide +kernel
theorem dX4_setVolume_12 : decode cX4_setVolume 12 = .ok (.new 37, 3) := by decide +kernel
theorem dX4_setVolume_15 : decode cX4_setVolume 15 = .ok (.dup, 1) := by decide +kernel
theorem dX4_setVolume_16 : decode cX4_setVolume 16 = .ok (.ldc 39, 2) := by decide +kernel
theorem dX4_setVolume_18 : decode cX4_setVolume 18 = .ok (.invokespecial 41, 3) := by decide +kernel
theorem dX4_setVolume_21 : decode cX4_setVolume 21 = .ok (.athrow, 1) := by decide +kernel
theorem dX4_setVolume_22 : decode cX4_setVolume 22 = .ok (.aload_n 0, 1) := by decide +kernel
theorem dX4_setVolume_23 : decode cX4_setVolume 23 = .ok (.getfield 10, 3) := by decide +kernel
theorem dX4_setVolume_26 : decode cX4_setVolume 26 = .ok (.getfield 44, 3) := by decide +kernel
theorem dX4_setVolume_29 : decode cX4_setVolume 29 = .ok (.iload_n 1, 1) := by decide +kernel
theorem dX4_setVolume_30 : decode cX4_setVolume 30 = .ok (.invokestatic 48, 3) := by decide +kernel
theorem dX4_setVolume_33 : decode cX4_setVolume 33 = .ok (.aload_n 0, 1) := by decide +kernel
theorem dX4_setVolume_34 : decode cX4_setVolume 34 = .ok (.getfield 10, 3) := by decide +kernel
theorem dX4_setVolume_37 : decode cX4_setVolume 37 = .ok (.getfield 52, 3) := by decide +kernel
theorem dX4_setVolume_40 : decode cX4_setVolume 40 = .ok (.iconst 2, 1) := by decide +kernel
theorem dX4_setVolume_41 : decode cX4_setVolume 41 = .ok (.iaload, 1) := by decide +kernel
theorem dX4_setVolume_42 : decode cX4_setVolume 42 = .ok (.if_icmp .le 13, 3) := by decide +kernel
theorem dX4_setVolume_45 : decode cX4_setVolume 45 = .ok (.new 56, 3) := by decide +kernel
theorem dX4_setVolume_48 : decode cX4_setVolume 48 = .ok (.dup, 1) := by decide +kernel
theorem dX4_setVolume_49 : decode cX4_setVolume 49 = .ok (.ldc 58, 2) := by decide +kernel
theorem dX4_setVolume_51 : decode cX4_setVolume 51 = .ok (.invokespecial 60, 3) := by decide +kernel
theorem dX4_setVolume_54 : decode cX4_setVolume 54 = .ok (.athrow, 1) := by decide +kernel
theorem dX4_setVolume_55 : decode cX4_setVolume 55 = .ok (.aload_n 0, 1) := by decide +kernel
theorem dX4_setVolume_56 : decode cX4_setVolume 56 = .ok (.getfield 22, 3) := by decide +kernel
theorem dX4_setVolume_59 : decode cX4_setVolume 59 = .ok (.aload_n 0, 1) := by decide +kernel
theorem dX4_setVolume_60 : decode cX4_setVolume 60 = .ok (.getfield 10, 3) := by decide +kernel
theorem dX4_setVolume_63 : decode cX4_setVolume 63 = .ok (.invokevirtual 61, 3) := by decide +kernel
theorem dX4_setVolume_66 : decode cX4_setVolume 66 = .ok (.aload_n 0, 1) := by decide +kernel
theorem dX4_setVolume_67 : decode cX4_setVolume 67 = .ok (.getfield 10, 3) := by decide +kernel
theorem dX4_setVolume_70 : decode cX4_setVolume 70 = .ok (.iload_n 1, 1) := by decide +kernel
theorem dX4_setVolume_71 : decode cX4_setVolume 71 = .ok (.putfield 65, 3) := by decide +kernel
theorem dX4_setVolume_74 : decode cX4_setVolume 74 = .ok (.aload_n 0, 1) := by decide +kernel
theorem dX4_setVolume_75 : decode cX4_setVolume 75 = .ok (.getfield 10, 3) := by decide +kernel
theorem dX4_setVolume_78 : decode cX4_setVolume 78 = .ok (.invokevirtual 68, 3) := by decide +kernel
theorem dX4_setVolume_81 : decode cX4_setVolume 81 = .ok (.ireturn, 1) := by decide +kernel
theorem dX4_set_0 : decode cX4_set 0 = .ok (.iload_n 1, 1) := by decide +kernel
theorem dX4_set_1 : decode cX4_set 1 = .ok (.iconst 0, 1) := by decide +kernel
theorem dX4_set_2 : decode cX4_set 2 = .ok (.bipush 7, 2) := by decide +kernel
theorem dX4_set_4 : decode cX4_set 4 = .ok (.invokestatic 33, 3) := by decide +kernel
theorem dX4_set_7 : decode cX4_set 7 = .ok (.ifCond .ne 13, 3) := by decide +kernel
theorem dX4_set_10 : decode cX4_set 10 = .ok (.new 37, 3) := by decide +kernel
theorem dX4_set_13 : decode cX4_set 13 = .ok (.dup, 1) := by decide +kernel
theorem dX4_set_14 : decode cX4_set 14 = .ok (.ldc 72, 2) := by decide +kernel
theorem dX4_set_16 : decode cX4_set 16 = .ok (.invokespecial 41, 3) := by decide +kernel
theorem dX4_set_19 : decode cX4_set 19 = .ok (.athrow, 1) := by decide +kernel
theorem dX4_set_20 : decode cX4_set 20 = .ok (.iload_n 2, 1) := by decide +kernel
theorem dX4_set_21 : decode cX4_set 21 = .ok (.getstatic 74, 3) := by decide +kernel
theorem dX4_set_24 : decode cX4_set 24 = .ok (.iload_n 1, 1) := by decide +kernel
theorem dX4_set_25 : decode cX4_set 25 = .ok (.iaload, 1) := by decide +kernel
theorem dX4_set_26 : decode cX4_set 26 = .ok (.getstatic 77, 3) := by decide +kernel
theorem dX4_set_29 : decode cX4_set 29 = .ok (.iload_n 1, 1) := by decide +kernel
theorem dX4_set_30 : decode cX4_set 30 = .ok (.iaload, 1) := by decide +kernel
theorem dX4_set_31 : decode cX4_set 31 = .ok (.invokestatic 33, 3) := by decide +kernel
theorem dX4_set_34 : decode cX4_set 34 = .ok (.ifCond .ne 13, 3) := by decide +kernel
theorem dX4_set_37 : decode cX4_set 37 = .ok (.new 37, 3) := by decide +kernel
theorem dX4_set_40 : decode cX4_set 40 = .ok (.dup, 1) := by decide +kernel
theorem dX4_set_41 : decode cX4_set 41 = .ok (.ldc 80, 2) := by decide +kernel
theorem dX4_set_43 : decode cX4_set 43 = .ok (.invokespecial 41, 3) := by decide +kernel
theorem dX4_set_46 : decode cX4_set 46 = .ok (.athrow, 1) := by decide +kernel
theorem dX4_set_47 : decode cX4_set 47 = .ok (.aload_n 0, 1) := by decide +kernel
theorem dX4_set_48 : decode cX4_set 48 = .ok (.getfield 22, 3) := by decide +kernel
theorem dX4_set_51 : decode cX4_set 51 = .ok (.aload_n 0, 1) := by decide +kernel
theorem dX4_set_52 : decode cX4_set 52 = .ok (.getfield 10, 3) := by decide +kernel
theorem dX4_set_55 : decode cX4_set 55 = .ok (.invokevirtual 61, 3) := by decide +kernel
theorem dX4_set_58 : decode cX4_set 58 = .ok (.aload_n 0, 1) := by decide +kernel
theorem dX4_set_59 : decode cX4_set 59 = .ok (.getfield 10, 3) := by decide +kernel
theorem dX4_set_62 : decode cX4_set 62 = .ok (.getfield 52, 3) := by decide +kernel
theorem dX4_set_65 : decode cX4_set 65 = .ok (.iload_n 1, 1) := by decide +kernel
theorem dX4_set_66 : decode cX4_set 66 = .ok (.iaload, 1) := by decide +kernel
theorem dX4_set_67 : decode cX4_set 67 = .ok (.istore_n 3, 1) := by decide +kernel
theorem dX4_set_68 : decode cX4_set 68 = .ok (.aload_n 0, 1) := by decide +kernel
theorem dX4_set_69 : decode cX4_set 69 = .ok (.getfield 10, 3) := by decide +kernel
theorem dX4_set_72 : decode cX4_set 72 = .ok (.getfield 52, 3) := by decide +kernel
theorem dX4_set_75 : decode cX4_set 75 = .ok (.iload_n 1, 1) := by decide +kernel
theorem dX4_set_76 : decode cX4_set 76 = .ok (.iload_n 2, 1) := by decide +kernel
theorem dX4_set_77 : decode cX4_set 77 = .ok (.iastore, 1) := by decide +kernel
theorem dX4_set_78 : decode cX4_set 78 = .ok (.iload_n 3, 1) := by decide +kernel
theorem dX4_set_79 : decode cX4_set 79 = .ok (.ireturn, 1) := by decide +kernel
theorem dX4_addCompressor_0 : decode cX4_addCompressor 0 = .ok (.iload_n 1, 1) := by decide +kernel
theorem dX4_addCompressor_1 : decode cX4_addCompressor 1 = .ok (.bipush 10, 2) := by decide +kernel
theorem dX4_addCompressor_3 : decode cX4_addCompressor 3 = .ok (.sipush 500, 3) := by decide +kernel
theorem dX4_addCompressor_6 : decode cX4_addCompressor 6 = .ok (.invokestatic 33, 3) := by decide +kernel
theorem dX4_addCompressor_9 : decode cX4_addCompressor 9 = .ok (.ifCond .ne 13, 3) := by decide +kernel
theorem dX4_addCompressor_12 : decode cX4_addCompressor 12 = .ok (.new 37, 3) := by decide +kernel
theorem dX4_addCompressor_15 : decode cX4_addCompressor 15 = .ok (.dup, 1) := by decide +kernel
theorem dX4_addCompressor_16 : decode cX4_addCompressor 16 = .ok (.ldc 82, 2) := by decide +kernel
theorem dX4_addCompressor_18 : decode cX4_addCompressor 18 = .ok (.invokespecial 41, 3) := by decide +kernel
theorem dX4_addCompressor_21 : decode cX4_addCompressor 21 = .ok (.athrow, 1) := by decide +kernel
theorem dX4_addCompressor_22 : decode cX4_addCompressor 22 = .ok (.aload_n 0, 1) := by decide +kernel
theorem dX4_addCompressor_23 : decode cX4_addCompressor 23 = .ok (.getfield 10, 3) := by decide +kernel
theorem dX4_addCompressor_26 : decode cX4_addCompressor 26 = .ok (.getfield 84, 3) := by decide +kernel
theorem dX4_addCompressor_29 : decode cX4_addCompressor 29 = .ok (.iconst 5, 1) := by decide +kernel
theorem dX4_addCompressor_30 : decode cX4_addCompressor 30 = .ok (.if_icmp .lt 13, 3) := by decide +kernel
theorem dX4_addCompressor_33 : decode cX4_addCompressor 33 = .ok (.new 56, 3) := by decide +kernel
theorem dX4_addCompressor_36 : decode cX4_addCompressor 36 = .ok (.dup, 1) := by decide +kernel
theorem dX4_addCompressor_37 : decode cX4_addCompressor 37 = .ok (.ldc 87, 2) := by decide +kernel
theorem dX4_addCompressor_39 : decode cX4_addCompressor 39 = .ok (.invokespecial 60, 3) := by decide +kernel
theorem dX4_addCompressor_42 : decode cX4_addCompressor 42 = .ok (.athrow, 1) := by decide +kernel
theorem dX4_addCompressor_43 : decode cX4_addCompressor 43 = .ok (.aload_n 0, 1) := by decide +kernel
theorem dX4_addCompressor_44 : decode cX4_addCompressor 44 = .ok (.getfield 22, 3) := by decide +kernel
theorem dX4_addCompressor_47 : decode cX4_addCompressor 47 = .ok (.aload_n 0, 1) := by decide +kernel
theorem dX4_addCompressor_48 : decode cX4_addCompressor 48 = .ok (.getfield 10, 3) := by decide +kernel
theorem dX4_addCompressor_51 : decode cX4_addCompressor 51 = .ok (.invokevirtual 61, 3) := by decide +kernel
theorem dX4_addCompressor_54 : decode cX4_addCompressor 54 = .ok (.aload_n 0, 1) := by decide +kernel
theorem dX4_addCompressor_55 : decode cX4_addCompressor 55 = .ok (.getfield 10, 3) := by decide +kernel
theorem dX4_addCompressor_58 : decode cX4_addCompressor 58 = .ok (.iload_n 1, 1) := by decide +kernel
theorem dX4_addCompressor_59 : decode cX4_addCompressor 59 = .ok (.invokevirtual 89, 3) := by decide +kernel
theorem dX4_addCompressor_62 : decode cX4_addCompressor 62 = .ok (.ireturn, 1) := by decide +kernel
theorem dX4_trip_0 : decode cX4_trip 0 = .ok (.aload_n 0, 1) := by decide +kernel
theorem dX4_trip_1 : decode cX4_trip 1 = .ok (.getfield 10, 3) := by decide +kernel
theorem dX4_trip_4 : decode cX4_trip 4 = .ok (.iload_n 1, 1) := by decide +kernel
theorem dX4_trip_5 : decode cX4_trip 5 = .ok (.invokevirtual 93, 3) := by decide +kernel
theorem dX4_trip_8 : decode cX4_trip 8 = .ok (.astore_n 2, 1) := by decide +kernel
theorem dX4_trip_9 : decode cX4_trip 9 = .ok (.aload_n 2, 1) := by decide +kernel
theorem dX4_trip_10 : decode cX4_trip 10 = .ok (.ifnonnull 13, 3) := by decide +kernel
theorem dX4_trip_13 : decode cX4_trip 13 = .ok (.new 97, 3) := by decide +kernel
theorem dX4_trip_16 : decode cX4_trip 16 = .ok (.dup, 1) := by decide +kernel
theorem dX4_trip_17 : decode cX4_trip 17 = .ok (.ldc 99, 2) := by decide +kernel
theorem dX4_trip_19 : decode cX4_trip 19 = .ok (.invokespecial 101, 3) := by decide +kernel
theorem dX4_trip_22 : decode cX4_trip 22 = .ok (.athrow, 1) := by decide +kernel
theorem dX4_trip_23 : decode cX4_trip 23 = .ok (.aload_n 2, 1) := by decide +kernel
theorem dX4_trip_24 : decode cX4_trip 24 = .ok (.getfield 102, 3) := by decide +kernel
theorem dX4_trip_27 : decode cX4_trip 27 = .ok (.iconst 3, 1) := by decide +kernel
theorem dX4_trip_28 : decode cX4_trip 28 = .ok (.if_icmp .ne 13, 3) := by decide +kernel
theorem dX4_trip_31 : decode cX4_trip 31 = .ok (.new 56, 3) := by decide +kernel
theorem dX4_trip_34 : decode cX4_trip 34 = .ok (.dup, 1) := by decide +kernel
theorem dX4_trip_35 : decode cX4_trip 35 = .ok (.ldc 107, 2) := by decide +kernel
theorem dX4_trip_37 : decode cX4_trip 37 = .ok (.invokespecial 60, 3) := by decide +kernel
theorem dX4_trip_40 : decode cX4_trip 40 = .ok (.athrow, 1) := by decide +kernel
theorem dX4_trip_41 : decode cX4_trip 41 = .ok (.aload_n 0, 1) := by decide +kernel
theorem dX4_trip_42 : decode cX4_trip 42 = .ok (.getfield 22, 3) := by decide +kernel
theorem dX4_trip_45 : decode cX4_trip 45 = .ok (.aload_n 0, 1) := by decide +kernel
theorem dX4_trip_46 : decode cX4_trip 46 = .ok (.getfield 10, 3) := by decide +kernel
theorem dX4_trip_49 : decode cX4_trip 49 = .ok (.invokevirtual 61, 3) := by decide +kernel
theorem dX4_trip_52 : decode cX4_trip 52 = .ok (.aload_n 2, 1) := by decide +kernel
theorem dX4_trip_53 : decode cX4_trip 53 = .ok (.getfield 102, 3) := by decide +kernel
theorem dX4_trip_56 : decode cX4_trip 56 = .ok (.istore_n 3, 1) := by decide +kernel
theorem dX4_trip_57 : decode cX4_trip 57 = .ok (.aload_n 2, 1) := by decide +kernel
theorem dX4_trip_58 : decode cX4_trip 58 = .ok (.invokevirtual 109, 3) := by decide +kernel
theorem dX4_trip_61 : decode cX4_trip 61 = .ok (.iload_n 3, 1) := by decide +kernel
theorem dX4_trip_62 : decode cX4_trip 62 = .ok (.ireturn, 1) := by decide +kernel
theorem dX4_clear_0 : decode cX4_clear 0 = .ok (.aload_n 0, 1) := by decide +kernel
theorem dX4_clear_1 : decode cX4_clear 1 = .ok (.getfield 10, 3) := by decide +kernel
theorem dX4_clear_4 : decode cX4_clear 4 = .ok (.iload_n 1, 1) := by decide +kernel
theorem dX4_clear_5 : decode cX4_clear 5 = .ok (.invokevirtual 93, 3) := by decide +kernel
theorem dX4_clear_8 : decode cX4_clear 8 = .ok (.astore_n 2, 1) := by decide +kernel
theorem dX4_clear_9 : decode cX4_clear 9 = .ok (.aload_n 2, 1) := by decide +kernel
theorem dX4_clear_10 : decode cX4_clear 10 = .ok (.ifnonnull 13, 3) := by decide +kernel
theorem dX4_clear_13 : decode cX4_clear 13 = .ok (.new 97, 3) := by decide +kernel
theorem dX4_clear_16 : decode cX4_clear 16 = .ok (.dup, 1) := by decide +kernel
theorem dX4_clear_17 : decode cX4_clear 17 = .ok (.ldc 99, 2) := by decide +kernel
theorem dX4_clear_19 : decode cX4_clear 19 = .ok (.invokespecial 101, 3) := by decide +kernel
theorem dX4_clear_22 : decode cX4_clear 22 = .ok (.athrow, 1) := by decide +kernel
theorem dX4_clear_23 : decode cX4_clear 23 = .ok (.aload_n 2, 1) := by decide +kernel
theorem dX4_clear_24 : decode cX4_clear 24 = .ok (.getfield 102, 3) := by decide +kernel
theorem dX4_clear_27 : decode cX4_clear 27 = .ok (.iconst 3, 1) := by decide +kernel
theorem dX4_clear_28 : decode cX4_clear 28 = .ok (.if_icmp .eq 13, 3) := by decide +kernel
theorem dX4_clear_31 : decode cX4_clear 31 = .ok (.new 56, 3) := by decide +kernel
theorem dX4_clear_34 : decode cX4_clear 34 = .ok (.dup, 1) := by decide +kernel
theorem dX4_clear_35 : decode cX4_clear 35 = .ok (.ldc 112, 2) := by decide +kernel
theorem dX4_clear_37 : decode cX4_clear 37 = .ok (.invokespecial 60, 3) := by decide +kernel
theorem dX4_clear_40 : decode cX4_clear 40 = .ok (.athrow, 1) := by decide +kernel
theorem dX4_clear_41 : decode cX4_clear 41 = .ok (.aload_n 0, 1) := by decide +kernel
theorem dX4_clear_42 : decode cX4_clear 42 = .ok (.getfield 22, 3) := by decide +kernel
theorem dX4_clear_45 : decode cX4_clear 45 = .ok (.aload_n 0, 1) := by decide +kernel
theorem dX4_clear_46 : decode cX4_clear 46 = .ok (.getfield 10, 3) := by decide +kernel
theorem dX4_clear_49 : decode cX4_clear 49 = .ok (.invokevirtual 61, 3) := by decide +kernel
theorem dX4_clear_52 : decode cX4_clear 52 = .ok (.aload_n 2, 1) := by decide +kernel
theorem dX4_clear_53 : decode cX4_clear 53 = .ok (.aload_n 0, 1) := by decide +kernel
theorem dX4_clear_54 : decode cX4_clear 54 = .ok (.getfield 10, 3) := by decide +kernel
theorem dX4_clear_57 : decode cX4_clear 57 = .ok (.getfield 52, 3) := by decide +kernel
theorem dX4_clear_60 : decode cX4_clear 60 = .ok (.iconst 4, 1) := by decide +kernel
theorem dX4_clear_61 : decode cX4_clear 61 = .ok (.iaload, 1) := by decide +kernel
theorem dX4_clear_62 : decode cX4_clear 62 = .ok (.invokevirtual 114, 3) := by decide +kernel
theorem dX4_clear_65 : decode cX4_clear 65 = .ok (.aload_n 2, 1) := by decide +kernel
theorem dX4_clear_66 : decode cX4_clear 66 = .ok (.getfield 118, 3) := by decide +kernel
theorem dX4_clear_69 : decode cX4_clear 69 = .ok (.ireturn, 1) := by decide +kernel
theorem dX4_rotate_0 : decode cX4_rotate 0 = .ok (.aload_n 0, 1) := by decide +kernel
theorem dX4_rotate_1 : decode cX4_rotate 1 = .ok (.getfield 22, 3) := by decide +kernel
theorem dX4_rotate_4 : decode cX4_rotate 4 = .ok (.aload_n 0, 1) := by decide +kernel
theorem dX4_rotate_5 : decode cX4_rotate 5 = .ok (.getfield 10, 3) := by decide +kernel
theorem dX4_rotate_8 : decode cX4_rotate 8 = .ok (.invokevirtual 61, 3) := by decide +kernel
theorem dX4_rotate_11 : decode cX4_rotate 11 = .ok (.aload_n 0, 1) := by decide +kernel
theorem dX4_rotate_12 : decode cX4_rotate 12 = .ok (.getfield 10, 3) := by decide +kernel
theorem dX4_rotate_15 : decode cX4_rotate 15 = .ok (.invokevirtual 121, 3) := by decide +kernel
theorem dX4_rotate_18 : decode cX4_rotate 18 = .ok (.ireturn, 1) := by decide +kernel
theorem dX4_pass_0 : decode cX4_pass 0 = .ok (.iload_n 1, 1) := by decide +kernel
theorem dX4_pass_1 : decode cX4_pass 1 = .ok (.iconst 1, 1) := by decide +kernel
theorem dX4_pass_2 : decode cX4_pass 2 = .ok (.sipush 600, 3) := by decide +kernel
theorem dX4_pass_5 : decode cX4_pass 5 = .ok (.invokestatic 33, 3) := by decide +kernel
theorem dX4_pass_8 : decode cX4_pass 8 = .ok (.ifCond .ne 13, 3) := by decide +kernel
theorem dX4_pass_11 : decode cX4_pass 11 = .ok (.new 37, 3) := by decide +kernel
theorem dX4_pass_14 : decode cX4_pass 14 = .ok (.dup, 1) := by decide +kernel
theorem dX4_pass_15 : decode cX4_pass 15 = .ok (.ldc 124, 2) := by decide +kernel
theorem dX4_pass_17 : decode cX4_pass 17 = .ok (.invokespecial 41, 3) := by decide +kernel
theorem dX4_pass_20 : decode cX4_pass 20 = .ok (.athrow, 1) := by decide +kernel
theorem dX4_pass_21 : decode cX4_pass 21 = .ok (.aload_n 0, 1) := by decide +kernel
theorem dX4_pass_22 : decode cX4_pass 22 = .ok (.getfield 10, 3) := by decide +kernel
theorem dX4_pass_25 : decode cX4_pass 25 = .ok (.iload_n 1, 1) := by decide +kernel
theorem dX4_pass_26 : decode cX4_pass 26 = .ok (.invokevirtual 126, 3) := by decide +kernel
theorem dX4_pass_29 : decode cX4_pass 29 = .ok (.ifCond .ne 13, 3) := by decide +kernel
theorem dX4_pass_32 : decode cX4_pass 32 = .ok (.new 56, 3) := by decide +kernel
theorem dX4_pass_35 : decode cX4_pass 35 = .ok (.dup, 1) := by decide +kernel
theorem dX4_pass_36 : decode cX4_pass 36 = .ok (.ldc 130, 2) := by decide +kernel
theorem dX4_pass_38 : decode cX4_pass 38 = .ok (.invokespecial 60, 3) := by decide +kernel
theorem dX4_pass_41 : decode cX4_pass 41 = .ok (.athrow, 1) := by decide +kernel
theorem dX4_pass_42 : decode cX4_pass 42 = .ok (.aload_n 0, 1) := by decide +kernel
theorem dX4_pass_43 : decode cX4_pass 43 = .ok (.getfield 22, 3) := by decide +kernel
theorem dX4_pass_46 : decode cX4_pass 46 = .ok (.aload_n 0, 1) := by decide +kernel
theorem dX4_pass_47 : decode cX4_pass 47 = .ok (.getfield 10, 3) := by decide +kernel
theorem dX4_pass_50 : decode cX4_pass 50 = .ok (.invokevirtual 61, 3) := by decide +kernel
theorem dX4_pass_53 : decode cX4_pass 53 = .ok (.aload_n 0, 1) := by decide +kernel
theorem dX4_pass_54 : decode cX4_pass 54 = .ok (.getfield 10, 3) := by decide +kernel
theorem dX4_pass_57 : decode cX4_pass 57 = .ok (.iload_n 1, 1) := by decide +kernel
theorem dX4_pass_58 : decode cX4_pass 58 = .ok (.invokevirtual 132, 3) := by decide +kernel
theorem dX4_pass_61 : decode cX4_pass 61 = .ok (.aload_n 0, 1) := by decide +kernel
theorem dX4_pass_62 : decode cX4_pass 62 = .ok (.getfield 10, 3) := by decide +kernel
theorem dX4_pass_65 : decode cX4_pass 65 = .ok (.invokevirtual 68, 3) := by decide +kernel
theorem dX4_pass_68 : decode cX4_pass 68 = .ok (.ireturn, 1) := by decide +kernel
theorem dX4_leakTest_0 : decode cX4_leakTest 0 = .ok (.iload_n 1, 1) := by decide +kernel
theorem dX4_leakTest_1 : decode cX4_leakTest 1 = .ok (.iconst 1, 1) := by decide +kernel
theorem dX4_leakTest_2 : decode cX4_leakTest 2 = .ok (.bipush 60, 2) := by decide +kernel
theorem dX4_leakTest_4 : decode cX4_leakTest 4 = .ok (.invokestatic 33, 3) := by decide +kernel
theorem dX4_leakTest_7 : decode cX4_leakTest 7 = .ok (.ifCond .ne 13, 3) := by decide +kernel
theorem dX4_leakTest_10 : decode cX4_leakTest 10 = .ok (.new 37, 3) := by decide +kernel
theorem dX4_leakTest_13 : decode cX4_leakTest 13 = .ok (.dup, 1) := by decide +kernel
theorem dX4_leakTest_14 : decode cX4_leakTest 14 = .ok (.ldc 124, 2) := by decide +kernel
theorem dX4_leakTest_16 : decode cX4_leakTest 16 = .ok (.invokespecial 41, 3) := by decide +kernel
theorem dX4_leakTest_19 : decode cX4_leakTest 19 = .ok (.athrow, 1) := by decide +kernel
theorem dX4_leakTest_20 : decode cX4_leakTest 20 = .ok (.aload_n 0, 1) := by decide +kernel
theorem dX4_leakTest_21 : decode cX4_leakTest 21 = .ok (.getfield 10, 3) := by decide +kernel
theorem dX4_leakTest_24 : decode cX4_leakTest 24 = .ok (.iload_n 1, 1) := by decide +kernel
theorem dX4_leakTest_25 : decode cX4_leakTest 25 = .ok (.invokevirtual 126, 3) := by decide +kernel
theorem dX4_leakTest_28 : decode cX4_leakTest 28 = .ok (.ifCond .ne 13, 3) := by decide +kernel
theorem dX4_leakTest_31 : decode cX4_leakTest 31 = .ok (.new 56, 3) := by decide +kernel
theorem dX4_leakTest_34 : decode cX4_leakTest 34 = .ok (.dup, 1) := by decide +kernel
theorem dX4_leakTest_35 : decode cX4_leakTest 35 = .ok (.ldc 130, 2) := by decide +kernel
theorem dX4_leakTest_37 : decode cX4_leakTest 37 = .ok (.invokespecial 60, 3) := by decide +kernel
theorem dX4_leakTest_40 : decode cX4_leakTest 40 = .ok (.athrow, 1) := by decide +kernel
theorem dX4_leakTest_41 : decode cX4_leakTest 41 = .ok (.aload_n 0, 1) := by decide +kernel
theorem dX4_leakTest_42 : decode cX4_leakTest 42 = .ok (.getfield 22, 3) := by decide +kernel
theorem dX4_leakTest_45 : decode cX4_leakTest 45 = .ok (.aload_n 0, 1) := by decide +kernel
theorem dX4_leakTest_46 : decode cX4_leakTest 46 = .ok (.getfield 10, 3) := by decide +kernel
theorem dX4_leakTest_49 : decode cX4_leakTest 49 = .ok (.invokevirtual 61, 3) := by decide +kernel
theorem dX4_leakTest_52 : decode cX4_leakTest 52 = .ok (.aload_n 0, 1) := by decide +kernel
theorem dX4_leakTest_53 : decode cX4_leakTest 53 = .ok (.getfield 10, 3) := by decide +kernel
theorem dX4_leakTest_56 : decode cX4_leakTest 56 = .ok (.iload_n 1, 1) := by decide +kernel
theorem dX4_leakTest_57 : decode cX4_leakTest 57 = .ok (.invokevirtual 135, 3) := by decide +kernel
theorem dX4_leakTest_60 : decode cX4_leakTest 60 = .ok (.ireturn, 1) := by decide +kernel
theorem dX4_compressor_0 : decode cX4_compressor 0 = .ok (.aload_n 0, 1) := by decide +kernel
theorem dX4_compressor_1 : decode cX4_compressor 1 = .ok (.getfield 10, 3) := by decide +kernel
theorem dX4_compressor_4 : decode cX4_compressor 4 = .ok (.iload_n 1, 1) := by decide +kernel
theorem dX4_compressor_5 : decode cX4_compressor 5 = .ok (.invokevirtual 93, 3) := by decide +kernel
theorem dX4_compressor_8 : decode cX4_compressor 8 = .ok (.astore_n 3, 1) := by decide +kernel
theorem dX4_compressor_9 : decode cX4_compressor 9 = .ok (.aload_n 3, 1) := by decide +kernel
theorem dX4_compressor_10 : decode cX4_compressor 10 = .ok (.ifnonnull 13, 3) := by decide +kernel
theorem dX4_compressor_13 : decode cX4_compressor 13 = .ok (.new 97, 3) := by decide +kernel
theorem dX4_compressor_16 : decode cX4_compressor 16 = .ok (.dup, 1) := by decide +kernel
theorem dX4_compressor_17 : decode cX4_compressor 17 = .ok (.ldc 99, 2) := by decide +kernel
theorem dX4_compressor_19 : decode cX4_compressor 19 = .ok (.invokespecial 101, 3) := by decide +kernel
theorem dX4_compressor_22 : decode cX4_compressor 22 = .ok (.athrow, 1) := by decide +kernel
theorem dX4_compressor_23 : decode cX4_compressor 23 = .ok (.iload_n 2, 1) := by decide +kernel
theorem dX4_compressor_24 : decode cX4_compressor 24 = .ok (.iconst 0, 1) := by decide +kernel
theorem dX4_compressor_25 : decode cX4_compressor 25 = .ok (.bipush 9, 2) := by decide +kernel
theorem dX4_compressor_27 : decode cX4_compressor 27 = .ok (.invokestatic 33, 3) := by decide +kernel
theorem dX4_compressor_30 : decode cX4_compressor 30 = .ok (.ifCond .ne 13, 3) := by decide +kernel
theorem dX4_compressor_33 : decode cX4_compressor 33 = .ok (.new 37, 3) := by decide +kernel
theorem dX4_compressor_36 : decode cX4_compressor 36 = .ok (.dup, 1) := by decide +kernel
theorem dX4_compressor_37 : decode cX4_compressor 37 = .ok (.ldc 138, 2) := by decide +kernel
theorem dX4_compressor_39 : decode cX4_compressor 39 = .ok (.invokespecial 41, 3) := by decide +kernel
theorem dX4_compressor_42 : decode cX4_compressor 42 = .ok (.athrow, 1) := by decide +kernel
theorem dX4_compressor_43 : decode cX4_compressor 43 = .ok (.aload_n 0, 1) := by decide +kernel
theorem dX4_compressor_44 : decode cX4_compressor 44 = .ok (.getfield 10, 3) := by decide +kernel
theorem dX4_compressor_47 : decode cX4_compressor 47 = .ok (.aload_n 3, 1) := by decide +kernel
theorem dX4_compressor_48 : decode cX4_compressor 48 = .ok (.iload_n 2, 1) := by decide +kernel
theorem dX4_compressor_49 : decode cX4_compressor 49 = .ok (.invokevirtual 140, 3) := by decide +kernel
theorem dX4_compressor_52 : decode cX4_compressor 52 = .ok (.ireturn, 1) := by decide +kernel
theorem dX4_atStage_0 : decode cX4_atStage 0 = .ok (.iload_n 1, 1) := by decide +kernel
theorem dX4_atStage_1 : decode cX4_atStage 1 = .ok (.iconst 0, 1) := by decide +kernel
theorem dX4_atStage_2 : decode cX4_atStage 2 = .ok (.aload_n 0, 1) := by decide +kernel
theorem dX4_atStage_3 : decode cX4_atStage 3 = .ok (.getfield 10, 3) := by decide +kernel
theorem dX4_atStage_6 : decode cX4_atStage 6 = .ok (.getfield 84, 3) := by decide +kernel
theorem dX4_atStage_9 : decode cX4_atStage 9 = .ok (.iconst 1, 1) := by decide +kernel
theorem dX4_atStage_10 : decode cX4_atStage 10 = .ok (.isub, 1) := by decide +kernel
theorem dX4_atStage_11 : decode cX4_atStage 11 = .ok (.invokestatic 33, 3) := by decide +kernel
theorem dX4_atStage_14 : decode cX4_atStage 14 = .ok (.ifCond .ne 13, 3) := by decide +kernel
theorem dX4_atStage_17 : decode cX4_atStage 17 = .ok (.new 97, 3) := by decide +kernel
theorem dX4_atStage_20 : decode cX4_atStage 20 = .ok (.dup, 1) := by decide +kernel
theorem dX4_atStage_21 : decode cX4_atStage 21 = .ok (.ldc 144, 2) := by decide +kernel
theorem dX4_atStage_23 : decode cX4_atStage 23 = .ok (.invokespecial 101, 3) := by decide +kernel
theorem dX4_atStage_26 : decode cX4_atStage 26 = .ok (.athrow, 1) := by decide +kernel
theorem dX4_atStage_27 : decode cX4_atStage 27 = .ok (.aload_n 0, 1) := by decide +kernel
theorem dX4_atStage_28 : decode cX4_atStage 28 = .ok (.getfield 10, 3) := by decide +kernel
theorem dX4_atStage_31 : decode cX4_atStage 31 = .ok (.iload_n 1, 1) := by decide +kernel
theorem dX4_atStage_32 : decode cX4_atStage 32 = .ok (.invokevirtual 146, 3) := by decide +kernel
theorem dX4_atStage_35 : decode cX4_atStage 35 = .ok (.ireturn, 1) := by decide +kernel
theorem dX4_value_0 : decode cX4_value 0 = .ok (.iload_n 1, 1) := by decide +kernel
theorem dX4_value_1 : decode cX4_value 1 = .ok (.iconst 0, 1) := by decide +kernel
theorem dX4_value_2 : decode cX4_value 2 = .ok (.bipush 11, 2) := by decide +kernel
theorem dX4_value_4 : decode cX4_value 4 = .ok (.invokestatic 33, 3) := by decide +kernel
theorem dX4_value_7 : decode cX4_value 7 = .ok (.ifCond .ne 13, 3) := by decide +kernel
theorem dX4_value_10 : decode cX4_value 10 = .ok (.new 37, 3) := by decide +kernel
theorem dX4_value_13 : decode cX4_value 13 = .ok (.dup, 1) := by decide +kernel
theorem dX4_value_14 : decode cX4_value 14 = .ok (.ldc 149, 2) := by decide +kernel
theorem dX4_value_16 : decode cX4_value 16 = .ok (.invokespecial 41, 3) := by decide +kernel
theorem dX4_value_19 : decode cX4_value 19 = .ok (.athrow, 1) := by decide +kernel
theorem dX4_value_20 : decode cX4_value 20 = .ok (.aload_n 0, 1) := by decide +kernel
theorem dX4_value_21 : decode cX4_value 21 = .ok (.getfield 10, 3) := by decide +kernel
theorem dX4_value_24 : decode cX4_value 24 = .ok (.iload_n 1, 1) := by decide +kernel
theorem dX4_value_25 : decode cX4_value 25 = .ok (.invokevirtual 151, 3) := by decide +kernel
theorem dX4_value_28 : decode cX4_value 28 = .ok (.ireturn, 1) := by decide +kernel
theorem dX4_setting_0 : decode cX4_setting 0 = .ok (.iload_n 1, 1) := by decide +kernel
theorem dX4_setting_1 : decode cX4_setting 1 = .ok (.iconst 0, 1) := by decide +kernel
theorem dX4_setting_2 : decode cX4_setting 2 = .ok (.bipush 7, 2) := by decide +kernel
theorem dX4_setting_4 : decode cX4_setting 4 = .ok (.invokestatic 33, 3) := by decide +kernel
theorem dX4_setting_7 : decode cX4_setting 7 = .ok (.ifCond .ne 13, 3) := by decide +kernel
theorem dX4_setting_10 : decode cX4_setting 10 = .ok (.new 37, 3) := by decide +kernel
theorem dX4_setting_13 : decode cX4_setting 13 = .ok (.dup, 1) := by decide +kernel
theorem dX4_setting_14 : decode cX4_setting 14 = .ok (.ldc 72, 2) := by decide +kernel
theorem dX4_setting_16 : decode cX4_setting 16 = .ok (.invokespecial 41, 3) := by decide +kernel
theorem dX4_setting_19 : decode cX4_setting 19 = .ok (.athrow, 1) := by decide +kernel
theorem dX4_setting_20 : decode cX4_setting 20 = .ok (.aload_n 0, 1) := by decide +kernel
theorem dX4_setting_21 : decode cX4_setting 21 = .ok (.getfield 10, 3) := by decide +kernel
theorem dX4_setting_24 : decode cX4_setting 24 = .ok (.getfield 52, 3) := by decide +kernel
theorem dX4_setting_27 : decode cX4_setting 27 = .ok (.iload_n 1, 1) := by decide +kernel
theorem dX4_setting_28 : decode cX4_setting 28 = .ok (.iaload, 1) := by decide +kernel
theorem dX4_setting_29 : decode cX4_setting 29 = .ok (.ireturn, 1) := by decide +kernel
theorem dX4_booked_0 : decode cX4_booked 0 = .ok (.iload_n 1, 1) := by decide +kernel
theorem dX4_booked_1 : decode cX4_booked 1 = .ok (.iconst 0, 1) := by decide +kernel
theorem dX4_booked_2 : decode cX4_booked 2 = .ok (.iconst 5, 1) := by decide +kernel
theorem dX4_booked_3 : decode cX4_booked 3 = .ok (.invokestatic 33, 3) := by decide +kernel
theorem dX4_booked_6 : decode cX4_booked 6 = .ok (.ifCond .ne 13, 3) := by decide +kernel
theorem dX4_booked_9 : decode cX4_booked 9 = .ok (.new 37, 3) := by decide +kernel
theorem dX4_booked_12 : decode cX4_booked 12 = .ok (.dup, 1) := by decide +kernel
theorem dX4_booked_13 : decode cX4_booked 13 = .ok (.ldc 154, 2) := by decide +kernel
theorem dX4_booked_15 : decode cX4_booked 15 = .ok (.invokespecial 41, 3) := by decide +kernel
theorem dX4_booked_18 : decode cX4_booked 18 = .ok (.athrow, 1) := by decide +kernel
theorem dX4_booked_19 : decode cX4_booked 19 = .ok (.aload_n 0, 1) := by decide +kernel
theorem dX4_booked_20 : decode cX4_booked 20 = .ok (.getfield 10, 3) := by decide +kernel
theorem dX4_booked_23 : decode cX4_booked 23 = .ok (.getfield 156, 3) := by decide +kernel
theorem dX4_booked_26 : decode cX4_booked 26 = .ok (.iload_n 1, 1) := by decide +kernel
theorem dX4_booked_27 : decode cX4_booked 27 = .ok (.laload, 1) := by decide +kernel
theorem dX4_booked_28 : decode cX4_booked 28 = .ok (.lreturn, 1) := by decide +kernel
theorem dX4_result_0 : decode cX4_result 0 = .ok (.iload_n 1, 1) := by decide +kernel
theorem dX4_result_1 : decode cX4_result 1 = .ok (.iconst 0, 1) := by decide +kernel
theorem dX4_result_2 : decode cX4_result 2 = .ok (.aload_n 0, 1) := by decide +kernel
theorem dX4_result_3 : decode cX4_result 3 = .ok (.getfield 10, 3) := by decide +kernel
theorem dX4_result_6 : decode cX4_result 6 = .ok (.getfield 160, 3) := by decide +kernel
theorem dX4_result_9 : decode cX4_result 9 = .ok (.iconst 1, 1) := by decide +kernel
theorem dX4_result_10 : decode cX4_result 10 = .ok (.isub, 1) := by decide +kernel
theorem dX4_result_11 : decode cX4_result 11 = .ok (.invokestatic 33, 3) := by decide +kernel
theorem dX4_result_14 : decode cX4_result 14 = .ok (.ifCond .eq 9, 3) := by decide +kernel
theorem dX4_result_17 : decode cX4_result 17 = .ok (.iload_n 1, 1) := by decide +kernel
theorem dX4_result_18 : decode cX4_result 18 = .ok (.bipush 6, 2) := by decide +kernel
theorem dX4_result_20 : decode cX4_result 20 = .ok (.if_icmp .lt 13, 3) := by decide +kernel
theorem dX4_result_23 : decode cX4_result 23 = .ok (.new 97, 3) := by decide +kernel
theorem dX4_result_26 : decode cX4_result 26 = .ok (.dup, 1) := by decide +kernel
theorem dX4_result_27 : decode cX4_result 27 = .ok (.ldc 163, 2) := by decide +kernel
theorem dX4_result_29 : decode cX4_result 29 = .ok (.invokespecial 101, 3) := by decide +kernel
theorem dX4_result_32 : decode cX4_result 32 = .ok (.athrow, 1) := by decide +kernel
theorem dX4_result_33 : decode cX4_result 33 = .ok (.aload_n 0, 1) := by decide +kernel
theorem dX4_result_34 : decode cX4_result 34 = .ok (.getfield 10, 3) := by decide +kernel
theorem dX4_result_37 : decode cX4_result 37 = .ok (.getfield 165, 3) := by decide +kernel
theorem dX4_result_40 : decode cX4_result 40 = .ok (.iload_n 1, 1) := by decide +kernel
theorem dX4_result_41 : decode cX4_result 41 = .ok (.iaload, 1) := by decide +kernel
theorem dX4_result_42 : decode cX4_result 42 = .ok (.ireturn, 1) := by decide +kernel
theorem dX4_next_0 : decode cX4_next 0 = .ok (.aload_n 0, 1) := by decide +kernel
theorem dX4_next_1 : decode cX4_next 1 = .ok (.getfield 10, 3) := by decide +kernel
theorem dX4_next_4 : decode cX4_next 4 = .ok (.iload_n 1, 1) := by decide +kernel
theorem dX4_next_5 : decode cX4_next 5 = .ok (.invokevirtual 93, 3) := by decide +kernel
theorem dX4_next_8 : decode cX4_next 8 = .ok (.astore_n 2, 1) := by decide +kernel
theorem dX4_next_9 : decode cX4_next 9 = .ok (.aload_n 2, 1) := by decide +kernel
theorem dX4_next_10 : decode cX4_next 10 = .ok (.ifnonnull 13, 3) := by decide +kernel
theorem dX4_next_13 : decode cX4_next 13 = .ok (.new 97, 3) := by decide +kernel
theorem dX4_next_16 : decode cX4_next 16 = .ok (.dup, 1) := by decide +kernel
theorem dX4_next_17 : decode cX4_next 17 = .ok (.ldc 99, 2) := by decide +kernel
theorem dX4_next_19 : decode cX4_next 19 = .ok (.invokespecial 101, 3) := by decide +kernel
theorem dX4_next_22 : decode cX4_next 22 = .ok (.athrow, 1) := by decide +kernel
theorem dX4_next_23 : decode cX4_next 23 = .ok (.aload_n 0, 1) := by decide +kernel
theorem dX4_next_24 : decode cX4_next 24 = .ok (.getfield 10, 3) := by decide +kernel
theorem dX4_next_27 : decode cX4_next 27 = .ok (.aload_n 2, 1) := by decide +kernel
theorem dX4_next_28 : decode cX4_next 28 = .ok (.aload_n 0, 1) := by decide +kernel
theorem dX4_next_29 : decode cX4_next 29 = .ok (.getfield 10, 3) := by decide +kernel
theorem dX4_next_32 : decode cX4_next 32 = .ok (.invokevirtual 68, 3) := by decide +kernel
theorem dX4_next_35 : decode cX4_next 35 = .ok (.invokevirtual 168, 3) := by decide +kernel
theorem dX4_next_38 : decode cX4_next 38 = .ok (.ireturn, 1) := by decide +kernel
theorem dX4_pressureIn_0 : decode cX4_pressureIn 0 = .ok (.iload_n 1, 1) := by decide +kernel
theorem dX4_pressureIn_1 : decode cX4_pressureIn 1 = .ok (.iconst 0, 1) := by decide +kernel
theorem dX4_pressureIn_2 : decode cX4_pressureIn 2 = .ok (.sipush 600, 3) := by decide +kernel
theorem dX4_pressureIn_5 : decode cX4_pressureIn 5 = .ok (.invokestatic 33, 3) := by decide +kernel
theorem dX4_pressureIn_8 : decode cX4_pressureIn 8 = .ok (.ifCond .ne 13, 3) := by decide +kernel
theorem dX4_pressureIn_11 : decode cX4_pressureIn 11 = .ok (.new 37, 3) := by decide +kernel
theorem dX4_pressureIn_14 : decode cX4_pressureIn 14 = .ok (.dup, 1) := by decide +kernel
theorem dX4_pressureIn_15 : decode cX4_pressureIn 15 = .ok (.ldc 124, 2) := by decide +kernel
theorem dX4_pressureIn_17 : decode cX4_pressureIn 17 = .ok (.invokespecial 41, 3) := by decide +kernel
theorem dX4_pressureIn_20 : decode cX4_pressureIn 20 = .ok (.athrow, 1) := by decide +kernel
theorem dX4_pressureIn_21 : decode cX4_pressureIn 21 = .ok (.aload_n 0, 1) := by decide +kernel
theorem dX4_pressureIn_22 : decode cX4_pressureIn 22 = .ok (.getfield 16, 3) := by decide +kernel
theorem dX4_pressureIn_25 : decode cX4_pressureIn 25 = .ok (.aload_n 0, 1) := by decide +kernel
theorem dX4_pressureIn_26 : decode cX4_pressureIn 26 = .ok (.getfield 10, 3) := by decide +kernel
theorem dX4_pressureIn_29 : decode cX4_pressureIn 29 = .ok (.invokevirtual 171, 3) := by decide +kernel
theorem dX4_pressureIn_32 : decode cX4_pressureIn 32 = .ok (.aload_n 0, 1) := by decide +kernel
theorem dX4_pressureIn_33 : decode cX4_pressureIn 33 = .ok (.getfield 16, 3) := by decide +kernel
theorem dX4_pressureIn_36 : decode cX4_pressureIn 36 = .ok (.iload_n 1, 1) := by decide +kernel
theorem dX4_pressureIn_37 : decode cX4_pressureIn 37 = .ok (.invokevirtual 132, 3) := by decide +kernel
theorem dX4_pressureIn_40 : decode cX4_pressureIn 40 = .ok (.aload_n 0, 1) := by decide +kernel
theorem dX4_pressureIn_41 : decode cX4_pressureIn 41 = .ok (.getfield 16, 3) := by decide +kernel
theorem dX4_pressureIn_44 : decode cX4_pressureIn 44 = .ok (.invokevirtual 68, 3) := by decide +kernel
theorem dX4_pressureIn_47 : decode cX4_pressureIn 47 = .ok (.ireturn, 1) := by decide +kernel
theorem dX4_minutesToLoad_0 : decode cX4_minutesToLoad 0 = .ok (.aload_n 0, 1) := by decide +kernel
theorem dX4_minutesToLoad_1 : decode cX4_minutesToLoad 1 = .ok (.getfield 16, 3) := by decide +kernel
theorem dX4_minutesToLoad_4 : decode cX4_minutesToLoad 4 = .ok (.aload_n 0, 1) := by decide +kernel
theorem dX4_minutesToLoad_5 : decode cX4_minutesToLoad 5 = .ok (.getfield 10, 3) := by decide +kernel
theorem dX4_minutesToLoad_8 : decode cX4_minutesToLoad 8 = .ok (.invokevirtual 171, 3) := by decide +kernel
theorem dX4_minutesToLoad_11 : decode cX4_minutesToLoad 11 = .ok (.iconst 1, 1) := by decide +kernel
theorem dX4_minutesToLoad_12 : decode cX4_minutesToLoad 12 = .ok (.istore_n 1, 1) := by decide +kernel
theorem dX4_minutesToLoad_13 : decode cX4_minutesToLoad 13 = .ok (.iload_n 1, 1) := by decide +kernel
theorem dX4_minutesToLoad_14 : decode cX4_minutesToLoad 14 = .ok (.sipush 600, 3) := by decide +kernel
theorem dX4_minutesToLoad_17 : decode cX4_minutesToLoad 17 = .ok (.if_icmp .gt 21, 3) := by decide +kernel
theorem dX4_minutesToLoad_20 : decode cX4_minutesToLoad 20 = .ok (.aload_n 0, 1) := by decide +kernel
theorem dX4_minutesToLoad_21 : decode cX4_minutesToLoad 21 = .ok (.getfield 16, 3) := by decide +kernel
theorem dX4_minutesToLoad_24 : decode cX4_minutesToLoad 24 = .ok (.invokevirtual 174, 3) := by decide +kernel
theorem dX4_minutesToLoad_27 : decode cX4_minutesToLoad 27 = .ok (.ifCond .eq 5, 3) := by decide +kernel
theorem dX4_minutesToLoad_30 : decode cX4_minutesToLoad 30 = .ok (.iload_n 1, 1) := by decide +kernel
theorem dX4_minutesToLoad_31 : decode cX4_minutesToLoad 31 = .ok (.ireturn, 1) := by decide +kernel
theorem dX4_minutesToLoad_32 : decode cX4_minutesToLoad 32 = .ok (.iinc 1 1, 3) := by decide +kernel
theorem dX4_minutesToLoad_35 : decode cX4_minutesToLoad 35 = .ok (.goto (-22), 3) := by decide +kernel
theorem dX4_minutesToLoad_38 : decode cX4_minutesToLoad 38 = .ok (.iconst (-1), 1) := by decide +kernel
theorem dX4_minutesToLoad_39 : decode cX4_minutesToLoad 39 = .ok (.ireturn, 1) := by decide +kernel
theorem dX4_canServe_0 : decode cX4_canServe 0 = .ok (.iload_n 1, 1) := by decide +kernel
theorem dX4_canServe_1 : decode cX4_canServe 1 = .ok (.iconst 0, 1) := by decide +kernel
theorem dX4_canServe_2 : decode cX4_canServe 2 = .ok (.sipush 16000, 3) := by decide +kernel
theorem dX4_canServe_5 : decode cX4_canServe 5 = .ok (.invokestatic 33, 3) := by decide +kernel
theorem dX4_canServe_8 : decode cX4_canServe 8 = .ok (.ifCond .ne 13, 3) := by decide +kernel
theorem dX4_canServe_11 : decode cX4_canServe 11 = .ok (.new 37, 3) := by decide +kernel
theorem dX4_canServe_14 : decode cX4_canServe 14 = .ok (.dup, 1) := by decide +kernel
theorem dX4_canServe_15 : decode cX4_canServe 15 = .ok (.ldc 178, 2) := by decide +kernel
theorem dX4_canServe_17 : decode cX4_canServe 17 = .ok (.invokespecial 41, 3) := by decide +kernel
theorem dX4_canServe_20 : decode cX4_canServe 20 = .ok (.athrow, 1) := by decide +kernel
theorem dX4_canServe_21 : decode cX4_canServe 21 = .ok (.iconst 0, 1) := by decide +kernel
theorem dX4_canServe_22 : decode cX4_canServe 22 = .ok (.aload_n 0, 1) := by decide +kernel
theorem dX4_canServe_23 : decode cX4_canServe 23 = .ok (.getfield 10, 3) := by decide +kernel
theorem dX4_canServe_26 : decode cX4_canServe 26 = .ok (.invokevirtual 180, 3) := by decide +kernel
theorem dX4_canServe_29 : decode cX4_canServe 29 = .ok (.aload_n 0, 1) := by decide +kernel
theorem dX4_canServe_30 : decode cX4_canServe 30 = .ok (.getfield 10, 3) := by decide +kernel
theorem dX4_canServe_33 : decode cX4_canServe 33 = .ok (.iload_n 1, 1) := by decide +kernel
theorem dX4_canServe_34 : decode cX4_canServe 34 = .ok (.invokevirtual 183, 3) := by decide +kernel
theorem dX4_canServe_37 : decode cX4_canServe 37 = .ok (.isub, 1) := by decide +kernel
theorem dX4_canServe_38 : decode cX4_canServe 38 = .ok (.invokestatic 186, 3) := by decide +kernel
theorem dX4_canServe_41 : decode cX4_canServe 41 = .ok (.ireturn, 1) := by decide +kernel
theorem dX4_energyWith_0 : decode cX4_energyWith 0 = .ok (.iload_n 1, 1) := by decide +kernel
theorem dX4_energyWith_1 : decode cX4_energyWith 1 = .ok (.getstatic 74, 3) := by decide +kernel
theorem dX4_energyWith_4 : decode cX4_energyWith 4 = .ok (.iconst 1, 1) := by decide +kernel
theorem dX4_energyWith_5 : decode cX4_energyWith 5 = .ok (.iaload, 1) := by decide +kernel
theorem dX4_energyWith_6 : decode cX4_energyWith 6 = .ok (.getstatic 77, 3) := by decide +kernel
theorem dX4_energyWith_9 : decode cX4_energyWith 9 = .ok (.iconst 1, 1) := by decide +kernel
theorem dX4_energyWith_10 : decode cX4_energyWith 10 = .ok (.iaload, 1) := by decide +kernel
theorem dX4_energyWith_11 : decode cX4_energyWith 11 = .ok (.invokestatic 33, 3) := by decide +kernel
theorem dX4_energyWith_14 : decode cX4_energyWith 14 = .ok (.ifCond .ne 13, 3) := by decide +kernel
theorem dX4_energyWith_17 : decode cX4_energyWith 17 = .ok (.new 37, 3) := by decide +kernel
theorem dX4_energyWith_20 : decode cX4_energyWith 20 = .ok (.dup, 1) := by decide +kernel
theorem dX4_energyWith_21 : decode cX4_energyWith 21 = .ok (.ldc 191, 2) := by decide +kernel
theorem dX4_energyWith_23 : decode cX4_energyWith 23 = .ok (.invokespecial 41, 3) := by decide +kernel
theorem dX4_energyWith_26 : decode cX4_energyWith 26 = .ok (.athrow, 1) := by decide +kernel
theorem dX4_energyWith_27 : decode cX4_energyWith 27 = .ok (.iload_n 2, 1) := by decide +kernel
theorem dX4_energyWith_28 : decode cX4_energyWith 28 = .ok (.iconst 1, 1) := by decide +kernel
theorem dX4_energyWith_29 : decode cX4_energyWith 29 = .ok (.sipush 600, 3) := by decide +kernel
theorem dX4_energyWith_32 : decode cX4_energyWith 32 = .ok (.invokestatic 33, 3) := by decide +kernel
theorem dX4_energyWith_35 : decode cX4_energyWith 35 = .ok (.ifCond .ne 13, 3) := by decide +kernel
theorem dX4_energyWith_38 : decode cX4_energyWith 38 = .ok (.new 37, 3) := by decide +kernel
theorem dX4_energyWith_41 : decode cX4_energyWith 41 = .ok (.dup, 1) := by decide +kernel
theorem dX4_energyWith_42 : decode cX4_energyWith 42 = .ok (.ldc 124, 2) := by decide +kernel
theorem dX4_energyWith_44 : decode cX4_energyWith 44 = .ok (.invokespecial 41, 3) := by decide +kernel
theorem dX4_energyWith_47 : decode cX4_energyWith 47 = .ok (.athrow, 1) := by decide +kernel
theorem dX4_energyWith_48 : decode cX4_energyWith 48 = .ok (.aload_n 0, 1) := by decide +kernel
theorem dX4_energyWith_49 : decode cX4_energyWith 49 = .ok (.getfield 16, 3) := by decide +kernel
theorem dX4_energyWith_52 : decode cX4_energyWith 52 = .ok (.aload_n 0, 1) := by decide +kernel
theorem dX4_energyWith_53 : decode cX4_energyWith 53 = .ok (.getfield 10, 3) := by decide +kernel
theorem dX4_energyWith_56 : decode cX4_energyWith 56 = .ok (.invokevirtual 171, 3) := by decide +kernel
theorem dX4_energyWith_59 : decode cX4_energyWith 59 = .ok (.aload_n 0, 1) := by decide +kernel
theorem dX4_energyWith_60 : decode cX4_energyWith 60 = .ok (.getfield 16, 3) := by decide +kernel
theorem dX4_energyWith_63 : decode cX4_energyWith 63 = .ok (.getfield 52, 3) := by decide +kernel
theorem dX4_energyWith_66 : decode cX4_energyWith 66 = .ok (.iconst 1, 1) := by decide +kernel
theorem dX4_energyWith_67 : decode cX4_energyWith 67 = .ok (.iload_n 1, 1) := by decide +kernel
theorem dX4_energyWith_68 : decode cX4_energyWith 68 = .ok (.iastore, 1) := by decide +kernel
theorem dX4_energyWith_69 : decode cX4_energyWith 69 = .ok (.aload_n 0, 1) := by decide +kernel
theorem dX4_energyWith_70 : decode cX4_energyWith 70 = .ok (.getfield 16, 3) := by decide +kernel
theorem dX4_energyWith_73 : decode cX4_energyWith 73 = .ok (.iload_n 2, 1) := by decide +kernel
theorem dX4_energyWith_74 : decode cX4_energyWith 74 = .ok (.invokevirtual 132, 3) := by decide +kernel
theorem dX4_energyWith_77 : decode cX4_energyWith 77 = .ok (.aload_n 0, 1) := by decide +kernel
theorem dX4_energyWith_78 : decode cX4_energyWith 78 = .ok (.getfield 16, 3) := by decide +kernel
theorem dX4_energyWith_81 : decode cX4_energyWith 81 = .ok (.getfield 156, 3) := by decide +kernel
theorem dX4_energyWith_84 : decode cX4_energyWith 84 = .ok (.iconst 5, 1) := by decide +kernel
theorem dX4_energyWith_85 : decode cX4_energyWith 85 = .ok (.laload, 1) := by decide +kernel
theorem dX4_energyWith_86 : decode cX4_energyWith 86 = .ok (.aload_n 0, 1) := by decide +kernel
theorem dX4_energyWith_87 : decode cX4_energyWith 87 = .ok (.getfield 10, 3) := by decide +kernel
theorem dX4_energyWith_90 : decode cX4_energyWith 90 = .ok (.getfield 156, 3) := by decide +kernel
theorem dX4_energyWith_93 : decode cX4_energyWith 93 = .ok (.iconst 5, 1) := by decide +kernel
theorem dX4_energyWith_94 : decode cX4_energyWith 94 = .ok (.laload, 1) := by decide +kernel
theorem dX4_energyWith_95 : decode cX4_energyWith 95 = .ok (.lsub, 1) := by decide +kernel
theorem dX4_energyWith_96 : decode cX4_energyWith 96 = .ok (.l2i, 1) := by decide +kernel
theorem dX4_energyWith_97 : decode cX4_energyWith 97 = .ok (.ireturn, 1) := by decide +kernel
theorem dX4_bestOrder_0 : decode cX4_bestOrder 0 = .ok (.iload_n 1, 1) := by decide +kernel
theorem dX4_bestOrder_1 : decode cX4_bestOrder 1 = .ok (.iconst 1, 1) := by decide +kernel
theorem dX4_bestOrder_2 : decode cX4_bestOrder 2 = .ok (.bipush 30, 2) := by decide +kernel
theorem dX4_bestOrder_4 : decode cX4_bestOrder 4 = .ok (.invokestatic 33, 3) := by decide +kernel
theorem dX4_bestOrder_7 : decode cX4_bestOrder 7 = .ok (.ifCond .ne 13, 3) := by decide +kernel
theorem dX4_bestOrder_10 : decode cX4_bestOrder 10 = .ok (.new 37, 3) := by decide +kernel
theorem dX4_bestOrder_13 : decode cX4_bestOrder 13 = .ok (.dup, 1) := by decide +kernel
theorem dX4_bestOrder_14 : decode cX4_bestOrder 14 = .ok (.ldc 124, 2) := by decide +kernel
theorem dX4_bestOrder_16 : decode cX4_bestOrder 16 = .ok (.invokespecial 41, 3) := by decide +kernel
theorem dX4_bestOrder_19 : decode cX4_bestOrder 19 = .ok (.athrow, 1) := by decide +kernel
theorem dX4_bestOrder_20 : decode cX4_bestOrder 20 = .ok (.iload_n 2, 1) := by decide +kernel
theorem dX4_bestOrder_21 : decode cX4_bestOrder 21 = .ok (.iconst 0, 1) := by decide +kernel
theorem dX4_bestOrder_22 : decode cX4_bestOrder 22 = .ok (.aload_n 0, 1) := by decide +kernel
