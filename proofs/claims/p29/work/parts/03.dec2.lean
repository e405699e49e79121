theorem dX3_install_32 : decode cX3_install 32 = .ok (.ireturn, 1) := by decide +kernel
theorem dX3_pressure_0 : decode cX3_pressure 0 = .ok (.aload_n 0, 1) := by decide +kernel
theorem dX3_pressure_1 : decode cX3_pressure 1 = .ok (.getfield 15, 3) := by decide +kernel
theorem dX3_pressure_4 : decode cX3_pressure 4 = .ok (.aload_n 0, 1) := by decide +kernel
theorem dX3_pressure_5 : decode cX3_pressure 5 = .ok (.getfield 9, 3) := by decide +kernel
theorem dX3_pressure_8 : decode cX3_pressure 8 = .ok (.invokestatic 72, 3) := by decide +kernel
theorem dX3_pressure_11 : decode cX3_pressure 11 = .ok (.ireturn, 1) := by decide +kernel
theorem dX3_leakAt_0 : decode cX3_leakAt 0 = .ok (.iload_n 1, 1) := by decide +kernel
theorem dX3_leakAt_1 : decode cX3_leakAt 1 = .ok (.aload_n 0, 1) := by decide +kernel
theorem dX3_leakAt_2 : decode cX3_leakAt 2 = .ok (.getfield 18, 3) := by decide +kernel
theorem dX3_leakAt_5 : decode cX3_leakAt 5 = .ok (.iconst 5, 1) := by decide +kernel
theorem dX3_leakAt_6 : decode cX3_leakAt 6 = .ok (.iaload, 1) := by decide +kernel
theorem dX3_leakAt_7 : decode cX3_leakAt 7 = .ok (.imul, 1) := by decide +kernel
theorem dX3_leakAt_8 : decode cX3_leakAt 8 = .ok (.sipush 1000, 3) := by decide +kernel
theorem dX3_leakAt_11 : decode cX3_leakAt 11 = .ok (.idiv, 1) := by decide +kernel
theorem dX3_leakAt_12 : decode cX3_leakAt 12 = .ok (.ireturn, 1) := by decide +kernel
theorem dX3_limitForLoading_0 : decode cX3_limitForLoading 0 = .ok (.aload_n 0, 1) := by decide +kernel
theorem dX3_limitForLoading_1 : decode cX3_limitForLoading 1 = .ok (.getfield 18, 3) := by decide +kernel
theorem dX3_limitForLoading_4 : decode cX3_limitForLoading 4 = .ok (.iconst 0, 1) := by decide +kernel
theorem dX3_limitForLoading_5 : decode cX3_limitForLoading 5 = .ok (.iaload, 1) := by decide +kernel
theorem dX3_limitForLoading_6 : decode cX3_limitForLoading 6 = .ok (.aload_n 1, 1) := by decide +kernel
theorem dX3_limitForLoading_7 : decode cX3_limitForLoading 7 = .ok (.getfield 76, 3) := by decide +kernel
theorem dX3_limitForLoading_10 : decode cX3_limitForLoading 10 = .ok (.iconst 1, 1) := by decide +kernel
theorem dX3_limitForLoading_11 : decode cX3_limitForLoading 11 = .ok (.iadd, 1) := by decide +kernel
theorem dX3_limitForLoading_12 : decode cX3_limitForLoading 12 = .ok (.aload_n 0, 1) := by decide +kernel
theorem dX3_limitForLoading_13 : decode cX3_limitForLoading 13 = .ok (.getfield 18, 3) := by decide +kernel
theorem dX3_limitForLoading_16 : decode cX3_limitForLoading 16 = .ok (.iconst 1, 1) := by decide +kernel
theorem dX3_limitForLoading_17 : decode cX3_limitForLoading 17 = .ok (.iaload, 1) := by decide +kernel
theorem dX3_limitForLoading_18 : decode cX3_limitForLoading 18 = .ok (.imul, 1) := by decide +kernel
theorem dX3_limitForLoading_19 : decode cX3_limitForLoading 19 = .ok (.isub, 1) := by decide +kernel
theorem dX3_limitForLoading_20 : decode cX3_limitForLoading 20 = .ok (.ireturn, 1) := by decide +kernel
theorem dX3_limitForUnloading_0 : decode cX3_limitForUnloading 0 = .ok (.aload_n 0, 1) := by decide +kernel
theorem dX3_limitForUnloading_1 : decode cX3_limitForUnloading 1 = .ok (.getfield 18, 3) := by decide +kernel
theorem dX3_limitForUnloading_4 : decode cX3_limitForUnloading 4 = .ok (.iconst 0, 1) := by decide +kernel
theorem dX3_limitForUnloading_5 : decode cX3_limitForUnloading 5 = .ok (.iaload, 1) := by decide +kernel
theorem dX3_limitForUnloading_6 : decode cX3_limitForUnloading 6 = .ok (.aload_n 0, 1) := by decide +kernel
theorem dX3_limitForUnloading_7 : decode cX3_limitForUnloading 7 = .ok (.getfield 54, 3) := by decide +kernel
theorem dX3_limitForUnloading_10 : decode cX3_limitForUnloading 10 = .ok (.aload_n 1, 1) := by decide +kernel
theorem dX3_limitForUnloading_11 : decode cX3_limitForUnloading 11 = .ok (.getfield 76, 3) := by decide +kernel
theorem dX3_limitForUnloading_14 : decode cX3_limitForUnloading 14 = .ok (.isub, 1) := by decide +kernel
theorem dX3_limitForUnloading_15 : decode cX3_limitForUnloading 15 = .ok (.aload_n 0, 1) := by decide +kernel
theorem dX3_limitForUnloading_16 : decode cX3_limitForUnloading 16 = .ok (.getfield 18, 3) := by decide +kernel
theorem dX3_limitForUnloading_19 : decode cX3_limitForUnloading 19 = .ok (.iconst 1, 1) := by decide +kernel
theorem dX3_limitForUnloading_20 : decode cX3_limitForUnloading 20 = .ok (.iaload, 1) := by decide +kernel
theorem dX3_limitForUnloading_21 : decode cX3_limitForUnloading 21 = .ok (.imul, 1) := by decide +kernel
theorem dX3_limitForUnloading_22 : decode cX3_limitForUnloading 22 = .ok (.iadd, 1) := by decide +kernel
theorem dX3_limitForUnloading_23 : decode cX3_limitForUnloading 23 = .ok (.ireturn, 1) := by decide +kernel
theorem dX3_hasTimeFor_0 : decode cX3_hasTimeFor 0 = .ok (.aload_n 0, 1) := by decide +kernel
theorem dX3_hasTimeFor_1 : decode cX3_hasTimeFor 1 = .ok (.getfield 45, 3) := by decide +kernel
theorem dX3_hasTimeFor_4 : decode cX3_hasTimeFor 4 = .ok (.iload_n 1, 1) := by decide +kernel
theorem dX3_hasTimeFor_5 : decode cX3_hasTimeFor 5 = .ok (.iadd, 1) := by decide +kernel
theorem dX3_hasTimeFor_6 : decode cX3_hasTimeFor 6 = .ok (.ldc 79, 2) := by decide +kernel
theorem dX3_hasTimeFor_8 : decode cX3_hasTimeFor 8 = .ok (.if_icmp .gt 7, 3) := by decide +kernel
theorem dX3_hasTimeFor_11 : decode cX3_hasTimeFor 11 = .ok (.iconst 1, 1) := by decide +kernel
theorem dX3_hasTimeFor_12 : decode cX3_hasTimeFor 12 = .ok (.goto 4, 3) := by decide +kernel
theorem dX3_hasTimeFor_15 : decode cX3_hasTimeFor 15 = .ok (.iconst 0, 1) := by decide +kernel
theorem dX3_hasTimeFor_16 : decode cX3_hasTimeFor 16 = .ok (.ireturn, 1) := by decide +kernel
theorem dX3_numberOf_0 : decode cX3_numberOf 0 = .ok (.iload_n 1, 1) := by decide +kernel
theorem dX3_numberOf_1 : decode cX3_numberOf 1 = .ok (.tableswitch 118 0 10 #[59, 64, 69, 74, 79, 85, 91, 97, 102, 107, 112], 59) := by decide +kernel
theorem dX3_numberOf_60 : decode cX3_numberOf 60 = .ok (.aload_n 0, 1) := by decide +kernel
theorem dX3_numberOf_61 : decode cX3_numberOf 61 = .ok (.getfield 9, 3) := by decide +kernel
theorem dX3_numberOf_64 : decode cX3_numberOf 64 = .ok (.ireturn, 1) := by decide +kernel
theorem dX3_numberOf_65 : decode cX3_numberOf 65 = .ok (.aload_n 0, 1) := by decide +kernel
theorem dX3_numberOf_66 : decode cX3_numberOf 66 = .ok (.getfield 15, 3) := by decide +kernel
theorem dX3_numberOf_69 : decode cX3_numberOf 69 = .ok (.ireturn, 1) := by decide +kernel
theorem dX3_numberOf_70 : decode cX3_numberOf 70 = .ok (.aload_n 0, 1) := by decide +kernel
theorem dX3_numberOf_71 : decode cX3_numberOf 71 = .ok (.invokevirtual 80, 3) := by decide +kernel
theorem dX3_numberOf_74 : decode cX3_numberOf 74 = .ok (.ireturn, 1) := by decide +kernel
theorem dX3_numberOf_75 : decode cX3_numberOf 75 = .ok (.aload_n 0, 1) := by decide +kernel
theorem dX3_numberOf_76 : decode cX3_numberOf 76 = .ok (.getfield 54, 3) := by decide +kernel
theorem dX3_numberOf_79 : decode cX3_numberOf 79 = .ok (.ireturn, 1) := by decide +kernel
theorem dX3_numberOf_80 : decode cX3_numberOf 80 = .ok (.aload_n 0, 1) := by decide +kernel
theorem dX3_numberOf_81 : decode cX3_numberOf 81 = .ok (.iconst 1, 1) := by decide +kernel
theorem dX3_numberOf_82 : decode cX3_numberOf 82 = .ok (.invokevirtual 84, 3) := by decide +kernel
theorem dX3_numberOf_85 : decode cX3_numberOf 85 = .ok (.ireturn, 1) := by decide +kernel
theorem dX3_numberOf_86 : decode cX3_numberOf 86 = .ok (.aload_n 0, 1) := by decide +kernel
theorem dX3_numberOf_87 : decode cX3_numberOf 87 = .ok (.iconst 2, 1) := by decide +kernel
theorem dX3_numberOf_88 : decode cX3_numberOf 88 = .ok (.invokevirtual 84, 3) := by decide +kernel
theorem dX3_numberOf_91 : decode cX3_numberOf 91 = .ok (.ireturn, 1) := by decide +kernel
theorem dX3_numberOf_92 : decode cX3_numberOf 92 = .ok (.aload_n 0, 1) := by decide +kernel
theorem dX3_numberOf_93 : decode cX3_numberOf 93 = .ok (.iconst 3, 1) := by decide +kernel
theorem dX3_numberOf_94 : decode cX3_numberOf 94 = .ok (.invokevirtual 84, 3) := by decide +kernel
theorem dX3_numberOf_97 : decode cX3_numberOf 97 = .ok (.ireturn, 1) := by decide +kernel
theorem dX3_numberOf_98 : decode cX3_numberOf 98 = .ok (.aload_n 0, 1) := by decide +kernel
theorem dX3_numberOf_99 : decode cX3_numberOf 99 = .ok (.getfield 45, 3) := by decide +kernel
theorem dX3_numberOf_102 : decode cX3_numberOf 102 = .ok (.ireturn, 1) := by decide +kernel
theorem dX3_numberOf_103 : decode cX3_numberOf 103 = .ok (.aload_n 0, 1) := by decide +kernel
theorem dX3_numberOf_104 : decode cX3_numberOf 104 = .ok (.getfield 48, 3) := by decide +kernel
theorem dX3_numberOf_107 : decode cX3_numberOf 107 = .ok (.ireturn, 1) := by decide +kernel
theorem dX3_numberOf_108 : decode cX3_numberOf 108 = .ok (.aload_n 0, 1) := by decide +kernel
theorem dX3_numberOf_109 : decode cX3_numberOf 109 = .ok (.getfield 51, 3) := by decide +kernel
theorem dX3_numberOf_112 : decode cX3_numberOf 112 = .ok (.ireturn, 1) := by decide +kernel
theorem dX3_numberOf_113 : decode cX3_numberOf 113 = .ok (.aload_n 0, 1) := by decide +kernel
theorem dX3_numberOf_114 : decode cX3_numberOf 114 = .ok (.iconst 1, 1) := by decide +kernel
theorem dX3_numberOf_115 : decode cX3_numberOf 115 = .ok (.invokevirtual 88, 3) := by decide +kernel
theorem dX3_numberOf_118 : decode cX3_numberOf 118 = .ok (.ireturn, 1) := by decide +kernel
theorem dX3_numberOf_119 : decode cX3_numberOf 119 = .ok (.aload_n 0, 1) := by decide +kernel
theorem dX3_numberOf_120 : decode cX3_numberOf 120 = .ok (.getfield 57, 3) := by decide +kernel
theorem dX3_numberOf_123 : decode cX3_numberOf 123 = .ok (.ireturn, 1) := by decide +kernel
theorem dX3_numberAbout_0 : decode cX3_numberAbout 0 = .ok (.iload_n 2, 1) := by decide +kernel
theorem dX3_numberAbout_1 : decode cX3_numberAbout 1 = .ok (.tableswitch 97 0 8 #[51, 56, 61, 66, 71, 76, 81, 86, 91], 51) := by decide +kernel
theorem dX3_numberAbout_52 : decode cX3_numberAbout 52 = .ok (.aload_n 1, 1) := by decide +kernel
theorem dX3_numberAbout_53 : decode cX3_numberAbout 53 = .ok (.getfield 91, 3) := by decide +kernel
theorem dX3_numberAbout_56 : decode cX3_numberAbout 56 = .ok (.ireturn, 1) := by decide +kernel
theorem dX3_numberAbout_57 : decode cX3_numberAbout 57 = .ok (.aload_n 1, 1) := by decide +kernel
theorem dX3_numberAbout_58 : decode cX3_numberAbout 58 = .ok (.getfield 94, 3) := by decide +kernel
theorem dX3_numberAbout_61 : decode cX3_numberAbout 61 = .ok (.ireturn, 1) := by decide +kernel
theorem dX3_numberAbout_62 : decode cX3_numberAbout 62 = .ok (.aload_n 1, 1) := by decide +kernel
theorem dX3_numberAbout_63 : decode cX3_numberAbout 63 = .ok (.getfield 76, 3) := by decide +kernel
theorem dX3_numberAbout_66 : decode cX3_numberAbout 66 = .ok (.ireturn, 1) := by decide +kernel
theorem dX3_numberAbout_67 : decode cX3_numberAbout 67 = .ok (.aload_n 1, 1) := by decide +kernel
theorem dX3_numberAbout_68 : decode cX3_numberAbout 68 = .ok (.getfield 97, 3) := by decide +kernel
theorem dX3_numberAbout_71 : decode cX3_numberAbout 71 = .ok (.ireturn, 1) := by decide +kernel
theorem dX3_numberAbout_72 : decode cX3_numberAbout 72 = .ok (.aload_n 1, 1) := by decide +kernel
theorem dX3_numberAbout_73 : decode cX3_numberAbout 73 = .ok (.getfield 100, 3) := by decide +kernel
theorem dX3_numberAbout_76 : decode cX3_numberAbout 76 = .ok (.ireturn, 1) := by decide +kernel
theorem dX3_numberAbout_77 : decode cX3_numberAbout 77 = .ok (.aload_n 1, 1) := by decide +kernel
theorem dX3_numberAbout_78 : decode cX3_numberAbout 78 = .ok (.getfield 103, 3) := by decide +kernel
theorem dX3_numberAbout_81 : decode cX3_numberAbout 81 = .ok (.ireturn, 1) := by decide +kernel
theorem dX3_numberAbout_82 : decode cX3_numberAbout 82 = .ok (.aload_n 1, 1) := by decide +kernel
theorem dX3_numberAbout_83 : decode cX3_numberAbout 83 = .ok (.getfield 106, 3) := by decide +kernel
theorem dX3_numberAbout_86 : decode cX3_numberAbout 86 = .ok (.ireturn, 1) := by decide +kernel
theorem dX3_numberAbout_87 : decode cX3_numberAbout 87 = .ok (.aload_n 1, 1) := by decide +kernel
theorem dX3_numberAbout_88 : decode cX3_numberAbout 88 = .ok (.getfield 109, 3) := by decide +kernel
theorem dX3_numberAbout_91 : decode cX3_numberAbout 91 = .ok (.ireturn, 1) := by decide +kernel
theorem dX3_numberAbout_92 : decode cX3_numberAbout 92 = .ok (.aload_n 0, 1) := by decide +kernel
theorem dX3_numberAbout_93 : decode cX3_numberAbout 93 = .ok (.aload_n 1, 1) := by decide +kernel
theorem dX3_numberAbout_94 : decode cX3_numberAbout 94 = .ok (.invokevirtual 112, 3) := by decide +kernel
theorem dX3_numberAbout_97 : decode cX3_numberAbout 97 = .ok (.ireturn, 1) := by decide +kernel
theorem dX3_numberAbout_98 : decode cX3_numberAbout 98 = .ok (.aload_n 0, 1) := by decide +kernel
theorem dX3_numberAbout_99 : decode cX3_numberAbout 99 = .ok (.aload_n 1, 1) := by decide +kernel
theorem dX3_numberAbout_100 : decode cX3_numberAbout 100 = .ok (.invokevirtual 116, 3) := by decide +kernel
theorem dX3_numberAbout_103 : decode cX3_numberAbout 103 = .ok (.ireturn, 1) := by decide +kernel
theorem dX3_countOf_0 : decode cX3_countOf 0 = .ok (.iconst 0, 1) := by decide +kernel
theorem dX3_countOf_1 : decode cX3_countOf 1 = .ok (.istore_n 2, 1) := by decide +kernel
theorem dX3_countOf_2 : decode cX3_countOf 2 = .ok (.iconst 0, 1) := by decide +kernel
theorem dX3_countOf_3 : decode cX3_countOf 3 = .ok (.istore_n 3, 1) := by decide +kernel
theorem dX3_countOf_4 : decode cX3_countOf 4 = .ok (.iload_n 3, 1) := by decide +kernel
theorem dX3_countOf_5 : decode cX3_countOf 5 = .ok (.iconst 5, 1) := by decide +kernel
theorem dX3_countOf_6 : decode cX3_countOf 6 = .ok (.if_icmp .ge 33, 3) := by decide +kernel
theorem dX3_countOf_9 : decode cX3_countOf 9 = .ok (.aload_n 0, 1) := by decide +kernel
theorem dX3_countOf_10 : decode cX3_countOf 10 = .ok (.iload_n 3, 1) := by decide +kernel
theorem dX3_countOf_11 : decode cX3_countOf 11 = .ok (.invokevirtual 60, 3) := by decide +kernel
theorem dX3_countOf_14 : decode cX3_countOf 14 = .ok (.astore 4, 2) := by decide +kernel
theorem dX3_countOf_16 : decode cX3_countOf 16 = .ok (.aload 4, 2) := by decide +kernel
theorem dX3_countOf_18 : decode cX3_countOf 18 = .ok (.ifnull 15, 3) := by decide +kernel
theorem dX3_countOf_21 : decode cX3_countOf 21 = .ok (.aload 4, 2) := by decide +kernel
theorem dX3_countOf_23 : decode cX3_countOf 23 = .ok (.getfield 94, 3) := by decide +kernel
theorem dX3_countOf_26 : decode cX3_countOf 26 = .ok (.iload_n 1, 1) := by decide +kernel
theorem dX3_countOf_27 : decode cX3_countOf 27 = .ok (.if_icmp .ne 6, 3) := by decide +kernel
theorem dX3_countOf_30 : decode cX3_countOf 30 = .ok (.iinc 2 1, 3) := by decide +kernel
theorem dX3_countOf_33 : decode cX3_countOf 33 = .ok (.iinc 3 1, 3) := by decide +kernel
theorem dX3_countOf_36 : decode cX3_countOf 36 = .ok (.goto (-32), 3) := by decide +kernel
theorem dX3_countOf_39 : decode cX3_countOf 39 = .ok (.iload_n 2, 1) := by decide +kernel
theorem dX3_countOf_40 : decode cX3_countOf 40 = .ok (.ireturn, 1) := by decide +kernel
theorem dX3_capacityOf_0 : decode cX3_capacityOf 0 = .ok (.iconst 0, 1) := by decide +kernel
theorem dX3_capacityOf_1 : decode cX3_capacityOf 1 = .ok (.istore_n 2, 1) := by decide +kernel
theorem dX3_capacityOf_2 : decode cX3_capacityOf 2 = .ok (.iconst 0, 1) := by decide +kernel
theorem dX3_capacityOf_3 : decode cX3_capacityOf 3 = .ok (.istore_n 3, 1) := by decide +kernel
theorem dX3_capacityOf_4 : decode cX3_capacityOf 4 = .ok (.iload_n 3, 1) := by decide +kernel
theorem dX3_capacityOf_5 : decode cX3_capacityOf 5 = .ok (.iconst 5, 1) := by decide +kernel
theorem dX3_capacityOf_6 : decode cX3_capacityOf 6 = .ok (.if_icmp .ge 38, 3) := by decide +kernel
theorem dX3_capacityOf_9 : decode cX3_capacityOf 9 = .ok (.aload_n 0, 1) := by decide +kernel
theorem dX3_capacityOf_10 : decode cX3_capacityOf 10 = .ok (.iload_n 3, 1) := by decide +kernel
theorem dX3_capacityOf_11 : decode cX3_capacityOf 11 = .ok (.invokevirtual 60, 3) := by decide +kernel
theorem dX3_capacityOf_14 : decode cX3_capacityOf 14 = .ok (.astore 4, 2) := by decide +kernel
theorem dX3_capacityOf_16 : decode cX3_capacityOf 16 = .ok (.aload 4, 2) := by decide +kernel
theorem dX3_capacityOf_18 : decode cX3_capacityOf 18 = .ok (.ifnull 20, 3) := by decide +kernel
theorem dX3_capacityOf_21 : decode cX3_capacityOf 21 = .ok (.aload 4, 2) := by decide +kernel
theorem dX3_capacityOf_23 : decode cX3_capacityOf 23 = .ok (.getfield 94, 3) := by decide +kernel
theorem dX3_capacityOf_26 : decode cX3_capacityOf 26 = .ok (.iload_n 1, 1) := by decide +kernel
theorem dX3_capacityOf_27 : decode cX3_capacityOf 27 = .ok (.if_icmp .ne 11, 3) := by decide +kernel
theorem dX3_capacityOf_30 : decode cX3_capacityOf 30 = .ok (.iload_n 2, 1) := by decide +kernel
theorem dX3_capacityOf_31 : decode cX3_capacityOf 31 = .ok (.aload 4, 2) := by decide +kernel
theorem dX3_capacityOf_33 : decode cX3_capacityOf 33 = .ok (.getfield 91, 3) := by decide +kernel
theorem dX3_capacityOf_36 : decode cX3_capacityOf 36 = .ok (.iadd, 1) := by decide +kernel
theorem dX3_capacityOf_37 : decode cX3_capacityOf 37 = .ok (.istore_n 2, 1) := by decide +kernel
theorem dX3_capacityOf_38 : decode cX3_capacityOf 38 = .ok (.iinc 3 1, 3) := by decide +kernel
theorem dX3_capacityOf_41 : decode cX3_capacityOf 41 = .ok (.goto (-37), 3) := by decide +kernel
theorem dX3_capacityOf_44 : decode cX3_capacityOf 44 = .ok (.iload_n 2, 1) := by decide +kernel
theorem dX3_capacityOf_45 : decode cX3_capacityOf 45 = .ok (.ireturn, 1) := by decide +kernel
theorem dX3_numberAtStage_0 : decode cX3_numberAtStage 0 = .ok (.iconst 0, 1) := by decide +kernel
theorem dX3_numberAtStage_1 : decode cX3_numberAtStage 1 = .ok (.istore_n 2, 1) := by decide +kernel
theorem dX3_numberAtStage_2 : decode cX3_numberAtStage 2 = .ok (.iload_n 2, 1) := by decide +kernel
theorem dX3_numberAtStage_3 : decode cX3_numberAtStage 3 = .ok (.iconst 5, 1) := by decide +kernel
theorem dX3_numberAtStage_4 : decode cX3_numberAtStage 4 = .ok (.if_icmp .ge 29, 3) := by decide +kernel
theorem dX3_numberAtStage_7 : decode cX3_numberAtStage 7 = .ok (.aload_n 0, 1) := by decide +kernel
theorem dX3_numberAtStage_8 : decode cX3_numberAtStage 8 = .ok (.iload_n 2, 1) := by decide +kernel
theorem dX3_numberAtStage_9 : decode cX3_numberAtStage 9 = .ok (.invokevirtual 60, 3) := by decide +kernel
theorem dX3_numberAtStage_12 : decode cX3_numberAtStage 12 = .ok (.astore_n 3, 1) := by decide +kernel
theorem dX3_numberAtStage_13 : decode cX3_numberAtStage 13 = .ok (.aload_n 3, 1) := by decide +kernel
theorem dX3_numberAtStage_14 : decode cX3_numberAtStage 14 = .ok (.ifnull 13, 3) := by decide +kernel
theorem dX3_numberAtStage_17 : decode cX3_numberAtStage 17 = .ok (.aload_n 3, 1) := by decide +kernel
theorem dX3_numberAtStage_18 : decode cX3_numberAtStage 18 = .ok (.getfield 76, 3) := by decide +kernel
theorem dX3_numberAtStage_21 : decode cX3_numberAtStage 21 = .ok (.iload_n 1, 1) := by decide +kernel
theorem dX3_numberAtStage_22 : decode cX3_numberAtStage 22 = .ok (.if_icmp .ne 5, 3) := by decide +kernel
theorem dX3_numberAtStage_25 : decode cX3_numberAtStage 25 = .ok (.iload_n 2, 1) := by decide +kernel
theorem dX3_numberAtStage_26 : decode cX3_numberAtStage 26 = .ok (.ireturn, 1) := by decide +kernel
theorem dX3_numberAtStage_27 : decode cX3_numberAtStage 27 = .ok (.iinc 2 1, 3) := by decide +kernel
theorem dX3_numberAtStage_30 : decode cX3_numberAtStage 30 = .ok (.goto (-28), 3) := by decide +kernel
theorem dX3_numberAtStage_33 : decode cX3_numberAtStage 33 = .ok (.iconst (-1), 1) := by decide +kernel
theorem dX3_numberAtStage_34 : decode cX3_numberAtStage 34 = .ok (.ireturn, 1) := by decide +kernel
theorem dX3_reorder_0 : decode cX3_reorder 0 = .ok (.iconst 0, 1) := by decide +kernel
theorem dX3_reorder_1 : decode cX3_reorder 1 = .ok (.istore_n 1, 1) := by decide +kernel
theorem dX3_reorder_2 : decode cX3_reorder 2 = .ok (.iconst 0, 1) := by decide +kernel
theorem dX3_reorder_3 : decode cX3_reorder 3 = .ok (.istore_n 2, 1) := by decide +kernel
theorem dX3_reorder_4 : decode cX3_reorder 4 = .ok (.iload_n 2, 1) := by decide +kernel
theorem dX3_reorder_5 : decode cX3_reorder 5 = .ok (.iconst 5, 1) := by decide +kernel
theorem dX3_reorder_6 : decode cX3_reorder 6 = .ok (.if_icmp .ge 48, 3) := by decide +kernel
theorem dX3_reorder_9 : decode cX3_reorder 9 = .ok (.aload_n 0, 1) := by decide +kernel
theorem dX3_reorder_10 : decode cX3_reorder 10 = .ok (.iload_n 2, 1) := by decide +kernel
theorem dX3_reorder_11 : decode cX3_reorder 11 = .ok (.invokevirtual 60, 3) := by decide +kernel
theorem dX3_reorder_14 : decode cX3_reorder 14 = .ok (.astore_n 3, 1) := by decide +kernel
theorem dX3_reorder_15 : decode cX3_reorder 15 = .ok (.aload_n 3, 1) := by decide +kernel
theorem dX3_reorder_16 : decode cX3_reorder 16 = .ok (.ifnull 32, 3) := by decide +kernel
theorem dX3_reorder_19 : decode cX3_reorder 19 = .ok (.aload_n 0, 1) := by decide +kernel
theorem dX3_reorder_20 : decode cX3_reorder 20 = .ok (.iload_n 2, 1) := by decide +kernel
theorem dX3_reorder_21 : decode cX3_reorder 21 = .ok (.aload_n 3, 1) := by decide +kernel
theorem dX3_reorder_22 : decode cX3_reorder 22 = .ok (.getfield 97, 3) := by decide +kernel
theorem dX3_reorder_25 : decode cX3_reorder 25 = .ok (.invokevirtual 121, 3) := by decide +kernel
theorem dX3_reorder_28 : decode cX3_reorder 28 = .ok (.istore 4, 2) := by decide +kernel
theorem dX3_reorder_30 : decode cX3_reorder 30 = .ok (.iload 4, 2) := by decide +kernel
theorem dX3_reorder_32 : decode cX3_reorder 32 = .ok (.aload_n 3, 1) := by decide +kernel
theorem dX3_reorder_33 : decode cX3_reorder 33 = .ok (.getfield 76, 3) := by decide +kernel
theorem dX3_reorder_36 : decode cX3_reorder 36 = .ok (.if_icmp .eq 6, 3) := by decide +kernel
theorem dX3_reorder_39 : decode cX3_reorder 39 = .ok (.iinc 1 1, 3) := by decide +kernel
theorem dX3_reorder_42 : decode cX3_reorder 42 = .ok (.aload_n 3, 1) := by decide +kernel
theorem dX3_reorder_43 : decode cX3_reorder 43 = .ok (.iload 4, 2) := by decide +kernel
theorem dX3_reorder_45 : decode cX3_reorder 45 = .ok (.putfield 76, 3) := by decide +kernel
theorem dX3_reorder_48 : decode cX3_reorder 48 = .ok (.iinc 2 1, 3) := by decide +kernel
theorem dX3_reorder_51 : decode cX3_reorder 51 = .ok (.goto (-47), 3) := by decide +kernel
theorem dX3_reorder_54 : decode cX3_reorder 54 = .ok (.aload_n 0, 1) := by decide +kernel
theorem dX3_reorder_55 : decode cX3_reorder 55 = .ok (.dup, 1) := by decide +kernel
theorem dX3_reorder_56 : decode cX3_reorder 56 = .ok (.getfield 51, 3) := by decide +kernel
theorem dX3_reorder_59 : decode cX3_reorder 59 = .ok (.iconst 1, 1) := by decide +kernel
theorem dX3_reorder_60 : decode cX3_reorder 60 = .ok (.iadd, 1) := by decide +kernel
theorem dX3_reorder_61 : decode cX3_reorder 61 = .ok (.putfield 51, 3) := by decide +kernel
theorem dX3_reorder_64 : decode cX3_reorder 64 = .ok (.aload_n 0, 1) := by decide +kernel
theorem dX3_reorder_65 : decode cX3_reorder 65 = .ok (.iconst 0, 1) := by decide +kernel
theorem dX3_reorder_66 : decode cX3_reorder 66 = .ok (.putfield 48, 3) := by decide +kernel
theorem dX3_reorder_69 : decode cX3_reorder 69 = .ok (.iload_n 1, 1) := by decide +kernel
theorem dX3_reorder_70 : decode cX3_reorder 70 = .ok (.ireturn, 1) := by decide +kernel
theorem dX3_stageByMinutes_0 : decode cX3_stageByMinutes 0 = .ok (.iconst 0, 1) := by decide +kernel
theorem dX3_stageByMinutes_1 : decode cX3_stageByMinutes 1 = .ok (.istore_n 3, 1) := by decide +kernel
theorem dX3_stageByMinutes_2 : decode cX3_stageByMinutes 2 = .ok (.iconst 0, 1) := by decide +kernel
theorem dX3_stageByMinutes_3 : decode cX3_stageByMinutes 3 = .ok (.istore 4, 2) := by decide +kernel
theorem dX3_stageByMinutes_5 : decode cX3_stageByMinutes 5 = .ok (.iload 4, 2) := by decide +kernel
theorem dX3_stageByMinutes_7 : decode cX3_stageByMinutes 7 = .ok (.iconst 5, 1) := by decide +kernel
theorem dX3_stageByMinutes_8 : decode cX3_stageByMinutes 8 = .ok (.if_icmp .ge 49, 3) := by decide +kernel
theorem dX3_stageByMinutes_11 : decode cX3_stageByMinutes 11 = .ok (.aload_n 0, 1) := by decide +kernel
theorem dX3_stageByMinutes_12 : decode cX3_stageByMinutes 12 = .ok (.iload 4, 2) := by decide +kernel
theorem dX3_stageByMinutes_14 : decode cX3_stageByMinutes 14 = .ok (.invokevirtual 60, 3) := by decide +kernel
theorem dX3_stageByMinutes_17 : decode cX3_stageByMinutes 17 = .ok (.astore 5, 2) := by decide +kernel
theorem dX3_stageByMinutes_19 : decode cX3_stageByMinutes 19 = .ok (.aload 5, 2) := by decide +kernel
theorem dX3_stageByMinutes_21 : decode cX3_stageByMinutes 21 = .ok (.ifnull 30, 3) := by decide +kernel
theorem dX3_stageByMinutes_24 : decode cX3_stageByMinutes 24 = .ok (.aload 5, 2) := by decide +kernel
theorem dX3_stageByMinutes_26 : decode cX3_stageByMinutes 26 = .ok (.getfield 97, 3) := by decide +kernel
theorem dX3_stageByMinutes_29 : decode cX3_stageByMinutes 29 = .ok (.iload_n 2, 1) := by decide +kernel
theorem dX3_stageByMinutes_30 : decode cX3_stageByMinutes 30 = .ok (.if_icmp .lt 18, 3) := by decide +kernel
theorem dX3_stageByMinutes_33 : decode cX3_stageByMinutes 33 = .ok (.aload 5, 2) := by decide +kernel
theorem dX3_stageByMinutes_35 : decode cX3_stageByMinutes 35 = .ok (.getfield 97, 3) := by decide +kernel
theorem dX3_stageByMinutes_38 : decode cX3_stageByMinutes 38 = .ok (.iload_n 2, 1) := by decide +kernel
theorem dX3_stageByMinutes_39 : decode cX3_stageByMinutes 39 = .ok (.if_icmp .ne 12, 3) := by decide +kernel
theorem dX3_stageByMinutes_42 : decode cX3_stageByMinutes 42 = .ok (.iload 4, 2) := by decide +kernel
theorem dX3_stageByMinutes_44 : decode cX3_stageByMinutes 44 = .ok (.iload_n 1, 1) := by decide +kernel
theorem dX3_stageByMinutes_45 : decode cX3_stageByMinutes 45 = .ok (.if_icmp .ge 6, 3) := by decide +kernel
theorem dX3_stageByMinutes_48 : decode cX3_stageByMinutes 48 = .ok (.iinc 3 1, 3) := by decide +kernel
theorem dX3_stageByMinutes_51 : decode cX3_stageByMinutes 51 = .ok (.iinc 4 1, 3) := by decide +kernel
theorem dX3_stageByMinutes_54 : decode cX3_stageByMinutes 54 = .ok (.goto (-49), 3) := by decide +kernel
theorem dX3_stageByMinutes_57 : decode cX3_stageByMinutes 57 = .ok (.iload_n 3, 1) := by decide +kernel
theorem dX3_stageByMinutes_58 : decode cX3_stageByMinutes 58 = .ok (.ireturn, 1) := by decide +kernel
theorem dX3_runMinutes_0 : decode cX3_runMinutes 0 = .ok (.iconst 0, 1) := by decide +kernel
theorem dX3_runMinutes_1 : decode cX3_runMinutes 1 = .ok (.istore_n 2, 1) := by decide +kernel
theorem dX3_runMinutes_2 : decode cX3_runMinutes 2 = .ok (.iload_n 2, 1) := by decide +kernel
theorem dX3_runMinutes_3 : decode cX3_runMinutes 3 = .ok (.iload_n 1, 1) := by decide +kernel
theorem dX3_runMinutes_4 : decode cX3_runMinutes 4 = .ok (.if_icmp .ge 14, 3) := by decide +kernel
theorem dX3_runMinutes_7 : decode cX3_runMinutes 7 = .ok (.aload_n 0, 1) := by decide +kernel
theorem dX3_runMinutes_8 : decode cX3_runMinutes 8 = .ok (.invokevirtual 130, 3) := by decide +kernel
theorem dX3_runMinutes_11 : decode cX3_runMinutes 11 = .ok (.pop, 1) := by decide +kernel
theorem dX3_runMinutes_12 : decode cX3_runMinutes 12 = .ok (.iinc 2 1, 3) := by decide +kernel
theorem dX3_runMinutes_15 : decode cX3_runMinutes 15 = .ok (.goto (-13), 3) := by decide +kernel
theorem dX3_runMinutes_18 : decode cX3_runMinutes 18 = .ok (.return_, 1) := by decide +kernel
theorem dX3_runMinute_0 : decode cX3_runMinute 0 = .ok (.aload_n 0, 1) := by decide +kernel
theorem dX3_runMinute_1 : decode cX3_runMinute 1 = .ok (.getfield 48, 3) := by decide +kernel
theorem dX3_runMinute_4 : decode cX3_runMinute 4 = .ok (.aload_n 0, 1) := by decide +kernel
theorem dX3_runMinute_5 : decode cX3_runMinute 5 = .ok (.getfield 18, 3) := by decide +kernel
theorem dX3_runMinute_8 : decode cX3_runMinute 8 = .ok (.bipush 7, 2) := by decide +kernel
theorem dX3_runMinute_10 : decode cX3_runMinute 10 = .ok (.iaload, 1) := by decide +kernel
theorem dX3_runMinute_11 : decode cX3_runMinute 11 = .ok (.if_icmp .lt 8, 3) := by decide +kernel
theorem dX3_runMinute_14 : decode cX3_runMinute 14 = .ok (.aload_n 0, 1) := by decide +kernel
theorem dX3_runMinute_15 : decode cX3_runMinute 15 = .ok (.invokevirtual 134, 3) := by decide +kernel
theorem dX3_runMinute_18 : decode cX3_runMinute 18 = .ok (.pop, 1) := by decide +kernel
theorem dX3_runMinute_19 : decode cX3_runMinute 19 = .ok (.aload_n 0, 1) := by decide +kernel
theorem dX3_runMinute_20 : decode cX3_runMinute 20 = .ok (.invokevirtual 80, 3) := by decide +kernel
theorem dX3_runMinute_23 : decode cX3_runMinute 23 = .ok (.istore_n 1, 1) := by decide +kernel
theorem dX3_runMinute_24 : decode cX3_runMinute 24 = .ok (.aload_n 0, 1) := by decide +kernel
theorem dX3_runMinute_25 : decode cX3_runMinute 25 = .ok (.iload_n 1, 1) := by decide +kernel
theorem dX3_runMinute_26 : decode cX3_runMinute 26 = .ok (.invokevirtual 137, 3) := by decide +kernel
theorem dX3_runMinute_29 : decode cX3_runMinute 29 = .ok (.istore_n 2, 1) := by decide +kernel
theorem dX3_runMinute_30 : decode cX3_runMinute 30 = .ok (.aload_n 0, 1) := by decide +kernel
theorem dX3_runMinute_31 : decode cX3_runMinute 31 = .ok (.iload_n 1, 1) := by decide +kernel
theorem dX3_runMinute_32 : decode cX3_runMinute 32 = .ok (.aload_n 0, 1) := by decide +kernel
theorem dX3_runMinute_33 : decode cX3_runMinute 33 = .ok (.getfield 18, 3) := by decide +kernel
theorem dX3_runMinute_36 : decode cX3_runMinute 36 = .ok (.bipush 6, 2) := by decide +kernel
theorem dX3_runMinute_38 : decode cX3_runMinute 38 = .ok (.iaload, 1) := by decide +kernel
theorem dX3_runMinute_39 : decode cX3_runMinute 39 = .ok (.invokevirtual 141, 3) := by decide +kernel
theorem dX3_runMinute_42 : decode cX3_runMinute 42 = .ok (.pop, 1) := by decide +kernel
theorem dX3_runMinute_43 : decode cX3_runMinute 43 = .ok (.iload_n 2, 1) := by decide +kernel
theorem dX3_runMinute_44 : decode cX3_runMinute 44 = .ok (.ireturn, 1) := by decide +kernel
theorem dX3_runLeakTest_0 : decode cX3_runLeakTest 0 = .ok (.aload_n 0, 1) := by decide +kernel
theorem dX3_runLeakTest_1 : decode cX3_runLeakTest 1 = .ok (.invokevirtual 144, 3) := by decide +kernel
theorem dX3_runLeakTest_4 : decode cX3_runLeakTest 4 = .ok (.iconst 0, 1) := by decide +kernel
theorem dX3_runLeakTest_5 : decode cX3_runLeakTest 5 = .ok (.istore_n 2, 1) := by decide +kernel
theorem dX3_runLeakTest_6 : decode cX3_runLeakTest 6 = .ok (.iconst 0, 1) := by decide +kernel
theorem dX3_runLeakTest_7 : decode cX3_runLeakTest 7 = .ok (.istore_n 3, 1) := by decide +kernel
theorem dX3_runLeakTest_8 : decode cX3_runLeakTest 8 = .ok (.iload_n 3, 1) := by decide +kernel
theorem dX3_runLeakTest_9 : decode cX3_runLeakTest 9 = .ok (.iload_n 1, 1) := by decide +kernel
theorem dX3_runLeakTest_10 : decode cX3_runLeakTest 10 = .ok (.if_icmp .ge 40, 3) := by decide +kernel
theorem dX3_runLeakTest_13 : decode cX3_runLeakTest 13 = .ok (.aload_n 0, 1) := by decide +kernel
theorem dX3_runLeakTest_14 : decode cX3_runLeakTest 14 = .ok (.getfield 48, 3) := by decide +kernel
theorem dX3_runLeakTest_17 : decode cX3_runLeakTest 17 = .ok (.aload_n 0, 1) := by decide +kernel
theorem dX3_runLeakTest_18 : decode cX3_runLeakTest 18 = .ok (.getfield 18, 3) := by decide +kernel
theorem dX3_runLeakTest_21 : decode cX3_runLeakTest 21 = .ok (.bipush 7, 2) := by decide +kernel
theorem dX3_runLeakTest_23 : decode cX3_runLeakTest 23 = .ok (.iaload, 1) := by decide +kernel
theorem dX3_runLeakTest_24 : decode cX3_runLeakTest 24 = .ok (.if_icmp .lt 8, 3) := by decide +kernel
theorem dX3_runLeakTest_27 : decode cX3_runLeakTest 27 = .ok (.aload_n 0, 1) := by decide +kernel
theorem dX3_runLeakTest_28 : decode cX3_runLeakTest 28 = .ok (.invokevirtual 134, 3) := by decide +kernel
theorem dX3_runLeakTest_31 : decode cX3_runLeakTest 31 = .ok (.pop, 1) := by decide +kernel
theorem dX3_runLeakTest_32 : decode cX3_runLeakTest 32 = .ok (.iload_n 2, 1) := by decide +kernel
theorem dX3_runLeakTest_33 : decode cX3_runLeakTest 33 = .ok (.aload_n 0, 1) := by decide +kernel
theorem dX3_runLeakTest_34 : decode cX3_runLeakTest 34 = .ok (.aload_n 0, 1) := by decide +kernel
theorem dX3_runLeakTest_35 : decode cX3_runLeakTest 35 = .ok (.invokevirtual 80, 3) := by decide +kernel
theorem dX3_runLeakTest_38 : decode cX3_runLeakTest 38 = .ok (.iconst 0, 1) := by decide +kernel
theorem dX3_runLeakTest_39 : decode cX3_runLeakTest 39 = .ok (.invokevirtual 141, 3) := by decide +kernel
theorem dX3_runLeakTest_42 : decode cX3_runLeakTest 42 = .ok (.iadd, 1) := by decide +kernel
theorem dX3_runLeakTest_43 : decode cX3_runLeakTest 43 = .ok (.istore_n 2, 1) := by decide +kernel
theorem dX3_runLeakTest_44 : decode cX3_runLeakTest 44 = .ok (.iinc 3 1, 3) := by decide +kernel
theorem dX3_runLeakTest_47 : decode cX3_runLeakTest 47 = .ok (.goto (-39), 3) := by decide +kernel
theorem dX3_runLeakTest_50 : decode cX3_runLeakTest 50 = .ok (.aload_n 0, 1) := by decide +kernel
theorem dX3_runLeakTest_51 : decode cX3_runLeakTest 51 = .ok (.iload_n 2, 1) := by decide +kernel
theorem dX3_runLeakTest_52 : decode cX3_runLeakTest 52 = .ok (.invokevirtual 147, 3) := by decide +kernel
theorem dX3_runLeakTest_55 : decode cX3_runLeakTest 55 = .ok (.iload_n 2, 1) := by decide +kernel
theorem dX3_runLeakTest_56 : decode cX3_runLeakTest 56 = .ok (.ireturn, 1) := by decide +kernel
theorem dX3_unloadAll_0 : decode cX3_unloadAll 0 = .ok (.iconst 0, 1) := by decide +kernel
theorem dX3_unloadAll_1 : decode cX3_unloadAll 1 = .ok (.istore_n 1, 1) := by decide +kernel
theorem dX3_unloadAll_2 : decode cX3_unloadAll 2 = .ok (.iload_n 1, 1) := by decide +kernel
theorem dX3_unloadAll_3 : decode cX3_unloadAll 3 = .ok (.iconst 5, 1) := by decide +kernel
theorem dX3_unloadAll_4 : decode cX3_unloadAll 4 = .ok (.if_icmp .ge 31, 3) := by decide +kernel
theorem dX3_unloadAll_7 : decode cX3_unloadAll 7 = .ok (.aload_n 0, 1) := by decide +kernel
theorem dX3_unloadAll_8 : decode cX3_unloadAll 8 = .ok (.iload_n 1, 1) := by decide +kernel
theorem dX3_unloadAll_9 : decode cX3_unloadAll 9 = .ok (.invokevirtual 60, 3) := by decide +kernel
theorem dX3_unloadAll_12 : decode cX3_unloadAll 12 = .ok (.astore_n 2, 1) := by decide +kernel
theorem dX3_unloadAll_13 : decode cX3_unloadAll 13 = .ok (.aload_n 2, 1) := by decide +kernel
theorem dX3_unloadAll_14 : decode cX3_unloadAll 14 = .ok (.ifnull 15, 3) := by decide +kernel
theorem dX3_unloadAll_17 : decode cX3_unloadAll 17 = .ok (.aload_n 2, 1) := by decide +kernel
theorem dX3_unloadAll_18 : decode cX3_unloadAll 18 = .ok (.getfield 94, 3) := by decide +kernel
theorem dX3_unloadAll_21 : decode cX3_unloadAll 21 = .ok (.iconst 1, 1) := by decide +kernel
theorem dX3_unloadAll_22 : decode cX3_unloadAll 22 = .ok (.if_icmp .ne 7, 3) := by decide +kernel
theorem dX3_unloadAll_25 : decode cX3_unloadAll 25 = .ok (.aload_n 2, 1) := by decide +kernel
theorem dX3_unloadAll_26 : decode cX3_unloadAll 26 = .ok (.invokevirtual 151, 3) := by decide +kernel
theorem dX3_unloadAll_29 : decode cX3_unloadAll 29 = .ok (.iinc 1 1, 3) := by decide +kernel
theorem dX3_unloadAll_32 : decode cX3_unloadAll 32 = .ok (.goto (-30), 3) := by decide +kernel
theorem dX3_unloadAll_35 : decode cX3_unloadAll 35 = .ok (.return_, 1) := by decide +kernel
theorem dX3_keepResult_0 : decode cX3_keepResult 0 = .ok (.iconst 5, 1) := by decide +kernel
theorem dX3_keepResult_1 : decode cX3_keepResult 1 = .ok (.istore_n 2, 1) := by decide +kernel
theorem dX3_keepResult_2 : decode cX3_keepResult 2 = .ok (.iload_n 2, 1) := by decide +kernel
theorem dX3_keepResult_3 : decode cX3_keepResult 3 = .ok (.ifCond .le 23, 3) := by decide +kernel
theorem dX3_keepResult_6 : decode cX3_keepResult 6 = .ok (.aload_n 0, 1) := by decide +kernel
theorem dX3_keepResult_7 : decode cX3_keepResult 7 = .ok (.getfield 26, 3) := by decide +kernel
theorem dX3_keepResult_10 : decode cX3_keepResult 10 = .ok (.iload_n 2, 1) := by decide +kernel
theorem dX3_keepResult_11 : decode cX3_keepResult 11 = .ok (.aload_n 0, 1) := by decide +kernel
theorem dX3_keepResult_12 : decode cX3_keepResult 12 = .ok (.getfield 26, 3) := by decide +kernel
theorem dX3_keepResult_15 : decode cX3_keepResult 15 = .ok (.iload_n 2, 1) := by decide +kernel
theorem dX3_keepResult_16 : decode cX3_keepResult 16 = .ok (.iconst 1, 1) := by decide +kernel
theorem dX3_keepResult_17 : decode cX3_keepResult 17 = .ok (.isub, 1) := by decide +kernel
theorem dX3_keepResult_18 : decode cX3_keepResult 18 = .ok (.iaload, 1) := by decide +kernel
theorem dX3_keepResult_19 : decode cX3_keepResult 19 = .ok (.iastore, 1) := by decide +kernel
theorem dX3_keepResult_20 : decode cX3_keepResult 20 = .ok (.iinc 2 (-1), 3) := by decide +kernel
theorem dX3_keepResult_23 : decode cX3_keepResult 23 = .ok (.goto (-21), 3) := by decide +kernel
theorem dX3_keepResult_26 : decode cX3_keepResult 26 = .ok (.aload_n 0, 1) := by decide +kernel
theorem dX3_keepResult_27 : decode cX3_keepResult 27 = .ok (.getfield 26, 3) := by decide +kernel
theorem dX3_keepResult_30 : decode cX3_keepResult 30 = .ok (.iconst 0, 1) := by decide +kernel
theorem dX3_keepResult_31 : decode cX3_keepResult 31 = .ok (.iload_n 1, 1) := by decide +kernel
theorem dX3_keepResult_32 : decode cX3_keepResult 32 = .ok (.iastore, 1) := by decide +kernel
theorem dX3_keepResult_33 : decode cX3_keepResult 33 = .ok (.aload_n 0, 1) := by decide +kernel
theorem dX3_keepResult_34 : decode cX3_keepResult 34 = .ok (.aload_n 0, 1) := by decide +kernel
theorem dX3_keepResult_35 : decode cX3_keepResult 35 = .ok (.getfield 57, 3) := by decide +kernel
theorem dX3_keepResult_38 : decode cX3_keepResult 38 = .ok (.iconst 1, 1) := by decide +kernel
theorem dX3_keepResult_39 : decode cX3_keepResult 39 = .ok (.iadd, 1) := by decide +kernel
theorem dX3_keepResult_40 : decode cX3_keepResult 40 = .ok (.bipush 6, 2) := by decide +kernel
theorem dX3_keepResult_42 : decode cX3_keepResult 42 = .ok (.invokestatic 154, 3) := by decide +kernel
theorem dX3_keepResult_45 : decode cX3_keepResult 45 = .ok (.putfield 57, 3) := by decide +kernel
theorem dX3_keepResult_48 : decode cX3_keepResult 48 = .ok (.return_, 1) := by decide +kernel
theorem dX3_lookAtAll_0 : decode cX3_lookAtAll 0 = .ok (.iconst 0, 1) := by decide +kernel
theorem dX3_lookAtAll_1 : decode cX3_lookAtAll 1 = .ok (.istore_n 2, 1) := by decide +kernel
theorem dX3_lookAtAll_2 : decode cX3_lookAtAll 2 = .ok (.iconst 0, 1) := by decide +kernel
theorem dX3_lookAtAll_3 : decode cX3_lookAtAll 3 = .ok (.istore_n 3, 1) := by decide +kernel
theorem dX3_lookAtAll_4 : decode cX3_lookAtAll 4 = .ok (.iload_n 3, 1) := by decide +kernel
theorem dX3_lookAtAll_5 : decode cX3_lookAtAll 5 = .ok (.iconst 5, 1) := by decide +kernel
theorem dX3_lookAtAll_6 : decode cX3_lookAtAll 6 = .ok (.if_icmp .ge 59, 3) := by decide +kernel
theorem dX3_lookAtAll_9 : decode cX3_lookAtAll 9 = .ok (.aload_n 0, 1) := by decide +kernel
theorem dX3_lookAtAll_10 : decode cX3_lookAtAll 10 = .ok (.iload_n 3, 1) := by decide +kernel
theorem dX3_lookAtAll_11 : decode cX3_lookAtAll 11 = .ok (.invokevirtual 60, 3) := by decide +kernel
