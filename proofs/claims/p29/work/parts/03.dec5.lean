theorem dX4_pressureOf_5 : decode cX4_pressureOf 5 = .ok (.goto 10, 3) := by decide +kernel
theorem dX4_pressureOf_8 : decode cX4_pressureOf 8 = .ok (.iload_n 0, 1) := by decide +kernel
theorem dX4_pressureOf_9 : decode cX4_pressureOf 9 = .ok (.sipush 1000, 3) := by decide +kernel
theorem dX4_pressureOf_12 : decode cX4_pressureOf 12 = .ok (.imul, 1) := by decide +kernel
theorem dX4_pressureOf_13 : decode cX4_pressureOf 13 = .ok (.iload_n 1, 1) := by decide +kernel
theorem dX4_pressureOf_14 : decode cX4_pressureOf 14 = .ok (.idiv, 1) := by decide +kernel
theorem dX4_pressureOf_15 : decode cX4_pressureOf 15 = .ok (.ireturn, 1) := by decide +kernel
theorem dJ9_max_7cf53_0 : decode cJ9_max_7cf53 0 = .ok (.iload_n 0, 1) := by decide +kernel
theorem dJ9_max_7cf53_1 : decode cJ9_max_7cf53 1 = .ok (.iload_n 1, 1) := by decide +kernel
theorem dJ9_max_7cf53_2 : decode cJ9_max_7cf53 2 = .ok (.if_icmp .lt 7, 3) := by decide +kernel
theorem dJ9_max_7cf53_5 : decode cJ9_max_7cf53 5 = .ok (.iload_n 0, 1) := by decide +kernel
theorem dJ9_max_7cf53_6 : decode cJ9_max_7cf53 6 = .ok (.goto 4, 3) := by decide +kernel
theorem dJ9_max_7cf53_9 : decode cJ9_max_7cf53 9 = .ok (.iload_n 1, 1) := by decide +kernel
theorem dJ9_max_7cf53_10 : decode cJ9_max_7cf53 10 = .ok (.ireturn, 1) := by decide +kernel
theorem dJ9_min_7cf53_0 : decode cJ9_min_7cf53 0 = .ok (.iload_n 0, 1) := by decide +kernel
theorem dJ9_min_7cf53_1 : decode cJ9_min_7cf53 1 = .ok (.iload_n 1, 1) := by decide +kernel
theorem dJ9_min_7cf53_2 : decode cJ9_min_7cf53 2 = .ok (.if_icmp .gt 7, 3) := by decide +kernel
theorem dJ9_min_7cf53_5 : decode cJ9_min_7cf53 5 = .ok (.iload_n 0, 1) := by decide +kernel
theorem dJ9_min_7cf53_6 : decode cJ9_min_7cf53 6 = .ok (.goto 4, 3) := by decide +kernel
theorem dJ9_min_7cf53_9 : decode cJ9_min_7cf53 9 = .ok (.iload_n 1, 1) := by decide +kernel
theorem dJ9_min_7cf53_10 : decode cJ9_min_7cf53 10 = .ok (.ireturn, 1) := by decide +kernel
theorem dL_cell_0 : decode cL_cell 0 = .ok (.iload_n 1, 1) := by decide +kernel
theorem dL_cell_1 : decode cL_cell 1 = .ok (.aload_n 0, 1) := by decide +kernel
theorem dL_cell_2 : decode cL_cell 2 = .ok (.arraylength, 1) := by decide +kernel
theorem dL_cell_3 : decode cL_cell 3 = .ok (.if_icmp .ge 9, 3) := by decide +kernel
theorem dL_cell_6 : decode cL_cell 6 = .ok (.aload_n 0, 1) := by decide +kernel
theorem dL_cell_7 : decode cL_cell 7 = .ok (.iload_n 1, 1) := by decide +kernel
theorem dL_cell_8 : decode cL_cell 8 = .ok (.iaload, 1) := by decide +kernel
theorem dL_cell_9 : decode cL_cell 9 = .ok (.goto 9, 3) := by decide +kernel
theorem dL_cell_12 : decode cL_cell 12 = .ok (.ldc 7, 2) := by decide +kernel
theorem dL_cell_14 : decode cL_cell 14 = .ok (.iload_n 1, 1) := by decide +kernel
theorem dL_cell_15 : decode cL_cell 15 = .ok (.iconst 3, 1) := by decide +kernel
theorem dL_cell_16 : decode cL_cell 16 = .ok (.iadd, 1) := by decide +kernel
theorem dL_cell_17 : decode cL_cell 17 = .ok (.imul, 1) := by decide +kernel
theorem dL_cell_18 : decode cL_cell 18 = .ok (.ldc 8, 2) := by decide +kernel
theorem dL_cell_20 : decode cL_cell 20 = .ok (.iand, 1) := by decide +kernel
theorem dL_cell_21 : decode cL_cell 21 = .ok (.ireturn, 1) := by decide +kernel
theorem dL_sets_0 : decode cL_sets 0 = .ok (.aload_n 0, 1) := by decide +kernel
theorem dL_sets_1 : decode cL_sets 1 = .ok (.iload_n 1, 1) := by decide +kernel
theorem dL_sets_2 : decode cL_sets 2 = .ok (.iload_n 2, 1) := by decide +kernel
theorem dL_sets_3 : decode cL_sets 3 = .ok (.invokevirtual 9, 3) := by decide +kernel
theorem dL_sets_6 : decode cL_sets 6 = .ok (.ireturn, 1) := by decide +kernel
theorem dL_sets_7 : decode cL_sets 7 = .ok (.astore_n 3, 1) := by decide +kernel
theorem dL_sets_8 : decode cL_sets 8 = .ok (.ldc 17, 2) := by decide +kernel
theorem dL_sets_10 : decode cL_sets 10 = .ok (.ireturn, 1) := by decide +kernel
theorem dL_adds_0 : decode cL_adds 0 = .ok (.aload_n 0, 1) := by decide +kernel
theorem dL_adds_1 : decode cL_adds 1 = .ok (.iload_n 1, 1) := by decide +kernel
theorem dL_adds_2 : decode cL_adds 2 = .ok (.invokevirtual 18, 3) := by decide +kernel
theorem dL_adds_5 : decode cL_adds 5 = .ok (.ireturn, 1) := by decide +kernel
theorem dL_adds_6 : decode cL_adds 6 = .ok (.astore_n 2, 1) := by decide +kernel
theorem dL_adds_7 : decode cL_adds 7 = .ok (.ldc 17, 2) := by decide +kernel
theorem dL_adds_9 : decode cL_adds 9 = .ok (.ireturn, 1) := by decide +kernel
theorem dL_adds_10 : decode cL_adds 10 = .ok (.astore_n 2, 1) := by decide +kernel
theorem dL_adds_11 : decode cL_adds 11 = .ok (.ldc 24, 2) := by decide +kernel
theorem dL_adds_13 : decode cL_adds 13 = .ok (.ireturn, 1) := by decide +kernel
theorem dL_trips_0 : decode cL_trips 0 = .ok (.aload_n 0, 1) := by decide +kernel
theorem dL_trips_1 : decode cL_trips 1 = .ok (.iload_n 1, 1) := by decide +kernel
theorem dL_trips_2 : decode cL_trips 2 = .ok (.invokevirtual 25, 3) := by decide +kernel
theorem dL_trips_5 : decode cL_trips 5 = .ok (.ireturn, 1) := by decide +kernel
theorem dL_trips_6 : decode cL_trips 6 = .ok (.astore_n 2, 1) := by decide +kernel
theorem dL_trips_7 : decode cL_trips 7 = .ok (.ldc 17, 2) := by decide +kernel
theorem dL_trips_9 : decode cL_trips 9 = .ok (.ireturn, 1) := by decide +kernel
theorem dL_trips_10 : decode cL_trips 10 = .ok (.astore_n 2, 1) := by decide +kernel
theorem dL_trips_11 : decode cL_trips 11 = .ok (.ldc 24, 2) := by decide +kernel
theorem dL_trips_13 : decode cL_trips 13 = .ok (.ireturn, 1) := by decide +kernel
theorem dL_clears_0 : decode cL_clears 0 = .ok (.aload_n 0, 1) := by decide +kernel
theorem dL_clears_1 : decode cL_clears 1 = .ok (.iload_n 1, 1) := by decide +kernel
theorem dL_clears_2 : decode cL_clears 2 = .ok (.invokevirtual 30, 3) := by decide +kernel
theorem dL_clears_5 : decode cL_clears 5 = .ok (.ireturn, 1) := by decide +kernel
theorem dL_clears_6 : decode cL_clears 6 = .ok (.astore_n 2, 1) := by decide +kernel
theorem dL_clears_7 : decode cL_clears 7 = .ok (.ldc 17, 2) := by decide +kernel
theorem dL_clears_9 : decode cL_clears 9 = .ok (.ireturn, 1) := by decide +kernel
theorem dL_clears_10 : decode cL_clears 10 = .ok (.astore_n 2, 1) := by decide +kernel
theorem dL_clears_11 : decode cL_clears 11 = .ok (.ldc 24, 2) := by decide +kernel
theorem dL_clears_13 : decode cL_clears 13 = .ok (.ireturn, 1) := by decide +kernel
theorem dL_passes_0 : decode cL_passes 0 = .ok (.aload_n 0, 1) := by decide +kernel
theorem dL_passes_1 : decode cL_passes 1 = .ok (.iload_n 1, 1) := by decide +kernel
theorem dL_passes_2 : decode cL_passes 2 = .ok (.invokevirtual 33, 3) := by decide +kernel
theorem dL_passes_5 : decode cL_passes 5 = .ok (.ireturn, 1) := by decide +kernel
theorem dL_passes_6 : decode cL_passes 6 = .ok (.astore_n 2, 1) := by decide +kernel
theorem dL_passes_7 : decode cL_passes 7 = .ok (.ldc 17, 2) := by decide +kernel
theorem dL_passes_9 : decode cL_passes 9 = .ok (.ireturn, 1) := by decide +kernel
theorem dL_passes_10 : decode cL_passes 10 = .ok (.astore_n 2, 1) := by decide +kernel
theorem dL_passes_11 : decode cL_passes 11 = .ok (.ldc 24, 2) := by decide +kernel
theorem dL_passes_13 : decode cL_passes 13 = .ok (.ireturn, 1) := by decide +kernel
theorem dL_tests_0 : decode cL_tests 0 = .ok (.aload_n 0, 1) := by decide +kernel
theorem dL_tests_1 : decode cL_tests 1 = .ok (.iload_n 1, 1) := by decide +kernel
theorem dL_tests_2 : decode cL_tests 2 = .ok (.invokevirtual 36, 3) := by decide +kernel
theorem dL_tests_5 : decode cL_tests 5 = .ok (.ireturn, 1) := by decide +kernel
theorem dL_tests_6 : decode cL_tests 6 = .ok (.astore_n 2, 1) := by decide +kernel
theorem dL_tests_7 : decode cL_tests 7 = .ok (.ldc 17, 2) := by decide +kernel
theorem dL_tests_9 : decode cL_tests 9 = .ok (.ireturn, 1) := by decide +kernel
theorem dL_tests_10 : decode cL_tests 10 = .ok (.astore_n 2, 1) := by decide +kernel
theorem dL_tests_11 : decode cL_tests 11 = .ok (.ldc 24, 2) := by decide +kernel
theorem dL_tests_13 : decode cL_tests 13 = .ok (.ireturn, 1) := by decide +kernel
theorem dL_its_0 : decode cL_its 0 = .ok (.aload_n 0, 1) := by decide +kernel
theorem dL_its_1 : decode cL_its 1 = .ok (.iload_n 1, 1) := by decide +kernel
theorem dL_its_2 : decode cL_its 2 = .ok (.iload_n 2, 1) := by decide +kernel
theorem dL_its_3 : decode cL_its 3 = .ok (.invokevirtual 39, 3) := by decide +kernel
theorem dL_its_6 : decode cL_its 6 = .ok (.ireturn, 1) := by decide +kernel
theorem dL_its_7 : decode cL_its 7 = .ok (.astore_n 3, 1) := by decide +kernel
theorem dL_its_8 : decode cL_its 8 = .ok (.ldc 17, 2) := by decide +kernel
theorem dL_its_10 : decode cL_its 10 = .ok (.ireturn, 1) := by decide +kernel
theorem dL_its_11 : decode cL_its 11 = .ok (.astore_n 3, 1) := by decide +kernel
theorem dL_its_12 : decode cL_its 12 = .ok (.ldc 24, 2) := by decide +kernel
theorem dL_its_14 : decode cL_its 14 = .ok (.ireturn, 1) := by decide +kernel
theorem dL_atStage_0 : decode cL_atStage 0 = .ok (.aload_n 0, 1) := by decide +kernel
theorem dL_atStage_1 : decode cL_atStage 1 = .ok (.iload_n 1, 1) := by decide +kernel
theorem dL_atStage_2 : decode cL_atStage 2 = .ok (.invokevirtual 42, 3) := by decide +kernel
theorem dL_atStage_5 : decode cL_atStage 5 = .ok (.ireturn, 1) := by decide +kernel
theorem dL_atStage_6 : decode cL_atStage 6 = .ok (.astore_n 2, 1) := by decide +kernel
theorem dL_atStage_7 : decode cL_atStage 7 = .ok (.ldc 17, 2) := by decide +kernel
theorem dL_atStage_9 : decode cL_atStage 9 = .ok (.ireturn, 1) := by decide +kernel
theorem dL_value_0 : decode cL_value 0 = .ok (.aload_n 0, 1) := by decide +kernel
theorem dL_value_1 : decode cL_value 1 = .ok (.iload_n 1, 1) := by decide +kernel
theorem dL_value_2 : decode cL_value 2 = .ok (.invokevirtual 45, 3) := by decide +kernel
theorem dL_value_5 : decode cL_value 5 = .ok (.ireturn, 1) := by decide +kernel
theorem dL_value_6 : decode cL_value 6 = .ok (.astore_n 2, 1) := by decide +kernel
theorem dL_value_7 : decode cL_value 7 = .ok (.ldc 17, 2) := by decide +kernel
theorem dL_value_9 : decode cL_value 9 = .ok (.ireturn, 1) := by decide +kernel
theorem dL_setting_0 : decode cL_setting 0 = .ok (.aload_n 0, 1) := by decide +kernel
theorem dL_setting_1 : decode cL_setting 1 = .ok (.iload_n 1, 1) := by decide +kernel
theorem dL_setting_2 : decode cL_setting 2 = .ok (.invokevirtual 48, 3) := by decide +kernel
theorem dL_setting_5 : decode cL_setting 5 = .ok (.ireturn, 1) := by decide +kernel
theorem dL_setting_6 : decode cL_setting 6 = .ok (.astore_n 2, 1) := by decide +kernel
theorem dL_setting_7 : decode cL_setting 7 = .ok (.ldc 17, 2) := by decide +kernel
theorem dL_setting_9 : decode cL_setting 9 = .ok (.ireturn, 1) := by decide +kernel
theorem dL_next_0 : decode cL_next 0 = .ok (.aload_n 0, 1) := by decide +kernel
theorem dL_next_1 : decode cL_next 1 = .ok (.iload_n 1, 1) := by decide +kernel
theorem dL_next_2 : decode cL_next 2 = .ok (.invokevirtual 51, 3) := by decide +kernel
theorem dL_next_5 : decode cL_next 5 = .ok (.ireturn, 1) := by decide +kernel
theorem dL_next_6 : decode cL_next 6 = .ok (.astore_n 2, 1) := by decide +kernel
theorem dL_next_7 : decode cL_next 7 = .ok (.ldc 17, 2) := by decide +kernel
theorem dL_next_9 : decode cL_next 9 = .ok (.ireturn, 1) := by decide +kernel
theorem dL_undoes_0 : decode cL_undoes 0 = .ok (.aload_n 0, 1) := by decide +kernel
theorem dL_undoes_1 : decode cL_undoes 1 = .ok (.invokevirtual 54, 3) := by decide +kernel
theorem dL_undoes_4 : decode cL_undoes 4 = .ok (.ireturn, 1) := by decide +kernel
theorem dL_undoes_5 : decode cL_undoes 5 = .ok (.astore_n 1, 1) := by decide +kernel
theorem dL_undoes_6 : decode cL_undoes 6 = .ok (.ldc 17, 2) := by decide +kernel
theorem dL_undoes_8 : decode cL_undoes 8 = .ok (.ireturn, 1) := by decide +kernel
theorem dL_booked_0 : decode cL_booked 0 = .ok (.aload_n 0, 1) := by decide +kernel
theorem dL_booked_1 : decode cL_booked 1 = .ok (.iload_n 1, 1) := by decide +kernel
theorem dL_booked_2 : decode cL_booked 2 = .ok (.invokevirtual 58, 3) := by decide +kernel
theorem dL_booked_5 : decode cL_booked 5 = .ok (.lreturn, 1) := by decide +kernel
theorem dL_booked_6 : decode cL_booked 6 = .ok (.astore_n 2, 1) := by decide +kernel
theorem dL_booked_7 : decode cL_booked 7 = .ok (.ldc2_w 62, 3) := by decide +kernel
theorem dL_booked_10 : decode cL_booked 10 = .ok (.lreturn, 1) := by decide +kernel
theorem dL_holds_0 : decode cL_holds 0 = .ok (.aload_n 0, 1) := by decide +kernel
theorem dL_holds_1 : decode cL_holds 1 = .ok (.iconst 3, 1) := by decide +kernel
theorem dL_holds_2 : decode cL_holds 2 = .ok (.invokestatic 64, 3) := by decide +kernel
theorem dL_holds_5 : decode cL_holds 5 = .ok (.istore_n 1, 1) := by decide +kernel
theorem dL_holds_6 : decode cL_holds 6 = .ok (.iconst 0, 1) := by decide +kernel
theorem dL_holds_7 : decode cL_holds 7 = .ok (.istore_n 2, 1) := by decide +kernel
theorem dL_holds_8 : decode cL_holds 8 = .ok (.iconst 0, 1) := by decide +kernel
theorem dL_holds_9 : decode cL_holds 9 = .ok (.istore_n 3, 1) := by decide +kernel
theorem dL_holds_10 : decode cL_holds 10 = .ok (.iconst 0, 1) := by decide +kernel
theorem dL_holds_11 : decode cL_holds 11 = .ok (.istore 4, 2) := by decide +kernel
theorem dL_holds_13 : decode cL_holds 13 = .ok (.iconst 0, 1) := by decide +kernel
theorem dL_holds_14 : decode cL_holds 14 = .ok (.istore 5, 2) := by decide +kernel
theorem dL_holds_16 : decode cL_holds 16 = .ok (.lconst 0, 1) := by decide +kernel
theorem dL_holds_17 : decode cL_holds 17 = .ok (.lstore 6, 2) := by decide +kernel
theorem dL_holds_19 : decode cL_holds 19 = .ok (.aload_n 0, 1) := by decide +kernel
theorem dL_holds_20 : decode cL_holds 20 = .ok (.iconst 1, 1) := by decide +kernel
theorem dL_holds_21 : decode cL_holds 21 = .ok (.invokestatic 64, 3) := by decide +kernel
theorem dL_holds_24 : decode cL_holds 24 = .ok (.i2l, 1) := by decide +kernel
theorem dL_holds_25 : decode cL_holds 25 = .ok (.aload_n 0, 1) := by decide +kernel
theorem dL_holds_26 : decode cL_holds 26 = .ok (.iconst 1, 1) := by decide +kernel
theorem dL_holds_27 : decode cL_holds 27 = .ok (.invokestatic 69, 3) := by decide +kernel
theorem dL_holds_30 : decode cL_holds 30 = .ok (.ladd, 1) := by decide +kernel
theorem dL_holds_31 : decode cL_holds 31 = .ok (.aload_n 0, 1) := by decide +kernel
theorem dL_holds_32 : decode cL_holds 32 = .ok (.iconst 2, 1) := by decide +kernel
theorem dL_holds_33 : decode cL_holds 33 = .ok (.invokestatic 69, 3) := by decide +kernel
theorem dL_holds_36 : decode cL_holds 36 = .ok (.ladd, 1) := by decide +kernel
theorem dL_holds_37 : decode cL_holds 37 = .ok (.aload_n 0, 1) := by decide +kernel
theorem dL_holds_38 : decode cL_holds 38 = .ok (.iconst 4, 1) := by decide +kernel
theorem dL_holds_39 : decode cL_holds 39 = .ok (.invokestatic 69, 3) := by decide +kernel
theorem dL_holds_42 : decode cL_holds 42 = .ok (.ladd, 1) := by decide +kernel
theorem dL_holds_43 : decode cL_holds 43 = .ok (.aload_n 0, 1) := by decide +kernel
theorem dL_holds_44 : decode cL_holds 44 = .ok (.iconst 0, 1) := by decide +kernel
theorem dL_holds_45 : decode cL_holds 45 = .ok (.invokestatic 69, 3) := by decide +kernel
theorem dL_holds_48 : decode cL_holds 48 = .ok (.lsub, 1) := by decide +kernel
theorem dL_holds_49 : decode cL_holds 49 = .ok (.ldc2_w 72, 3) := by decide +kernel
theorem dL_holds_52 : decode cL_holds 52 = .ok (.lcmp, 1) := by decide +kernel
theorem dL_holds_53 : decode cL_holds 53 = .ok (.ifCond .ne 49, 3) := by decide +kernel
theorem dL_holds_56 : decode cL_holds 56 = .ok (.aload_n 0, 1) := by decide +kernel
theorem dL_holds_57 : decode cL_holds 57 = .ok (.iconst 2, 1) := by decide +kernel
theorem dL_holds_58 : decode cL_holds 58 = .ok (.invokestatic 64, 3) := by decide +kernel
theorem dL_holds_61 : decode cL_holds 61 = .ok (.aload_n 0, 1) := by decide +kernel
theorem dL_holds_62 : decode cL_holds 62 = .ok (.iconst 1, 1) := by decide +kernel
theorem dL_holds_63 : decode cL_holds 63 = .ok (.invokestatic 64, 3) := by decide +kernel
theorem dL_holds_66 : decode cL_holds 66 = .ok (.sipush 1000, 3) := by decide +kernel
theorem dL_holds_69 : decode cL_holds 69 = .ok (.imul, 1) := by decide +kernel
theorem dL_holds_70 : decode cL_holds 70 = .ok (.aload_n 0, 1) := by decide +kernel
theorem dL_holds_71 : decode cL_holds 71 = .ok (.iconst 0, 1) := by decide +kernel
theorem dL_holds_72 : decode cL_holds 72 = .ok (.invokestatic 64, 3) := by decide +kernel
theorem dL_holds_75 : decode cL_holds 75 = .ok (.idiv, 1) := by decide +kernel
theorem dL_holds_76 : decode cL_holds 76 = .ok (.if_icmp .ne 26, 3) := by decide +kernel
theorem dL_holds_79 : decode cL_holds 79 = .ok (.aload_n 0, 1) := by decide +kernel
theorem dL_holds_80 : decode cL_holds 80 = .ok (.iconst 1, 1) := by decide +kernel
theorem dL_holds_81 : decode cL_holds 81 = .ok (.invokestatic 64, 3) := by decide +kernel
theorem dL_holds_84 : decode cL_holds 84 = .ok (.ifCond .lt 18, 3) := by decide +kernel
theorem dL_holds_87 : decode cL_holds 87 = .ok (.aload_n 0, 1) := by decide +kernel
theorem dL_holds_88 : decode cL_holds 88 = .ok (.bipush 11, 2) := by decide +kernel
theorem dL_holds_90 : decode cL_holds 90 = .ok (.invokestatic 64, 3) := by decide +kernel
theorem dL_holds_93 : decode cL_holds 93 = .ok (.bipush 6, 2) := by decide +kernel
theorem dL_holds_95 : decode cL_holds 95 = .ok (.if_icmp .gt 7, 3) := by decide +kernel
theorem dL_holds_98 : decode cL_holds 98 = .ok (.iconst 1, 1) := by decide +kernel
theorem dL_holds_99 : decode cL_holds 99 = .ok (.goto 4, 3) := by decide +kernel
theorem dL_holds_102 : decode cL_holds 102 = .ok (.iconst 0, 1) := by decide +kernel
theorem dL_holds_103 : decode cL_holds 103 = .ok (.istore 8, 2) := by decide +kernel
theorem dL_holds_105 : decode cL_holds 105 = .ok (.iconst 0, 1) := by decide +kernel
theorem dL_holds_106 : decode cL_holds 106 = .ok (.istore 9, 2) := by decide +kernel
theorem dL_holds_108 : decode cL_holds 108 = .ok (.iload 9, 2) := by decide +kernel
theorem dL_holds_110 : decode cL_holds 110 = .ok (.iload_n 1, 1) := by decide +kernel
theorem dL_holds_111 : decode cL_holds 111 = .ok (.if_icmp .ge 249, 3) := by decide +kernel
theorem dL_holds_114 : decode cL_holds 114 = .ok (.iload 8, 2) := by decide +kernel
theorem dL_holds_116 : decode cL_holds 116 = .ok (.ifCond .eq 244, 3) := by decide +kernel
theorem dL_holds_119 : decode cL_holds 119 = .ok (.aload_n 0, 1) := by decide +kernel
theorem dL_holds_120 : decode cL_holds 120 = .ok (.iload 9, 2) := by decide +kernel
theorem dL_holds_122 : decode cL_holds 122 = .ok (.iconst 1, 1) := by decide +kernel
theorem dL_holds_123 : decode cL_holds 123 = .ok (.invokestatic 74, 3) := by decide +kernel
theorem dL_holds_126 : decode cL_holds 126 = .ok (.istore 10, 2) := by decide +kernel
theorem dL_holds_128 : decode cL_holds 128 = .ok (.iload_n 2, 1) := by decide +kernel
theorem dL_holds_129 : decode cL_holds 129 = .ok (.iload 10, 2) := by decide +kernel
theorem dL_holds_131 : decode cL_holds 131 = .ok (.iconst 1, 1) := by decide +kernel
theorem dL_holds_132 : decode cL_holds 132 = .ok (.if_icmp .ne 7, 3) := by decide +kernel
theorem dL_holds_135 : decode cL_holds 135 = .ok (.iconst 1, 1) := by decide +kernel
theorem dL_holds_136 : decode cL_holds 136 = .ok (.goto 4, 3) := by decide +kernel
theorem dL_holds_139 : decode cL_holds 139 = .ok (.iconst 0, 1) := by decide +kernel
theorem dL_holds_140 : decode cL_holds 140 = .ok (.iadd, 1) := by decide +kernel
theorem dL_holds_141 : decode cL_holds 141 = .ok (.istore_n 2, 1) := by decide +kernel
theorem dL_holds_142 : decode cL_holds 142 = .ok (.iload_n 3, 1) := by decide +kernel
theorem dL_holds_143 : decode cL_holds 143 = .ok (.iload 10, 2) := by decide +kernel
theorem dL_holds_145 : decode cL_holds 145 = .ok (.iconst 2, 1) := by decide +kernel
theorem dL_holds_146 : decode cL_holds 146 = .ok (.if_icmp .ne 7, 3) := by decide +kernel
theorem dL_holds_149 : decode cL_holds 149 = .ok (.iconst 1, 1) := by decide +kernel
theorem dL_holds_150 : decode cL_holds 150 = .ok (.goto 4, 3) := by decide +kernel
theorem dL_holds_153 : decode cL_holds 153 = .ok (.iconst 0, 1) := by decide +kernel
theorem dL_holds_154 : decode cL_holds 154 = .ok (.iadd, 1) := by decide +kernel
theorem dL_holds_155 : decode cL_holds 155 = .ok (.istore_n 3, 1) := by decide +kernel
theorem dL_holds_156 : decode cL_holds 156 = .ok (.iload 4, 2) := by decide +kernel
theorem dL_holds_158 : decode cL_holds 158 = .ok (.iload 10, 2) := by decide +kernel
theorem dL_holds_160 : decode cL_holds 160 = .ok (.iconst 3, 1) := by decide +kernel
theorem dL_holds_161 : decode cL_holds 161 = .ok (.if_icmp .ne 7, 3) := by decide +kernel
theorem dL_holds_164 : decode cL_holds 164 = .ok (.iconst 1, 1) := by decide +kernel
theorem dL_holds_165 : decode cL_holds 165 = .ok (.goto 4, 3) := by decide +kernel
theorem dL_holds_168 : decode cL_holds 168 = .ok (.iconst 0, 1) := by decide +kernel
theorem dL_holds_169 : decode cL_holds 169 = .ok (.iadd, 1) := by decide +kernel
theorem dL_holds_170 : decode cL_holds 170 = .ok (.istore 4, 2) := by decide +kernel
theorem dL_holds_172 : decode cL_holds 172 = .ok (.iload 5, 2) := by decide +kernel
theorem dL_holds_174 : decode cL_holds 174 = .ok (.iload 10, 2) := by decide +kernel
theorem dL_holds_176 : decode cL_holds 176 = .ok (.iconst 1, 1) := by decide +kernel
theorem dL_holds_177 : decode cL_holds 177 = .ok (.if_icmp .ne 13, 3) := by decide +kernel
theorem dL_holds_180 : decode cL_holds 180 = .ok (.aload_n 0, 1) := by decide +kernel
theorem dL_holds_181 : decode cL_holds 181 = .ok (.iload 9, 2) := by decide +kernel
theorem dL_holds_183 : decode cL_holds 183 = .ok (.iconst 0, 1) := by decide +kernel
theorem dL_holds_184 : decode cL_holds 184 = .ok (.invokestatic 74, 3) := by decide +kernel
theorem dL_holds_187 : decode cL_holds 187 = .ok (.goto 4, 3) := by decide +kernel
theorem dL_holds_190 : decode cL_holds 190 = .ok (.iconst 0, 1) := by decide +kernel
theorem dL_holds_191 : decode cL_holds 191 = .ok (.iadd, 1) := by decide +kernel
theorem dL_holds_192 : decode cL_holds 192 = .ok (.istore 5, 2) := by decide +kernel
theorem dL_holds_194 : decode cL_holds 194 = .ok (.lload 6, 2) := by decide +kernel
theorem dL_holds_196 : decode cL_holds 196 = .ok (.ldc2_w 78, 3) := by decide +kernel
theorem dL_holds_199 : decode cL_holds 199 = .ok (.aload_n 0, 1) := by decide +kernel
theorem dL_holds_200 : decode cL_holds 200 = .ok (.iload 9, 2) := by decide +kernel
theorem dL_holds_202 : decode cL_holds 202 = .ok (.iconst 0, 1) := by decide +kernel
theorem dL_holds_203 : decode cL_holds 203 = .ok (.invokestatic 74, 3) := by decide +kernel
theorem dL_holds_206 : decode cL_holds 206 = .ok (.i2l, 1) := by decide +kernel
theorem dL_holds_207 : decode cL_holds 207 = .ok (.lmul, 1) := by decide +kernel
theorem dL_holds_208 : decode cL_holds 208 = .ok (.aload_n 0, 1) := by decide +kernel
theorem dL_holds_209 : decode cL_holds 209 = .ok (.iload 9, 2) := by decide +kernel
theorem dL_holds_211 : decode cL_holds 211 = .ok (.iconst 3, 1) := by decide +kernel
theorem dL_holds_212 : decode cL_holds 212 = .ok (.invokestatic 74, 3) := by decide +kernel
theorem dL_holds_215 : decode cL_holds 215 = .ok (.i2l, 1) := by decide +kernel
theorem dL_holds_216 : decode cL_holds 216 = .ok (.lmul, 1) := by decide +kernel
theorem dL_holds_217 : decode cL_holds 217 = .ok (.ldc2_w 80, 3) := by decide +kernel
theorem dL_holds_220 : decode cL_holds 220 = .ok (.aload_n 0, 1) := by decide +kernel
theorem dL_holds_221 : decode cL_holds 221 = .ok (.iload 9, 2) := by decide +kernel
theorem dL_holds_223 : decode cL_holds 223 = .ok (.iconst 0, 1) := by decide +kernel
theorem dL_holds_224 : decode cL_holds 224 = .ok (.invokestatic 74, 3) := by decide +kernel
theorem dL_holds_227 : decode cL_holds 227 = .ok (.i2l, 1) := by decide +kernel
theorem dL_holds_228 : decode cL_holds 228 = .ok (.lmul, 1) := by decide +kernel
theorem dL_holds_229 : decode cL_holds 229 = .ok (.aload_n 0, 1) := by decide +kernel
theorem dL_holds_230 : decode cL_holds 230 = .ok (.iload 9, 2) := by decide +kernel
theorem dL_holds_232 : decode cL_holds 232 = .ok (.iconst 4, 1) := by decide +kernel
theorem dL_holds_233 : decode cL_holds 233 = .ok (.invokestatic 74, 3) := by decide +kernel
theorem dL_holds_236 : decode cL_holds 236 = .ok (.i2l, 1) := by decide +kernel
theorem dL_holds_237 : decode cL_holds 237 = .ok (.lmul, 1) := by decide +kernel
theorem dL_holds_238 : decode cL_holds 238 = .ok (.ladd, 1) := by decide +kernel
theorem dL_holds_239 : decode cL_holds 239 = .ok (.ladd, 1) := by decide +kernel
theorem dL_holds_240 : decode cL_holds 240 = .ok (.lstore 6, 2) := by decide +kernel
theorem dL_holds_242 : decode cL_holds 242 = .ok (.aload_n 0, 1) := by decide +kernel
theorem dL_holds_243 : decode cL_holds 243 = .ok (.aload_n 0, 1) := by decide +kernel
theorem dL_holds_244 : decode cL_holds 244 = .ok (.iload 9, 2) := by decide +kernel
theorem dL_holds_246 : decode cL_holds 246 = .ok (.iconst 2, 1) := by decide +kernel
theorem dL_holds_247 : decode cL_holds 247 = .ok (.invokestatic 74, 3) := by decide +kernel
theorem dL_holds_250 : decode cL_holds 250 = .ok (.invokestatic 82, 3) := by decide +kernel
theorem dL_holds_253 : decode cL_holds 253 = .ok (.iload 9, 2) := by decide +kernel
theorem dL_holds_255 : decode cL_holds 255 = .ok (.if_icmp .ne 96, 3) := by decide +kernel
theorem dL_holds_258 : decode cL_holds 258 = .ok (.aload_n 0, 1) := by decide +kernel
theorem dL_holds_259 : decode cL_holds 259 = .ok (.iload 9, 2) := by decide +kernel
theorem dL_holds_261 : decode cL_holds 261 = .ok (.bipush 9, 2) := by decide +kernel
theorem dL_holds_263 : decode cL_holds 263 = .ok (.invokestatic 74, 3) := by decide +kernel
theorem dL_holds_266 : decode cL_holds 266 = .ok (.aload_n 0, 1) := by decide +kernel
theorem dL_holds_267 : decode cL_holds 267 = .ok (.iload 9, 2) := by decide +kernel
theorem dL_holds_269 : decode cL_holds 269 = .ok (.bipush 8, 2) := by decide +kernel
theorem dL_holds_271 : decode cL_holds 271 = .ok (.invokestatic 74, 3) := by decide +kernel
theorem dL_holds_274 : decode cL_holds 274 = .ok (.isub, 1) := by decide +kernel
theorem dL_holds_275 : decode cL_holds 275 = .ok (.iload_n 1, 1) := by decide +kernel
theorem dL_holds_276 : decode cL_holds 276 = .ok (.iconst 1, 1) := by decide +kernel
theorem dL_holds_277 : decode cL_holds 277 = .ok (.iadd, 1) := by decide +kernel
theorem dL_holds_278 : decode cL_holds 278 = .ok (.aload_n 0, 1) := by decide +kernel
theorem dL_holds_279 : decode cL_holds 279 = .ok (.iconst 1, 1) := by decide +kernel
theorem dL_holds_280 : decode cL_holds 280 = .ok (.invokestatic 84, 3) := by decide +kernel
theorem dL_holds_283 : decode cL_holds 283 = .ok (.imul, 1) := by decide +kernel
theorem dL_holds_284 : decode cL_holds 284 = .ok (.if_icmp .ne 67, 3) := by decide +kernel
theorem dL_holds_287 : decode cL_holds 287 = .ok (.iload 10, 2) := by decide +kernel
theorem dL_holds_289 : decode cL_holds 289 = .ok (.iconst 2, 1) := by decide +kernel
theorem dL_holds_290 : decode cL_holds 290 = .ok (.if_icmp .eq 13, 3) := by decide +kernel
theorem dL_holds_293 : decode cL_holds 293 = .ok (.aload_n 0, 1) := by decide +kernel
theorem dL_holds_294 : decode cL_holds 294 = .ok (.iload 9, 2) := by decide +kernel
theorem dL_holds_296 : decode cL_holds 296 = .ok (.iconst 5, 1) := by decide +kernel
theorem dL_holds_297 : decode cL_holds 297 = .ok (.invokestatic 74, 3) := by decide +kernel
theorem dL_holds_300 : decode cL_holds 300 = .ok (.ifCond .ne 51, 3) := by decide +kernel
theorem dL_holds_303 : decode cL_holds 303 = .ok (.iload 10, 2) := by decide +kernel
theorem dL_holds_305 : decode cL_holds 305 = .ok (.ifCond .eq 14, 3) := by decide +kernel
theorem dL_holds_308 : decode cL_holds 308 = .ok (.aload_n 0, 1) := by decide +kernel
theorem dL_holds_309 : decode cL_holds 309 = .ok (.iload 9, 2) := by decide +kernel
theorem dL_holds_311 : decode cL_holds 311 = .ok (.bipush 6, 2) := by decide +kernel
theorem dL_holds_313 : decode cL_holds 313 = .ok (.invokestatic 74, 3) := by decide +kernel
theorem dL_holds_316 : decode cL_holds 316 = .ok (.ifCond .ne 35, 3) := by decide +kernel
theorem dL_holds_319 : decode cL_holds 319 = .ok (.iload 10, 2) := by decide +kernel
theorem dL_holds_321 : decode cL_holds 321 = .ok (.iconst 3, 1) := by decide +kernel
theorem dL_holds_322 : decode cL_holds 322 = .ok (.if_icmp .ne 7, 3) := by decide +kernel
theorem dL_holds_325 : decode cL_holds 325 = .ok (.iconst 1, 1) := by decide +kernel
theorem dL_holds_326 : decode cL_holds 326 = .ok (.goto 4, 3) := by decide +kernel
theorem dL_holds_329 : decode cL_holds 329 = .ok (.iconst 0, 1) := by decide +kernel
theorem dL_holds_330 : decode cL_holds 330 = .ok (.aload_n 0, 1) := by decide +kernel
theorem dL_holds_331 : decode cL_holds 331 = .ok (.iload 9, 2) := by decide +kernel
theorem dL_holds_333 : decode cL_holds 333 = .ok (.invokestatic 86, 3) := by decide +kernel
theorem dL_holds_336 : decode cL_holds 336 = .ok (.ifCond .ne 7, 3) := by decide +kernel
theorem dL_holds_339 : decode cL_holds 339 = .ok (.iconst 1, 1) := by decide +kernel
theorem dL_holds_340 : decode cL_holds 340 = .ok (.goto 4, 3) := by decide +kernel
theorem dL_holds_343 : decode cL_holds 343 = .ok (.iconst 0, 1) := by decide +kernel
theorem dL_holds_344 : decode cL_holds 344 = .ok (.if_icmp .ne 7, 3) := by decide +kernel
theorem dL_holds_347 : decode cL_holds 347 = .ok (.iconst 1, 1) := by decide +kernel
theorem dL_holds_348 : decode cL_holds 348 = .ok (.goto 4, 3) := by decide +kernel
theorem dL_holds_351 : decode cL_holds 351 = .ok (.iconst 0, 1) := by decide +kernel
theorem dL_holds_352 : decode cL_holds 352 = .ok (.istore 8, 2) := by decide +kernel
theorem dL_holds_354 : decode cL_holds 354 = .ok (.iinc 9 1, 3) := by decide +kernel
theorem dL_holds_357 : decode cL_holds 357 = .ok (.goto (-249), 3) := by decide +kernel
theorem dL_holds_360 : decode cL_holds 360 = .ok (.iconst 1, 1) := by decide +kernel
theorem dL_holds_361 : decode cL_holds 361 = .ok (.istore 9, 2) := by decide +kernel
theorem dL_holds_363 : decode cL_holds 363 = .ok (.iload 9, 2) := by decide +kernel
theorem dL_holds_365 : decode cL_holds 365 = .ok (.iload_n 1, 1) := by decide +kernel
theorem dL_holds_366 : decode cL_holds 366 = .ok (.if_icmp .ge 89, 3) := by decide +kernel
theorem dL_holds_369 : decode cL_holds 369 = .ok (.iload 8, 2) := by decide +kernel
theorem dL_holds_371 : decode cL_holds 371 = .ok (.ifCond .eq 84, 3) := by decide +kernel
theorem dL_holds_374 : decode cL_holds 374 = .ok (.aload_n 0, 1) := by decide +kernel
theorem dL_holds_375 : decode cL_holds 375 = .ok (.iload 9, 2) := by decide +kernel
theorem dL_holds_377 : decode cL_holds 377 = .ok (.iconst 1, 1) := by decide +kernel
theorem dL_holds_378 : decode cL_holds 378 = .ok (.isub, 1) := by decide +kernel
theorem dL_holds_379 : decode cL_holds 379 = .ok (.invokestatic 82, 3) := by decide +kernel
theorem dL_holds_382 : decode cL_holds 382 = .ok (.istore 10, 2) := by decide +kernel
theorem dL_holds_384 : decode cL_holds 384 = .ok (.aload_n 0, 1) := by decide +kernel
theorem dL_holds_385 : decode cL_holds 385 = .ok (.iload 9, 2) := by decide +kernel
theorem dL_holds_387 : decode cL_holds 387 = .ok (.invokestatic 82, 3) := by decide +kernel
theorem dL_holds_390 : decode cL_holds 390 = .ok (.istore 11, 2) := by decide +kernel
theorem dL_holds_392 : decode cL_holds 392 = .ok (.aload_n 0, 1) := by decide +kernel
theorem dL_holds_393 : decode cL_holds 393 = .ok (.iload 10, 2) := by decide +kernel
theorem dL_holds_395 : decode cL_holds 395 = .ok (.bipush 8, 2) := by decide +kernel
theorem dL_holds_397 : decode cL_holds 397 = .ok (.invokestatic 74, 3) := by decide +kernel
theorem dL_holds_400 : decode cL_holds 400 = .ok (.aload_n 0, 1) := by decide +kernel
theorem dL_holds_401 : decode cL_holds 401 = .ok (.iload 11, 2) := by decide +kernel
theorem dL_holds_403 : decode cL_holds 403 = .ok (.bipush 8, 2) := by decide +kernel
theorem dL_holds_405 : decode cL_holds 405 = .ok (.invokestatic 74, 3) := by decide +kernel
theorem dL_holds_408 : decode cL_holds 408 = .ok (.isub, 1) := by decide +kernel
theorem dL_holds_409 : decode cL_holds 409 = .ok (.aload_n 0, 1) := by decide +kernel
theorem dL_holds_410 : decode cL_holds 410 = .ok (.iconst 1, 1) := by decide +kernel
theorem dL_holds_411 : decode cL_holds 411 = .ok (.invokestatic 84, 3) := by decide +kernel
theorem dL_holds_414 : decode cL_holds 414 = .ok (.if_icmp .ne 32, 3) := by decide +kernel
theorem dL_holds_417 : decode cL_holds 417 = .ok (.aload_n 0, 1) := by decide +kernel
theorem dL_holds_418 : decode cL_holds 418 = .ok (.iload 10, 2) := by decide +kernel
theorem dL_holds_420 : decode cL_holds 420 = .ok (.bipush 9, 2) := by decide +kernel
theorem dL_holds_422 : decode cL_holds 422 = .ok (.invokestatic 74, 3) := by decide +kernel
theorem dL_holds_425 : decode cL_holds 425 = .ok (.aload_n 0, 1) := by decide +kernel
theorem dL_holds_426 : decode cL_holds 426 = .ok (.iload 11, 2) := by decide +kernel
theorem dL_holds_428 : decode cL_holds 428 = .ok (.bipush 9, 2) := by decide +kernel
theorem dL_holds_430 : decode cL_holds 430 = .ok (.invokestatic 74, 3) := by decide +kernel
theorem dL_holds_433 : decode cL_holds 433 = .ok (.isub, 1) := by decide +kernel
theorem dL_holds_434 : decode cL_holds 434 = .ok (.aload_n 0, 1) := by decide +kernel
theorem dL_holds_435 : decode cL_holds 435 = .ok (.iconst 1, 1) := by decide +kernel
theorem dL_holds_436 : decode cL_holds 436 = .ok (.invokestatic 84, 3) := by decide +kernel
theorem dL_holds_439 : decode cL_holds 439 = .ok (.if_icmp .ne 7, 3) := by decide +kernel
theorem dL_holds_442 : decode cL_holds 442 = .ok (.iconst 1, 1) := by decide +kernel
theorem dL_holds_443 : decode cL_holds 443 = .ok (.goto 4, 3) := by decide +kernel
theorem dL_holds_446 : decode cL_holds 446 = .ok (.iconst 0, 1) := by decide +kernel
theorem dL_holds_447 : decode cL_holds 447 = .ok (.istore 8, 2) := by decide +kernel
theorem dL_holds_449 : decode cL_holds 449 = .ok (.iinc 9 1, 3) := by decide +kernel
theorem dL_holds_452 : decode cL_holds 452 = .ok (.goto (-89), 3) := by decide +kernel
theorem dL_holds_455 : decode cL_holds 455 = .ok (.iload 8, 2) := by decide +kernel
theorem dL_holds_457 : decode cL_holds 457 = .ok (.ifCond .eq 58, 3) := by decide +kernel
theorem dL_holds_460 : decode cL_holds 460 = .ok (.aload_n 0, 1) := by decide +kernel
