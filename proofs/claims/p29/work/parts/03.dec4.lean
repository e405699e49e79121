theorem dX4_clear_24 : decode cX4_clear 24 = .ok (.getfield 102, 3) := by decide +kernel
theorem dX4_clear_27 : decode cX4_clear 27 = .ok (.iconst 3, 1) := by decide +kernel
theorem dX4_clear_28 : decode cX4_clear 28 = .ok (.if_icmp .eq 13, 3) := by decide +kernel
theorem dX4_clear_31 : decode cX4_clear 31 = .ok (.new 56, 3) := by decide +kernel
theorem dX4_clear_34 : decode cX4_clear 34 = .ok (.dup, 1) := by decide +kernel
theorem dX4_clear_35 : decode cX4_clear 35 = .ok (.ldc 112, 2) := by decide +kernel
theorem dX4_clear_37 : decode cX4_clear 37 = .ok (.invokespecial 60, 3) := by decide +kernel
theorem dX4_clear_40 : decode cX4_clear 40 = .ok (.athrow, 1) := by decide +kernel
theorem dX4_clear_41 : decode cX4_clear 41 = .ok (.aload_n 0, 1) := by decide +kernel
theorem dX4_clear_42 : decode cX4_clear 42 = .ok (.getfield 22, 3) := by decide +kernel
theorem dX4_clear_45 : decode cX4_clear 45 = .ok (.aload_n 0, 1) := by decide +kernel
theorem dX4_clear_46 : decode cX4_clear 46 = .ok (.getfield 10, 3) := by decide +kernel
theorem dX4_clear_49 : decode cX4_clear 49 = .ok (.invokevirtual 61, 3) := by decide +kernel
theorem dX4_clear_52 : decode cX4_clear 52 = .ok (.aload_n 2, 1) := by decide +kernel
theorem dX4_clear_53 : decode cX4_clear 53 = .ok (.aload_n 0, 1) := by decide +kernel
theorem dX4_clear_54 : decode cX4_clear 54 = .ok (.getfield 10, 3) := by decide +kernel
theorem dX4_clear_57 : decode cX4_clear 57 = .ok (.getfield 52, 3) := by decide +kernel
theorem dX4_clear_60 : decode cX4_clear 60 = .ok (.iconst 4, 1) := by decide +kernel
theorem dX4_clear_61 : decode cX4_clear 61 = .ok (.iaload, 1) := by decide +kernel
theorem dX4_clear_62 : decode cX4_clear 62 = .ok (.invokevirtual 114, 3) := by decide +kernel
theorem dX4_clear_65 : decode cX4_clear 65 = .ok (.aload_n 2, 1) := by decide +kernel
theorem dX4_clear_66 : decode cX4_clear 66 = .ok (.getfield 118, 3) := by decide +kernel
theorem dX4_clear_69 : decode cX4_clear 69 = .ok (.ireturn, 1) := by decide +kernel
theorem dX4_rotate_0 : decode cX4_rotate 0 = .ok (.aload_n 0, 1) := by decide +kernel
theorem dX4_rotate_1 : decode cX4_rotate 1 = .ok (.getfield 22, 3) := by decide +kernel
theorem dX4_rotate_4 : decode cX4_rotate 4 = .ok (.aload_n 0, 1) := by decide +kernel
theorem dX4_rotate_5 : decode cX4_rotate 5 = .ok (.getfield 10, 3) := by decide +kernel
theorem dX4_rotate_8 : decode cX4_rotate 8 = .ok (.invokevirtual 61, 3) := by decide +kernel
theorem dX4_rotate_11 : decode cX4_rotate 11 = .ok (.aload_n 0, 1) := by decide +kernel
theorem dX4_rotate_12 : decode cX4_rotate 12 = .ok (.getfield 10, 3) := by decide +kernel
theorem dX4_rotate_15 : decode cX4_rotate 15 = .ok (.invokevirtual 121, 3) := by decide +kernel
theorem dX4_rotate_18 : decode cX4_rotate 18 = .ok (.ireturn, 1) := by decide +kernel
theorem dX4_pass_0 : decode cX4_pass 0 = .ok (.iload_n 1, 1) := by decide +kernel
theorem dX4_pass_1 : decode cX4_pass 1 = .ok (.iconst 1, 1) := by decide +kernel
theorem dX4_pass_2 : decode cX4_pass 2 = .ok (.sipush 600, 3) := by decide +kernel
theorem dX4_pass_5 : decode cX4_pass 5 = .ok (.invokestatic 33, 3) := by decide +kernel
theorem dX4_pass_8 : decode cX4_pass 8 = .ok (.ifCond .ne 13, 3) := by decide +kernel
theorem dX4_pass_11 : decode cX4_pass 11 = .ok (.new 37, 3) := by decide +kernel
theorem dX4_pass_14 : decode cX4_pass 14 = .ok (.dup, 1) := by decide +kernel
theorem dX4_pass_15 : decode cX4_pass 15 = .ok (.ldc 124, 2) := by decide +kernel
theorem dX4_pass_17 : decode cX4_pass 17 = .ok (.invokespecial 41, 3) := by decide +kernel
theorem dX4_pass_20 : decode cX4_pass 20 = .ok (.athrow, 1) := by decide +kernel
theorem dX4_pass_21 : decode cX4_pass 21 = .ok (.aload_n 0, 1) := by decide +kernel
theorem dX4_pass_22 : decode cX4_pass 22 = .ok (.getfield 10, 3) := by decide +kernel
theorem dX4_pass_25 : decode cX4_pass 25 = .ok (.iload_n 1, 1) := by decide +kernel
theorem dX4_pass_26 : decode cX4_pass 26 = .ok (.invokevirtual 126, 3) := by decide +kernel
theorem dX4_pass_29 : decode cX4_pass 29 = .ok (.ifCond .ne 13, 3) := by decide +kernel
theorem dX4_pass_32 : decode cX4_pass 32 = .ok (.new 56, 3) := by decide +kernel
theorem dX4_pass_35 : decode cX4_pass 35 = .ok (.dup, 1) := by decide +kernel
theorem dX4_pass_36 : decode cX4_pass 36 = .ok (.ldc 130, 2) := by decide +kernel
theorem dX4_pass_38 : decode cX4_pass 38 = .ok (.invokespecial 60, 3) := by decide +kernel
theorem dX4_pass_41 : decode cX4_pass 41 = .ok (.athrow, 1) := by decide +kernel
theorem dX4_pass_42 : decode cX4_pass 42 = .ok (.aload_n 0, 1) := by decide +kernel
theorem dX4_pass_43 : decode cX4_pass 43 = .ok (.getfield 22, 3) := by decide +kernel
theorem dX4_pass_46 : decode cX4_pass 46 = .ok (.aload_n 0, 1) := by decide +kernel
theorem dX4_pass_47 : decode cX4_pass 47 = .ok (.getfield 10, 3) := by decide +kernel
theorem dX4_pass_50 : decode cX4_pass 50 = .ok (.invokevirtual 61, 3) := by decide +kernel
theorem dX4_pass_53 : decode cX4_pass 53 = .ok (.aload_n 0, 1) := by decide +kernel
theorem dX4_pass_54 : decode cX4_pass 54 = .ok (.getfield 10, 3) := by decide +kernel
theorem dX4_pass_57 : decode cX4_pass 57 = .ok (.iload_n 1, 1) := by decide +kernel
theorem dX4_pass_58 : decode cX4_pass 58 = .ok (.invokevirtual 132, 3) := by decide +kernel
theorem dX4_pass_61 : decode cX4_pass 61 = .ok (.aload_n 0, 1) := by decide +kernel
theorem dX4_pass_62 : decode cX4_pass 62 = .ok (.getfield 10, 3) := by decide +kernel
theorem dX4_pass_65 : decode cX4_pass 65 = .ok (.invokevirtual 68, 3) := by decide +kernel
theorem dX4_pass_68 : decode cX4_pass 68 = .ok (.ireturn, 1) := by decide +kernel
theorem dX4_leakTest_0 : decode cX4_leakTest 0 = .ok (.iload_n 1, 1) := by decide +kernel
theorem dX4_leakTest_1 : decode cX4_leakTest 1 = .ok (.iconst 1, 1) := by decide +kernel
theorem dX4_leakTest_2 : decode cX4_leakTest 2 = .ok (.bipush 60, 2) := by decide +kernel
theorem dX4_leakTest_4 : decode cX4_leakTest 4 = .ok (.invokestatic 33, 3) := by decide +kernel
theorem dX4_leakTest_7 : decode cX4_leakTest 7 = .ok (.ifCond .ne 13, 3) := by decide +kernel
theorem dX4_leakTest_10 : decode cX4_leakTest 10 = .ok (.new 37, 3) := by decide +kernel
theorem dX4_leakTest_13 : decode cX4_leakTest 13 = .ok (.dup, 1) := by decide +kernel
theorem dX4_leakTest_14 : decode cX4_leakTest 14 = .ok (.ldc 124, 2) := by decide +kernel
theorem dX4_leakTest_16 : decode cX4_leakTest 16 = .ok (.invokespecial 41, 3) := by decide +kernel
theorem dX4_leakTest_19 : decode cX4_leakTest 19 = .ok (.athrow, 1) := by decide +kernel
theorem dX4_leakTest_20 : decode cX4_leakTest 20 = .ok (.aload_n 0, 1) := by decide +kernel
theorem dX4_leakTest_21 : decode cX4_leakTest 21 = .ok (.getfield 10, 3) := by decide +kernel
theorem dX4_leakTest_24 : decode cX4_leakTest 24 = .ok (.iload_n 1, 1) := by decide +kernel
theorem dX4_leakTest_25 : decode cX4_leakTest 25 = .ok (.invokevirtual 126, 3) := by decide +kernel
theorem dX4_leakTest_28 : decode cX4_leakTest 28 = .ok (.ifCond .ne 13, 3) := by decide +kernel
theorem dX4_leakTest_31 : decode cX4_leakTest 31 = .ok (.new 56, 3) := by decide +kernel
theorem dX4_leakTest_34 : decode cX4_leakTest 34 = .ok (.dup, 1) := by decide +kernel
theorem dX4_leakTest_35 : decode cX4_leakTest 35 = .ok (.ldc 130, 2) := by decide +kernel
theorem dX4_leakTest_37 : decode cX4_leakTest 37 = .ok (.invokespecial 60, 3) := by decide +kernel
theorem dX4_leakTest_40 : decode cX4_leakTest 40 = .ok (.athrow, 1) := by decide +kernel
theorem dX4_leakTest_41 : decode cX4_leakTest 41 = .ok (.aload_n 0, 1) := by decide +kernel
theorem dX4_leakTest_42 : decode cX4_leakTest 42 = .ok (.getfield 22, 3) := by decide +kernel
theorem dX4_leakTest_45 : decode cX4_leakTest 45 = .ok (.aload_n 0, 1) := by decide +kernel
theorem dX4_leakTest_46 : decode cX4_leakTest 46 = .ok (.getfield 10, 3) := by decide +kernel
theorem dX4_leakTest_49 : decode cX4_leakTest 49 = .ok (.invokevirtual 61, 3) := by decide +kernel
theorem dX4_leakTest_52 : decode cX4_leakTest 52 = .ok (.aload_n 0, 1) := by decide +kernel
theorem dX4_leakTest_53 : decode cX4_leakTest 53 = .ok (.getfield 10, 3) := by decide +kernel
theorem dX4_leakTest_56 : decode cX4_leakTest 56 = .ok (.iload_n 1, 1) := by decide +kernel
theorem dX4_leakTest_57 : decode cX4_leakTest 57 = .ok (.invokevirtual 135, 3) := by decide +kernel
theorem dX4_leakTest_60 : decode cX4_leakTest 60 = .ok (.ireturn, 1) := by decide +kernel
theorem dX4_compressor_0 : decode cX4_compressor 0 = .ok (.aload_n 0, 1) := by decide +kernel
theorem dX4_compressor_1 : decode cX4_compressor 1 = .ok (.getfield 10, 3) := by decide +kernel
theorem dX4_compressor_4 : decode cX4_compressor 4 = .ok (.iload_n 1, 1) := by decide +kernel
theorem dX4_compressor_5 : decode cX4_compressor 5 = .ok (.invokevirtual 93, 3) := by decide +kernel
theorem dX4_compressor_8 : decode cX4_compressor 8 = .ok (.astore_n 3, 1) := by decide +kernel
theorem dX4_compressor_9 : decode cX4_compressor 9 = .ok (.aload_n 3, 1) := by decide +kernel
theorem dX4_compressor_10 : decode cX4_compressor 10 = .ok (.ifnonnull 13, 3) := by decide +kernel
theorem dX4_compressor_13 : decode cX4_compressor 13 = .ok (.new 97, 3) := by decide +kernel
theorem dX4_compressor_16 : decode cX4_compressor 16 = .ok (.dup, 1) := by decide +kernel
theorem dX4_compressor_17 : decode cX4_compressor 17 = .ok (.ldc 99, 2) := by decide +kernel
theorem dX4_compressor_19 : decode cX4_compressor 19 = .ok (.invokespecial 101, 3) := by decide +kernel
theorem dX4_compressor_22 : decode cX4_compressor 22 = .ok (.athrow, 1) := by decide +kernel
theorem dX4_compressor_23 : decode cX4_compressor 23 = .ok (.iload_n 2, 1) := by decide +kernel
theorem dX4_compressor_24 : decode cX4_compressor 24 = .ok (.iconst 0, 1) := by decide +kernel
theorem dX4_compressor_25 : decode cX4_compressor 25 = .ok (.bipush 9, 2) := by decide +kernel
theorem dX4_compressor_27 : decode cX4_compressor 27 = .ok (.invokestatic 33, 3) := by decide +kernel
theorem dX4_compressor_30 : decode cX4_compressor 30 = .ok (.ifCond .ne 13, 3) := by decide +kernel
theorem dX4_compressor_33 : decode cX4_compressor 33 = .ok (.new 37, 3) := by decide +kernel
theorem dX4_compressor_36 : decode cX4_compressor 36 = .ok (.dup, 1) := by decide +kernel
theorem dX4_compressor_37 : decode cX4_compressor 37 = .ok (.ldc 138, 2) := by decide +kernel
theorem dX4_compressor_39 : decode cX4_compressor 39 = .ok (.invokespecial 41, 3) := by decide +kernel
theorem dX4_compressor_42 : decode cX4_compressor 42 = .ok (.athrow, 1) := by decide +kernel
theorem dX4_compressor_43 : decode cX4_compressor 43 = .ok (.aload_n 0, 1) := by decide +kernel
theorem dX4_compressor_44 : decode cX4_compressor 44 = .ok (.getfield 10, 3) := by decide +kernel
theorem dX4_compressor_47 : decode cX4_compressor 47 = .ok (.aload_n 3, 1) := by decide +kernel
theorem dX4_compressor_48 : decode cX4_compressor 48 = .ok (.iload_n 2, 1) := by decide +kernel
theorem dX4_compressor_49 : decode cX4_compressor 49 = .ok (.invokevirtual 140, 3) := by decide +kernel
theorem dX4_compressor_52 : decode cX4_compressor 52 = .ok (.ireturn, 1) := by decide +kernel
theorem dX4_atStage_0 : decode cX4_atStage 0 = .ok (.iload_n 1, 1) := by decide +kernel
theorem dX4_atStage_1 : decode cX4_atStage 1 = .ok (.iconst 0, 1) := by decide +kernel
theorem dX4_atStage_2 : decode cX4_atStage 2 = .ok (.aload_n 0, 1) := by decide +kernel
theorem dX4_atStage_3 : decode cX4_atStage 3 = .ok (.getfield 10, 3) := by decide +kernel
theorem dX4_atStage_6 : decode cX4_atStage 6 = .ok (.getfield 84, 3) := by decide +kernel
theorem dX4_atStage_9 : decode cX4_atStage 9 = .ok (.iconst 1, 1) := by decide +kernel
theorem dX4_atStage_10 : decode cX4_atStage 10 = .ok (.isub, 1) := by decide +kernel
theorem dX4_atStage_11 : decode cX4_atStage 11 = .ok (.invokestatic 33, 3) := by decide +kernel
theorem dX4_atStage_14 : decode cX4_atStage 14 = .ok (.ifCond .ne 13, 3) := by decide +kernel
theorem dX4_atStage_17 : decode cX4_atStage 17 = .ok (.new 97, 3) := by decide +kernel
theorem dX4_atStage_20 : decode cX4_atStage 20 = .ok (.dup, 1) := by decide +kernel
theorem dX4_atStage_21 : decode cX4_atStage 21 = .ok (.ldc 144, 2) := by decide +kernel
theorem dX4_atStage_23 : decode cX4_atStage 23 = .ok (.invokespecial 101, 3) := by decide +kernel
theorem dX4_atStage_26 : decode cX4_atStage 26 = .ok (.athrow, 1) := by decide +kernel
theorem dX4_atStage_27 : decode cX4_atStage 27 = .ok (.aload_n 0, 1) := by decide +kernel
theorem dX4_atStage_28 : decode cX4_atStage 28 = .ok (.getfield 10, 3) := by decide +kernel
theorem dX4_atStage_31 : decode cX4_atStage 31 = .ok (.iload_n 1, 1) := by decide +kernel
theorem dX4_atStage_32 : decode cX4_atStage 32 = .ok (.invokevirtual 146, 3) := by decide +kernel
theorem dX4_atStage_35 : decode cX4_atStage 35 = .ok (.ireturn, 1) := by decide +kernel
theorem dX4_value_0 : decode cX4_value 0 = .ok (.iload_n 1, 1) := by decide +kernel
theorem dX4_value_1 : decode cX4_value 1 = .ok (.iconst 0, 1) := by decide +kernel
theorem dX4_value_2 : decode cX4_value 2 = .ok (.bipush 11, 2) := by decide +kernel
theorem dX4_value_4 : decode cX4_value 4 = .ok (.invokestatic 33, 3) := by decide +kernel
theorem dX4_value_7 : decode cX4_value 7 = .ok (.ifCond .ne 13, 3) := by decide +kernel
theorem dX4_value_10 : decode cX4_value 10 = .ok (.new 37, 3) := by decide +kernel
theorem dX4_value_13 : decode cX4_value 13 = .ok (.dup, 1) := by decide +kernel
theorem dX4_value_14 : decode cX4_value 14 = .ok (.ldc 149, 2) := by decide +kernel
theorem dX4_value_16 : decode cX4_value 16 = .ok (.invokespecial 41, 3) := by decide +kernel
theorem dX4_value_19 : decode cX4_value 19 = .ok (.athrow, 1) := by decide +kernel
theorem dX4_value_20 : decode cX4_value 20 = .ok (.aload_n 0, 1) := by decide +kernel
theorem dX4_value_21 : decode cX4_value 21 = .ok (.getfield 10, 3) := by decide +kernel
theorem dX4_value_24 : decode cX4_value 24 = .ok (.iload_n 1, 1) := by decide +kernel
theorem dX4_value_25 : decode cX4_value 25 = .ok (.invokevirtual 151, 3) := by decide +kernel
theorem dX4_value_28 : decode cX4_value 28 = .ok (.ireturn, 1) := by decide +kernel
theorem dX4_setting_0 : decode cX4_setting 0 = .ok (.iload_n 1, 1) := by decide +kernel
theorem dX4_setting_1 : decode cX4_setting 1 = .ok (.iconst 0, 1) := by decide +kernel
theorem dX4_setting_2 : decode cX4_setting 2 = .ok (.bipush 7, 2) := by decide +kernel
theorem dX4_setting_4 : decode cX4_setting 4 = .ok (.invokestatic 33, 3) := by decide +kernel
theorem dX4_setting_7 : decode cX4_setting 7 = .ok (.ifCond .ne 13, 3) := by decide +kernel
theorem dX4_setting_10 : decode cX4_setting 10 = .ok (.new 37, 3) := by decide +kernel
theorem dX4_setting_13 : decode cX4_setting 13 = .ok (.dup, 1) := by decide +kernel
theorem dX4_setting_14 : decode cX4_setting 14 = .ok (.ldc 72, 2) := by decide +kernel
theorem dX4_setting_16 : decode cX4_setting 16 = .ok (.invokespecial 41, 3) := by decide +kernel
theorem dX4_setting_19 : decode cX4_setting 19 = .ok (.athrow, 1) := by decide +kernel
theorem dX4_setting_20 : decode cX4_setting 20 = .ok (.aload_n 0, 1) := by decide +kernel
theorem dX4_setting_21 : decode cX4_setting 21 = .ok (.getfield 10, 3) := by decide +kernel
theorem dX4_setting_24 : decode cX4_setting 24 = .ok (.getfield 52, 3) := by decide +kernel
theorem dX4_setting_27 : decode cX4_setting 27 = .ok (.iload_n 1, 1) := by decide +kernel
theorem dX4_setting_28 : decode cX4_setting 28 = .ok (.iaload, 1) := by decide +kernel
theorem dX4_setting_29 : decode cX4_setting 29 = .ok (.ireturn, 1) := by decide +kernel
theorem dX4_booked_0 : decode cX4_booked 0 = .ok (.iload_n 1, 1) := by decide +kernel
theorem dX4_booked_1 : decode cX4_booked 1 = .ok (.iconst 0, 1) := by decide +kernel
theorem dX4_booked_2 : decode cX4_booked 2 = .ok (.iconst 5, 1) := by decide +kernel
theorem dX4_booked_3 : decode cX4_booked 3 = .ok (.invokestatic 33, 3) := by decide +kernel
theorem dX4_booked_6 : decode cX4_booked 6 = .ok (.ifCond .ne 13, 3) := by decide +kernel
theorem dX4_booked_9 : decode cX4_booked 9 = .ok (.new 37, 3) := by decide +kernel
theorem dX4_booked_12 : decode cX4_booked 12 = .ok (.dup, 1) := by decide +kernel
theorem dX4_booked_13 : decode cX4_booked 13 = .ok (.ldc 154, 2) := by decide +kernel
theorem dX4_booked_15 : decode cX4_booked 15 = .ok (.invokespecial 41, 3) := by decide +kernel
theorem dX4_booked_18 : decode cX4_booked 18 = .ok (.athrow, 1) := by decide +kernel
theorem dX4_booked_19 : decode cX4_booked 19 = .ok (.aload_n 0, 1) := by decide +kernel
theorem dX4_booked_20 : decode cX4_booked 20 = .ok (.getfield 10, 3) := by decide +kernel
theorem dX4_booked_23 : decode cX4_booked 23 = .ok (.getfield 156, 3) := by decide +kernel
theorem dX4_booked_26 : decode cX4_booked 26 = .ok (.iload_n 1, 1) := by decide +kernel
theorem dX4_booked_27 : decode cX4_booked 27 = .ok (.laload, 1) := by decide +kernel
theorem dX4_booked_28 : decode cX4_booked 28 = .ok (.lreturn, 1) := by decide +kernel
theorem dX4_next_0 : decode cX4_next 0 = .ok (.aload_n 0, 1) := by decide +kernel
theorem dX4_next_1 : decode cX4_next 1 = .ok (.getfield 10, 3) := by decide +kernel
theorem dX4_next_4 : decode cX4_next 4 = .ok (.iload_n 1, 1) := by decide +kernel
theorem dX4_next_5 : decode cX4_next 5 = .ok (.invokevirtual 93, 3) := by decide +kernel
theorem dX4_next_8 : decode cX4_next 8 = .ok (.astore_n 2, 1) := by decide +kernel
theorem dX4_next_9 : decode cX4_next 9 = .ok (.aload_n 2, 1) := by decide +kernel
theorem dX4_next_10 : decode cX4_next 10 = .ok (.ifnonnull 13, 3) := by decide +kernel
theorem dX4_next_13 : decode cX4_next 13 = .ok (.new 97, 3) := by decide +kernel
theorem dX4_next_16 : decode cX4_next 16 = .ok (.dup, 1) := by decide +kernel
theorem dX4_next_17 : decode cX4_next 17 = .ok (.ldc 99, 2) := by decide +kernel
theorem dX4_next_19 : decode cX4_next 19 = .ok (.invokespecial 101, 3) := by decide +kernel
theorem dX4_next_22 : decode cX4_next 22 = .ok (.athrow, 1) := by decide +kernel
theorem dX4_next_23 : decode cX4_next 23 = .ok (.aload_n 0, 1) := by decide +kernel
theorem dX4_next_24 : decode cX4_next 24 = .ok (.getfield 10, 3) := by decide +kernel
theorem dX4_next_27 : decode cX4_next 27 = .ok (.aload_n 2, 1) := by decide +kernel
theorem dX4_next_28 : decode cX4_next 28 = .ok (.aload_n 0, 1) := by decide +kernel
theorem dX4_next_29 : decode cX4_next 29 = .ok (.getfield 10, 3) := by decide +kernel
theorem dX4_next_32 : decode cX4_next 32 = .ok (.invokevirtual 68, 3) := by decide +kernel
theorem dX4_next_35 : decode cX4_next 35 = .ok (.invokevirtual 168, 3) := by decide +kernel
theorem dX4_next_38 : decode cX4_next 38 = .ok (.ireturn, 1) := by decide +kernel
theorem dX4_minutesToLoad_0 : decode cX4_minutesToLoad 0 = .ok (.aload_n 0, 1) := by decide +kernel
theorem dX4_minutesToLoad_1 : decode cX4_minutesToLoad 1 = .ok (.getfield 16, 3) := by decide +kernel
theorem dX4_minutesToLoad_4 : decode cX4_minutesToLoad 4 = .ok (.aload_n 0, 1) := by decide +kernel
theorem dX4_minutesToLoad_5 : decode cX4_minutesToLoad 5 = .ok (.getfield 10, 3) := by decide +kernel
theorem dX4_minutesToLoad_8 : decode cX4_minutesToLoad 8 = .ok (.invokevirtual 171, 3) := by decide +kernel
theorem dX4_minutesToLoad_11 : decode cX4_minutesToLoad 11 = .ok (.iconst 1, 1) := by decide +kernel
theorem dX4_minutesToLoad_12 : decode cX4_minutesToLoad 12 = .ok (.istore_n 1, 1) := by decide +kernel
theorem dX4_minutesToLoad_13 : decode cX4_minutesToLoad 13 = .ok (.iload_n 1, 1) := by decide +kernel
theorem dX4_minutesToLoad_14 : decode cX4_minutesToLoad 14 = .ok (.sipush 600, 3) := by decide +kernel
theorem dX4_minutesToLoad_17 : decode cX4_minutesToLoad 17 = .ok (.if_icmp .gt 21, 3) := by decide +kernel
theorem dX4_minutesToLoad_20 : decode cX4_minutesToLoad 20 = .ok (.aload_n 0, 1) := by decide +kernel
theorem dX4_minutesToLoad_21 : decode cX4_minutesToLoad 21 = .ok (.getfield 16, 3) := by decide +kernel
theorem dX4_minutesToLoad_24 : decode cX4_minutesToLoad 24 = .ok (.invokevirtual 174, 3) := by decide +kernel
theorem dX4_minutesToLoad_27 : decode cX4_minutesToLoad 27 = .ok (.ifCond .eq 5, 3) := by decide +kernel
theorem dX4_minutesToLoad_30 : decode cX4_minutesToLoad 30 = .ok (.iload_n 1, 1) := by decide +kernel
theorem dX4_minutesToLoad_31 : decode cX4_minutesToLoad 31 = .ok (.ireturn, 1) := by decide +kernel
theorem dX4_minutesToLoad_32 : decode cX4_minutesToLoad 32 = .ok (.iinc 1 1, 3) := by decide +kernel
theorem dX4_minutesToLoad_35 : decode cX4_minutesToLoad 35 = .ok (.goto (-22), 3) := by decide +kernel
theorem dX4_minutesToLoad_38 : decode cX4_minutesToLoad 38 = .ok (.iconst (-1), 1) := by decide +kernel
theorem dX4_minutesToLoad_39 : decode cX4_minutesToLoad 39 = .ok (.ireturn, 1) := by decide +kernel
theorem dX4_undo_0 : decode cX4_undo 0 = .ok (.aload_n 0, 1) := by decide +kernel
theorem dX4_undo_1 : decode cX4_undo 1 = .ok (.getfield 22, 3) := by decide +kernel
theorem dX4_undo_4 : decode cX4_undo 4 = .ok (.getfield 229, 3) := by decide +kernel
theorem dX4_undo_7 : decode cX4_undo 7 = .ok (.ifCond .ne 13, 3) := by decide +kernel
theorem dX4_undo_10 : decode cX4_undo 10 = .ok (.new 56, 3) := by decide +kernel
theorem dX4_undo_13 : decode cX4_undo 13 = .ok (.dup, 1) := by decide +kernel
theorem dX4_undo_14 : decode cX4_undo 14 = .ok (.ldc 230, 2) := by decide +kernel
theorem dX4_undo_16 : decode cX4_undo 16 = .ok (.invokespecial 60, 3) := by decide +kernel
theorem dX4_undo_19 : decode cX4_undo 19 = .ok (.athrow, 1) := by decide +kernel
theorem dX4_undo_20 : decode cX4_undo 20 = .ok (.aload_n 0, 1) := by decide +kernel
theorem dX4_undo_21 : decode cX4_undo 21 = .ok (.getfield 22, 3) := by decide +kernel
theorem dX4_undo_24 : decode cX4_undo 24 = .ok (.aload_n 0, 1) := by decide +kernel
theorem dX4_undo_25 : decode cX4_undo 25 = .ok (.getfield 10, 3) := by decide +kernel
theorem dX4_undo_28 : decode cX4_undo 28 = .ok (.invokevirtual 232, 3) := by decide +kernel
theorem dX4_undo_31 : decode cX4_undo 31 = .ok (.aload_n 0, 1) := by decide +kernel
theorem dX4_undo_32 : decode cX4_undo 32 = .ok (.getfield 22, 3) := by decide +kernel
theorem dX4_undo_35 : decode cX4_undo 35 = .ok (.getfield 229, 3) := by decide +kernel
theorem dX4_undo_38 : decode cX4_undo 38 = .ok (.ireturn, 1) := by decide +kernel
theorem dX4_digest_0 : decode cX4_digest 0 = .ok (.ldc2_w 235, 3) := by decide +kernel
theorem dX4_digest_3 : decode cX4_digest 3 = .ok (.aload_n 0, 1) := by decide +kernel
theorem dX4_digest_4 : decode cX4_digest 4 = .ok (.getfield 29, 3) := by decide +kernel
theorem dX4_digest_7 : decode cX4_digest 7 = .ok (.getfield 205, 3) := by decide +kernel
theorem dX4_digest_10 : decode cX4_digest 10 = .ok (.i2l, 1) := by decide +kernel
theorem dX4_digest_11 : decode cX4_digest 11 = .ok (.ladd, 1) := by decide +kernel
theorem dX4_digest_12 : decode cX4_digest 12 = .ok (.lstore_n 1, 1) := by decide +kernel
theorem dX4_digest_13 : decode cX4_digest 13 = .ok (.iconst 0, 1) := by decide +kernel
theorem dX4_digest_14 : decode cX4_digest 14 = .ok (.istore_n 3, 1) := by decide +kernel
theorem dX4_digest_15 : decode cX4_digest 15 = .ok (.iload_n 3, 1) := by decide +kernel
theorem dX4_digest_16 : decode cX4_digest 16 = .ok (.bipush 12, 2) := by decide +kernel
theorem dX4_digest_18 : decode cX4_digest 18 = .ok (.if_icmp .ge 25, 3) := by decide +kernel
theorem dX4_digest_21 : decode cX4_digest 21 = .ok (.ldc2_w 237, 3) := by decide +kernel
theorem dX4_digest_24 : decode cX4_digest 24 = .ok (.lload_n 1, 1) := by decide +kernel
theorem dX4_digest_25 : decode cX4_digest 25 = .ok (.lmul, 1) := by decide +kernel
theorem dX4_digest_26 : decode cX4_digest 26 = .ok (.aload_n 0, 1) := by decide +kernel
theorem dX4_digest_27 : decode cX4_digest 27 = .ok (.getfield 10, 3) := by decide +kernel
theorem dX4_digest_30 : decode cX4_digest 30 = .ok (.iload_n 3, 1) := by decide +kernel
theorem dX4_digest_31 : decode cX4_digest 31 = .ok (.invokevirtual 151, 3) := by decide +kernel
theorem dX4_digest_34 : decode cX4_digest 34 = .ok (.i2l, 1) := by decide +kernel
theorem dX4_digest_35 : decode cX4_digest 35 = .ok (.ladd, 1) := by decide +kernel
theorem dX4_digest_36 : decode cX4_digest 36 = .ok (.lstore_n 1, 1) := by decide +kernel
theorem dX4_digest_37 : decode cX4_digest 37 = .ok (.iinc 3 1, 3) := by decide +kernel
theorem dX4_digest_40 : decode cX4_digest 40 = .ok (.goto (-25), 3) := by decide +kernel
theorem dX4_digest_43 : decode cX4_digest 43 = .ok (.iconst 0, 1) := by decide +kernel
theorem dX4_digest_44 : decode cX4_digest 44 = .ok (.istore_n 3, 1) := by decide +kernel
theorem dX4_digest_45 : decode cX4_digest 45 = .ok (.iload_n 3, 1) := by decide +kernel
theorem dX4_digest_46 : decode cX4_digest 46 = .ok (.bipush 8, 2) := by decide +kernel
theorem dX4_digest_48 : decode cX4_digest 48 = .ok (.if_icmp .ge 26, 3) := by decide +kernel
theorem dX4_digest_51 : decode cX4_digest 51 = .ok (.ldc2_w 237, 3) := by decide +kernel
theorem dX4_digest_54 : decode cX4_digest 54 = .ok (.lload_n 1, 1) := by decide +kernel
theorem dX4_digest_55 : decode cX4_digest 55 = .ok (.lmul, 1) := by decide +kernel
theorem dX4_digest_56 : decode cX4_digest 56 = .ok (.aload_n 0, 1) := by decide +kernel
theorem dX4_digest_57 : decode cX4_digest 57 = .ok (.getfield 10, 3) := by decide +kernel
theorem dX4_digest_60 : decode cX4_digest 60 = .ok (.getfield 52, 3) := by decide +kernel
theorem dX4_digest_63 : decode cX4_digest 63 = .ok (.iload_n 3, 1) := by decide +kernel
theorem dX4_digest_64 : decode cX4_digest 64 = .ok (.iaload, 1) := by decide +kernel
theorem dX4_digest_65 : decode cX4_digest 65 = .ok (.i2l, 1) := by decide +kernel
theorem dX4_digest_66 : decode cX4_digest 66 = .ok (.ladd, 1) := by decide +kernel
theorem dX4_digest_67 : decode cX4_digest 67 = .ok (.lstore_n 1, 1) := by decide +kernel
theorem dX4_digest_68 : decode cX4_digest 68 = .ok (.iinc 3 1, 3) := by decide +kernel
theorem dX4_digest_71 : decode cX4_digest 71 = .ok (.goto (-26), 3) := by decide +kernel
theorem dX4_digest_74 : decode cX4_digest 74 = .ok (.iconst 0, 1) := by decide +kernel
theorem dX4_digest_75 : decode cX4_digest 75 = .ok (.istore_n 3, 1) := by decide +kernel
theorem dX4_digest_76 : decode cX4_digest 76 = .ok (.iload_n 3, 1) := by decide +kernel
theorem dX4_digest_77 : decode cX4_digest 77 = .ok (.bipush 6, 2) := by decide +kernel
theorem dX4_digest_79 : decode cX4_digest 79 = .ok (.if_icmp .ge 25, 3) := by decide +kernel
theorem dX4_digest_82 : decode cX4_digest 82 = .ok (.ldc2_w 237, 3) := by decide +kernel
theorem dX4_digest_85 : decode cX4_digest 85 = .ok (.lload_n 1, 1) := by decide +kernel
theorem dX4_digest_86 : decode cX4_digest 86 = .ok (.lmul, 1) := by decide +kernel
theorem dX4_digest_87 : decode cX4_digest 87 = .ok (.aload_n 0, 1) := by decide +kernel
theorem dX4_digest_88 : decode cX4_digest 88 = .ok (.getfield 10, 3) := by decide +kernel
theorem dX4_digest_91 : decode cX4_digest 91 = .ok (.getfield 156, 3) := by decide +kernel
theorem dX4_digest_94 : decode cX4_digest 94 = .ok (.iload_n 3, 1) := by decide +kernel
theorem dX4_digest_95 : decode cX4_digest 95 = .ok (.laload, 1) := by decide +kernel
theorem dX4_digest_96 : decode cX4_digest 96 = .ok (.ladd, 1) := by decide +kernel
theorem dX4_digest_97 : decode cX4_digest 97 = .ok (.lstore_n 1, 1) := by decide +kernel
theorem dX4_digest_98 : decode cX4_digest 98 = .ok (.iinc 3 1, 3) := by decide +kernel
theorem dX4_digest_101 : decode cX4_digest 101 = .ok (.goto (-25), 3) := by decide +kernel
theorem dX4_digest_104 : decode cX4_digest 104 = .ok (.iconst 0, 1) := by decide +kernel
theorem dX4_digest_105 : decode cX4_digest 105 = .ok (.istore_n 3, 1) := by decide +kernel
theorem dX4_digest_106 : decode cX4_digest 106 = .ok (.iload_n 3, 1) := by decide +kernel
theorem dX4_digest_107 : decode cX4_digest 107 = .ok (.iconst 5, 1) := by decide +kernel
theorem dX4_digest_108 : decode cX4_digest 108 = .ok (.if_icmp .ge 23, 3) := by decide +kernel
theorem dX4_digest_111 : decode cX4_digest 111 = .ok (.aload_n 0, 1) := by decide +kernel
theorem dX4_digest_112 : decode cX4_digest 112 = .ok (.lload_n 1, 1) := by decide +kernel
theorem dX4_digest_113 : decode cX4_digest 113 = .ok (.aload_n 0, 1) := by decide +kernel
theorem dX4_digest_114 : decode cX4_digest 114 = .ok (.getfield 10, 3) := by decide +kernel
theorem dX4_digest_117 : decode cX4_digest 117 = .ok (.iload_n 3, 1) := by decide +kernel
theorem dX4_digest_118 : decode cX4_digest 118 = .ok (.invokevirtual 93, 3) := by decide +kernel
theorem dX4_digest_121 : decode cX4_digest 121 = .ok (.invokevirtual 239, 3) := by decide +kernel
theorem dX4_digest_124 : decode cX4_digest 124 = .ok (.lstore_n 1, 1) := by decide +kernel
theorem dX4_digest_125 : decode cX4_digest 125 = .ok (.iinc 3 1, 3) := by decide +kernel
theorem dX4_digest_128 : decode cX4_digest 128 = .ok (.goto (-22), 3) := by decide +kernel
theorem dX4_digest_131 : decode cX4_digest 131 = .ok (.iconst 0, 1) := by decide +kernel
theorem dX4_digest_132 : decode cX4_digest 132 = .ok (.istore_n 3, 1) := by decide +kernel
theorem dX4_digest_133 : decode cX4_digest 133 = .ok (.iload_n 3, 1) := by decide +kernel
theorem dX4_digest_134 : decode cX4_digest 134 = .ok (.aload_n 0, 1) := by decide +kernel
theorem dX4_digest_135 : decode cX4_digest 135 = .ok (.getfield 10, 3) := by decide +kernel
theorem dX4_digest_138 : decode cX4_digest 138 = .ok (.getfield 160, 3) := by decide +kernel
theorem dX4_digest_141 : decode cX4_digest 141 = .ok (.if_icmp .ge 32, 3) := by decide +kernel
theorem dX4_digest_144 : decode cX4_digest 144 = .ok (.iload_n 3, 1) := by decide +kernel
theorem dX4_digest_145 : decode cX4_digest 145 = .ok (.bipush 6, 2) := by decide +kernel
theorem dX4_digest_147 : decode cX4_digest 147 = .ok (.if_icmp .ge 26, 3) := by decide +kernel
theorem dX4_digest_150 : decode cX4_digest 150 = .ok (.ldc2_w 237, 3) := by decide +kernel
theorem dX4_digest_153 : decode cX4_digest 153 = .ok (.lload_n 1, 1) := by decide +kernel
theorem dX4_digest_154 : decode cX4_digest 154 = .ok (.lmul, 1) := by decide +kernel
theorem dX4_digest_155 : decode cX4_digest 155 = .ok (.aload_n 0, 1) := by decide +kernel
theorem dX4_digest_156 : decode cX4_digest 156 = .ok (.getfield 10, 3) := by decide +kernel
theorem dX4_digest_159 : decode cX4_digest 159 = .ok (.getfield 165, 3) := by decide +kernel
theorem dX4_digest_162 : decode cX4_digest 162 = .ok (.iload_n 3, 1) := by decide +kernel
theorem dX4_digest_163 : decode cX4_digest 163 = .ok (.iaload, 1) := by decide +kernel
theorem dX4_digest_164 : decode cX4_digest 164 = .ok (.i2l, 1) := by decide +kernel
theorem dX4_digest_165 : decode cX4_digest 165 = .ok (.ladd, 1) := by decide +kernel
theorem dX4_digest_166 : decode cX4_digest 166 = .ok (.lstore_n 1, 1) := by decide +kernel
theorem dX4_digest_167 : decode cX4_digest 167 = .ok (.iinc 3 1, 3) := by decide +kernel
theorem dX4_digest_170 : decode cX4_digest 170 = .ok (.goto (-37), 3) := by decide +kernel
theorem dX4_digest_173 : decode cX4_digest 173 = .ok (.ldc2_w 237, 3) := by decide +kernel
theorem dX4_digest_176 : decode cX4_digest 176 = .ok (.lload_n 1, 1) := by decide +kernel
theorem dX4_digest_177 : decode cX4_digest 177 = .ok (.lmul, 1) := by decide +kernel
theorem dX4_digest_178 : decode cX4_digest 178 = .ok (.aload_n 0, 1) := by decide +kernel
theorem dX4_digest_179 : decode cX4_digest 179 = .ok (.getfield 22, 3) := by decide +kernel
theorem dX4_digest_182 : decode cX4_digest 182 = .ok (.getfield 229, 3) := by decide +kernel
theorem dX4_digest_185 : decode cX4_digest 185 = .ok (.i2l, 1) := by decide +kernel
theorem dX4_digest_186 : decode cX4_digest 186 = .ok (.ladd, 1) := by decide +kernel
theorem dX4_digest_187 : decode cX4_digest 187 = .ok (.lreturn, 1) := by decide +kernel
theorem dX4_digestWith_0 : decode cX4_digestWith 0 = .ok (.aload_n 3, 1) := by decide +kernel
theorem dX4_digestWith_1 : decode cX4_digestWith 1 = .ok (.ifnonnull 5, 3) := by decide +kernel
theorem dX4_digestWith_4 : decode cX4_digestWith 4 = .ok (.lload_n 1, 1) := by decide +kernel
theorem dX4_digestWith_5 : decode cX4_digestWith 5 = .ok (.lreturn, 1) := by decide +kernel
theorem dX4_digestWith_6 : decode cX4_digestWith 6 = .ok (.lload_n 1, 1) := by decide +kernel
theorem dX4_digestWith_7 : decode cX4_digestWith 7 = .ok (.lstore 4, 2) := by decide +kernel
theorem dX4_digestWith_9 : decode cX4_digestWith 9 = .ok (.iconst 0, 1) := by decide +kernel
theorem dX4_digestWith_10 : decode cX4_digestWith 10 = .ok (.istore 6, 2) := by decide +kernel
theorem dX4_digestWith_12 : decode cX4_digestWith 12 = .ok (.iload 6, 2) := by decide +kernel
theorem dX4_digestWith_14 : decode cX4_digestWith 14 = .ok (.bipush 10, 2) := by decide +kernel
theorem dX4_digestWith_16 : decode cX4_digestWith 16 = .ok (.if_icmp .ge 29, 3) := by decide +kernel
theorem dX4_digestWith_19 : decode cX4_digestWith 19 = .ok (.ldc2_w 237, 3) := by decide +kernel
theorem dX4_digestWith_22 : decode cX4_digestWith 22 = .ok (.lload 4, 2) := by decide +kernel
theorem dX4_digestWith_24 : decode cX4_digestWith 24 = .ok (.lmul, 1) := by decide +kernel
theorem dX4_digestWith_25 : decode cX4_digestWith 25 = .ok (.aload_n 0, 1) := by decide +kernel
theorem dX4_digestWith_26 : decode cX4_digestWith 26 = .ok (.getfield 10, 3) := by decide +kernel
theorem dX4_digestWith_29 : decode cX4_digestWith 29 = .ok (.aload_n 3, 1) := by decide +kernel
theorem dX4_digestWith_30 : decode cX4_digestWith 30 = .ok (.iload 6, 2) := by decide +kernel
theorem dX4_digestWith_32 : decode cX4_digestWith 32 = .ok (.invokevirtual 140, 3) := by decide +kernel
theorem dX4_digestWith_35 : decode cX4_digestWith 35 = .ok (.i2l, 1) := by decide +kernel
theorem dX4_digestWith_36 : decode cX4_digestWith 36 = .ok (.ladd, 1) := by decide +kernel
theorem dX4_digestWith_37 : decode cX4_digestWith 37 = .ok (.lstore 4, 2) := by decide +kernel
theorem dX4_digestWith_39 : decode cX4_digestWith 39 = .ok (.iinc 6 1, 3) := by decide +kernel
theorem dX4_digestWith_42 : decode cX4_digestWith 42 = .ok (.goto (-30), 3) := by decide +kernel
theorem dX4_digestWith_45 : decode cX4_digestWith 45 = .ok (.ldc2_w 237, 3) := by decide +kernel
theorem dX4_digestWith_48 : decode cX4_digestWith 48 = .ok (.lload 4, 2) := by decide +kernel
theorem dX4_digestWith_50 : decode cX4_digestWith 50 = .ok (.lmul, 1) := by decide +kernel
theorem dX4_digestWith_51 : decode cX4_digestWith 51 = .ok (.aload_n 0, 1) := by decide +kernel
theorem dX4_digestWith_52 : decode cX4_digestWith 52 = .ok (.getfield 10, 3) := by decide +kernel
theorem dX4_digestWith_55 : decode cX4_digestWith 55 = .ok (.aload_n 3, 1) := by decide +kernel
theorem dX4_digestWith_56 : decode cX4_digestWith 56 = .ok (.aload_n 0, 1) := by decide +kernel
theorem dX4_digestWith_57 : decode cX4_digestWith 57 = .ok (.getfield 10, 3) := by decide +kernel
theorem dX4_digestWith_60 : decode cX4_digestWith 60 = .ok (.invokevirtual 68, 3) := by decide +kernel
theorem dX4_digestWith_63 : decode cX4_digestWith 63 = .ok (.invokevirtual 168, 3) := by decide +kernel
theorem dX4_digestWith_66 : decode cX4_digestWith 66 = .ok (.i2l, 1) := by decide +kernel
theorem dX4_digestWith_67 : decode cX4_digestWith 67 = .ok (.ladd, 1) := by decide +kernel
theorem dX4_digestWith_68 : decode cX4_digestWith 68 = .ok (.lreturn, 1) := by decide +kernel
theorem dX4_isWithin_0 : decode cX4_isWithin 0 = .ok (.iload_n 0, 1) := by decide +kernel
theorem dX4_isWithin_1 : decode cX4_isWithin 1 = .ok (.iload_n 1, 1) := by decide +kernel
theorem dX4_isWithin_2 : decode cX4_isWithin 2 = .ok (.if_icmp .lt 12, 3) := by decide +kernel
theorem dX4_isWithin_5 : decode cX4_isWithin 5 = .ok (.iload_n 0, 1) := by decide +kernel
theorem dX4_isWithin_6 : decode cX4_isWithin 6 = .ok (.iload_n 2, 1) := by decide +kernel
theorem dX4_isWithin_7 : decode cX4_isWithin 7 = .ok (.if_icmp .gt 7, 3) := by decide +kernel
theorem dX4_isWithin_10 : decode cX4_isWithin 10 = .ok (.iconst 1, 1) := by decide +kernel
theorem dX4_isWithin_11 : decode cX4_isWithin 11 = .ok (.goto 4, 3) := by decide +kernel
theorem dX4_isWithin_14 : decode cX4_isWithin 14 = .ok (.iconst 0, 1) := by decide +kernel
theorem dX4_isWithin_15 : decode cX4_isWithin 15 = .ok (.ireturn, 1) := by decide +kernel
theorem dX4_pressureOf_0 : decode cX4_pressureOf 0 = .ok (.iload_n 1, 1) := by decide +kernel
theorem dX4_pressureOf_1 : decode cX4_pressureOf 1 = .ok (.ifCond .gt 7, 3) := by decide +kernel
theorem dX4_pressureOf_4 : decode cX4_pressureOf 4 = .ok (.iconst 0, 1) := by decide +kernel
