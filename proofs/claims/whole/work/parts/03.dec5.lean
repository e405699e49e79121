theorem dX5_result_2 : decode cX5_result 2 = .ok (.aload_n 0, 1) := by decide +kernel
theorem dX5_result_3 : decode cX5_result 3 = .ok (.getfield 7, 3) := by decide +kernel
theorem dX5_result_6 : decode cX5_result 6 = .ok (.bipush 14, 2) := by decide +kernel
theorem dX5_result_8 : decode cX5_result 8 = .ok (.iaload, 1) := by decide +kernel
theorem dX5_result_9 : decode cX5_result 9 = .ok (.iconst 1, 1) := by decide +kernel
theorem dX5_result_10 : decode cX5_result 10 = .ok (.isub, 1) := by decide +kernel
theorem dX5_result_11 : decode cX5_result 11 = .ok (.invokestatic 48, 3) := by decide +kernel
theorem dX5_result_14 : decode cX5_result 14 = .ok (.ifCond .eq 29, 3) := by decide +kernel
theorem dX5_result_17 : decode cX5_result 17 = .ok (.aload_n 0, 1) := by decide +kernel
theorem dX5_result_18 : decode cX5_result 18 = .ok (.aload_n 0, 1) := by decide +kernel
theorem dX5_result_19 : decode cX5_result 19 = .ok (.getfield 7, 3) := by decide +kernel
theorem dX5_result_22 : decode cX5_result 22 = .ok (.bipush 15, 2) := by decide +kernel
theorem dX5_result_24 : decode cX5_result 24 = .ok (.aload_n 0, 1) := by decide +kernel
theorem dX5_result_25 : decode cX5_result 25 = .ok (.getfield 7, 3) := by decide +kernel
theorem dX5_result_28 : decode cX5_result 28 = .ok (.bipush 14, 2) := by decide +kernel
theorem dX5_result_30 : decode cX5_result 30 = .ok (.iaload, 1) := by decide +kernel
theorem dX5_result_31 : decode cX5_result 31 = .ok (.iadd, 1) := by decide +kernel
theorem dX5_result_32 : decode cX5_result 32 = .ok (.iconst 1, 1) := by decide +kernel
theorem dX5_result_33 : decode cX5_result 33 = .ok (.isub, 1) := by decide +kernel
theorem dX5_result_34 : decode cX5_result 34 = .ok (.iload_n 1, 1) := by decide +kernel
theorem dX5_result_35 : decode cX5_result 35 = .ok (.isub, 1) := by decide +kernel
theorem dX5_result_36 : decode cX5_result 36 = .ok (.iaload, 1) := by decide +kernel
theorem dX5_result_37 : decode cX5_result 37 = .ok (.invokevirtual 104, 3) := by decide +kernel
theorem dX5_result_40 : decode cX5_result 40 = .ok (.goto 8, 3) := by decide +kernel
theorem dX5_result_43 : decode cX5_result 43 = .ok (.aload_n 0, 1) := by decide +kernel
theorem dX5_result_44 : decode cX5_result 44 = .ok (.iconst 1, 1) := by decide +kernel
theorem dX5_result_45 : decode cX5_result 45 = .ok (.invokevirtual 95, 3) := by decide +kernel
theorem dX5_result_48 : decode cX5_result 48 = .ok (.ireturn, 1) := by decide +kernel
theorem dX5_next_0 : decode cX5_next 0 = .ok (.aload_n 0, 1) := by decide +kernel
theorem dX5_next_1 : decode cX5_next 1 = .ok (.iload_n 1, 1) := by decide +kernel
theorem dX5_next_2 : decode cX5_next 2 = .ok (.invokevirtual 113, 3) := by decide +kernel
theorem dX5_next_5 : decode cX5_next 5 = .ok (.ifCond .eq 19, 3) := by decide +kernel
theorem dX5_next_8 : decode cX5_next 8 = .ok (.aload_n 0, 1) := by decide +kernel
theorem dX5_next_9 : decode cX5_next 9 = .ok (.aload_n 0, 1) := by decide +kernel
theorem dX5_next_10 : decode cX5_next 10 = .ok (.iload_n 1, 1) := by decide +kernel
theorem dX5_next_11 : decode cX5_next 11 = .ok (.aload_n 0, 1) := by decide +kernel
theorem dX5_next_12 : decode cX5_next 12 = .ok (.invokevirtual 84, 3) := by decide +kernel
theorem dX5_next_15 : decode cX5_next 15 = .ok (.invokevirtual 69, 3) := by decide +kernel
theorem dX5_next_18 : decode cX5_next 18 = .ok (.invokevirtual 104, 3) := by decide +kernel
theorem dX5_next_21 : decode cX5_next 21 = .ok (.goto 8, 3) := by decide +kernel
theorem dX5_next_24 : decode cX5_next 24 = .ok (.aload_n 0, 1) := by decide +kernel
theorem dX5_next_25 : decode cX5_next 25 = .ok (.iconst 1, 1) := by decide +kernel
theorem dX5_next_26 : decode cX5_next 26 = .ok (.invokevirtual 95, 3) := by decide +kernel
theorem dX5_next_29 : decode cX5_next 29 = .ok (.ireturn, 1) := by decide +kernel
theorem dX5_pressureIn_0 : decode cX5_pressureIn 0 = .ok (.iload_n 1, 1) := by decide +kernel
theorem dX5_pressureIn_1 : decode cX5_pressureIn 1 = .ok (.iconst 0, 1) := by decide +kernel
theorem dX5_pressureIn_2 : decode cX5_pressureIn 2 = .ok (.sipush 600, 3) := by decide +kernel
theorem dX5_pressureIn_5 : decode cX5_pressureIn 5 = .ok (.invokestatic 48, 3) := by decide +kernel
theorem dX5_pressureIn_8 : decode cX5_pressureIn 8 = .ok (.ifCond .ne 9, 3) := by decide +kernel
theorem dX5_pressureIn_11 : decode cX5_pressureIn 11 = .ok (.aload_n 0, 1) := by decide +kernel
theorem dX5_pressureIn_12 : decode cX5_pressureIn 12 = .ok (.iconst 1, 1) := by decide +kernel
theorem dX5_pressureIn_13 : decode cX5_pressureIn 13 = .ok (.invokevirtual 95, 3) := by decide +kernel
theorem dX5_pressureIn_16 : decode cX5_pressureIn 16 = .ok (.ireturn, 1) := by decide +kernel
theorem dX5_pressureIn_17 : decode cX5_pressureIn 17 = .ok (.aload_n 0, 1) := by decide +kernel
theorem dX5_pressureIn_18 : decode cX5_pressureIn 18 = .ok (.invokevirtual 150, 3) := by decide +kernel
theorem dX5_pressureIn_21 : decode cX5_pressureIn 21 = .ok (.aload_n 0, 1) := by decide +kernel
theorem dX5_pressureIn_22 : decode cX5_pressureIn 22 = .ok (.iload_n 1, 1) := by decide +kernel
theorem dX5_pressureIn_23 : decode cX5_pressureIn 23 = .ok (.invokevirtual 121, 3) := by decide +kernel
theorem dX5_pressureIn_26 : decode cX5_pressureIn 26 = .ok (.aload_n 0, 1) := by decide +kernel
theorem dX5_pressureIn_27 : decode cX5_pressureIn 27 = .ok (.invokevirtual 84, 3) := by decide +kernel
theorem dX5_pressureIn_30 : decode cX5_pressureIn 30 = .ok (.istore_n 2, 1) := by decide +kernel
theorem dX5_pressureIn_31 : decode cX5_pressureIn 31 = .ok (.aload_n 0, 1) := by decide +kernel
theorem dX5_pressureIn_32 : decode cX5_pressureIn 32 = .ok (.invokevirtual 153, 3) := by decide +kernel
theorem dX5_pressureIn_35 : decode cX5_pressureIn 35 = .ok (.aload_n 0, 1) := by decide +kernel
theorem dX5_pressureIn_36 : decode cX5_pressureIn 36 = .ok (.iload_n 2, 1) := by decide +kernel
theorem dX5_pressureIn_37 : decode cX5_pressureIn 37 = .ok (.invokevirtual 104, 3) := by decide +kernel
theorem dX5_pressureIn_40 : decode cX5_pressureIn 40 = .ok (.ireturn, 1) := by decide +kernel
theorem dX5_minutesToLoad_0 : decode cX5_minutesToLoad 0 = .ok (.aload_n 0, 1) := by decide +kernel
theorem dX5_minutesToLoad_1 : decode cX5_minutesToLoad 1 = .ok (.invokevirtual 150, 3) := by decide +kernel
theorem dX5_minutesToLoad_4 : decode cX5_minutesToLoad 4 = .ok (.iconst 0, 1) := by decide +kernel
theorem dX5_minutesToLoad_5 : decode cX5_minutesToLoad 5 = .ok (.istore_n 1, 1) := by decide +kernel
theorem dX5_minutesToLoad_6 : decode cX5_minutesToLoad 6 = .ok (.iconst 0, 1) := by decide +kernel
theorem dX5_minutesToLoad_7 : decode cX5_minutesToLoad 7 = .ok (.istore_n 2, 1) := by decide +kernel
theorem dX5_minutesToLoad_8 : decode cX5_minutesToLoad 8 = .ok (.iload_n 1, 1) := by decide +kernel
theorem dX5_minutesToLoad_9 : decode cX5_minutesToLoad 9 = .ok (.sipush 600, 3) := by decide +kernel
theorem dX5_minutesToLoad_12 : decode cX5_minutesToLoad 12 = .ok (.if_icmp .ge 23, 3) := by decide +kernel
theorem dX5_minutesToLoad_15 : decode cX5_minutesToLoad 15 = .ok (.iload_n 2, 1) := by decide +kernel
theorem dX5_minutesToLoad_16 : decode cX5_minutesToLoad 16 = .ok (.ifCond .ne 19, 3) := by decide +kernel
theorem dX5_minutesToLoad_19 : decode cX5_minutesToLoad 19 = .ok (.aload_n 0, 1) := by decide +kernel
theorem dX5_minutesToLoad_20 : decode cX5_minutesToLoad 20 = .ok (.iconst 0, 1) := by decide +kernel
theorem dX5_minutesToLoad_21 : decode cX5_minutesToLoad 21 = .ok (.invokevirtual 91, 3) := by decide +kernel
theorem dX5_minutesToLoad_24 : decode cX5_minutesToLoad 24 = .ok (.aload_n 0, 1) := by decide +kernel
theorem dX5_minutesToLoad_25 : decode cX5_minutesToLoad 25 = .ok (.getfield 76, 3) := by decide +kernel
theorem dX5_minutesToLoad_28 : decode cX5_minutesToLoad 28 = .ok (.istore_n 2, 1) := by decide +kernel
theorem dX5_minutesToLoad_29 : decode cX5_minutesToLoad 29 = .ok (.iinc 1 1, 3) := by decide +kernel
theorem dX5_minutesToLoad_32 : decode cX5_minutesToLoad 32 = .ok (.goto (-24), 3) := by decide +kernel
theorem dX5_minutesToLoad_35 : decode cX5_minutesToLoad 35 = .ok (.aload_n 0, 1) := by decide +kernel
theorem dX5_minutesToLoad_36 : decode cX5_minutesToLoad 36 = .ok (.invokevirtual 153, 3) := by decide +kernel
theorem dX5_minutesToLoad_39 : decode cX5_minutesToLoad 39 = .ok (.aload_n 0, 1) := by decide +kernel
theorem dX5_minutesToLoad_40 : decode cX5_minutesToLoad 40 = .ok (.iload_n 2, 1) := by decide +kernel
theorem dX5_minutesToLoad_41 : decode cX5_minutesToLoad 41 = .ok (.ifCond .eq 7, 3) := by decide +kernel
theorem dX5_minutesToLoad_44 : decode cX5_minutesToLoad 44 = .ok (.iload_n 1, 1) := by decide +kernel
theorem dX5_minutesToLoad_45 : decode cX5_minutesToLoad 45 = .ok (.goto 4, 3) := by decide +kernel
theorem dX5_minutesToLoad_48 : decode cX5_minutesToLoad 48 = .ok (.iconst (-1), 1) := by decide +kernel
theorem dX5_minutesToLoad_49 : decode cX5_minutesToLoad 49 = .ok (.invokevirtual 104, 3) := by decide +kernel
theorem dX5_minutesToLoad_52 : decode cX5_minutesToLoad 52 = .ok (.ireturn, 1) := by decide +kernel
theorem dX5_canServe_0 : decode cX5_canServe 0 = .ok (.iload_n 1, 1) := by decide +kernel
theorem dX5_canServe_1 : decode cX5_canServe 1 = .ok (.iconst 0, 1) := by decide +kernel
theorem dX5_canServe_2 : decode cX5_canServe 2 = .ok (.sipush 16000, 3) := by decide +kernel
theorem dX5_canServe_5 : decode cX5_canServe 5 = .ok (.invokestatic 48, 3) := by decide +kernel
theorem dX5_canServe_8 : decode cX5_canServe 8 = .ok (.ifCond .ne 9, 3) := by decide +kernel
theorem dX5_canServe_11 : decode cX5_canServe 11 = .ok (.aload_n 0, 1) := by decide +kernel
theorem dX5_canServe_12 : decode cX5_canServe 12 = .ok (.iconst 1, 1) := by decide +kernel
theorem dX5_canServe_13 : decode cX5_canServe 13 = .ok (.invokevirtual 95, 3) := by decide +kernel
theorem dX5_canServe_16 : decode cX5_canServe 16 = .ok (.ireturn, 1) := by decide +kernel
theorem dX5_canServe_17 : decode cX5_canServe 17 = .ok (.aload_n 0, 1) := by decide +kernel
theorem dX5_canServe_18 : decode cX5_canServe 18 = .ok (.iconst 0, 1) := by decide +kernel
theorem dX5_canServe_19 : decode cX5_canServe 19 = .ok (.invokevirtual 143, 3) := by decide +kernel
theorem dX5_canServe_22 : decode cX5_canServe 22 = .ok (.iload_n 1, 1) := by decide +kernel
theorem dX5_canServe_23 : decode cX5_canServe 23 = .ok (.aload_n 0, 1) := by decide +kernel
theorem dX5_canServe_24 : decode cX5_canServe 24 = .ok (.getfield 7, 3) := by decide +kernel
theorem dX5_canServe_27 : decode cX5_canServe 27 = .ok (.bipush 7, 2) := by decide +kernel
theorem dX5_canServe_29 : decode cX5_canServe 29 = .ok (.iaload, 1) := by decide +kernel
theorem dX5_canServe_30 : decode cX5_canServe 30 = .ok (.imul, 1) := by decide +kernel
theorem dX5_canServe_31 : decode cX5_canServe 31 = .ok (.sipush 1000, 3) := by decide +kernel
theorem dX5_canServe_34 : decode cX5_canServe 34 = .ok (.idiv, 1) := by decide +kernel
theorem dX5_canServe_35 : decode cX5_canServe 35 = .ok (.isub, 1) := by decide +kernel
theorem dX5_canServe_36 : decode cX5_canServe 36 = .ok (.istore_n 2, 1) := by decide +kernel
theorem dX5_canServe_37 : decode cX5_canServe 37 = .ok (.aload_n 0, 1) := by decide +kernel
theorem dX5_canServe_38 : decode cX5_canServe 38 = .ok (.iload_n 2, 1) := by decide +kernel
theorem dX5_canServe_39 : decode cX5_canServe 39 = .ok (.ifCond .ge 7, 3) := by decide +kernel
theorem dX5_canServe_42 : decode cX5_canServe 42 = .ok (.iconst 0, 1) := by decide +kernel
theorem dX5_canServe_43 : decode cX5_canServe 43 = .ok (.goto 4, 3) := by decide +kernel
theorem dX5_canServe_46 : decode cX5_canServe 46 = .ok (.iload_n 2, 1) := by decide +kernel
theorem dX5_canServe_47 : decode cX5_canServe 47 = .ok (.invokevirtual 104, 3) := by decide +kernel
theorem dX5_canServe_50 : decode cX5_canServe 50 = .ok (.ireturn, 1) := by decide +kernel
theorem dX5_energyWith_0 : decode cX5_energyWith 0 = .ok (.iload_n 1, 1) := by decide +kernel
theorem dX5_energyWith_1 : decode cX5_energyWith 1 = .ok (.bipush 10, 2) := by decide +kernel
theorem dX5_energyWith_3 : decode cX5_energyWith 3 = .ok (.sipush 500, 3) := by decide +kernel
theorem dX5_energyWith_6 : decode cX5_energyWith 6 = .ok (.invokestatic 48, 3) := by decide +kernel
theorem dX5_energyWith_9 : decode cX5_energyWith 9 = .ok (.ifCond .eq 14, 3) := by decide +kernel
theorem dX5_energyWith_12 : decode cX5_energyWith 12 = .ok (.iload_n 2, 1) := by decide +kernel
theorem dX5_energyWith_13 : decode cX5_energyWith 13 = .ok (.iconst 1, 1) := by decide +kernel
theorem dX5_energyWith_14 : decode cX5_energyWith 14 = .ok (.sipush 600, 3) := by decide +kernel
theorem dX5_energyWith_17 : decode cX5_energyWith 17 = .ok (.invokestatic 48, 3) := by decide +kernel
theorem dX5_energyWith_20 : decode cX5_energyWith 20 = .ok (.ifCond .ne 9, 3) := by decide +kernel
theorem dX5_energyWith_23 : decode cX5_energyWith 23 = .ok (.aload_n 0, 1) := by decide +kernel
theorem dX5_energyWith_24 : decode cX5_energyWith 24 = .ok (.iconst 1, 1) := by decide +kernel
theorem dX5_energyWith_25 : decode cX5_energyWith 25 = .ok (.invokevirtual 95, 3) := by decide +kernel
theorem dX5_energyWith_28 : decode cX5_energyWith 28 = .ok (.ireturn, 1) := by decide +kernel
theorem dX5_energyWith_29 : decode cX5_energyWith 29 = .ok (.aload_n 0, 1) := by decide +kernel
theorem dX5_energyWith_30 : decode cX5_energyWith 30 = .ok (.invokevirtual 150, 3) := by decide +kernel
theorem dX5_energyWith_33 : decode cX5_energyWith 33 = .ok (.aload_n 0, 1) := by decide +kernel
theorem dX5_energyWith_34 : decode cX5_energyWith 34 = .ok (.getfield 13, 3) := by decide +kernel
theorem dX5_energyWith_37 : decode cX5_energyWith 37 = .ok (.iconst 5, 1) := by decide +kernel
theorem dX5_energyWith_38 : decode cX5_energyWith 38 = .ok (.laload, 1) := by decide +kernel
theorem dX5_energyWith_39 : decode cX5_energyWith 39 = .ok (.lstore_n 3, 1) := by decide +kernel
theorem dX5_energyWith_40 : decode cX5_energyWith 40 = .ok (.aload_n 0, 1) := by decide +kernel
theorem dX5_energyWith_41 : decode cX5_energyWith 41 = .ok (.getfield 7, 3) := by decide +kernel
theorem dX5_energyWith_44 : decode cX5_energyWith 44 = .ok (.iconst 3, 1) := by decide +kernel
theorem dX5_energyWith_45 : decode cX5_energyWith 45 = .ok (.iload_n 1, 1) := by decide +kernel
theorem dX5_energyWith_46 : decode cX5_energyWith 46 = .ok (.iastore, 1) := by decide +kernel
theorem dX5_energyWith_47 : decode cX5_energyWith 47 = .ok (.aload_n 0, 1) := by decide +kernel
theorem dX5_energyWith_48 : decode cX5_energyWith 48 = .ok (.iload_n 2, 1) := by decide +kernel
theorem dX5_energyWith_49 : decode cX5_energyWith 49 = .ok (.invokevirtual 121, 3) := by decide +kernel
theorem dX5_energyWith_52 : decode cX5_energyWith 52 = .ok (.aload_n 0, 1) := by decide +kernel
theorem dX5_energyWith_53 : decode cX5_energyWith 53 = .ok (.getfield 13, 3) := by decide +kernel
theorem dX5_energyWith_56 : decode cX5_energyWith 56 = .ok (.iconst 5, 1) := by decide +kernel
theorem dX5_energyWith_57 : decode cX5_energyWith 57 = .ok (.laload, 1) := by decide +kernel
theorem dX5_energyWith_58 : decode cX5_energyWith 58 = .ok (.lload_n 3, 1) := by decide +kernel
theorem dX5_energyWith_59 : decode cX5_energyWith 59 = .ok (.lsub, 1) := by decide +kernel
theorem dX5_energyWith_60 : decode cX5_energyWith 60 = .ok (.l2i, 1) := by decide +kernel
theorem dX5_energyWith_61 : decode cX5_energyWith 61 = .ok (.istore 5, 2) := by decide +kernel
theorem dX5_energyWith_63 : decode cX5_energyWith 63 = .ok (.aload_n 0, 1) := by decide +kernel
theorem dX5_energyWith_64 : decode cX5_energyWith 64 = .ok (.invokevirtual 153, 3) := by decide +kernel
theorem dX5_energyWith_67 : decode cX5_energyWith 67 = .ok (.aload_n 0, 1) := by decide +kernel
theorem dX5_energyWith_68 : decode cX5_energyWith 68 = .ok (.iload 5, 2) := by decide +kernel
theorem dX5_energyWith_70 : decode cX5_energyWith 70 = .ok (.invokevirtual 104, 3) := by decide +kernel
theorem dX5_energyWith_73 : decode cX5_energyWith 73 = .ok (.ireturn, 1) := by decide +kernel
theorem dX5_orders_0 : decode cX5_orders 0 = .ok (.iload_n 1, 1) := by decide +kernel
theorem dX5_orders_1 : decode cX5_orders 1 = .ok (.istore_n 2, 1) := by decide +kernel
theorem dX5_orders_2 : decode cX5_orders 2 = .ok (.iconst 0, 1) := by decide +kernel
theorem dX5_orders_3 : decode cX5_orders 3 = .ok (.istore_n 3, 1) := by decide +kernel
theorem dX5_orders_4 : decode cX5_orders 4 = .ok (.iconst 0, 1) := by decide +kernel
theorem dX5_orders_5 : decode cX5_orders 5 = .ok (.istore 4, 2) := by decide +kernel
theorem dX5_orders_7 : decode cX5_orders 7 = .ok (.iload 4, 2) := by decide +kernel
theorem dX5_orders_9 : decode cX5_orders 9 = .ok (.aload_n 0, 1) := by decide +kernel
theorem dX5_orders_10 : decode cX5_orders 10 = .ok (.getfield 7, 3) := by decide +kernel
theorem dX5_orders_13 : decode cX5_orders 13 = .ok (.bipush 10, 2) := by decide +kernel
theorem dX5_orders_15 : decode cX5_orders 15 = .ok (.iaload, 1) := by decide +kernel
theorem dX5_orders_16 : decode cX5_orders 16 = .ok (.if_icmp .ge 117, 3) := by decide +kernel
theorem dX5_orders_19 : decode cX5_orders 19 = .ok (.iconst 1, 1) := by decide +kernel
theorem dX5_orders_20 : decode cX5_orders 20 = .ok (.istore 5, 2) := by decide +kernel
theorem dX5_orders_22 : decode cX5_orders 22 = .ok (.iconst 2, 1) := by decide +kernel
theorem dX5_orders_23 : decode cX5_orders 23 = .ok (.istore 6, 2) := by decide +kernel
theorem dX5_orders_25 : decode cX5_orders 25 = .ok (.iload 6, 2) := by decide +kernel
theorem dX5_orders_27 : decode cX5_orders 27 = .ok (.aload_n 0, 1) := by decide +kernel
theorem dX5_orders_28 : decode cX5_orders 28 = .ok (.getfield 7, 3) := by decide +kernel
theorem dX5_orders_31 : decode cX5_orders 31 = .ok (.bipush 10, 2) := by decide +kernel
theorem dX5_orders_33 : decode cX5_orders 33 = .ok (.iaload, 1) := by decide +kernel
theorem dX5_orders_34 : decode cX5_orders 34 = .ok (.iload 4, 2) := by decide +kernel
theorem dX5_orders_36 : decode cX5_orders 36 = .ok (.isub, 1) := by decide +kernel
theorem dX5_orders_37 : decode cX5_orders 37 = .ok (.if_icmp .ge 16, 3) := by decide +kernel
theorem dX5_orders_40 : decode cX5_orders 40 = .ok (.iload 5, 2) := by decide +kernel
theorem dX5_orders_42 : decode cX5_orders 42 = .ok (.iload 6, 2) := by decide +kernel
theorem dX5_orders_44 : decode cX5_orders 44 = .ok (.imul, 1) := by decide +kernel
theorem dX5_orders_45 : decode cX5_orders 45 = .ok (.istore 5, 2) := by decide +kernel
theorem dX5_orders_47 : decode cX5_orders 47 = .ok (.iinc 6 1, 3) := by decide +kernel
theorem dX5_orders_50 : decode cX5_orders 50 = .ok (.goto (-25), 3) := by decide +kernel
theorem dX5_orders_53 : decode cX5_orders 53 = .ok (.iload_n 2, 1) := by decide +kernel
theorem dX5_orders_54 : decode cX5_orders 54 = .ok (.iload 5, 2) := by decide +kernel
theorem dX5_orders_56 : decode cX5_orders 56 = .ok (.idiv, 1) := by decide +kernel
theorem dX5_orders_57 : decode cX5_orders 57 = .ok (.istore 6, 2) := by decide +kernel
theorem dX5_orders_59 : decode cX5_orders 59 = .ok (.iload_n 2, 1) := by decide +kernel
theorem dX5_orders_60 : decode cX5_orders 60 = .ok (.iload 5, 2) := by decide +kernel
theorem dX5_orders_62 : decode cX5_orders 62 = .ok (.irem, 1) := by decide +kernel
theorem dX5_orders_63 : decode cX5_orders 63 = .ok (.istore_n 2, 1) := by decide +kernel
theorem dX5_orders_64 : decode cX5_orders 64 = .ok (.iconst 0, 1) := by decide +kernel
theorem dX5_orders_65 : decode cX5_orders 65 = .ok (.istore 7, 2) := by decide +kernel
theorem dX5_orders_67 : decode cX5_orders 67 = .ok (.iload_n 3, 1) := by decide +kernel
theorem dX5_orders_68 : decode cX5_orders 68 = .ok (.iload 7, 2) := by decide +kernel
theorem dX5_orders_70 : decode cX5_orders 70 = .ok (.ishr, 1) := by decide +kernel
theorem dX5_orders_71 : decode cX5_orders 71 = .ok (.iconst 1, 1) := by decide +kernel
theorem dX5_orders_72 : decode cX5_orders 72 = .ok (.iand, 1) := by decide +kernel
theorem dX5_orders_73 : decode cX5_orders 73 = .ok (.iconst 1, 1) := by decide +kernel
theorem dX5_orders_74 : decode cX5_orders 74 = .ok (.if_icmp .eq 8, 3) := by decide +kernel
theorem dX5_orders_77 : decode cX5_orders 77 = .ok (.iload 6, 2) := by decide +kernel
theorem dX5_orders_79 : decode cX5_orders 79 = .ok (.ifCond .le 29, 3) := by decide +kernel
theorem dX5_orders_82 : decode cX5_orders 82 = .ok (.iload 6, 2) := by decide +kernel
theorem dX5_orders_84 : decode cX5_orders 84 = .ok (.iload_n 3, 1) := by decide +kernel
theorem dX5_orders_85 : decode cX5_orders 85 = .ok (.iload 7, 2) := by decide +kernel
theorem dX5_orders_87 : decode cX5_orders 87 = .ok (.ishr, 1) := by decide +kernel
theorem dX5_orders_88 : decode cX5_orders 88 = .ok (.iconst 1, 1) := by decide +kernel
theorem dX5_orders_89 : decode cX5_orders 89 = .ok (.iand, 1) := by decide +kernel
theorem dX5_orders_90 : decode cX5_orders 90 = .ok (.iconst 1, 1) := by decide +kernel
theorem dX5_orders_91 : decode cX5_orders 91 = .ok (.if_icmp .ne 7, 3) := by decide +kernel
theorem dX5_orders_94 : decode cX5_orders 94 = .ok (.iconst 0, 1) := by decide +kernel
theorem dX5_orders_95 : decode cX5_orders 95 = .ok (.goto 4, 3) := by decide +kernel
theorem dX5_orders_98 : decode cX5_orders 98 = .ok (.iconst 1, 1) := by decide +kernel
theorem dX5_orders_99 : decode cX5_orders 99 = .ok (.isub, 1) := by decide +kernel
theorem dX5_orders_100 : decode cX5_orders 100 = .ok (.istore 6, 2) := by decide +kernel
theorem dX5_orders_102 : decode cX5_orders 102 = .ok (.iinc 7 1, 3) := by decide +kernel
theorem dX5_orders_105 : decode cX5_orders 105 = .ok (.goto (-38), 3) := by decide +kernel
theorem dX5_orders_108 : decode cX5_orders 108 = .ok (.iload_n 3, 1) := by decide +kernel
theorem dX5_orders_109 : decode cX5_orders 109 = .ok (.iconst 1, 1) := by decide +kernel
theorem dX5_orders_110 : decode cX5_orders 110 = .ok (.iload 7, 2) := by decide +kernel
theorem dX5_orders_112 : decode cX5_orders 112 = .ok (.ishl, 1) := by decide +kernel
theorem dX5_orders_113 : decode cX5_orders 113 = .ok (.ior, 1) := by decide +kernel
theorem dX5_orders_114 : decode cX5_orders 114 = .ok (.istore_n 3, 1) := by decide +kernel
theorem dX5_orders_115 : decode cX5_orders 115 = .ok (.aload_n 0, 1) := by decide +kernel
theorem dX5_orders_116 : decode cX5_orders 116 = .ok (.getfield 7, 3) := by decide +kernel
theorem dX5_orders_119 : decode cX5_orders 119 = .ok (.bipush 56, 2) := by decide +kernel
theorem dX5_orders_121 : decode cX5_orders 121 = .ok (.iload 4, 2) := by decide +kernel
theorem dX5_orders_123 : decode cX5_orders 123 = .ok (.iadd, 1) := by decide +kernel
theorem dX5_orders_124 : decode cX5_orders 124 = .ok (.iload 7, 2) := by decide +kernel
theorem dX5_orders_126 : decode cX5_orders 126 = .ok (.iastore, 1) := by decide +kernel
theorem dX5_orders_127 : decode cX5_orders 127 = .ok (.iinc 4 1, 3) := by decide +kernel
theorem dX5_orders_130 : decode cX5_orders 130 = .ok (.goto (-123), 3) := by decide +kernel
theorem dX5_orders_133 : decode cX5_orders 133 = .ok (.return_, 1) := by decide +kernel
theorem dX5_bestOrder_0 : decode cX5_bestOrder 0 = .ok (.iload_n 1, 1) := by decide +kernel
theorem dX5_bestOrder_1 : decode cX5_bestOrder 1 = .ok (.iconst 1, 1) := by decide +kernel
theorem dX5_bestOrder_2 : decode cX5_bestOrder 2 = .ok (.bipush 30, 2) := by decide +kernel
theorem dX5_bestOrder_4 : decode cX5_bestOrder 4 = .ok (.invokestatic 48, 3) := by decide +kernel
theorem dX5_bestOrder_7 : decode cX5_bestOrder 7 = .ok (.ifCond .ne 9, 3) := by decide +kernel
theorem dX5_bestOrder_10 : decode cX5_bestOrder 10 = .ok (.aload_n 0, 1) := by decide +kernel
theorem dX5_bestOrder_11 : decode cX5_bestOrder 11 = .ok (.iconst 1, 1) := by decide +kernel
theorem dX5_bestOrder_12 : decode cX5_bestOrder 12 = .ok (.invokevirtual 95, 3) := by decide +kernel
theorem dX5_bestOrder_15 : decode cX5_bestOrder 15 = .ok (.ireturn, 1) := by decide +kernel
theorem dX5_bestOrder_16 : decode cX5_bestOrder 16 = .ok (.iload_n 2, 1) := by decide +kernel
theorem dX5_bestOrder_17 : decode cX5_bestOrder 17 = .ok (.iconst 0, 1) := by decide +kernel
theorem dX5_bestOrder_18 : decode cX5_bestOrder 18 = .ok (.aload_n 0, 1) := by decide +kernel
theorem dX5_bestOrder_19 : decode cX5_bestOrder 19 = .ok (.getfield 7, 3) := by decide +kernel
theorem dX5_bestOrder_22 : decode cX5_bestOrder 22 = .ok (.bipush 10, 2) := by decide +kernel
theorem dX5_bestOrder_24 : decode cX5_bestOrder 24 = .ok (.iaload, 1) := by decide +kernel
theorem dX5_bestOrder_25 : decode cX5_bestOrder 25 = .ok (.iconst 1, 1) := by decide +kernel
theorem dX5_bestOrder_26 : decode cX5_bestOrder 26 = .ok (.isub, 1) := by decide +kernel
theorem dX5_bestOrder_27 : decode cX5_bestOrder 27 = .ok (.invokestatic 48, 3) := by decide +kernel
theorem dX5_bestOrder_30 : decode cX5_bestOrder 30 = .ok (.ifCond .ne 9, 3) := by decide +kernel
theorem dX5_bestOrder_33 : decode cX5_bestOrder 33 = .ok (.aload_n 0, 1) := by decide +kernel
theorem dX5_bestOrder_34 : decode cX5_bestOrder 34 = .ok (.iconst 2, 1) := by decide +kernel
theorem dX5_bestOrder_35 : decode cX5_bestOrder 35 = .ok (.invokevirtual 95, 3) := by decide +kernel
theorem dX5_bestOrder_38 : decode cX5_bestOrder 38 = .ok (.ireturn, 1) := by decide +kernel
theorem dX5_bestOrder_39 : decode cX5_bestOrder 39 = .ok (.iconst 1, 1) := by decide +kernel
theorem dX5_bestOrder_40 : decode cX5_bestOrder 40 = .ok (.istore_n 3, 1) := by decide +kernel
theorem dX5_bestOrder_41 : decode cX5_bestOrder 41 = .ok (.iconst 2, 1) := by decide +kernel
theorem dX5_bestOrder_42 : decode cX5_bestOrder 42 = .ok (.istore 4, 2) := by decide +kernel
theorem dX5_bestOrder_44 : decode cX5_bestOrder 44 = .ok (.iload 4, 2) := by decide +kernel
theorem dX5_bestOrder_46 : decode cX5_bestOrder 46 = .ok (.aload_n 0, 1) := by decide +kernel
theorem dX5_bestOrder_47 : decode cX5_bestOrder 47 = .ok (.getfield 7, 3) := by decide +kernel
theorem dX5_bestOrder_50 : decode cX5_bestOrder 50 = .ok (.bipush 10, 2) := by decide +kernel
theorem dX5_bestOrder_52 : decode cX5_bestOrder 52 = .ok (.iaload, 1) := by decide +kernel
theorem dX5_bestOrder_53 : decode cX5_bestOrder 53 = .ok (.if_icmp .gt 14, 3) := by decide +kernel
theorem dX5_bestOrder_56 : decode cX5_bestOrder 56 = .ok (.iload_n 3, 1) := by decide +kernel
theorem dX5_bestOrder_57 : decode cX5_bestOrder 57 = .ok (.iload 4, 2) := by decide +kernel
theorem dX5_bestOrder_59 : decode cX5_bestOrder 59 = .ok (.imul, 1) := by decide +kernel
theorem dX5_bestOrder_60 : decode cX5_bestOrder 60 = .ok (.istore_n 3, 1) := by decide +kernel
theorem dX5_bestOrder_61 : decode cX5_bestOrder 61 = .ok (.iinc 4 1, 3) := by decide +kernel
theorem dX5_bestOrder_64 : decode cX5_bestOrder 64 = .ok (.goto (-20), 3) := by decide +kernel
theorem dX5_bestOrder_67 : decode cX5_bestOrder 67 = .ok (.ldc2_w 156, 3) := by decide +kernel
theorem dX5_bestOrder_70 : decode cX5_bestOrder 70 = .ok (.lstore 4, 2) := by decide +kernel
theorem dX5_bestOrder_72 : decode cX5_bestOrder 72 = .ok (.lconst 0, 1) := by decide +kernel
theorem dX5_bestOrder_73 : decode cX5_bestOrder 73 = .ok (.lstore 6, 2) := by decide +kernel
theorem dX5_bestOrder_75 : decode cX5_bestOrder 75 = .ok (.aload_n 0, 1) := by decide +kernel
theorem dX5_bestOrder_76 : decode cX5_bestOrder 76 = .ok (.invokevirtual 150, 3) := by decide +kernel
theorem dX5_bestOrder_79 : decode cX5_bestOrder 79 = .ok (.iconst 0, 1) := by decide +kernel
theorem dX5_bestOrder_80 : decode cX5_bestOrder 80 = .ok (.istore 8, 2) := by decide +kernel
theorem dX5_bestOrder_82 : decode cX5_bestOrder 82 = .ok (.iload 8, 2) := by decide +kernel
theorem dX5_bestOrder_84 : decode cX5_bestOrder 84 = .ok (.iload_n 3, 1) := by decide +kernel
theorem dX5_bestOrder_85 : decode cX5_bestOrder 85 = .ok (.if_icmp .ge 144, 3) := by decide +kernel
theorem dX5_bestOrder_88 : decode cX5_bestOrder 88 = .ok (.aload_n 0, 1) := by decide +kernel
theorem dX5_bestOrder_89 : decode cX5_bestOrder 89 = .ok (.invokevirtual 153, 3) := by decide +kernel
theorem dX5_bestOrder_92 : decode cX5_bestOrder 92 = .ok (.aload_n 0, 1) := by decide +kernel
theorem dX5_bestOrder_93 : decode cX5_bestOrder 93 = .ok (.iload 8, 2) := by decide +kernel
theorem dX5_bestOrder_95 : decode cX5_bestOrder 95 = .ok (.invokevirtual 158, 3) := by decide +kernel
theorem dX5_bestOrder_98 : decode cX5_bestOrder 98 = .ok (.iconst 0, 1) := by decide +kernel
theorem dX5_bestOrder_99 : decode cX5_bestOrder 99 = .ok (.istore 9, 2) := by decide +kernel
theorem dX5_bestOrder_101 : decode cX5_bestOrder 101 = .ok (.iload 9, 2) := by decide +kernel
theorem dX5_bestOrder_103 : decode cX5_bestOrder 103 = .ok (.iconst 5, 1) := by decide +kernel
theorem dX5_bestOrder_104 : decode cX5_bestOrder 104 = .ok (.if_icmp .ge 26, 3) := by decide +kernel
theorem dX5_bestOrder_107 : decode cX5_bestOrder 107 = .ok (.aload_n 0, 1) := by decide +kernel
theorem dX5_bestOrder_108 : decode cX5_bestOrder 108 = .ok (.getfield 29, 3) := by decide +kernel
theorem dX5_bestOrder_111 : decode cX5_bestOrder 111 = .ok (.iload 9, 2) := by decide +kernel
theorem dX5_bestOrder_113 : decode cX5_bestOrder 113 = .ok (.aload_n 0, 1) := by decide +kernel
theorem dX5_bestOrder_114 : decode cX5_bestOrder 114 = .ok (.getfield 7, 3) := by decide +kernel
theorem dX5_bestOrder_117 : decode cX5_bestOrder 117 = .ok (.bipush 56, 2) := by decide +kernel
theorem dX5_bestOrder_119 : decode cX5_bestOrder 119 = .ok (.iload 9, 2) := by decide +kernel
theorem dX5_bestOrder_121 : decode cX5_bestOrder 121 = .ok (.iadd, 1) := by decide +kernel
theorem dX5_bestOrder_122 : decode cX5_bestOrder 122 = .ok (.iaload, 1) := by decide +kernel
theorem dX5_bestOrder_123 : decode cX5_bestOrder 123 = .ok (.iastore, 1) := by decide +kernel
theorem dX5_bestOrder_124 : decode cX5_bestOrder 124 = .ok (.iinc 9 1, 3) := by decide +kernel
theorem dX5_bestOrder_127 : decode cX5_bestOrder 127 = .ok (.goto (-26), 3) := by decide +kernel
theorem dX5_bestOrder_130 : decode cX5_bestOrder 130 = .ok (.aload_n 0, 1) := by decide +kernel
theorem dX5_bestOrder_131 : decode cX5_bestOrder 131 = .ok (.iload_n 1, 1) := by decide +kernel
theorem dX5_bestOrder_132 : decode cX5_bestOrder 132 = .ok (.invokevirtual 121, 3) := by decide +kernel
theorem dX5_bestOrder_135 : decode cX5_bestOrder 135 = .ok (.lload 4, 2) := by decide +kernel
theorem dX5_bestOrder_137 : decode cX5_bestOrder 137 = .ok (.lconst 0, 1) := by decide +kernel
theorem dX5_bestOrder_138 : decode cX5_bestOrder 138 = .ok (.lcmp, 1) := by decide +kernel
theorem dX5_bestOrder_139 : decode cX5_bestOrder 139 = .ok (.ifCond .lt 39, 3) := by decide +kernel
theorem dX5_bestOrder_142 : decode cX5_bestOrder 142 = .ok (.aload_n 0, 1) := by decide +kernel
theorem dX5_bestOrder_143 : decode cX5_bestOrder 143 = .ok (.getfield 13, 3) := by decide +kernel
theorem dX5_bestOrder_146 : decode cX5_bestOrder 146 = .ok (.iconst 3, 1) := by decide +kernel
theorem dX5_bestOrder_147 : decode cX5_bestOrder 147 = .ok (.laload, 1) := by decide +kernel
theorem dX5_bestOrder_148 : decode cX5_bestOrder 148 = .ok (.lload 4, 2) := by decide +kernel
theorem dX5_bestOrder_150 : decode cX5_bestOrder 150 = .ok (.lcmp, 1) := by decide +kernel
theorem dX5_bestOrder_151 : decode cX5_bestOrder 151 = .ok (.ifCond .lt 27, 3) := by decide +kernel
theorem dX5_bestOrder_154 : decode cX5_bestOrder 154 = .ok (.aload_n 0, 1) := by decide +kernel
theorem dX5_bestOrder_155 : decode cX5_bestOrder 155 = .ok (.getfield 13, 3) := by decide +kernel
theorem dX5_bestOrder_158 : decode cX5_bestOrder 158 = .ok (.iconst 3, 1) := by decide +kernel
theorem dX5_bestOrder_159 : decode cX5_bestOrder 159 = .ok (.laload, 1) := by decide +kernel
theorem dX5_bestOrder_160 : decode cX5_bestOrder 160 = .ok (.lload 4, 2) := by decide +kernel
theorem dX5_bestOrder_162 : decode cX5_bestOrder 162 = .ok (.lcmp, 1) := by decide +kernel
theorem dX5_bestOrder_163 : decode cX5_bestOrder 163 = .ok (.ifCond .ne 60, 3) := by decide +kernel
theorem dX5_bestOrder_166 : decode cX5_bestOrder 166 = .ok (.aload_n 0, 1) := by decide +kernel
theorem dX5_bestOrder_167 : decode cX5_bestOrder 167 = .ok (.getfield 13, 3) := by decide +kernel
theorem dX5_bestOrder_170 : decode cX5_bestOrder 170 = .ok (.iconst 5, 1) := by decide +kernel
theorem dX5_bestOrder_171 : decode cX5_bestOrder 171 = .ok (.laload, 1) := by decide +kernel
theorem dX5_bestOrder_172 : decode cX5_bestOrder 172 = .ok (.lload 6, 2) := by decide +kernel
theorem dX5_bestOrder_174 : decode cX5_bestOrder 174 = .ok (.lcmp, 1) := by decide +kernel
theorem dX5_bestOrder_175 : decode cX5_bestOrder 175 = .ok (.ifCond .ge 48, 3) := by decide +kernel
theorem dX5_bestOrder_178 : decode cX5_bestOrder 178 = .ok (.aload_n 0, 1) := by decide +kernel
theorem dX5_bestOrder_179 : decode cX5_bestOrder 179 = .ok (.getfield 13, 3) := by decide +kernel
theorem dX5_bestOrder_182 : decode cX5_bestOrder 182 = .ok (.iconst 3, 1) := by decide +kernel
theorem dX5_bestOrder_183 : decode cX5_bestOrder 183 = .ok (.laload, 1) := by decide +kernel
theorem dX5_bestOrder_184 : decode cX5_bestOrder 184 = .ok (.lstore 4, 2) := by decide +kernel
theorem dX5_bestOrder_186 : decode cX5_bestOrder 186 = .ok (.aload_n 0, 1) := by decide +kernel
theorem dX5_bestOrder_187 : decode cX5_bestOrder 187 = .ok (.getfield 13, 3) := by decide +kernel
theorem dX5_bestOrder_190 : decode cX5_bestOrder 190 = .ok (.iconst 5, 1) := by decide +kernel
theorem dX5_bestOrder_191 : decode cX5_bestOrder 191 = .ok (.laload, 1) := by decide +kernel
theorem dX5_bestOrder_192 : decode cX5_bestOrder 192 = .ok (.lstore 6, 2) := by decide +kernel
theorem dX5_bestOrder_194 : decode cX5_bestOrder 194 = .ok (.iconst 0, 1) := by decide +kernel
theorem dX5_bestOrder_195 : decode cX5_bestOrder 195 = .ok (.istore 9, 2) := by decide +kernel
theorem dX5_bestOrder_197 : decode cX5_bestOrder 197 = .ok (.iload 9, 2) := by decide +kernel
theorem dX5_bestOrder_199 : decode cX5_bestOrder 199 = .ok (.iconst 5, 1) := by decide +kernel
theorem dX5_bestOrder_200 : decode cX5_bestOrder 200 = .ok (.if_icmp .ge 23, 3) := by decide +kernel
theorem dX5_bestOrder_203 : decode cX5_bestOrder 203 = .ok (.aload_n 0, 1) := by decide +kernel
theorem dX5_bestOrder_204 : decode cX5_bestOrder 204 = .ok (.getfield 38, 3) := by decide +kernel
theorem dX5_bestOrder_207 : decode cX5_bestOrder 207 = .ok (.iload 9, 2) := by decide +kernel
theorem dX5_bestOrder_209 : decode cX5_bestOrder 209 = .ok (.aload_n 0, 1) := by decide +kernel
theorem dX5_bestOrder_210 : decode cX5_bestOrder 210 = .ok (.getfield 29, 3) := by decide +kernel
theorem dX5_bestOrder_213 : decode cX5_bestOrder 213 = .ok (.iload 9, 2) := by decide +kernel
theorem dX5_bestOrder_215 : decode cX5_bestOrder 215 = .ok (.iaload, 1) := by decide +kernel
theorem dX5_bestOrder_216 : decode cX5_bestOrder 216 = .ok (.iastore, 1) := by decide +kernel
theorem dX5_bestOrder_217 : decode cX5_bestOrder 217 = .ok (.iinc 9 1, 3) := by decide +kernel
theorem dX5_bestOrder_220 : decode cX5_bestOrder 220 = .ok (.goto (-23), 3) := by decide +kernel
theorem dX5_bestOrder_223 : decode cX5_bestOrder 223 = .ok (.iinc 8 1, 3) := by decide +kernel
theorem dX5_bestOrder_226 : decode cX5_bestOrder 226 = .ok (.goto (-144), 3) := by decide +kernel
theorem dX5_bestOrder_229 : decode cX5_bestOrder 229 = .ok (.aload_n 0, 1) := by decide +kernel
theorem dX5_bestOrder_230 : decode cX5_bestOrder 230 = .ok (.invokevirtual 153, 3) := by decide +kernel
theorem dX5_bestOrder_233 : decode cX5_bestOrder 233 = .ok (.aload_n 0, 1) := by decide +kernel
theorem dX5_bestOrder_234 : decode cX5_bestOrder 234 = .ok (.aload_n 0, 1) := by decide +kernel
theorem dX5_bestOrder_235 : decode cX5_bestOrder 235 = .ok (.getfield 38, 3) := by decide +kernel
theorem dX5_bestOrder_238 : decode cX5_bestOrder 238 = .ok (.iload_n 2, 1) := by decide +kernel
theorem dX5_bestOrder_239 : decode cX5_bestOrder 239 = .ok (.iaload, 1) := by decide +kernel
theorem dX5_bestOrder_240 : decode cX5_bestOrder 240 = .ok (.invokevirtual 104, 3) := by decide +kernel
theorem dX5_bestOrder_243 : decode cX5_bestOrder 243 = .ok (.ireturn, 1) := by decide +kernel
theorem dX5_loadedShare_0 : decode cX5_loadedShare 0 = .ok (.aload_n 0, 1) := by decide +kernel
theorem dX5_loadedShare_1 : decode cX5_loadedShare 1 = .ok (.iconst 0, 1) := by decide +kernel
theorem dX5_loadedShare_2 : decode cX5_loadedShare 2 = .ok (.putfield 41, 3) := by decide +kernel
theorem dX5_loadedShare_5 : decode cX5_loadedShare 5 = .ok (.lconst 0, 1) := by decide +kernel
theorem dX5_loadedShare_6 : decode cX5_loadedShare 6 = .ok (.lstore_n 1, 1) := by decide +kernel
theorem dX5_loadedShare_7 : decode cX5_loadedShare 7 = .ok (.iconst 0, 1) := by decide +kernel
theorem dX5_loadedShare_8 : decode cX5_loadedShare 8 = .ok (.istore_n 3, 1) := by decide +kernel
theorem dX5_loadedShare_9 : decode cX5_loadedShare 9 = .ok (.iload_n 3, 1) := by decide +kernel
theorem dX5_loadedShare_10 : decode cX5_loadedShare 10 = .ok (.aload_n 0, 1) := by decide +kernel
theorem dX5_loadedShare_11 : decode cX5_loadedShare 11 = .ok (.getfield 7, 3) := by decide +kernel
theorem dX5_loadedShare_14 : decode cX5_loadedShare 14 = .ok (.bipush 10, 2) := by decide +kernel
theorem dX5_loadedShare_16 : decode cX5_loadedShare 16 = .ok (.iaload, 1) := by decide +kernel
theorem dX5_loadedShare_17 : decode cX5_loadedShare 17 = .ok (.if_icmp .ge 27, 3) := by decide +kernel
theorem dX5_loadedShare_20 : decode cX5_loadedShare 20 = .ok (.lload_n 1, 1) := by decide +kernel
theorem dX5_loadedShare_21 : decode cX5_loadedShare 21 = .ok (.aload_n 0, 1) := by decide +kernel
theorem dX5_loadedShare_22 : decode cX5_loadedShare 22 = .ok (.iload_n 3, 1) := by decide +kernel
theorem dX5_loadedShare_23 : decode cX5_loadedShare 23 = .ok (.iconst 0, 1) := by decide +kernel
theorem dX5_loadedShare_24 : decode cX5_loadedShare 24 = .ok (.invokevirtual 56, 3) := by decide +kernel
theorem dX5_loadedShare_27 : decode cX5_loadedShare 27 = .ok (.i2l, 1) := by decide +kernel
theorem dX5_loadedShare_28 : decode cX5_loadedShare 28 = .ok (.aload_n 0, 1) := by decide +kernel
theorem dX5_loadedShare_29 : decode cX5_loadedShare 29 = .ok (.iload_n 3, 1) := by decide +kernel
theorem dX5_loadedShare_30 : decode cX5_loadedShare 30 = .ok (.iconst 2, 1) := by decide +kernel
theorem dX5_loadedShare_31 : decode cX5_loadedShare 31 = .ok (.invokevirtual 56, 3) := by decide +kernel
theorem dX5_loadedShare_34 : decode cX5_loadedShare 34 = .ok (.i2l, 1) := by decide +kernel
theorem dX5_loadedShare_35 : decode cX5_loadedShare 35 = .ok (.lmul, 1) := by decide +kernel
theorem dX5_loadedShare_36 : decode cX5_loadedShare 36 = .ok (.ladd, 1) := by decide +kernel
theorem dX5_loadedShare_37 : decode cX5_loadedShare 37 = .ok (.lstore_n 1, 1) := by decide +kernel
theorem dX5_loadedShare_38 : decode cX5_loadedShare 38 = .ok (.iinc 3 1, 3) := by decide +kernel
theorem dX5_loadedShare_41 : decode cX5_loadedShare 41 = .ok (.goto (-32), 3) := by decide +kernel
theorem dX5_loadedShare_44 : decode cX5_loadedShare 44 = .ok (.aload_n 0, 1) := by decide +kernel
theorem dX5_loadedShare_45 : decode cX5_loadedShare 45 = .ok (.getfield 13, 3) := by decide +kernel
theorem dX5_loadedShare_48 : decode cX5_loadedShare 48 = .ok (.iconst 5, 1) := by decide +kernel
theorem dX5_loadedShare_49 : decode cX5_loadedShare 49 = .ok (.laload, 1) := by decide +kernel
theorem dX5_loadedShare_50 : decode cX5_loadedShare 50 = .ok (.lconst 0, 1) := by decide +kernel
theorem dX5_loadedShare_51 : decode cX5_loadedShare 51 = .ok (.lcmp, 1) := by decide +kernel
theorem dX5_loadedShare_52 : decode cX5_loadedShare 52 = .ok (.ifCond .ne 7, 3) := by decide +kernel
theorem dX5_loadedShare_55 : decode cX5_loadedShare 55 = .ok (.dconst 0, 1) := by decide +kernel
theorem dX5_loadedShare_56 : decode cX5_loadedShare 56 = .ok (.goto 17, 3) := by decide +kernel
theorem dX5_loadedShare_59 : decode cX5_loadedShare 59 = .ok (.ldc2_w 161, 3) := by decide +kernel
theorem dX5_loadedShare_62 : decode cX5_loadedShare 62 = .ok (.lload_n 1, 1) := by decide +kernel
theorem dX5_loadedShare_63 : decode cX5_loadedShare 63 = .ok (.lmul, 1) := by decide +kernel
theorem dX5_loadedShare_64 : decode cX5_loadedShare 64 = .ok (.l2d, 1) := by decide +kernel
theorem dX5_loadedShare_65 : decode cX5_loadedShare 65 = .ok (.aload_n 0, 1) := by decide +kernel
theorem dX5_loadedShare_66 : decode cX5_loadedShare 66 = .ok (.getfield 13, 3) := by decide +kernel
theorem dX5_loadedShare_69 : decode cX5_loadedShare 69 = .ok (.iconst 5, 1) := by decide +kernel
theorem dX5_loadedShare_70 : decode cX5_loadedShare 70 = .ok (.laload, 1) := by decide +kernel
theorem dX5_loadedShare_71 : decode cX5_loadedShare 71 = .ok (.l2d, 1) := by decide +kernel
theorem dX5_loadedShare_72 : decode cX5_loadedShare 72 = .ok (.ddiv, 1) := by decide +kernel
theorem dX5_loadedShare_73 : decode cX5_loadedShare 73 = .ok (.dreturn, 1) := by decide +kernel
theorem dX5_append_0 : decode cX5_append 0 = .ok (.iload_n 1, 1) := by decide +kernel
theorem dX5_append_1 : decode cX5_append 1 = .ok (.iconst 0, 1) := by decide +kernel
theorem dX5_append_2 : decode cX5_append 2 = .ok (.bipush 127, 2) := by decide +kernel
theorem dX5_append_4 : decode cX5_append 4 = .ok (.invokestatic 48, 3) := by decide +kernel
theorem dX5_append_7 : decode cX5_append 7 = .ok (.ifCond .ne 9, 3) := by decide +kernel
theorem dX5_append_10 : decode cX5_append 10 = .ok (.aload_n 0, 1) := by decide +kernel
theorem dX5_append_11 : decode cX5_append 11 = .ok (.iconst 1, 1) := by decide +kernel
theorem dX5_append_12 : decode cX5_append 12 = .ok (.invokevirtual 95, 3) := by decide +kernel
theorem dX5_append_15 : decode cX5_append 15 = .ok (.ireturn, 1) := by decide +kernel
theorem dX5_append_16 : decode cX5_append 16 = .ok (.aload_n 0, 1) := by decide +kernel
theorem dX5_append_17 : decode cX5_append 17 = .ok (.getfield 163, 3) := by decide +kernel
theorem dX5_append_20 : decode cX5_append 20 = .ok (.bipush 100, 2) := by decide +kernel
theorem dX5_append_22 : decode cX5_append 22 = .ok (.if_icmp .ne 9, 3) := by decide +kernel
theorem dX5_append_25 : decode cX5_append 25 = .ok (.aload_n 0, 1) := by decide +kernel
theorem dX5_append_26 : decode cX5_append 26 = .ok (.iconst 2, 1) := by decide +kernel
theorem dX5_append_27 : decode cX5_append 27 = .ok (.invokevirtual 95, 3) := by decide +kernel
theorem dX5_append_30 : decode cX5_append 30 = .ok (.ireturn, 1) := by decide +kernel
theorem dX5_append_31 : decode cX5_append 31 = .ok (.aload_n 0, 1) := by decide +kernel
theorem dX5_append_32 : decode cX5_append 32 = .ok (.getfield 35, 3) := by decide +kernel
theorem dX5_append_35 : decode cX5_append 35 = .ok (.aload_n 0, 1) := by decide +kernel
theorem dX5_append_36 : decode cX5_append 36 = .ok (.getfield 163, 3) := by decide +kernel
theorem dX5_append_39 : decode cX5_append 39 = .ok (.iload_n 1, 1) := by decide +kernel
theorem dX5_append_40 : decode cX5_append 40 = .ok (.iastore, 1) := by decide +kernel
theorem dX5_append_41 : decode cX5_append 41 = .ok (.aload_n 0, 1) := by decide +kernel
theorem dX5_append_42 : decode cX5_append 42 = .ok (.dup, 1) := by decide +kernel
theorem dX5_append_43 : decode cX5_append 43 = .ok (.getfield 163, 3) := by decide +kernel
theorem dX5_append_46 : decode cX5_append 46 = .ok (.iconst 1, 1) := by decide +kernel
theorem dX5_append_47 : decode cX5_append 47 = .ok (.iadd, 1) := by decide +kernel
theorem dX5_append_48 : decode cX5_append 48 = .ok (.putfield 163, 3) := by decide +kernel
theorem dX5_append_51 : decode cX5_append 51 = .ok (.aload_n 0, 1) := by decide +kernel
theorem dX5_append_52 : decode cX5_append 52 = .ok (.aload_n 0, 1) := by decide +kernel
theorem dX5_append_53 : decode cX5_append 53 = .ok (.getfield 163, 3) := by decide +kernel
theorem dX5_append_56 : decode cX5_append 56 = .ok (.invokevirtual 104, 3) := by decide +kernel
theorem dX5_append_59 : decode cX5_append 59 = .ok (.ireturn, 1) := by decide +kernel
theorem dX5_clearText_0 : decode cX5_clearText 0 = .ok (.aload_n 0, 1) := by decide +kernel
theorem dX5_clearText_1 : decode cX5_clearText 1 = .ok (.getfield 163, 3) := by decide +kernel
theorem dX5_clearText_4 : decode cX5_clearText 4 = .ok (.istore_n 1, 1) := by decide +kernel
theorem dX5_clearText_5 : decode cX5_clearText 5 = .ok (.aload_n 0, 1) := by decide +kernel
theorem dX5_clearText_6 : decode cX5_clearText 6 = .ok (.iconst 0, 1) := by decide +kernel
theorem dX5_clearText_7 : decode cX5_clearText 7 = .ok (.putfield 163, 3) := by decide +kernel
theorem dX5_clearText_10 : decode cX5_clearText 10 = .ok (.aload_n 0, 1) := by decide +kernel
theorem dX5_clearText_11 : decode cX5_clearText 11 = .ok (.iload_n 1, 1) := by decide +kernel
theorem dX5_clearText_12 : decode cX5_clearText 12 = .ok (.invokevirtual 104, 3) := by decide +kernel
theorem dX5_clearText_15 : decode cX5_clearText 15 = .ok (.ireturn, 1) := by decide +kernel
theorem dX5_byteAt_0 : decode cX5_byteAt 0 = .ok (.aload_n 0, 1) := by decide +kernel
theorem dX5_byteAt_1 : decode cX5_byteAt 1 = .ok (.getfield 166, 3) := by decide +kernel
theorem dX5_byteAt_4 : decode cX5_byteAt 4 = .ok (.aload_n 0, 1) := by decide +kernel
theorem dX5_byteAt_5 : decode cX5_byteAt 5 = .ok (.getfield 163, 3) := by decide +kernel
theorem dX5_byteAt_8 : decode cX5_byteAt 8 = .ok (.if_icmp .ge 15, 3) := by decide +kernel
theorem dX5_byteAt_11 : decode cX5_byteAt 11 = .ok (.aload_n 0, 1) := by decide +kernel
theorem dX5_byteAt_12 : decode cX5_byteAt 12 = .ok (.getfield 35, 3) := by decide +kernel
theorem dX5_byteAt_15 : decode cX5_byteAt 15 = .ok (.aload_n 0, 1) := by decide +kernel
theorem dX5_byteAt_16 : decode cX5_byteAt 16 = .ok (.getfield 166, 3) := by decide +kernel
theorem dX5_byteAt_19 : decode cX5_byteAt 19 = .ok (.iaload, 1) := by decide +kernel
theorem dX5_byteAt_20 : decode cX5_byteAt 20 = .ok (.goto 4, 3) := by decide +kernel
theorem dX5_byteAt_23 : decode cX5_byteAt 23 = .ok (.iconst (-1), 1) := by decide +kernel
theorem dX5_byteAt_24 : decode cX5_byteAt 24 = .ok (.ireturn, 1) := by decide +kernel
theorem dX5_reads_0 : decode cX5_reads 0 = .ok (.aload_n 0, 1) := by decide +kernel
theorem dX5_reads_1 : decode cX5_reads 1 = .ok (.getfield 166, 3) := by decide +kernel
theorem dX5_reads_4 : decode cX5_reads 4 = .ok (.istore 4, 2) := by decide +kernel
theorem dX5_reads_6 : decode cX5_reads 6 = .ok (.aload_n 0, 1) := by decide +kernel
theorem dX5_reads_7 : decode cX5_reads 7 = .ok (.iconst 0, 1) := by decide +kernel
theorem dX5_reads_8 : decode cX5_reads 8 = .ok (.putfield 169, 3) := by decide +kernel
theorem dX5_reads_11 : decode cX5_reads 11 = .ok (.aload_n 0, 1) := by decide +kernel
theorem dX5_reads_12 : decode cX5_reads 12 = .ok (.getfield 166, 3) := by decide +kernel
theorem dX5_reads_15 : decode cX5_reads 15 = .ok (.iload 4, 2) := by decide +kernel
theorem dX5_reads_17 : decode cX5_reads 17 = .ok (.iload_n 1, 1) := by decide +kernel
theorem dX5_reads_18 : decode cX5_reads 18 = .ok (.iadd, 1) := by decide +kernel
theorem dX5_reads_19 : decode cX5_reads 19 = .ok (.if_icmp .ge 49, 3) := by decide +kernel
theorem dX5_reads_22 : decode cX5_reads 22 = .ok (.aload_n 0, 1) := by decide +kernel
theorem dX5_reads_23 : decode cX5_reads 23 = .ok (.invokevirtual 172, 3) := by decide +kernel
theorem dX5_reads_26 : decode cX5_reads 26 = .ok (.bipush 48, 2) := by decide +kernel
theorem dX5_reads_28 : decode cX5_reads 28 = .ok (.bipush 57, 2) := by decide +kernel
theorem dX5_reads_30 : decode cX5_reads 30 = .ok (.invokestatic 48, 3) := by decide +kernel
theorem dX5_reads_33 : decode cX5_reads 33 = .ok (.ifCond .eq 35, 3) := by decide +kernel
theorem dX5_reads_36 : decode cX5_reads 36 = .ok (.aload_n 0, 1) := by decide +kernel
theorem dX5_reads_37 : decode cX5_reads 37 = .ok (.bipush 10, 2) := by decide +kernel
theorem dX5_reads_39 : decode cX5_reads 39 = .ok (.aload_n 0, 1) := by decide +kernel
theorem dX5_reads_40 : decode cX5_reads 40 = .ok (.getfield 169, 3) := by decide +kernel
theorem dX5_reads_43 : decode cX5_reads 43 = .ok (.imul, 1) := by decide +kernel
theorem dX5_reads_44 : decode cX5_reads 44 = .ok (.aload_n 0, 1) := by decide +kernel
theorem dX5_reads_45 : decode cX5_reads 45 = .ok (.invokevirtual 172, 3) := by decide +kernel
theorem dX5_reads_48 : decode cX5_reads 48 = .ok (.iadd, 1) := by decide +kernel
theorem dX5_reads_49 : decode cX5_reads 49 = .ok (.bipush 48, 2) := by decide +kernel
theorem dX5_reads_51 : decode cX5_reads 51 = .ok (.isub, 1) := by decide +kernel
theorem dX5_reads_52 : decode cX5_reads 52 = .ok (.putfield 169, 3) := by decide +kernel
theorem dX5_reads_55 : decode cX5_reads 55 = .ok (.aload_n 0, 1) := by decide +kernel
theorem dX5_reads_56 : decode cX5_reads 56 = .ok (.dup, 1) := by decide +kernel
theorem dX5_reads_57 : decode cX5_reads 57 = .ok (.getfield 166, 3) := by decide +kernel
theorem dX5_reads_60 : decode cX5_reads 60 = .ok (.iconst 1, 1) := by decide +kernel
theorem dX5_reads_61 : decode cX5_reads 61 = .ok (.iadd, 1) := by decide +kernel
theorem dX5_reads_62 : decode cX5_reads 62 = .ok (.putfield 166, 3) := by decide +kernel
theorem dX5_reads_65 : decode cX5_reads 65 = .ok (.goto (-54), 3) := by decide +kernel
theorem dX5_reads_68 : decode cX5_reads 68 = .ok (.aload_n 0, 1) := by decide +kernel
theorem dX5_reads_69 : decode cX5_reads 69 = .ok (.getfield 166, 3) := by decide +kernel
theorem dX5_reads_72 : decode cX5_reads 72 = .ok (.iload 4, 2) := by decide +kernel
theorem dX5_reads_74 : decode cX5_reads 74 = .ok (.if_icmp .eq 17, 3) := by decide +kernel
theorem dX5_reads_77 : decode cX5_reads 77 = .ok (.aload_n 0, 1) := by decide +kernel
theorem dX5_reads_78 : decode cX5_reads 78 = .ok (.invokevirtual 172, 3) := by decide +kernel
theorem dX5_reads_81 : decode cX5_reads 81 = .ok (.bipush 48, 2) := by decide +kernel
theorem dX5_reads_83 : decode cX5_reads 83 = .ok (.bipush 57, 2) := by decide +kernel
theorem dX5_reads_85 : decode cX5_reads 85 = .ok (.invokestatic 48, 3) := by decide +kernel
theorem dX5_reads_88 : decode cX5_reads 88 = .ok (.ifCond .eq 8, 3) := by decide +kernel
theorem dX5_reads_91 : decode cX5_reads 91 = .ok (.aload_n 0, 1) := by decide +kernel
theorem dX5_reads_92 : decode cX5_reads 92 = .ok (.getfield 166, 3) := by decide +kernel
theorem dX5_reads_95 : decode cX5_reads 95 = .ok (.ireturn, 1) := by decide +kernel
theorem dX5_reads_96 : decode cX5_reads 96 = .ok (.aload_n 0, 1) := by decide +kernel
theorem dX5_reads_97 : decode cX5_reads 97 = .ok (.getfield 169, 3) := by decide +kernel
theorem dX5_reads_100 : decode cX5_reads 100 = .ok (.iload_n 2, 1) := by decide +kernel
theorem dX5_reads_101 : decode cX5_reads 101 = .ok (.iload_n 3, 1) := by decide +kernel
theorem dX5_reads_102 : decode cX5_reads 102 = .ok (.invokestatic 48, 3) := by decide +kernel
theorem dX5_reads_105 : decode cX5_reads 105 = .ok (.ifCond .eq 7, 3) := by decide +kernel
theorem dX5_reads_108 : decode cX5_reads 108 = .ok (.iconst (-1), 1) := by decide +kernel
theorem dX5_reads_109 : decode cX5_reads 109 = .ok (.goto 5, 3) := by decide +kernel
theorem dX5_reads_112 : decode cX5_reads 112 = .ok (.iload 4, 2) := by decide +kernel
theorem dX5_reads_114 : decode cX5_reads 114 = .ok (.ireturn, 1) := by decide +kernel
theorem dX5_order_0 : decode cX5_order 0 = .ok (.aload_n 0, 1) := by decide +kernel
theorem dX5_order_1 : decode cX5_order 1 = .ok (.invokevirtual 172, 3) := by decide +kernel
theorem dX5_order_4 : decode cX5_order 4 = .ok (.istore_n 1, 1) := by decide +kernel
theorem dX5_order_5 : decode cX5_order 5 = .ok (.iload_n 1, 1) := by decide +kernel
theorem dX5_order_6 : decode cX5_order 6 = .ok (.bipush 100, 2) := by decide +kernel
theorem dX5_order_8 : decode cX5_order 8 = .ok (.if_icmp .eq 32, 3) := by decide +kernel
theorem dX5_order_11 : decode cX5_order 11 = .ok (.iload_n 1, 1) := by decide +kernel
theorem dX5_order_12 : decode cX5_order 12 = .ok (.bipush 109, 2) := by decide +kernel
theorem dX5_order_14 : decode cX5_order 14 = .ok (.if_icmp .eq 26, 3) := by decide +kernel
theorem dX5_order_17 : decode cX5_order 17 = .ok (.iload_n 1, 1) := by decide +kernel
theorem dX5_order_18 : decode cX5_order 18 = .ok (.bipush 116, 2) := by decide +kernel
theorem dX5_order_20 : decode cX5_order 20 = .ok (.if_icmp .eq 20, 3) := by decide +kernel
theorem dX5_order_23 : decode cX5_order 23 = .ok (.iload_n 1, 1) := by decide +kernel
theorem dX5_order_24 : decode cX5_order 24 = .ok (.bipush 99, 2) := by decide +kernel
theorem dX5_order_26 : decode cX5_order 26 = .ok (.if_icmp .eq 14, 3) := by decide +kernel
theorem dX5_order_29 : decode cX5_order 29 = .ok (.iload_n 1, 1) := by decide +kernel
theorem dX5_order_30 : decode cX5_order 30 = .ok (.bipush 114, 2) := by decide +kernel
theorem dX5_order_32 : decode cX5_order 32 = .ok (.if_icmp .eq 8, 3) := by decide +kernel
theorem dX5_order_35 : decode cX5_order 35 = .ok (.aload_n 0, 1) := by decide +kernel
theorem dX5_order_36 : decode cX5_order 36 = .ok (.getfield 166, 3) := by decide +kernel
theorem dX5_order_39 : decode cX5_order 39 = .ok (.ireturn, 1) := by decide +kernel
theorem dX5_order_40 : decode cX5_order 40 = .ok (.aload_n 0, 1) := by decide +kernel
theorem dX5_order_41 : decode cX5_order 41 = .ok (.dup, 1) := by decide +kernel
theorem dX5_order_42 : decode cX5_order 42 = .ok (.getfield 166, 3) := by decide +kernel
theorem dX5_order_45 : decode cX5_order 45 = .ok (.iconst 1, 1) := by decide +kernel
theorem dX5_order_46 : decode cX5_order 46 = .ok (.iadd, 1) := by decide +kernel
theorem dX5_order_47 : decode cX5_order 47 = .ok (.putfield 166, 3) := by decide +kernel
theorem dX5_order_50 : decode cX5_order 50 = .ok (.iconst (-1), 1) := by decide +kernel
theorem dX5_order_51 : decode cX5_order 51 = .ok (.istore_n 2, 1) := by decide +kernel
theorem dX5_order_52 : decode cX5_order 52 = .ok (.iload_n 1, 1) := by decide +kernel
theorem dX5_order_53 : decode cX5_order 53 = .ok (.bipush 100, 2) := by decide +kernel
theorem dX5_order_55 : decode cX5_order 55 = .ok (.if_icmp .ne 16, 3) := by decide +kernel
theorem dX5_order_58 : decode cX5_order 58 = .ok (.aload_n 0, 1) := by decide +kernel
theorem dX5_order_59 : decode cX5_order 59 = .ok (.iconst 4, 1) := by decide +kernel
theorem dX5_order_60 : decode cX5_order 60 = .ok (.iconst 0, 1) := by decide +kernel
theorem dX5_order_61 : decode cX5_order 61 = .ok (.sipush 3000, 3) := by decide +kernel
theorem dX5_order_64 : decode cX5_order 64 = .ok (.invokevirtual 175, 3) := by decide +kernel
theorem dX5_order_67 : decode cX5_order 67 = .ok (.istore_n 2, 1) := by decide +kernel
theorem dX5_order_68 : decode cX5_order 68 = .ok (.goto 81, 3) := by decide +kernel
theorem dX5_order_71 : decode cX5_order 71 = .ok (.iload_n 1, 1) := by decide +kernel
theorem dX5_order_72 : decode cX5_order 72 = .ok (.bipush 109, 2) := by decide +kernel
theorem dX5_order_74 : decode cX5_order 74 = .ok (.if_icmp .ne 16, 3) := by decide +kernel
theorem dX5_order_77 : decode cX5_order 77 = .ok (.aload_n 0, 1) := by decide +kernel
theorem dX5_order_78 : decode cX5_order 78 = .ok (.iconst 3, 1) := by decide +kernel
theorem dX5_order_79 : decode cX5_order 79 = .ok (.iconst 1, 1) := by decide +kernel
theorem dX5_order_80 : decode cX5_order 80 = .ok (.sipush 600, 3) := by decide +kernel
theorem dX5_order_83 : decode cX5_order 83 = .ok (.invokevirtual 175, 3) := by decide +kernel
theorem dX5_order_86 : decode cX5_order 86 = .ok (.istore_n 2, 1) := by decide +kernel
theorem dX5_order_87 : decode cX5_order 87 = .ok (.goto 62, 3) := by decide +kernel
theorem dX5_order_90 : decode cX5_order 90 = .ok (.iload_n 1, 1) := by decide +kernel
theorem dX5_order_91 : decode cX5_order 91 = .ok (.bipush 114, 2) := by decide +kernel
theorem dX5_order_93 : decode cX5_order 93 = .ok (.if_icmp .eq 56, 3) := by decide +kernel
theorem dX5_order_96 : decode cX5_order 96 = .ok (.aload_n 0, 1) := by decide +kernel
theorem dX5_order_97 : decode cX5_order 97 = .ok (.invokevirtual 172, 3) := by decide +kernel
theorem dX5_order_100 : decode cX5_order 100 = .ok (.bipush 48, 2) := by decide +kernel
theorem dX5_order_102 : decode cX5_order 102 = .ok (.bipush 52, 2) := by decide +kernel
theorem dX5_order_104 : decode cX5_order 104 = .ok (.invokestatic 48, 3) := by decide +kernel
theorem dX5_order_107 : decode cX5_order 107 = .ok (.ifCond .eq 7, 3) := by decide +kernel
theorem dX5_order_110 : decode cX5_order 110 = .ok (.iconst (-1), 1) := by decide +kernel
theorem dX5_order_111 : decode cX5_order 111 = .ok (.goto 7, 3) := by decide +kernel
theorem dX5_order_114 : decode cX5_order 114 = .ok (.aload_n 0, 1) := by decide +kernel
theorem dX5_order_115 : decode cX5_order 115 = .ok (.getfield 166, 3) := by decide +kernel
theorem dX5_order_118 : decode cX5_order 118 = .ok (.istore_n 2, 1) := by decide +kernel
theorem dX5_order_119 : decode cX5_order 119 = .ok (.aload_n 0, 1) := by decide +kernel
theorem dX5_order_120 : decode cX5_order 120 = .ok (.aload_n 0, 1) := by decide +kernel
theorem dX5_order_121 : decode cX5_order 121 = .ok (.invokevirtual 172, 3) := by decide +kernel
theorem dX5_order_124 : decode cX5_order 124 = .ok (.bipush 48, 2) := by decide +kernel
theorem dX5_order_126 : decode cX5_order 126 = .ok (.isub, 1) := by decide +kernel
theorem dX5_order_127 : decode cX5_order 127 = .ok (.putfield 169, 3) := by decide +kernel
theorem dX5_order_130 : decode cX5_order 130 = .ok (.aload_n 0, 1) := by decide +kernel
theorem dX5_order_131 : decode cX5_order 131 = .ok (.dup, 1) := by decide +kernel
theorem dX5_order_132 : decode cX5_order 132 = .ok (.getfield 166, 3) := by decide +kernel
theorem dX5_order_135 : decode cX5_order 135 = .ok (.iload_n 2, 1) := by decide +kernel
theorem dX5_order_136 : decode cX5_order 136 = .ok (.iconst (-1), 1) := by decide +kernel
theorem dX5_order_137 : decode cX5_order 137 = .ok (.if_icmp .ne 7, 3) := by decide +kernel
theorem dX5_order_140 : decode cX5_order 140 = .ok (.iconst 1, 1) := by decide +kernel
theorem dX5_order_141 : decode cX5_order 141 = .ok (.goto 4, 3) := by decide +kernel
theorem dX5_order_144 : decode cX5_order 144 = .ok (.iconst 0, 1) := by decide +kernel
theorem dX5_order_145 : decode cX5_order 145 = .ok (.iadd, 1) := by decide +kernel
theorem dX5_order_146 : decode cX5_order 146 = .ok (.putfield 166, 3) := by decide +kernel
theorem dX5_order_149 : decode cX5_order 149 = .ok (.iload_n 2, 1) := by decide +kernel
theorem dX5_order_150 : decode cX5_order 150 = .ok (.iconst (-1), 1) := by decide +kernel
theorem dX5_order_151 : decode cX5_order 151 = .ok (.if_icmp .ne 12, 3) := by decide +kernel
theorem dX5_order_154 : decode cX5_order 154 = .ok (.aload_n 0, 1) := by decide +kernel
theorem dX5_order_155 : decode cX5_order 155 = .ok (.invokevirtual 172, 3) := by decide +kernel
theorem dX5_order_158 : decode cX5_order 158 = .ok (.bipush 59, 2) := by decide +kernel
theorem dX5_order_160 : decode cX5_order 160 = .ok (.if_icmp .eq 17, 3) := by decide +kernel
theorem dX5_order_163 : decode cX5_order 163 = .ok (.iload_n 2, 1) := by decide +kernel
theorem dX5_order_164 : decode cX5_order 164 = .ok (.iconst (-1), 1) := by decide +kernel
theorem dX5_order_165 : decode cX5_order 165 = .ok (.if_icmp .ne 10, 3) := by decide +kernel
theorem dX5_order_168 : decode cX5_order 168 = .ok (.aload_n 0, 1) := by decide +kernel
theorem dX5_order_169 : decode cX5_order 169 = .ok (.getfield 166, 3) := by decide +kernel
theorem dX5_order_172 : decode cX5_order 172 = .ok (.goto 4, 3) := by decide +kernel
theorem dX5_order_175 : decode cX5_order 175 = .ok (.iload_n 2, 1) := by decide +kernel
theorem dX5_order_176 : decode cX5_order 176 = .ok (.ireturn, 1) := by decide +kernel
theorem dX5_order_177 : decode cX5_order 177 = .ok (.aload_n 0, 1) := by decide +kernel
theorem dX5_order_178 : decode cX5_order 178 = .ok (.dup, 1) := by decide +kernel
theorem dX5_order_179 : decode cX5_order 179 = .ok (.getfield 166, 3) := by decide +kernel
theorem dX5_order_182 : decode cX5_order 182 = .ok (.iconst 1, 1) := by decide +kernel
theorem dX5_order_183 : decode cX5_order 183 = .ok (.iadd, 1) := by decide +kernel
theorem dX5_order_184 : decode cX5_order 184 = .ok (.putfield 166, 3) := by decide +kernel
theorem dX5_order_187 : decode cX5_order 187 = .ok (.iconst (-1), 1) := by decide +kernel
theorem dX5_order_188 : decode cX5_order 188 = .ok (.ireturn, 1) := by decide +kernel
theorem dX5_obeys_0 : decode cX5_obeys 0 = .ok (.aload_n 0, 1) := by decide +kernel
theorem dX5_obeys_1 : decode cX5_obeys 1 = .ok (.iconst 0, 1) := by decide +kernel
theorem dX5_obeys_2 : decode cX5_obeys 2 = .ok (.putfield 117, 3) := by decide +kernel
theorem dX5_obeys_5 : decode cX5_obeys 5 = .ok (.iload_n 1, 1) := by decide +kernel
theorem dX5_obeys_6 : decode cX5_obeys 6 = .ok (.lookupswitch 82 #[(99, 73), (100, 42), (109, 55), (116, 64)], 42) := by decide +kernel
theorem dX5_obeys_48 : decode cX5_obeys 48 = .ok (.aload_n 0, 1) := by decide +kernel
theorem dX5_obeys_49 : decode cX5_obeys 49 = .ok (.getfield 7, 3) := by decide +kernel
theorem dX5_obeys_52 : decode cX5_obeys 52 = .ok (.bipush 8, 2) := by decide +kernel
theorem dX5_obeys_54 : decode cX5_obeys 54 = .ok (.aload_n 0, 1) := by decide +kernel
theorem dX5_obeys_55 : decode cX5_obeys 55 = .ok (.getfield 169, 3) := by decide +kernel
theorem dX5_obeys_58 : decode cX5_obeys 58 = .ok (.iastore, 1) := by decide +kernel
theorem dX5_obeys_59 : decode cX5_obeys 59 = .ok (.iconst 0, 1) := by decide +kernel
theorem dX5_obeys_60 : decode cX5_obeys 60 = .ok (.ireturn, 1) := by decide +kernel
theorem dX5_obeys_61 : decode cX5_obeys 61 = .ok (.aload_n 0, 1) := by decide +kernel
theorem dX5_obeys_62 : decode cX5_obeys 62 = .ok (.aload_n 0, 1) := by decide +kernel
theorem dX5_obeys_63 : decode cX5_obeys 63 = .ok (.getfield 169, 3) := by decide +kernel
theorem dX5_obeys_66 : decode cX5_obeys 66 = .ok (.invokevirtual 134, 3) := by decide +kernel
theorem dX5_obeys_69 : decode cX5_obeys 69 = .ok (.ireturn, 1) := by decide +kernel
theorem dX5_obeys_70 : decode cX5_obeys 70 = .ok (.aload_n 0, 1) := by decide +kernel
theorem dX5_obeys_71 : decode cX5_obeys 71 = .ok (.aload_n 0, 1) := by decide +kernel
theorem dX5_obeys_72 : decode cX5_obeys 72 = .ok (.getfield 169, 3) := by decide +kernel
theorem dX5_obeys_75 : decode cX5_obeys 75 = .ok (.invokevirtual 125, 3) := by decide +kernel
theorem dX5_obeys_78 : decode cX5_obeys 78 = .ok (.ireturn, 1) := by decide +kernel
theorem dX5_obeys_79 : decode cX5_obeys 79 = .ok (.aload_n 0, 1) := by decide +kernel
theorem dX5_obeys_80 : decode cX5_obeys 80 = .ok (.aload_n 0, 1) := by decide +kernel
theorem dX5_obeys_81 : decode cX5_obeys 81 = .ok (.getfield 169, 3) := by decide +kernel
theorem dX5_obeys_84 : decode cX5_obeys 84 = .ok (.invokevirtual 131, 3) := by decide +kernel
theorem dX5_obeys_87 : decode cX5_obeys 87 = .ok (.ireturn, 1) := by decide +kernel
theorem dX5_obeys_88 : decode cX5_obeys 88 = .ok (.aload_n 0, 1) := by decide +kernel
theorem dX5_obeys_89 : decode cX5_obeys 89 = .ok (.aload_n 0, 1) := by decide +kernel
theorem dX5_obeys_90 : decode cX5_obeys 90 = .ok (.invokevirtual 80, 3) := by decide +kernel
theorem dX5_obeys_93 : decode cX5_obeys 93 = .ok (.putfield 117, 3) := by decide +kernel
theorem dX5_obeys_96 : decode cX5_obeys 96 = .ok (.iconst 0, 1) := by decide +kernel
theorem dX5_obeys_97 : decode cX5_obeys 97 = .ok (.ireturn, 1) := by decide +kernel
theorem dX5_carryOut_0 : decode cX5_carryOut 0 = .ok (.aload_n 0, 1) := by decide +kernel
theorem dX5_carryOut_1 : decode cX5_carryOut 1 = .ok (.iconst 0, 1) := by decide +kernel
theorem dX5_carryOut_2 : decode cX5_carryOut 2 = .ok (.putfield 166, 3) := by decide +kernel
theorem dX5_carryOut_5 : decode cX5_carryOut 5 = .ok (.aload_n 0, 1) := by decide +kernel
theorem dX5_carryOut_6 : decode cX5_carryOut 6 = .ok (.getfield 166, 3) := by decide +kernel
theorem dX5_carryOut_9 : decode cX5_carryOut 9 = .ok (.aload_n 0, 1) := by decide +kernel
theorem dX5_carryOut_10 : decode cX5_carryOut 10 = .ok (.getfield 163, 3) := by decide +kernel
theorem dX5_carryOut_13 : decode cX5_carryOut 13 = .ok (.if_icmp .ge 25, 3) := by decide +kernel
theorem dX5_carryOut_16 : decode cX5_carryOut 16 = .ok (.aload_n 0, 1) := by decide +kernel
theorem dX5_carryOut_17 : decode cX5_carryOut 17 = .ok (.invokevirtual 179, 3) := by decide +kernel
theorem dX5_carryOut_20 : decode cX5_carryOut 20 = .ok (.istore_n 1, 1) := by decide +kernel
theorem dX5_carryOut_21 : decode cX5_carryOut 21 = .ok (.iload_n 1, 1) := by decide +kernel
theorem dX5_carryOut_22 : decode cX5_carryOut 22 = .ok (.iconst (-1), 1) := by decide +kernel
theorem dX5_carryOut_23 : decode cX5_carryOut 23 = .ok (.if_icmp .eq 12, 3) := by decide +kernel
theorem dX5_carryOut_26 : decode cX5_carryOut 26 = .ok (.aload_n 0, 1) := by decide +kernel
theorem dX5_carryOut_27 : decode cX5_carryOut 27 = .ok (.bipush (-10), 2) := by decide +kernel
theorem dX5_carryOut_29 : decode cX5_carryOut 29 = .ok (.iload_n 1, 1) := by decide +kernel
theorem dX5_carryOut_30 : decode cX5_carryOut 30 = .ok (.isub, 1) := by decide +kernel
theorem dX5_carryOut_31 : decode cX5_carryOut 31 = .ok (.invokevirtual 104, 3) := by decide +kernel
theorem dX5_carryOut_34 : decode cX5_carryOut 34 = .ok (.ireturn, 1) := by decide +kernel
theorem dX5_carryOut_35 : decode cX5_carryOut 35 = .ok (.goto (-30), 3) := by decide +kernel
theorem dX5_carryOut_38 : decode cX5_carryOut 38 = .ok (.aload_n 0, 1) := by decide +kernel
theorem dX5_carryOut_39 : decode cX5_carryOut 39 = .ok (.invokevirtual 98, 3) := by decide +kernel
theorem dX5_carryOut_42 : decode cX5_carryOut 42 = .ok (.iconst 0, 1) := by decide +kernel
theorem dX5_carryOut_43 : decode cX5_carryOut 43 = .ok (.istore_n 1, 1) := by decide +kernel
theorem dX5_carryOut_44 : decode cX5_carryOut 44 = .ok (.iconst 1, 1) := by decide +kernel
theorem dX5_carryOut_45 : decode cX5_carryOut 45 = .ok (.istore_n 2, 1) := by decide +kernel
theorem dX5_carryOut_46 : decode cX5_carryOut 46 = .ok (.aload_n 0, 1) := by decide +kernel
theorem dX5_carryOut_47 : decode cX5_carryOut 47 = .ok (.iconst 0, 1) := by decide +kernel
theorem dX5_carryOut_48 : decode cX5_carryOut 48 = .ok (.putfield 166, 3) := by decide +kernel
theorem dX5_carryOut_51 : decode cX5_carryOut 51 = .ok (.iload_n 2, 1) := by decide +kernel
theorem dX5_carryOut_52 : decode cX5_carryOut 52 = .ok (.ifCond .eq 56, 3) := by decide +kernel
theorem dX5_carryOut_55 : decode cX5_carryOut 55 = .ok (.aload_n 0, 1) := by decide +kernel
theorem dX5_carryOut_56 : decode cX5_carryOut 56 = .ok (.getfield 166, 3) := by decide +kernel
theorem dX5_carryOut_59 : decode cX5_carryOut 59 = .ok (.aload_n 0, 1) := by decide +kernel
theorem dX5_carryOut_60 : decode cX5_carryOut 60 = .ok (.getfield 163, 3) := by decide +kernel
theorem dX5_carryOut_63 : decode cX5_carryOut 63 = .ok (.if_icmp .ge 45, 3) := by decide +kernel
theorem dX5_carryOut_66 : decode cX5_carryOut 66 = .ok (.aload_n 0, 1) := by decide +kernel
theorem dX5_carryOut_67 : decode cX5_carryOut 67 = .ok (.invokevirtual 172, 3) := by decide +kernel
theorem dX5_carryOut_70 : decode cX5_carryOut 70 = .ok (.istore_n 3, 1) := by decide +kernel
theorem dX5_carryOut_71 : decode cX5_carryOut 71 = .ok (.aload_n 0, 1) := by decide +kernel
theorem dX5_carryOut_72 : decode cX5_carryOut 72 = .ok (.invokevirtual 179, 3) := by decide +kernel
theorem dX5_carryOut_75 : decode cX5_carryOut 75 = .ok (.iconst (-1), 1) := by decide +kernel
theorem dX5_carryOut_76 : decode cX5_carryOut 76 = .ok (.if_icmp .ne 15, 3) := by decide +kernel
theorem dX5_carryOut_79 : decode cX5_carryOut 79 = .ok (.aload_n 0, 1) := by decide +kernel
theorem dX5_carryOut_80 : decode cX5_carryOut 80 = .ok (.iload_n 3, 1) := by decide +kernel
theorem dX5_carryOut_81 : decode cX5_carryOut 81 = .ok (.invokevirtual 182, 3) := by decide +kernel
theorem dX5_carryOut_84 : decode cX5_carryOut 84 = .ok (.ifCond .ne 7, 3) := by decide +kernel
theorem dX5_carryOut_87 : decode cX5_carryOut 87 = .ok (.iconst 1, 1) := by decide +kernel
theorem dX5_carryOut_88 : decode cX5_carryOut 88 = .ok (.goto 4, 3) := by decide +kernel
theorem dX5_carryOut_91 : decode cX5_carryOut 91 = .ok (.iconst 0, 1) := by decide +kernel
theorem dX5_carryOut_92 : decode cX5_carryOut 92 = .ok (.istore_n 2, 1) := by decide +kernel
theorem dX5_carryOut_93 : decode cX5_carryOut 93 = .ok (.iload_n 1, 1) := by decide +kernel
theorem dX5_carryOut_94 : decode cX5_carryOut 94 = .ok (.iload_n 2, 1) := by decide +kernel
theorem dX5_carryOut_95 : decode cX5_carryOut 95 = .ok (.ifCond .eq 7, 3) := by decide +kernel
theorem dX5_carryOut_98 : decode cX5_carryOut 98 = .ok (.iconst 1, 1) := by decide +kernel
theorem dX5_carryOut_99 : decode cX5_carryOut 99 = .ok (.goto 4, 3) := by decide +kernel
theorem dX5_carryOut_102 : decode cX5_carryOut 102 = .ok (.iconst 0, 1) := by decide +kernel
theorem dX5_carryOut_103 : decode cX5_carryOut 103 = .ok (.iadd, 1) := by decide +kernel
theorem dX5_carryOut_104 : decode cX5_carryOut 104 = .ok (.istore_n 1, 1) := by decide +kernel
theorem dX5_carryOut_105 : decode cX5_carryOut 105 = .ok (.goto (-54), 3) := by decide +kernel
theorem dX5_carryOut_108 : decode cX5_carryOut 108 = .ok (.aload_n 0, 1) := by decide +kernel
theorem dX5_carryOut_109 : decode cX5_carryOut 109 = .ok (.invokevirtual 101, 3) := by decide +kernel
theorem dX5_carryOut_112 : decode cX5_carryOut 112 = .ok (.aload_n 0, 1) := by decide +kernel
theorem dX5_carryOut_113 : decode cX5_carryOut 113 = .ok (.iload_n 1, 1) := by decide +kernel
theorem dX5_carryOut_114 : decode cX5_carryOut 114 = .ok (.invokevirtual 104, 3) := by decide +kernel
theorem dX5_carryOut_117 : decode cX5_carryOut 117 = .ok (.ireturn, 1) := by decide +kernel
theorem dX5_undo_0 : decode cX5_undo 0 = .ok (.aload_n 0, 1) := by decide +kernel
theorem dX5_undo_1 : decode cX5_undo 1 = .ok (.getfield 45, 3) := by decide +kernel
theorem dX5_undo_4 : decode cX5_undo 4 = .ok (.ifCond .ne 9, 3) := by decide +kernel
theorem dX5_undo_7 : decode cX5_undo 7 = .ok (.aload_n 0, 1) := by decide +kernel
theorem dX5_undo_8 : decode cX5_undo 8 = .ok (.iconst 1, 1) := by decide +kernel
theorem dX5_undo_9 : decode cX5_undo 9 = .ok (.invokevirtual 95, 3) := by decide +kernel
theorem dX5_undo_12 : decode cX5_undo 12 = .ok (.ireturn, 1) := by decide +kernel
theorem dX5_undo_13 : decode cX5_undo 13 = .ok (.aload_n 0, 1) := by decide +kernel
theorem dX5_undo_14 : decode cX5_undo 14 = .ok (.dup, 1) := by decide +kernel
theorem dX5_undo_15 : decode cX5_undo 15 = .ok (.getfield 45, 3) := by decide +kernel
theorem dX5_undo_18 : decode cX5_undo 18 = .ok (.iconst 1, 1) := by decide +kernel
theorem dX5_undo_19 : decode cX5_undo 19 = .ok (.isub, 1) := by decide +kernel
theorem dX5_undo_20 : decode cX5_undo 20 = .ok (.putfield 45, 3) := by decide +kernel
theorem dX5_undo_23 : decode cX5_undo 23 = .ok (.iconst 0, 1) := by decide +kernel
theorem dX5_undo_24 : decode cX5_undo 24 = .ok (.istore_n 1, 1) := by decide +kernel
theorem dX5_undo_25 : decode cX5_undo 25 = .ok (.iload_n 1, 1) := by decide +kernel
theorem dX5_undo_26 : decode cX5_undo 26 = .ok (.bipush 61, 2) := by decide +kernel
theorem dX5_undo_28 : decode cX5_undo 28 = .ok (.if_icmp .ge 29, 3) := by decide +kernel
theorem dX5_undo_31 : decode cX5_undo 31 = .ok (.aload_n 0, 1) := by decide +kernel
theorem dX5_undo_32 : decode cX5_undo 32 = .ok (.getfield 7, 3) := by decide +kernel
theorem dX5_undo_35 : decode cX5_undo 35 = .ok (.iload_n 1, 1) := by decide +kernel
theorem dX5_undo_36 : decode cX5_undo 36 = .ok (.aload_n 0, 1) := by decide +kernel
theorem dX5_undo_37 : decode cX5_undo 37 = .ok (.getfield 17, 3) := by decide +kernel
theorem dX5_undo_40 : decode cX5_undo 40 = .ok (.bipush 61, 2) := by decide +kernel
theorem dX5_undo_42 : decode cX5_undo 42 = .ok (.aload_n 0, 1) := by decide +kernel
theorem dX5_undo_43 : decode cX5_undo 43 = .ok (.getfield 45, 3) := by decide +kernel
theorem dX5_undo_46 : decode cX5_undo 46 = .ok (.imul, 1) := by decide +kernel
theorem dX5_undo_47 : decode cX5_undo 47 = .ok (.iload_n 1, 1) := by decide +kernel
theorem dX5_undo_48 : decode cX5_undo 48 = .ok (.iadd, 1) := by decide +kernel
theorem dX5_undo_49 : decode cX5_undo 49 = .ok (.iaload, 1) := by decide +kernel
theorem dX5_undo_50 : decode cX5_undo 50 = .ok (.iastore, 1) := by decide +kernel
theorem dX5_undo_51 : decode cX5_undo 51 = .ok (.iinc 1 1, 3) := by decide +kernel
theorem dX5_undo_54 : decode cX5_undo 54 = .ok (.goto (-29), 3) := by decide +kernel
theorem dX5_undo_57 : decode cX5_undo 57 = .ok (.iconst 0, 1) := by decide +kernel
theorem dX5_undo_58 : decode cX5_undo 58 = .ok (.istore_n 1, 1) := by decide +kernel
theorem dX5_undo_59 : decode cX5_undo 59 = .ok (.iload_n 1, 1) := by decide +kernel
theorem dX5_undo_60 : decode cX5_undo 60 = .ok (.bipush 6, 2) := by decide +kernel
theorem dX5_undo_62 : decode cX5_undo 62 = .ok (.if_icmp .ge 29, 3) := by decide +kernel
theorem dX5_undo_65 : decode cX5_undo 65 = .ok (.aload_n 0, 1) := by decide +kernel
theorem dX5_undo_66 : decode cX5_undo 66 = .ok (.getfield 13, 3) := by decide +kernel
theorem dX5_undo_69 : decode cX5_undo 69 = .ok (.iload_n 1, 1) := by decide +kernel
theorem dX5_undo_70 : decode cX5_undo 70 = .ok (.aload_n 0, 1) := by decide +kernel
theorem dX5_undo_71 : decode cX5_undo 71 = .ok (.getfield 20, 3) := by decide +kernel
theorem dX5_undo_74 : decode cX5_undo 74 = .ok (.bipush 6, 2) := by decide +kernel
theorem dX5_undo_76 : decode cX5_undo 76 = .ok (.aload_n 0, 1) := by decide +kernel
theorem dX5_undo_77 : decode cX5_undo 77 = .ok (.getfield 45, 3) := by decide +kernel
theorem dX5_undo_80 : decode cX5_undo 80 = .ok (.imul, 1) := by decide +kernel
theorem dX5_undo_81 : decode cX5_undo 81 = .ok (.iload_n 1, 1) := by decide +kernel
theorem dX5_undo_82 : decode cX5_undo 82 = .ok (.iadd, 1) := by decide +kernel
theorem dX5_undo_83 : decode cX5_undo 83 = .ok (.laload, 1) := by decide +kernel
theorem dX5_undo_84 : decode cX5_undo 84 = .ok (.lastore, 1) := by decide +kernel
theorem dX5_undo_85 : decode cX5_undo 85 = .ok (.iinc 1 1, 3) := by decide +kernel
theorem dX5_undo_88 : decode cX5_undo 88 = .ok (.goto (-29), 3) := by decide +kernel
theorem dX5_undo_91 : decode cX5_undo 91 = .ok (.aload_n 0, 1) := by decide +kernel
theorem dX5_undo_92 : decode cX5_undo 92 = .ok (.aload_n 0, 1) := by decide +kernel
theorem dX5_undo_93 : decode cX5_undo 93 = .ok (.getfield 45, 3) := by decide +kernel
theorem dX5_undo_96 : decode cX5_undo 96 = .ok (.invokevirtual 104, 3) := by decide +kernel
theorem dX5_undo_99 : decode cX5_undo 99 = .ok (.ireturn, 1) := by decide +kernel
theorem dX5_digest_0 : decode cX5_digest 0 = .ok (.aload_n 0, 1) := by decide +kernel
theorem dX5_digest_1 : decode cX5_digest 1 = .ok (.iconst 0, 1) := by decide +kernel
theorem dX5_digest_2 : decode cX5_digest 2 = .ok (.putfield 41, 3) := by decide +kernel
theorem dX5_digest_5 : decode cX5_digest 5 = .ok (.ldc2_w 185, 3) := by decide +kernel
theorem dX5_digest_8 : decode cX5_digest 8 = .ok (.aload_n 0, 1) := by decide +kernel
theorem dX5_digest_9 : decode cX5_digest 9 = .ok (.getfield 163, 3) := by decide +kernel
theorem dX5_digest_12 : decode cX5_digest 12 = .ok (.i2l, 1) := by decide +kernel
theorem dX5_digest_13 : decode cX5_digest 13 = .ok (.ladd, 1) := by decide +kernel
theorem dX5_digest_14 : decode cX5_digest 14 = .ok (.lstore_n 1, 1) := by decide +kernel
theorem dX5_digest_15 : decode cX5_digest 15 = .ok (.iconst 0, 1) := by decide +kernel
theorem dX5_digest_16 : decode cX5_digest 16 = .ok (.istore_n 3, 1) := by decide +kernel
theorem dX5_digest_17 : decode cX5_digest 17 = .ok (.iload_n 3, 1) := by decide +kernel
theorem dX5_digest_18 : decode cX5_digest 18 = .ok (.bipush 12, 2) := by decide +kernel
theorem dX5_digest_20 : decode cX5_digest 20 = .ok (.if_icmp .ge 22, 3) := by decide +kernel
theorem dX5_digest_23 : decode cX5_digest 23 = .ok (.ldc2_w 187, 3) := by decide +kernel
theorem dX5_digest_26 : decode cX5_digest 26 = .ok (.lload_n 1, 1) := by decide +kernel
theorem dX5_digest_27 : decode cX5_digest 27 = .ok (.lmul, 1) := by decide +kernel
theorem dX5_digest_28 : decode cX5_digest 28 = .ok (.aload_n 0, 1) := by decide +kernel
theorem dX5_digest_29 : decode cX5_digest 29 = .ok (.iload_n 3, 1) := by decide +kernel
theorem dX5_digest_30 : decode cX5_digest 30 = .ok (.invokevirtual 147, 3) := by decide +kernel
theorem dX5_digest_33 : decode cX5_digest 33 = .ok (.i2l, 1) := by decide +kernel
theorem dX5_digest_34 : decode cX5_digest 34 = .ok (.ladd, 1) := by decide +kernel
theorem dX5_digest_35 : decode cX5_digest 35 = .ok (.lstore_n 1, 1) := by decide +kernel
theorem dX5_digest_36 : decode cX5_digest 36 = .ok (.iinc 3 1, 3) := by decide +kernel
theorem dX5_digest_39 : decode cX5_digest 39 = .ok (.goto (-22), 3) := by decide +kernel
theorem dX5_digest_42 : decode cX5_digest 42 = .ok (.iconst 0, 1) := by decide +kernel
theorem dX5_digest_43 : decode cX5_digest 43 = .ok (.istore_n 3, 1) := by decide +kernel
theorem dX5_digest_44 : decode cX5_digest 44 = .ok (.iload_n 3, 1) := by decide +kernel
theorem dX5_digest_45 : decode cX5_digest 45 = .ok (.bipush 8, 2) := by decide +kernel
theorem dX5_digest_47 : decode cX5_digest 47 = .ok (.if_icmp .ge 25, 3) := by decide +kernel
theorem dX5_digest_50 : decode cX5_digest 50 = .ok (.ldc2_w 187, 3) := by decide +kernel
theorem dX5_digest_53 : decode cX5_digest 53 = .ok (.lload_n 1, 1) := by decide +kernel
theorem dX5_digest_54 : decode cX5_digest 54 = .ok (.lmul, 1) := by decide +kernel
theorem dX5_digest_55 : decode cX5_digest 55 = .ok (.aload_n 0, 1) := by decide +kernel
theorem dX5_digest_56 : decode cX5_digest 56 = .ok (.getfield 7, 3) := by decide +kernel
theorem dX5_digest_59 : decode cX5_digest 59 = .ok (.iconst 2, 1) := by decide +kernel
theorem dX5_digest_60 : decode cX5_digest 60 = .ok (.iload_n 3, 1) := by decide +kernel
theorem dX5_digest_61 : decode cX5_digest 61 = .ok (.iadd, 1) := by decide +kernel
theorem dX5_digest_62 : decode cX5_digest 62 = .ok (.iaload, 1) := by decide +kernel
theorem dX5_digest_63 : decode cX5_digest 63 = .ok (.i2l, 1) := by decide +kernel
theorem dX5_digest_64 : decode cX5_digest 64 = .ok (.ladd, 1) := by decide +kernel
theorem dX5_digest_65 : decode cX5_digest 65 = .ok (.lstore_n 1, 1) := by decide +kernel
theorem dX5_digest_66 : decode cX5_digest 66 = .ok (.iinc 3 1, 3) := by decide +kernel
theorem dX5_digest_69 : decode cX5_digest 69 = .ok (.goto (-25), 3) := by decide +kernel
theorem dX5_digest_72 : decode cX5_digest 72 = .ok (.iconst 0, 1) := by decide +kernel
theorem dX5_digest_73 : decode cX5_digest 73 = .ok (.istore_n 3, 1) := by decide +kernel
theorem dX5_digest_74 : decode cX5_digest 74 = .ok (.iload_n 3, 1) := by decide +kernel
theorem dX5_digest_75 : decode cX5_digest 75 = .ok (.bipush 6, 2) := by decide +kernel
theorem dX5_digest_77 : decode cX5_digest 77 = .ok (.if_icmp .ge 22, 3) := by decide +kernel
theorem dX5_digest_80 : decode cX5_digest 80 = .ok (.ldc2_w 187, 3) := by decide +kernel
theorem dX5_digest_83 : decode cX5_digest 83 = .ok (.lload_n 1, 1) := by decide +kernel
theorem dX5_digest_84 : decode cX5_digest 84 = .ok (.lmul, 1) := by decide +kernel
theorem dX5_digest_85 : decode cX5_digest 85 = .ok (.aload_n 0, 1) := by decide +kernel
theorem dX5_digest_86 : decode cX5_digest 86 = .ok (.getfield 13, 3) := by decide +kernel
theorem dX5_digest_89 : decode cX5_digest 89 = .ok (.iload_n 3, 1) := by decide +kernel
theorem dX5_digest_90 : decode cX5_digest 90 = .ok (.laload, 1) := by decide +kernel
theorem dX5_digest_91 : decode cX5_digest 91 = .ok (.ladd, 1) := by decide +kernel
theorem dX5_digest_92 : decode cX5_digest 92 = .ok (.lstore_n 1, 1) := by decide +kernel
theorem dX5_digest_93 : decode cX5_digest 93 = .ok (.iinc 3 1, 3) := by decide +kernel
theorem dX5_digest_96 : decode cX5_digest 96 = .ok (.goto (-22), 3) := by decide +kernel
theorem dX5_digest_99 : decode cX5_digest 99 = .ok (.iconst 0, 1) := by decide +kernel
theorem dX5_digest_100 : decode cX5_digest 100 = .ok (.istore_n 3, 1) := by decide +kernel
theorem dX5_digest_101 : decode cX5_digest 101 = .ok (.iload_n 3, 1) := by decide +kernel
theorem dX5_digest_102 : decode cX5_digest 102 = .ok (.aload_n 0, 1) := by decide +kernel
theorem dX5_digest_103 : decode cX5_digest 103 = .ok (.getfield 7, 3) := by decide +kernel
theorem dX5_digest_106 : decode cX5_digest 106 = .ok (.bipush 10, 2) := by decide +kernel
theorem dX5_digest_108 : decode cX5_digest 108 = .ok (.iaload, 1) := by decide +kernel
theorem dX5_digest_109 : decode cX5_digest 109 = .ok (.if_icmp .ge 57, 3) := by decide +kernel
theorem dX5_digest_112 : decode cX5_digest 112 = .ok (.iconst 0, 1) := by decide +kernel
theorem dX5_digest_113 : decode cX5_digest 113 = .ok (.istore 4, 2) := by decide +kernel
theorem dX5_digest_115 : decode cX5_digest 115 = .ok (.iload 4, 2) := by decide +kernel
theorem dX5_digest_117 : decode cX5_digest 117 = .ok (.bipush 10, 2) := by decide +kernel
theorem dX5_digest_119 : decode cX5_digest 119 = .ok (.if_icmp .ge 24, 3) := by decide +kernel
theorem dX5_digest_122 : decode cX5_digest 122 = .ok (.ldc2_w 187, 3) := by decide +kernel
theorem dX5_digest_125 : decode cX5_digest 125 = .ok (.lload_n 1, 1) := by decide +kernel
theorem dX5_digest_126 : decode cX5_digest 126 = .ok (.lmul, 1) := by decide +kernel
theorem dX5_digest_127 : decode cX5_digest 127 = .ok (.aload_n 0, 1) := by decide +kernel
theorem dX5_digest_128 : decode cX5_digest 128 = .ok (.iload_n 3, 1) := by decide +kernel
theorem dX5_digest_129 : decode cX5_digest 129 = .ok (.iload 4, 2) := by decide +kernel
theorem dX5_digest_131 : decode cX5_digest 131 = .ok (.invokevirtual 137, 3) := by decide +kernel
theorem dX5_digest_134 : decode cX5_digest 134 = .ok (.i2l, 1) := by decide +kernel
theorem dX5_digest_135 : decode cX5_digest 135 = .ok (.ladd, 1) := by decide +kernel
theorem dX5_digest_136 : decode cX5_digest 136 = .ok (.lstore_n 1, 1) := by decide +kernel
theorem dX5_digest_137 : decode cX5_digest 137 = .ok (.iinc 4 1, 3) := by decide +kernel
theorem dX5_digest_140 : decode cX5_digest 140 = .ok (.goto (-25), 3) := by decide +kernel
theorem dX5_digest_143 : decode cX5_digest 143 = .ok (.ldc2_w 187, 3) := by decide +kernel
theorem dX5_digest_146 : decode cX5_digest 146 = .ok (.lload_n 1, 1) := by decide +kernel
theorem dX5_digest_147 : decode cX5_digest 147 = .ok (.lmul, 1) := by decide +kernel
theorem dX5_digest_148 : decode cX5_digest 148 = .ok (.aload_n 0, 1) := by decide +kernel
theorem dX5_digest_149 : decode cX5_digest 149 = .ok (.iload_n 3, 1) := by decide +kernel
theorem dX5_digest_150 : decode cX5_digest 150 = .ok (.aload_n 0, 1) := by decide +kernel
theorem dX5_digest_151 : decode cX5_digest 151 = .ok (.invokevirtual 84, 3) := by decide +kernel
theorem dX5_digest_154 : decode cX5_digest 154 = .ok (.invokevirtual 69, 3) := by decide +kernel
theorem dX5_digest_157 : decode cX5_digest 157 = .ok (.i2l, 1) := by decide +kernel
theorem dX5_digest_158 : decode cX5_digest 158 = .ok (.ladd, 1) := by decide +kernel
theorem dX5_digest_159 : decode cX5_digest 159 = .ok (.lstore_n 1, 1) := by decide +kernel
theorem dX5_digest_160 : decode cX5_digest 160 = .ok (.iinc 3 1, 3) := by decide +kernel
theorem dX5_digest_163 : decode cX5_digest 163 = .ok (.goto (-62), 3) := by decide +kernel
theorem dX5_digest_166 : decode cX5_digest 166 = .ok (.aload_n 0, 1) := by decide +kernel
theorem dX5_digest_167 : decode cX5_digest 167 = .ok (.getfield 7, 3) := by decide +kernel
theorem dX5_digest_170 : decode cX5_digest 170 = .ok (.bipush 14, 2) := by decide +kernel
theorem dX5_digest_172 : decode cX5_digest 172 = .ok (.iaload, 1) := by decide +kernel
theorem dX5_digest_173 : decode cX5_digest 173 = .ok (.iconst 1, 1) := by decide +kernel
theorem dX5_digest_174 : decode cX5_digest 174 = .ok (.isub, 1) := by decide +kernel
theorem dX5_digest_175 : decode cX5_digest 175 = .ok (.istore_n 3, 1) := by decide +kernel
theorem dX5_digest_176 : decode cX5_digest 176 = .ok (.iload_n 3, 1) := by decide +kernel
theorem dX5_digest_177 : decode cX5_digest 177 = .ok (.ifCond .lt 26, 3) := by decide +kernel
theorem dX5_digest_180 : decode cX5_digest 180 = .ok (.ldc2_w 187, 3) := by decide +kernel
theorem dX5_digest_183 : decode cX5_digest 183 = .ok (.lload_n 1, 1) := by decide +kernel
theorem dX5_digest_184 : decode cX5_digest 184 = .ok (.lmul, 1) := by decide +kernel
theorem dX5_digest_185 : decode cX5_digest 185 = .ok (.aload_n 0, 1) := by decide +kernel
theorem dX5_digest_186 : decode cX5_digest 186 = .ok (.getfield 7, 3) := by decide +kernel
theorem dX5_digest_189 : decode cX5_digest 189 = .ok (.bipush 15, 2) := by decide +kernel
theorem dX5_digest_191 : decode cX5_digest 191 = .ok (.iload_n 3, 1) := by decide +kernel
theorem dX5_digest_192 : decode cX5_digest 192 = .ok (.iadd, 1) := by decide +kernel
theorem dX5_digest_193 : decode cX5_digest 193 = .ok (.iaload, 1) := by decide +kernel
theorem dX5_digest_194 : decode cX5_digest 194 = .ok (.i2l, 1) := by decide +kernel
theorem dX5_digest_195 : decode cX5_digest 195 = .ok (.ladd, 1) := by decide +kernel
theorem dX5_digest_196 : decode cX5_digest 196 = .ok (.lstore_n 1, 1) := by decide +kernel
theorem dX5_digest_197 : decode cX5_digest 197 = .ok (.iinc 3 (-1), 3) := by decide +kernel
theorem dX5_digest_200 : decode cX5_digest 200 = .ok (.goto (-24), 3) := by decide +kernel
theorem dX5_digest_203 : decode cX5_digest 203 = .ok (.ldc2_w 187, 3) := by decide +kernel
theorem dX5_digest_206 : decode cX5_digest 206 = .ok (.lload_n 1, 1) := by decide +kernel
theorem dX5_digest_207 : decode cX5_digest 207 = .ok (.lmul, 1) := by decide +kernel
theorem dX5_digest_208 : decode cX5_digest 208 = .ok (.aload_n 0, 1) := by decide +kernel
theorem dX5_digest_209 : decode cX5_digest 209 = .ok (.getfield 45, 3) := by decide +kernel
theorem dX5_digest_212 : decode cX5_digest 212 = .ok (.i2l, 1) := by decide +kernel
theorem dX5_digest_213 : decode cX5_digest 213 = .ok (.ladd, 1) := by decide +kernel
theorem dX5_digest_214 : decode cX5_digest 214 = .ok (.lreturn, 1) := by decide +kernel
theorem dJ9_max_7cf53_0 : decode cJ9_max_7cf53 0 = .ok (.iload_n 0, 1) := by decide +kernel
theorem dJ9_max_7cf53_1 : decode cJ9_max_7cf53 1 = .ok (.iload_n 1, 1) := by decide +kernel
theorem dJ9_max_7cf53_2 : decode cJ9_max_7cf53 2 = .ok (.if_icmp .lt 7, 3) := by decide +kernel
theorem dJ9_max_7cf53_5 : decode cJ9_max_7cf53 5 = .ok (.iload_n 0, 1) := by decide +kernel
theorem dJ9_max_7cf53_6 : decode cJ9_max_7cf53 6 = .ok (.goto 4, 3) := by decide +kernel
theorem dJ9_max_7cf53_9 : decode cJ9_max_7cf53 9 = .ok (.iload_n 1, 1) := by decide +kernel
theorem dJ9_max_7cf53_10 : decode cJ9_max_7cf53 10 = .ok (.ireturn, 1) := by decide +kernel
theorem dJ9_min_7cf53_0 : decode cJ9_min_7cf53 0 = .ok (.iload_n 0, 1) := by decide +kernel
theorem dJ9_min_7cf53_1 : decode cJ9_min_7cf53 1 = .ok (.iload_n 1, 1) := by decide +kernel
theorem dJ9_min_7cf53_2 : decode cJ9_min_7cf53 2 = .ok (.if_icmp .gt 7, 3) := by decide +kernel
theorem dJ9_min_7cf53_5 : decode cJ9_min_7cf53 5 = .ok (.iload_n 0, 1) := by decide +kernel
theorem dJ9_min_7cf53_6 : decode cJ9_min_7cf53 6 = .ok (.goto 4, 3) := by decide +kernel
theorem dJ9_min_7cf53_9 : decode cJ9_min_7cf53 9 = .ok (.iload_n 1, 1) := by decide +kernel
theorem dJ9_min_7cf53_10 : decode cJ9_min_7cf53 10 = .ok (.ireturn, 1) := by decide +kernel
theorem dL_setVolume_0 : decode cL_setVolume 0 = .ok (.aload_n 2, 1) := by decide +kernel
theorem dL_setVolume_1 : decode cL_setVolume 1 = .ok (.iconst 0, 1) := by decide +kernel
theorem dL_setVolume_2 : decode cL_setVolume 2 = .ok (.aload_n 0, 1) := by decide +kernel
theorem dL_setVolume_3 : decode cL_setVolume 3 = .ok (.iload_n 1, 1) := by decide +kernel
theorem dL_setVolume_4 : decode cL_setVolume 4 = .ok (.invokevirtual 7, 3) := by decide +kernel
theorem dL_setVolume_7 : decode cL_setVolume 7 = .ok (.i2l, 1) := by decide +kernel
theorem dL_setVolume_8 : decode cL_setVolume 8 = .ok (.lastore, 1) := by decide +kernel
theorem dL_setVolume_9 : decode cL_setVolume 9 = .ok (.goto 9, 3) := by decide +kernel
theorem dL_setVolume_12 : decode cL_setVolume 12 = .ok (.astore_n 3, 1) := by decide +kernel
theorem dL_setVolume_13 : decode cL_setVolume 13 = .ok (.iconst 1, 1) := by decide +kernel
theorem dL_setVolume_14 : decode cL_setVolume 14 = .ok (.ireturn, 1) := by decide +kernel
theorem dL_setVolume_15 : decode cL_setVolume 15 = .ok (.astore_n 3, 1) := by decide +kernel
theorem dL_setVolume_16 : decode cL_setVolume 16 = .ok (.iconst 2, 1) := by decide +kernel
theorem dL_setVolume_17 : decode cL_setVolume 17 = .ok (.ireturn, 1) := by decide +kernel
theorem dL_setVolume_18 : decode cL_setVolume 18 = .ok (.iconst 0, 1) := by decide +kernel
theorem dL_setVolume_19 : decode cL_setVolume 19 = .ok (.ireturn, 1) := by decide +kernel
theorem dL_set_0 : decode cL_set 0 = .ok (.aload_n 3, 1) := by decide +kernel
theorem dL_set_1 : decode cL_set 1 = .ok (.iconst 0, 1) := by decide +kernel
theorem dL_set_2 : decode cL_set 2 = .ok (.aload_n 0, 1) := by decide +kernel
theorem dL_set_3 : decode cL_set 3 = .ok (.iload_n 1, 1) := by decide +kernel
theorem dL_set_4 : decode cL_set 4 = .ok (.iload_n 2, 1) := by decide +kernel
theorem dL_set_5 : decode cL_set 5 = .ok (.invokevirtual 17, 3) := by decide +kernel
theorem dL_set_8 : decode cL_set 8 = .ok (.i2l, 1) := by decide +kernel
theorem dL_set_9 : decode cL_set 9 = .ok (.lastore, 1) := by decide +kernel
theorem dL_set_10 : decode cL_set 10 = .ok (.goto 7, 3) := by decide +kernel
theorem dL_set_13 : decode cL_set 13 = .ok (.astore 4, 2) := by decide +kernel
theorem dL_set_15 : decode cL_set 15 = .ok (.iconst 1, 1) := by decide +kernel
theorem dL_set_16 : decode cL_set 16 = .ok (.ireturn, 1) := by decide +kernel
theorem dL_set_17 : decode cL_set 17 = .ok (.iconst 0, 1) := by decide +kernel
theorem dL_set_18 : decode cL_set 18 = .ok (.ireturn, 1) := by decide +kernel
theorem dL_addCompressor_0 : decode cL_addCompressor 0 = .ok (.aload_n 2, 1) := by decide +kernel
theorem dL_addCompressor_1 : decode cL_addCompressor 1 = .ok (.iconst 0, 1) := by decide +kernel
theorem dL_addCompressor_2 : decode cL_addCompressor 2 = .ok (.aload_n 0, 1) := by decide +kernel
theorem dL_addCompressor_3 : decode cL_addCompressor 3 = .ok (.iload_n 1, 1) := by decide +kernel
theorem dL_addCompressor_4 : decode cL_addCompressor 4 = .ok (.invokevirtual 21, 3) := by decide +kernel
theorem dL_addCompressor_7 : decode cL_addCompressor 7 = .ok (.i2l, 1) := by decide +kernel
theorem dL_addCompressor_8 : decode cL_addCompressor 8 = .ok (.lastore, 1) := by decide +kernel
theorem dL_addCompressor_9 : decode cL_addCompressor 9 = .ok (.goto 9, 3) := by decide +kernel
theorem dL_addCompressor_12 : decode cL_addCompressor 12 = .ok (.astore_n 3, 1) := by decide +kernel
theorem dL_addCompressor_13 : decode cL_addCompressor 13 = .ok (.iconst 1, 1) := by decide +kernel
theorem dL_addCompressor_14 : decode cL_addCompressor 14 = .ok (.ireturn, 1) := by decide +kernel
theorem dL_addCompressor_15 : decode cL_addCompressor 15 = .ok (.astore_n 3, 1) := by decide +kernel
theorem dL_addCompressor_16 : decode cL_addCompressor 16 = .ok (.iconst 2, 1) := by decide +kernel
theorem dL_addCompressor_17 : decode cL_addCompressor 17 = .ok (.ireturn, 1) := by decide +kernel
theorem dL_addCompressor_18 : decode cL_addCompressor 18 = .ok (.iconst 0, 1) := by decide +kernel
theorem dL_addCompressor_19 : decode cL_addCompressor 19 = .ok (.ireturn, 1) := by decide +kernel
theorem dL_trip_0 : decode cL_trip 0 = .ok (.aload_n 2, 1) := by decide +kernel
theorem dL_trip_1 : decode cL_trip 1 = .ok (.iconst 0, 1) := by decide +kernel
theorem dL_trip_2 : decode cL_trip 2 = .ok (.aload_n 0, 1) := by decide +kernel
theorem dL_trip_3 : decode cL_trip 3 = .ok (.iload_n 1, 1) := by decide +kernel
theorem dL_trip_4 : decode cL_trip 4 = .ok (.invokevirtual 24, 3) := by decide +kernel
theorem dL_trip_7 : decode cL_trip 7 = .ok (.i2l, 1) := by decide +kernel
theorem dL_trip_8 : decode cL_trip 8 = .ok (.lastore, 1) := by decide +kernel
theorem dL_trip_9 : decode cL_trip 9 = .ok (.goto 9, 3) := by decide +kernel
theorem dL_trip_12 : decode cL_trip 12 = .ok (.astore_n 3, 1) := by decide +kernel
theorem dL_trip_13 : decode cL_trip 13 = .ok (.iconst 1, 1) := by decide +kernel
theorem dL_trip_14 : decode cL_trip 14 = .ok (.ireturn, 1) := by decide +kernel
theorem dL_trip_15 : decode cL_trip 15 = .ok (.astore_n 3, 1) := by decide +kernel
theorem dL_trip_16 : decode cL_trip 16 = .ok (.iconst 2, 1) := by decide +kernel
theorem dL_trip_17 : decode cL_trip 17 = .ok (.ireturn, 1) := by decide +kernel
theorem dL_trip_18 : decode cL_trip 18 = .ok (.iconst 0, 1) := by decide +kernel
theorem dL_trip_19 : decode cL_trip 19 = .ok (.ireturn, 1) := by decide +kernel
theorem dL_clear_0 : decode cL_clear 0 = .ok (.aload_n 2, 1) := by decide +kernel
theorem dL_clear_1 : decode cL_clear 1 = .ok (.iconst 0, 1) := by decide +kernel
theorem dL_clear_2 : decode cL_clear 2 = .ok (.aload_n 0, 1) := by decide +kernel
theorem dL_clear_3 : decode cL_clear 3 = .ok (.iload_n 1, 1) := by decide +kernel
theorem dL_clear_4 : decode cL_clear 4 = .ok (.invokevirtual 29, 3) := by decide +kernel
theorem dL_clear_7 : decode cL_clear 7 = .ok (.i2l, 1) := by decide +kernel
theorem dL_clear_8 : decode cL_clear 8 = .ok (.lastore, 1) := by decide +kernel
theorem dL_clear_9 : decode cL_clear 9 = .ok (.goto 9, 3) := by decide +kernel
theorem dL_clear_12 : decode cL_clear 12 = .ok (.astore_n 3, 1) := by decide +kernel
theorem dL_clear_13 : decode cL_clear 13 = .ok (.iconst 1, 1) := by decide +kernel
theorem dL_clear_14 : decode cL_clear 14 = .ok (.ireturn, 1) := by decide +kernel
theorem dL_clear_15 : decode cL_clear 15 = .ok (.astore_n 3, 1) := by decide +kernel
theorem dL_clear_16 : decode cL_clear 16 = .ok (.iconst 2, 1) := by decide +kernel
theorem dL_clear_17 : decode cL_clear 17 = .ok (.ireturn, 1) := by decide +kernel
theorem dL_clear_18 : decode cL_clear 18 = .ok (.iconst 0, 1) := by decide +kernel
