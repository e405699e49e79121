theorem dX0_init_0 : decode cX0_init 0 = .ok (.aload_n 0, 1) := by decide +kernel
theorem dX0_init_1 : decode cX0_init 1 = .ok (.invokespecial 3, 3) := by decide +kernel
theorem dX0_init_4 : decode cX0_init 4 = .ok (.return_, 1) := by decide +kernel
theorem dX0_takeOver_0 : decode cX0_takeOver 0 = .ok (.aload_n 0, 1) := by decide +kernel
theorem dX0_takeOver_1 : decode cX0_takeOver 1 = .ok (.aload_n 1, 1) := by decide +kernel
theorem dX0_takeOver_2 : decode cX0_takeOver 2 = .ok (.getfield 9, 3) := by decide +kernel
theorem dX0_takeOver_5 : decode cX0_takeOver 5 = .ok (.putfield 9, 3) := by decide +kernel
theorem dX0_takeOver_8 : decode cX0_takeOver 8 = .ok (.aload_n 0, 1) := by decide +kernel
theorem dX0_takeOver_9 : decode cX0_takeOver 9 = .ok (.aload_n 1, 1) := by decide +kernel
theorem dX0_takeOver_10 : decode cX0_takeOver 10 = .ok (.getfield 15, 3) := by decide +kernel
theorem dX0_takeOver_13 : decode cX0_takeOver 13 = .ok (.putfield 15, 3) := by decide +kernel
theorem dX0_takeOver_16 : decode cX0_takeOver 16 = .ok (.aload_n 0, 1) := by decide +kernel
theorem dX0_takeOver_17 : decode cX0_takeOver 17 = .ok (.aload_n 1, 1) := by decide +kernel
theorem dX0_takeOver_18 : decode cX0_takeOver 18 = .ok (.getfield 18, 3) := by decide +kernel
theorem dX0_takeOver_21 : decode cX0_takeOver 21 = .ok (.putfield 18, 3) := by decide +kernel
theorem dX0_takeOver_24 : decode cX0_takeOver 24 = .ok (.aload_n 0, 1) := by decide +kernel
theorem dX0_takeOver_25 : decode cX0_takeOver 25 = .ok (.aload_n 1, 1) := by decide +kernel
theorem dX0_takeOver_26 : decode cX0_takeOver 26 = .ok (.getfield 21, 3) := by decide +kernel
theorem dX0_takeOver_29 : decode cX0_takeOver 29 = .ok (.putfield 21, 3) := by decide +kernel
theorem dX0_takeOver_32 : decode cX0_takeOver 32 = .ok (.aload_n 0, 1) := by decide +kernel
theorem dX0_takeOver_33 : decode cX0_takeOver 33 = .ok (.aload_n 1, 1) := by decide +kernel
theorem dX0_takeOver_34 : decode cX0_takeOver 34 = .ok (.getfield 24, 3) := by decide +kernel
theorem dX0_takeOver_37 : decode cX0_takeOver 37 = .ok (.putfield 24, 3) := by decide +kernel
theorem dX0_takeOver_40 : decode cX0_takeOver 40 = .ok (.aload_n 0, 1) := by decide +kernel
theorem dX0_takeOver_41 : decode cX0_takeOver 41 = .ok (.aload_n 1, 1) := by decide +kernel
theorem dX0_takeOver_42 : decode cX0_takeOver 42 = .ok (.getfield 27, 3) := by decide +kernel
theorem dX0_takeOver_45 : decode cX0_takeOver 45 = .ok (.putfield 27, 3) := by decide +kernel
theorem dX0_takeOver_48 : decode cX0_takeOver 48 = .ok (.aload_n 0, 1) := by decide +kernel
theorem dX0_takeOver_49 : decode cX0_takeOver 49 = .ok (.aload_n 1, 1) := by decide +kernel
theorem dX0_takeOver_50 : decode cX0_takeOver 50 = .ok (.getfield 30, 3) := by decide +kernel
theorem dX0_takeOver_53 : decode cX0_takeOver 53 = .ok (.putfield 30, 3) := by decide +kernel
theorem dX0_takeOver_56 : decode cX0_takeOver 56 = .ok (.aload_n 0, 1) := by decide +kernel
theorem dX0_takeOver_57 : decode cX0_takeOver 57 = .ok (.aload_n 1, 1) := by decide +kernel
theorem dX0_takeOver_58 : decode cX0_takeOver 58 = .ok (.getfield 33, 3) := by decide +kernel
theorem dX0_takeOver_61 : decode cX0_takeOver 61 = .ok (.putfield 33, 3) := by decide +kernel
theorem dX0_takeOver_64 : decode cX0_takeOver 64 = .ok (.return_, 1) := by decide +kernel
theorem dX0_begin_0 : decode cX0_begin 0 = .ok (.aload_n 0, 1) := by decide +kernel
theorem dX0_begin_1 : decode cX0_begin 1 = .ok (.iload_n 1, 1) := by decide +kernel
theorem dX0_begin_2 : decode cX0_begin 2 = .ok (.putfield 9, 3) := by decide +kernel
theorem dX0_begin_5 : decode cX0_begin 5 = .ok (.aload_n 0, 1) := by decide +kernel
theorem dX0_begin_6 : decode cX0_begin 6 = .ok (.iload_n 2, 1) := by decide +kernel
theorem dX0_begin_7 : decode cX0_begin 7 = .ok (.putfield 18, 3) := by decide +kernel
theorem dX0_begin_10 : decode cX0_begin 10 = .ok (.aload_n 0, 1) := by decide +kernel
theorem dX0_begin_11 : decode cX0_begin 11 = .ok (.iconst 0, 1) := by decide +kernel
theorem dX0_begin_12 : decode cX0_begin 12 = .ok (.putfield 15, 3) := by decide +kernel
theorem dX0_begin_15 : decode cX0_begin 15 = .ok (.aload_n 0, 1) := by decide +kernel
theorem dX0_begin_16 : decode cX0_begin 16 = .ok (.iconst 0, 1) := by decide +kernel
theorem dX0_begin_17 : decode cX0_begin 17 = .ok (.putfield 21, 3) := by decide +kernel
theorem dX0_begin_20 : decode cX0_begin 20 = .ok (.aload_n 0, 1) := by decide +kernel
theorem dX0_begin_21 : decode cX0_begin 21 = .ok (.iconst 0, 1) := by decide +kernel
theorem dX0_begin_22 : decode cX0_begin 22 = .ok (.putfield 24, 3) := by decide +kernel
theorem dX0_begin_25 : decode cX0_begin 25 = .ok (.aload_n 0, 1) := by decide +kernel
theorem dX0_begin_26 : decode cX0_begin 26 = .ok (.iconst 0, 1) := by decide +kernel
theorem dX0_begin_27 : decode cX0_begin 27 = .ok (.putfield 27, 3) := by decide +kernel
theorem dX0_begin_30 : decode cX0_begin 30 = .ok (.aload_n 0, 1) := by decide +kernel
theorem dX0_begin_31 : decode cX0_begin 31 = .ok (.iconst 0, 1) := by decide +kernel
theorem dX0_begin_32 : decode cX0_begin 32 = .ok (.putfield 30, 3) := by decide +kernel
theorem dX0_begin_35 : decode cX0_begin 35 = .ok (.aload_n 0, 1) := by decide +kernel
theorem dX0_begin_36 : decode cX0_begin 36 = .ok (.iconst 0, 1) := by decide +kernel
theorem dX0_begin_37 : decode cX0_begin 37 = .ok (.putfield 33, 3) := by decide +kernel
theorem dX0_begin_40 : decode cX0_begin 40 = .ok (.return_, 1) := by decide +kernel
theorem dX0_load_0 : decode cX0_load 0 = .ok (.aload_n 0, 1) := by decide +kernel
theorem dX0_load_1 : decode cX0_load 1 = .ok (.getfield 15, 3) := by decide +kernel
theorem dX0_load_4 : decode cX0_load 4 = .ok (.ifCond .ne 13, 3) := by decide +kernel
theorem dX0_load_7 : decode cX0_load 7 = .ok (.aload_n 0, 1) := by decide +kernel
theorem dX0_load_8 : decode cX0_load 8 = .ok (.dup, 1) := by decide +kernel
theorem dX0_load_9 : decode cX0_load 9 = .ok (.getfield 33, 3) := by decide +kernel
theorem dX0_load_12 : decode cX0_load 12 = .ok (.iconst 1, 1) := by decide +kernel
theorem dX0_load_13 : decode cX0_load 13 = .ok (.iadd, 1) := by decide +kernel
theorem dX0_load_14 : decode cX0_load 14 = .ok (.putfield 33, 3) := by decide +kernel
theorem dX0_load_17 : decode cX0_load 17 = .ok (.aload_n 0, 1) := by decide +kernel
theorem dX0_load_18 : decode cX0_load 18 = .ok (.iconst 1, 1) := by decide +kernel
theorem dX0_load_19 : decode cX0_load 19 = .ok (.putfield 15, 3) := by decide +kernel
theorem dX0_load_22 : decode cX0_load 22 = .ok (.aload_n 0, 1) := by decide +kernel
theorem dX0_load_23 : decode cX0_load 23 = .ok (.iconst 0, 1) := by decide +kernel
theorem dX0_load_24 : decode cX0_load 24 = .ok (.putfield 27, 3) := by decide +kernel
theorem dX0_load_27 : decode cX0_load 27 = .ok (.return_, 1) := by decide +kernel
theorem dX0_unload_0 : decode cX0_unload 0 = .ok (.aload_n 0, 1) := by decide +kernel
theorem dX0_unload_1 : decode cX0_unload 1 = .ok (.iconst 2, 1) := by decide +kernel
theorem dX0_unload_2 : decode cX0_unload 2 = .ok (.putfield 15, 3) := by decide +kernel
theorem dX0_unload_5 : decode cX0_unload 5 = .ok (.aload_n 0, 1) := by decide +kernel
theorem dX0_unload_6 : decode cX0_unload 6 = .ok (.iconst 0, 1) := by decide +kernel
theorem dX0_unload_7 : decode cX0_unload 7 = .ok (.putfield 27, 3) := by decide +kernel
theorem dX0_unload_10 : decode cX0_unload 10 = .ok (.return_, 1) := by decide +kernel
theorem dX0_stop_0 : decode cX0_stop 0 = .ok (.aload_n 0, 1) := by decide +kernel
theorem dX0_stop_1 : decode cX0_stop 1 = .ok (.iconst 0, 1) := by decide +kernel
theorem dX0_stop_2 : decode cX0_stop 2 = .ok (.putfield 15, 3) := by decide +kernel
theorem dX0_stop_5 : decode cX0_stop 5 = .ok (.aload_n 0, 1) := by decide +kernel
theorem dX0_stop_6 : decode cX0_stop 6 = .ok (.iconst 0, 1) := by decide +kernel
theorem dX0_stop_7 : decode cX0_stop 7 = .ok (.putfield 27, 3) := by decide +kernel
theorem dX0_stop_10 : decode cX0_stop 10 = .ok (.aload_n 0, 1) := by decide +kernel
theorem dX0_stop_11 : decode cX0_stop 11 = .ok (.iload_n 1, 1) := by decide +kernel
theorem dX0_stop_12 : decode cX0_stop 12 = .ok (.putfield 30, 3) := by decide +kernel
theorem dX0_stop_15 : decode cX0_stop 15 = .ok (.return_, 1) := by decide +kernel
theorem dX0_fail_0 : decode cX0_fail 0 = .ok (.aload_n 0, 1) := by decide +kernel
theorem dX0_fail_1 : decode cX0_fail 1 = .ok (.iconst 3, 1) := by decide +kernel
theorem dX0_fail_2 : decode cX0_fail 2 = .ok (.putfield 15, 3) := by decide +kernel
theorem dX0_fail_5 : decode cX0_fail 5 = .ok (.aload_n 0, 1) := by decide +kernel
theorem dX0_fail_6 : decode cX0_fail 6 = .ok (.iconst 0, 1) := by decide +kernel
theorem dX0_fail_7 : decode cX0_fail 7 = .ok (.putfield 27, 3) := by decide +kernel
theorem dX0_fail_10 : decode cX0_fail 10 = .ok (.aload_n 0, 1) := by decide +kernel
theorem dX0_fail_11 : decode cX0_fail 11 = .ok (.iconst 0, 1) := by decide +kernel
theorem dX0_fail_12 : decode cX0_fail 12 = .ok (.putfield 30, 3) := by decide +kernel
theorem dX0_fail_15 : decode cX0_fail 15 = .ok (.return_, 1) := by decide +kernel
theorem dX0_carryOn_0 : decode cX0_carryOn 0 = .ok (.iload_n 1, 1) := by decide +kernel
theorem dX0_carryOn_1 : decode cX0_carryOn 1 = .ok (.tableswitch 87 1 6 #[39, 52, 87, 59, 66, 79], 39) := by decide +kernel
theorem dX0_carryOn_40 : decode cX0_carryOn 40 = .ok (.aload_n 0, 1) := by decide +kernel
theorem dX0_carryOn_41 : decode cX0_carryOn 41 = .ok (.dup, 1) := by decide +kernel
theorem dX0_carryOn_42 : decode cX0_carryOn 42 = .ok (.getfield 30, 3) := by decide +kernel
theorem dX0_carryOn_45 : decode cX0_carryOn 45 = .ok (.iconst 1, 1) := by decide +kernel
theorem dX0_carryOn_46 : decode cX0_carryOn 46 = .ok (.isub, 1) := by decide +kernel
theorem dX0_carryOn_47 : decode cX0_carryOn 47 = .ok (.putfield 30, 3) := by decide +kernel
theorem dX0_carryOn_50 : decode cX0_carryOn 50 = .ok (.goto 38, 3) := by decide +kernel
theorem dX0_carryOn_53 : decode cX0_carryOn 53 = .ok (.aload_n 0, 1) := by decide +kernel
theorem dX0_carryOn_54 : decode cX0_carryOn 54 = .ok (.invokevirtual 36, 3) := by decide +kernel
theorem dX0_carryOn_57 : decode cX0_carryOn 57 = .ok (.goto 31, 3) := by decide +kernel
theorem dX0_carryOn_60 : decode cX0_carryOn 60 = .ok (.aload_n 0, 1) := by decide +kernel
theorem dX0_carryOn_61 : decode cX0_carryOn 61 = .ok (.invokevirtual 39, 3) := by decide +kernel
theorem dX0_carryOn_64 : decode cX0_carryOn 64 = .ok (.goto 24, 3) := by decide +kernel
theorem dX0_carryOn_67 : decode cX0_carryOn 67 = .ok (.aload_n 0, 1) := by decide +kernel
theorem dX0_carryOn_68 : decode cX0_carryOn 68 = .ok (.dup, 1) := by decide +kernel
theorem dX0_carryOn_69 : decode cX0_carryOn 69 = .ok (.getfield 27, 3) := by decide +kernel
theorem dX0_carryOn_72 : decode cX0_carryOn 72 = .ok (.iconst 1, 1) := by decide +kernel
theorem dX0_carryOn_73 : decode cX0_carryOn 73 = .ok (.iadd, 1) := by decide +kernel
theorem dX0_carryOn_74 : decode cX0_carryOn 74 = .ok (.putfield 27, 3) := by decide +kernel
theorem dX0_carryOn_77 : decode cX0_carryOn 77 = .ok (.goto 11, 3) := by decide +kernel
theorem dX0_carryOn_80 : decode cX0_carryOn 80 = .ok (.aload_n 0, 1) := by decide +kernel
theorem dX0_carryOn_81 : decode cX0_carryOn 81 = .ok (.iload_n 2, 1) := by decide +kernel
theorem dX0_carryOn_82 : decode cX0_carryOn 82 = .ok (.invokevirtual 42, 3) := by decide +kernel
theorem dX0_carryOn_85 : decode cX0_carryOn 85 = .ok (.goto 3, 3) := by decide +kernel
theorem dX0_carryOn_88 : decode cX0_carryOn 88 = .ok (.return_, 1) := by decide +kernel
theorem dX1_init_0 : decode cX1_init 0 = .ok (.aload_n 0, 1) := by decide +kernel
theorem dX1_init_1 : decode cX1_init 1 = .ok (.invokespecial 3, 3) := by decide +kernel
theorem dX1_init_4 : decode cX1_init 4 = .ok (.aload_n 0, 1) := by decide +kernel
theorem dX1_init_5 : decode cX1_init 5 = .ok (.iconst 4, 1) := by decide +kernel
theorem dX1_init_6 : decode cX1_init 6 = .ok (.anewarray 9, 3) := by decide +kernel
theorem dX1_init_9 : decode cX1_init 9 = .ok (.putfield 11, 3) := by decide +kernel
theorem dX1_init_12 : decode cX1_init 12 = .ok (.iconst 0, 1) := by decide +kernel
theorem dX1_init_13 : decode cX1_init 13 = .ok (.istore_n 1, 1) := by decide +kernel
theorem dX1_init_14 : decode cX1_init 14 = .ok (.iload_n 1, 1) := by decide +kernel
theorem dX1_init_15 : decode cX1_init 15 = .ok (.iconst 4, 1) := by decide +kernel
theorem dX1_init_16 : decode cX1_init 16 = .ok (.if_icmp .ge 22, 3) := by decide +kernel
theorem dX1_init_19 : decode cX1_init 19 = .ok (.aload_n 0, 1) := by decide +kernel
theorem dX1_init_20 : decode cX1_init 20 = .ok (.getfield 11, 3) := by decide +kernel
theorem dX1_init_23 : decode cX1_init 23 = .ok (.iload_n 1, 1) := by decide +kernel
theorem dX1_init_24 : decode cX1_init 24 = .ok (.new 9, 3) := by decide +kernel
theorem dX1_init_27 : decode cX1_init 27 = .ok (.dup, 1) := by decide +kernel
theorem dX1_init_28 : decode cX1_init 28 = .ok (.invokespecial 17, 3) := by decide +kernel
theorem dX1_init_31 : decode cX1_init 31 = .ok (.aastore, 1) := by decide +kernel
theorem dX1_init_32 : decode cX1_init 32 = .ok (.iinc 1 1, 3) := by decide +kernel
theorem dX1_init_35 : decode cX1_init 35 = .ok (.goto (-21), 3) := by decide +kernel
theorem dX1_init_38 : decode cX1_init 38 = .ok (.return_, 1) := by decide +kernel
theorem dX1_save_0 : decode cX1_save 0 = .ok (.aload_n 0, 1) := by decide +kernel
theorem dX1_save_1 : decode cX1_save 1 = .ok (.aload_n 0, 1) := by decide +kernel
theorem dX1_save_2 : decode cX1_save 2 = .ok (.getfield 18, 3) := by decide +kernel
theorem dX1_save_5 : decode cX1_save 5 = .ok (.iconst 1, 1) := by decide +kernel
theorem dX1_save_6 : decode cX1_save 6 = .ok (.iadd, 1) := by decide +kernel
theorem dX1_save_7 : decode cX1_save 7 = .ok (.iconst 4, 1) := by decide +kernel
theorem dX1_save_8 : decode cX1_save 8 = .ok (.if_icmp .ge 12, 3) := by decide +kernel
theorem dX1_save_11 : decode cX1_save 11 = .ok (.aload_n 0, 1) := by decide +kernel
theorem dX1_save_12 : decode cX1_save 12 = .ok (.getfield 18, 3) := by decide +kernel
theorem dX1_save_15 : decode cX1_save 15 = .ok (.iconst 1, 1) := by decide +kernel
theorem dX1_save_16 : decode cX1_save 16 = .ok (.iadd, 1) := by decide +kernel
theorem dX1_save_17 : decode cX1_save 17 = .ok (.goto 4, 3) := by decide +kernel
theorem dX1_save_20 : decode cX1_save 20 = .ok (.iconst 0, 1) := by decide +kernel
theorem dX1_save_21 : decode cX1_save 21 = .ok (.putfield 18, 3) := by decide +kernel
theorem dX1_save_24 : decode cX1_save 24 = .ok (.aload_n 0, 1) := by decide +kernel
theorem dX1_save_25 : decode cX1_save 25 = .ok (.aload_n 0, 1) := by decide +kernel
theorem dX1_save_26 : decode cX1_save 26 = .ok (.getfield 18, 3) := by decide +kernel
theorem dX1_save_29 : decode cX1_save 29 = .ok (.invokevirtual 22, 3) := by decide +kernel
theorem dX1_save_32 : decode cX1_save 32 = .ok (.astore_n 2, 1) := by decide +kernel
theorem dX1_save_33 : decode cX1_save 33 = .ok (.aload_n 2, 1) := by decide +kernel
theorem dX1_save_34 : decode cX1_save 34 = .ok (.ifnull 8, 3) := by decide +kernel
theorem dX1_save_37 : decode cX1_save 37 = .ok (.aload_n 2, 1) := by decide +kernel
theorem dX1_save_38 : decode cX1_save 38 = .ok (.aload_n 1, 1) := by decide +kernel
theorem dX1_save_39 : decode cX1_save 39 = .ok (.invokevirtual 26, 3) := by decide +kernel
theorem dX1_save_42 : decode cX1_save 42 = .ok (.aload_n 0, 1) := by decide +kernel
theorem dX1_save_43 : decode cX1_save 43 = .ok (.aload_n 0, 1) := by decide +kernel
theorem dX1_save_44 : decode cX1_save 44 = .ok (.getfield 30, 3) := by decide +kernel
theorem dX1_save_47 : decode cX1_save 47 = .ok (.iconst 1, 1) := by decide +kernel
theorem dX1_save_48 : decode cX1_save 48 = .ok (.iadd, 1) := by decide +kernel
theorem dX1_save_49 : decode cX1_save 49 = .ok (.iconst 4, 1) := by decide +kernel
theorem dX1_save_50 : decode cX1_save 50 = .ok (.invokestatic 33, 3) := by decide +kernel
theorem dX1_save_53 : decode cX1_save 53 = .ok (.putfield 30, 3) := by decide +kernel
theorem dX1_save_56 : decode cX1_save 56 = .ok (.return_, 1) := by decide +kernel
theorem dX1_restore_0 : decode cX1_restore 0 = .ok (.aload_n 0, 1) := by decide +kernel
theorem dX1_restore_1 : decode cX1_restore 1 = .ok (.aload_n 0, 1) := by decide +kernel
theorem dX1_restore_2 : decode cX1_restore 2 = .ok (.getfield 18, 3) := by decide +kernel
theorem dX1_restore_5 : decode cX1_restore 5 = .ok (.invokevirtual 22, 3) := by decide +kernel
theorem dX1_restore_8 : decode cX1_restore 8 = .ok (.astore_n 2, 1) := by decide +kernel
theorem dX1_restore_9 : decode cX1_restore 9 = .ok (.aload_n 2, 1) := by decide +kernel
theorem dX1_restore_10 : decode cX1_restore 10 = .ok (.ifnull 8, 3) := by decide +kernel
theorem dX1_restore_13 : decode cX1_restore 13 = .ok (.aload_n 1, 1) := by decide +kernel
theorem dX1_restore_14 : decode cX1_restore 14 = .ok (.aload_n 2, 1) := by decide +kernel
theorem dX1_restore_15 : decode cX1_restore 15 = .ok (.invokevirtual 26, 3) := by decide +kernel
theorem dX1_restore_18 : decode cX1_restore 18 = .ok (.aload_n 0, 1) := by decide +kernel
theorem dX1_restore_19 : decode cX1_restore 19 = .ok (.aload_n 0, 1) := by decide +kernel
theorem dX1_restore_20 : decode cX1_restore 20 = .ok (.getfield 18, 3) := by decide +kernel
theorem dX1_restore_23 : decode cX1_restore 23 = .ok (.ifCond .le 12, 3) := by decide +kernel
theorem dX1_restore_26 : decode cX1_restore 26 = .ok (.aload_n 0, 1) := by decide +kernel
theorem dX1_restore_27 : decode cX1_restore 27 = .ok (.getfield 18, 3) := by decide +kernel
theorem dX1_restore_30 : decode cX1_restore 30 = .ok (.iconst 1, 1) := by decide +kernel
theorem dX1_restore_31 : decode cX1_restore 31 = .ok (.isub, 1) := by decide +kernel
theorem dX1_restore_32 : decode cX1_restore 32 = .ok (.goto 4, 3) := by decide +kernel
theorem dX1_restore_35 : decode cX1_restore 35 = .ok (.iconst 3, 1) := by decide +kernel
theorem dX1_restore_36 : decode cX1_restore 36 = .ok (.putfield 18, 3) := by decide +kernel
theorem dX1_restore_39 : decode cX1_restore 39 = .ok (.aload_n 0, 1) := by decide +kernel
theorem dX1_restore_40 : decode cX1_restore 40 = .ok (.aload_n 0, 1) := by decide +kernel
theorem dX1_restore_41 : decode cX1_restore 41 = .ok (.getfield 30, 3) := by decide +kernel
theorem dX1_restore_44 : decode cX1_restore 44 = .ok (.iconst 1, 1) := by decide +kernel
theorem dX1_restore_45 : decode cX1_restore 45 = .ok (.isub, 1) := by decide +kernel
theorem dX1_restore_46 : decode cX1_restore 46 = .ok (.iconst 0, 1) := by decide +kernel
theorem dX1_restore_47 : decode cX1_restore 47 = .ok (.invokestatic 39, 3) := by decide +kernel
theorem dX1_restore_50 : decode cX1_restore 50 = .ok (.putfield 30, 3) := by decide +kernel
theorem dX1_restore_53 : decode cX1_restore 53 = .ok (.return_, 1) := by decide +kernel
theorem dX1_savedAt_0 : decode cX1_savedAt 0 = .ok (.iload_n 1, 1) := by decide +kernel
theorem dX1_savedAt_1 : decode cX1_savedAt 1 = .ok (.ifCond .lt 21, 3) := by decide +kernel
theorem dX1_savedAt_4 : decode cX1_savedAt 4 = .ok (.iload_n 1, 1) := by decide +kernel
theorem dX1_savedAt_5 : decode cX1_savedAt 5 = .ok (.aload_n 0, 1) := by decide +kernel
theorem dX1_savedAt_6 : decode cX1_savedAt 6 = .ok (.getfield 11, 3) := by decide +kernel
theorem dX1_savedAt_9 : decode cX1_savedAt 9 = .ok (.arraylength, 1) := by decide +kernel
theorem dX1_savedAt_10 : decode cX1_savedAt 10 = .ok (.if_icmp .ge 12, 3) := by decide +kernel
theorem dX1_savedAt_13 : decode cX1_savedAt 13 = .ok (.aload_n 0, 1) := by decide +kernel
theorem dX1_savedAt_14 : decode cX1_savedAt 14 = .ok (.getfield 11, 3) := by decide +kernel
theorem dX1_savedAt_17 : decode cX1_savedAt 17 = .ok (.iload_n 1, 1) := by decide +kernel
theorem dX1_savedAt_18 : decode cX1_savedAt 18 = .ok (.aaload, 1) := by decide +kernel
theorem dX1_savedAt_19 : decode cX1_savedAt 19 = .ok (.goto 4, 3) := by decide +kernel
theorem dX1_savedAt_22 : decode cX1_savedAt 22 = .ok (.aconst_null, 1) := by decide +kernel
theorem dX1_savedAt_23 : decode cX1_savedAt 23 = .ok (.areturn, 1) := by decide +kernel
theorem dX2_init_0 : decode cX2_init 0 = .ok (.aload_n 0, 1) := by decide +kernel
theorem dX2_init_1 : decode cX2_init 1 = .ok (.invokespecial 3, 3) := by decide +kernel
theorem dX2_init_4 : decode cX2_init 4 = .ok (.aload_n 0, 1) := by decide +kernel
theorem dX2_init_5 : decode cX2_init 5 = .ok (.bipush 100, 2) := by decide +kernel
theorem dX2_init_7 : decode cX2_init 7 = .ok (.newarray .int, 2) := by decide +kernel
theorem dX2_init_9 : decode cX2_init 9 = .ok (.putfield 9, 3) := by decide +kernel
theorem dX2_init_12 : decode cX2_init 12 = .ok (.aload_n 0, 1) := by decide +kernel
theorem dX2_init_13 : decode cX2_init 13 = .ok (.bipush 100, 2) := by decide +kernel
theorem dX2_init_15 : decode cX2_init 15 = .ok (.newarray .int, 2) := by decide +kernel
theorem dX2_init_17 : decode cX2_init 17 = .ok (.putfield 15, 3) := by decide +kernel
theorem dX2_init_20 : decode cX2_init 20 = .ok (.aload_n 0, 1) := by decide +kernel
theorem dX2_init_21 : decode cX2_init 21 = .ok (.bipush 100, 2) := by decide +kernel
theorem dX2_init_23 : decode cX2_init 23 = .ok (.newarray .int, 2) := by decide +kernel
theorem dX2_init_25 : decode cX2_init 25 = .ok (.putfield 18, 3) := by decide +kernel
theorem dX2_init_28 : decode cX2_init 28 = .ok (.return_, 1) := by decide +kernel
theorem dX2_putByte_0 : decode cX2_putByte 0 = .ok (.aload_n 0, 1) := by decide +kernel
theorem dX2_putByte_1 : decode cX2_putByte 1 = .ok (.getfield 21, 3) := by decide +kernel
theorem dX2_putByte_4 : decode cX2_putByte 4 = .ok (.aload_n 0, 1) := by decide +kernel
theorem dX2_putByte_5 : decode cX2_putByte 5 = .ok (.getfield 9, 3) := by decide +kernel
theorem dX2_putByte_8 : decode cX2_putByte 8 = .ok (.arraylength, 1) := by decide +kernel
theorem dX2_putByte_9 : decode cX2_putByte 9 = .ok (.if_icmp .ge 23, 3) := by decide +kernel
theorem dX2_putByte_12 : decode cX2_putByte 12 = .ok (.aload_n 0, 1) := by decide +kernel
theorem dX2_putByte_13 : decode cX2_putByte 13 = .ok (.getfield 9, 3) := by decide +kernel
theorem dX2_putByte_16 : decode cX2_putByte 16 = .ok (.aload_n 0, 1) := by decide +kernel
theorem dX2_putByte_17 : decode cX2_putByte 17 = .ok (.getfield 21, 3) := by decide +kernel
theorem dX2_putByte_20 : decode cX2_putByte 20 = .ok (.iload_n 1, 1) := by decide +kernel
theorem dX2_putByte_21 : decode cX2_putByte 21 = .ok (.iastore, 1) := by decide +kernel
theorem dX2_putByte_22 : decode cX2_putByte 22 = .ok (.aload_n 0, 1) := by decide +kernel
theorem dX2_putByte_23 : decode cX2_putByte 23 = .ok (.dup, 1) := by decide +kernel
theorem dX2_putByte_24 : decode cX2_putByte 24 = .ok (.getfield 21, 3) := by decide +kernel
theorem dX2_putByte_27 : decode cX2_putByte 27 = .ok (.iconst 1, 1) := by decide +kernel
theorem dX2_putByte_28 : decode cX2_putByte 28 = .ok (.iadd, 1) := by decide +kernel
theorem dX2_putByte_29 : decode cX2_putByte 29 = .ok (.putfield 21, 3) := by decide +kernel
theorem dX2_putByte_32 : decode cX2_putByte 32 = .ok (.aload_n 0, 1) := by decide +kernel
theorem dX2_putByte_33 : decode cX2_putByte 33 = .ok (.getfield 21, 3) := by decide +kernel
theorem dX2_putByte_36 : decode cX2_putByte 36 = .ok (.ireturn, 1) := by decide +kernel
theorem dX2_kindOf_0 : decode cX2_kindOf 0 = .ok (.iload_n 1, 1) := by decide +kernel
theorem dX2_kindOf_1 : decode cX2_kindOf 1 = .ok (.ifCond .lt 21, 3) := by decide +kernel
theorem dX2_kindOf_4 : decode cX2_kindOf 4 = .ok (.iload_n 1, 1) := by decide +kernel
theorem dX2_kindOf_5 : decode cX2_kindOf 5 = .ok (.aload_n 0, 1) := by decide +kernel
theorem dX2_kindOf_6 : decode cX2_kindOf 6 = .ok (.getfield 15, 3) := by decide +kernel
theorem dX2_kindOf_9 : decode cX2_kindOf 9 = .ok (.arraylength, 1) := by decide +kernel
theorem dX2_kindOf_10 : decode cX2_kindOf 10 = .ok (.if_icmp .ge 12, 3) := by decide +kernel
theorem dX2_kindOf_13 : decode cX2_kindOf 13 = .ok (.aload_n 0, 1) := by decide +kernel
theorem dX2_kindOf_14 : decode cX2_kindOf 14 = .ok (.getfield 15, 3) := by decide +kernel
theorem dX2_kindOf_17 : decode cX2_kindOf 17 = .ok (.iload_n 1, 1) := by decide +kernel
theorem dX2_kindOf_18 : decode cX2_kindOf 18 = .ok (.iaload, 1) := by decide +kernel
theorem dX2_kindOf_19 : decode cX2_kindOf 19 = .ok (.goto 4, 3) := by decide +kernel
theorem dX2_kindOf_22 : decode cX2_kindOf 22 = .ok (.iconst (-1), 1) := by decide +kernel
theorem dX2_kindOf_23 : decode cX2_kindOf 23 = .ok (.ireturn, 1) := by decide +kernel
theorem dX2_numberIn_0 : decode cX2_numberIn 0 = .ok (.iload_n 1, 1) := by decide +kernel
theorem dX2_numberIn_1 : decode cX2_numberIn 1 = .ok (.ifCond .lt 21, 3) := by decide +kernel
theorem dX2_numberIn_4 : decode cX2_numberIn 4 = .ok (.iload_n 1, 1) := by decide +kernel
theorem dX2_numberIn_5 : decode cX2_numberIn 5 = .ok (.aload_n 0, 1) := by decide +kernel
theorem dX2_numberIn_6 : decode cX2_numberIn 6 = .ok (.getfield 18, 3) := by decide +kernel
theorem dX2_numberIn_9 : decode cX2_numberIn 9 = .ok (.arraylength, 1) := by decide +kernel
theorem dX2_numberIn_10 : decode cX2_numberIn 10 = .ok (.if_icmp .ge 12, 3) := by decide +kernel
theorem dX2_numberIn_13 : decode cX2_numberIn 13 = .ok (.aload_n 0, 1) := by decide +kernel
theorem dX2_numberIn_14 : decode cX2_numberIn 14 = .ok (.getfield 18, 3) := by decide +kernel
theorem dX2_numberIn_17 : decode cX2_numberIn 17 = .ok (.iload_n 1, 1) := by decide +kernel
theorem dX2_numberIn_18 : decode cX2_numberIn 18 = .ok (.iaload, 1) := by decide +kernel
theorem dX2_numberIn_19 : decode cX2_numberIn 19 = .ok (.goto 4, 3) := by decide +kernel
theorem dX2_numberIn_22 : decode cX2_numberIn 22 = .ok (.iconst (-1), 1) := by decide +kernel
theorem dX2_numberIn_23 : decode cX2_numberIn 23 = .ok (.ireturn, 1) := by decide +kernel
theorem dX2_readOrdersOrError_0 : decode cX2_readOrdersOrError 0 = .ok (.aload_n 0, 1) := by decide +kernel
theorem dX2_readOrdersOrError_1 : decode cX2_readOrdersOrError 1 = .ok (.iconst 0, 1) := by decide +kernel
theorem dX2_readOrdersOrError_2 : decode cX2_readOrdersOrError 2 = .ok (.putfield 25, 3) := by decide +kernel
theorem dX2_readOrdersOrError_5 : decode cX2_readOrdersOrError 5 = .ok (.aload_n 0, 1) := by decide +kernel
theorem dX2_readOrdersOrError_6 : decode cX2_readOrdersOrError 6 = .ok (.iconst 0, 1) := by decide +kernel
theorem dX2_readOrdersOrError_7 : decode cX2_readOrdersOrError 7 = .ok (.putfield 28, 3) := by decide +kernel
theorem dX2_readOrdersOrError_10 : decode cX2_readOrdersOrError 10 = .ok (.aload_n 0, 1) := by decide +kernel
theorem dX2_readOrdersOrError_11 : decode cX2_readOrdersOrError 11 = .ok (.iconst (-1), 1) := by decide +kernel
theorem dX2_readOrdersOrError_12 : decode cX2_readOrdersOrError 12 = .ok (.putfield 31, 3) := by decide +kernel
theorem dX2_readOrdersOrError_15 : decode cX2_readOrdersOrError 15 = .ok (.iconst 0, 1) := by decide +kernel
theorem dX2_readOrdersOrError_16 : decode cX2_readOrdersOrError 16 = .ok (.istore_n 1, 1) := by decide +kernel
theorem dX2_readOrdersOrError_17 : decode cX2_readOrdersOrError 17 = .ok (.iload_n 1, 1) := by decide +kernel
theorem dX2_readOrdersOrError_18 : decode cX2_readOrdersOrError 18 = .ok (.bipush 100, 2) := by decide +kernel
theorem dX2_readOrdersOrError_20 : decode cX2_readOrdersOrError 20 = .ok (.if_icmp .ge 68, 3) := by decide +kernel
theorem dX2_readOrdersOrError_23 : decode cX2_readOrdersOrError 23 = .ok (.aload_n 0, 1) := by decide +kernel
theorem dX2_readOrdersOrError_24 : decode cX2_readOrdersOrError 24 = .ok (.getfield 28, 3) := by decide +kernel
theorem dX2_readOrdersOrError_27 : decode cX2_readOrdersOrError 27 = .ok (.aload_n 0, 1) := by decide +kernel
theorem dX2_readOrdersOrError_28 : decode cX2_readOrdersOrError 28 = .ok (.getfield 21, 3) := by decide +kernel
theorem dX2_readOrdersOrError_31 : decode cX2_readOrdersOrError 31 = .ok (.if_icmp .ge 57, 3) := by decide +kernel
theorem dX2_readOrdersOrError_34 : decode cX2_readOrdersOrError 34 = .ok (.aload_n 0, 1) := by decide +kernel
theorem dX2_readOrdersOrError_35 : decode cX2_readOrdersOrError 35 = .ok (.getfield 31, 3) := by decide +kernel
theorem dX2_readOrdersOrError_38 : decode cX2_readOrdersOrError 38 = .ok (.iconst (-1), 1) := by decide +kernel
theorem dX2_readOrdersOrError_39 : decode cX2_readOrdersOrError 39 = .ok (.if_icmp .ne 49, 3) := by decide +kernel
theorem dX2_readOrdersOrError_42 : decode cX2_readOrdersOrError 42 = .ok (.aload_n 0, 1) := by decide +kernel
theorem dX2_readOrdersOrError_43 : decode cX2_readOrdersOrError 43 = .ok (.getfield 15, 3) := by decide +kernel
theorem dX2_readOrdersOrError_46 : decode cX2_readOrdersOrError 46 = .ok (.iload_n 1, 1) := by decide +kernel
theorem dX2_readOrdersOrError_47 : decode cX2_readOrdersOrError 47 = .ok (.aload_n 0, 1) := by decide +kernel
theorem dX2_readOrdersOrError_48 : decode cX2_readOrdersOrError 48 = .ok (.aload_n 0, 1) := by decide +kernel
theorem dX2_readOrdersOrError_49 : decode cX2_readOrdersOrError 49 = .ok (.getfield 28, 3) := by decide +kernel
theorem dX2_readOrdersOrError_52 : decode cX2_readOrdersOrError 52 = .ok (.invokevirtual 34, 3) := by decide +kernel
theorem dX2_readOrdersOrError_55 : decode cX2_readOrdersOrError 55 = .ok (.iastore, 1) := by decide +kernel
theorem dX2_readOrdersOrError_56 : decode cX2_readOrdersOrError 56 = .ok (.aload_n 0, 1) := by decide +kernel
theorem dX2_readOrdersOrError_57 : decode cX2_readOrdersOrError 57 = .ok (.getfield 18, 3) := by decide +kernel
theorem dX2_readOrdersOrError_60 : decode cX2_readOrdersOrError 60 = .ok (.iload_n 1, 1) := by decide +kernel
theorem dX2_readOrdersOrError_61 : decode cX2_readOrdersOrError 61 = .ok (.aload_n 0, 1) := by decide +kernel
theorem dX2_readOrdersOrError_62 : decode cX2_readOrdersOrError 62 = .ok (.aload_n 0, 1) := by decide +kernel
theorem dX2_readOrdersOrError_63 : decode cX2_readOrdersOrError 63 = .ok (.getfield 15, 3) := by decide +kernel
theorem dX2_readOrdersOrError_66 : decode cX2_readOrdersOrError 66 = .ok (.iload_n 1, 1) := by decide +kernel
theorem dX2_readOrdersOrError_67 : decode cX2_readOrdersOrError 67 = .ok (.iaload, 1) := by decide +kernel
theorem dX2_readOrdersOrError_68 : decode cX2_readOrdersOrError 68 = .ok (.invokevirtual 38, 3) := by decide +kernel
theorem dX2_readOrdersOrError_71 : decode cX2_readOrdersOrError 71 = .ok (.iastore, 1) := by decide +kernel
theorem dX2_readOrdersOrError_72 : decode cX2_readOrdersOrError 72 = .ok (.aload_n 0, 1) := by decide +kernel
theorem dX2_readOrdersOrError_73 : decode cX2_readOrdersOrError 73 = .ok (.dup, 1) := by decide +kernel
theorem dX2_readOrdersOrError_74 : decode cX2_readOrdersOrError 74 = .ok (.getfield 25, 3) := by decide +kernel
theorem dX2_readOrdersOrError_77 : decode cX2_readOrdersOrError 77 = .ok (.iconst 1, 1) := by decide +kernel
theorem dX2_readOrdersOrError_78 : decode cX2_readOrdersOrError 78 = .ok (.iadd, 1) := by decide +kernel
theorem dX2_readOrdersOrError_79 : decode cX2_readOrdersOrError 79 = .ok (.putfield 25, 3) := by decide +kernel
theorem dX2_readOrdersOrError_82 : decode cX2_readOrdersOrError 82 = .ok (.iinc 1 1, 3) := by decide +kernel
theorem dX2_readOrdersOrError_85 : decode cX2_readOrdersOrError 85 = .ok (.goto (-68), 3) := by decide +kernel
theorem dX2_readOrdersOrError_88 : decode cX2_readOrdersOrError 88 = .ok (.aload_n 0, 1) := by decide +kernel
theorem dX2_readOrdersOrError_89 : decode cX2_readOrdersOrError 89 = .ok (.getfield 31, 3) := by decide +kernel
theorem dX2_readOrdersOrError_92 : decode cX2_readOrdersOrError 92 = .ok (.ireturn, 1) := by decide +kernel
theorem dX2_readOrder_0 : decode cX2_readOrder 0 = .ok (.aload_n 0, 1) := by decide +kernel
theorem dX2_readOrder_1 : decode cX2_readOrder 1 = .ok (.getfield 28, 3) := by decide +kernel
theorem dX2_readOrder_4 : decode cX2_readOrder 4 = .ok (.istore_n 2, 1) := by decide +kernel
theorem dX2_readOrder_5 : decode cX2_readOrder 5 = .ok (.iconst 0, 1) := by decide +kernel
theorem dX2_readOrder_6 : decode cX2_readOrder 6 = .ok (.istore_n 3, 1) := by decide +kernel
theorem dX2_readOrder_7 : decode cX2_readOrder 7 = .ok (.aload_n 0, 1) := by decide +kernel
theorem dX2_readOrder_8 : decode cX2_readOrder 8 = .ok (.dup, 1) := by decide +kernel
theorem dX2_readOrder_9 : decode cX2_readOrder 9 = .ok (.getfield 28, 3) := by decide +kernel
theorem dX2_readOrder_12 : decode cX2_readOrder 12 = .ok (.iconst 1, 1) := by decide +kernel
theorem dX2_readOrder_13 : decode cX2_readOrder 13 = .ok (.iadd, 1) := by decide +kernel
theorem dX2_readOrder_14 : decode cX2_readOrder 14 = .ok (.putfield 28, 3) := by decide +kernel
theorem dX2_readOrder_17 : decode cX2_readOrder 17 = .ok (.iload_n 1, 1) := by decide +kernel
theorem dX2_readOrder_18 : decode cX2_readOrder 18 = .ok (.lookupswitch 90 #[(99, 79), (100, 50), (109, 66), (114, 87), (116, 79)], 50) := by decide +kernel
theorem dX2_readOrder_68 : decode cX2_readOrder 68 = .ok (.aload_n 0, 1) := by decide +kernel
theorem dX2_readOrder_69 : decode cX2_readOrder 69 = .ok (.iconst 4, 1) := by decide +kernel
theorem dX2_readOrder_70 : decode cX2_readOrder 70 = .ok (.iconst 0, 1) := by decide +kernel
theorem dX2_readOrder_71 : decode cX2_readOrder 71 = .ok (.getstatic 41, 3) := by decide +kernel
theorem dX2_readOrder_74 : decode cX2_readOrder 74 = .ok (.bipush 6, 2) := by decide +kernel
theorem dX2_readOrder_76 : decode cX2_readOrder 76 = .ok (.iaload, 1) := by decide +kernel
theorem dX2_readOrder_77 : decode cX2_readOrder 77 = .ok (.invokevirtual 44, 3) := by decide +kernel
theorem dX2_readOrder_80 : decode cX2_readOrder 80 = .ok (.istore_n 3, 1) := by decide +kernel
theorem dX2_readOrder_81 : decode cX2_readOrder 81 = .ok (.goto 32, 3) := by decide +kernel
theorem dX2_readOrder_84 : decode cX2_readOrder 84 = .ok (.aload_n 0, 1) := by decide +kernel
theorem dX2_readOrder_85 : decode cX2_readOrder 85 = .ok (.iconst 3, 1) := by decide +kernel
theorem dX2_readOrder_86 : decode cX2_readOrder 86 = .ok (.iconst 1, 1) := by decide +kernel
theorem dX2_readOrder_87 : decode cX2_readOrder 87 = .ok (.sipush 600, 3) := by decide +kernel
theorem dX2_readOrder_90 : decode cX2_readOrder 90 = .ok (.invokevirtual 44, 3) := by decide +kernel
theorem dX2_readOrder_93 : decode cX2_readOrder 93 = .ok (.istore_n 3, 1) := by decide +kernel
theorem dX2_readOrder_94 : decode cX2_readOrder 94 = .ok (.goto 19, 3) := by decide +kernel
theorem dX2_readOrder_97 : decode cX2_readOrder 97 = .ok (.aload_n 0, 1) := by decide +kernel
theorem dX2_readOrder_98 : decode cX2_readOrder 98 = .ok (.invokevirtual 48, 3) := by decide +kernel
theorem dX2_readOrder_101 : decode cX2_readOrder 101 = .ok (.istore_n 3, 1) := by decide +kernel
theorem dX2_readOrder_102 : decode cX2_readOrder 102 = .ok (.goto 11, 3) := by decide +kernel
theorem dX2_readOrder_105 : decode cX2_readOrder 105 = .ok (.goto 8, 3) := by decide +kernel
theorem dX2_readOrder_108 : decode cX2_readOrder 108 = .ok (.aload_n 0, 1) := by decide +kernel
theorem dX2_readOrder_109 : decode cX2_readOrder 109 = .ok (.iload_n 2, 1) := by decide +kernel
theorem dX2_readOrder_110 : decode cX2_readOrder 110 = .ok (.putfield 31, 3) := by decide +kernel
theorem dX2_readOrder_113 : decode cX2_readOrder 113 = .ok (.aload_n 0, 1) := by decide +kernel
theorem dX2_readOrder_114 : decode cX2_readOrder 114 = .ok (.invokevirtual 52, 3) := by decide +kernel
theorem dX2_readOrder_117 : decode cX2_readOrder 117 = .ok (.iload_n 3, 1) := by decide +kernel
theorem dX2_readOrder_118 : decode cX2_readOrder 118 = .ok (.ireturn, 1) := by decide +kernel
theorem dX2_readNumber_0 : decode cX2_readNumber 0 = .ok (.aload_n 0, 1) := by decide +kernel
theorem dX2_readNumber_1 : decode cX2_readNumber 1 = .ok (.getfield 28, 3) := by decide +kernel
theorem dX2_readNumber_4 : decode cX2_readNumber 4 = .ok (.istore 4, 2) := by decide +kernel
theorem dX2_readNumber_6 : decode cX2_readNumber 6 = .ok (.iconst 0, 1) := by decide +kernel
theorem dX2_readNumber_7 : decode cX2_readNumber 7 = .ok (.istore 5, 2) := by decide +kernel
theorem dX2_readNumber_9 : decode cX2_readNumber 9 = .ok (.aload_n 0, 1) := by decide +kernel
theorem dX2_readNumber_10 : decode cX2_readNumber 10 = .ok (.getfield 28, 3) := by decide +kernel
theorem dX2_readNumber_13 : decode cX2_readNumber 13 = .ok (.iload 4, 2) := by decide +kernel
theorem dX2_readNumber_15 : decode cX2_readNumber 15 = .ok (.iload_n 1, 1) := by decide +kernel
theorem dX2_readNumber_16 : decode cX2_readNumber 16 = .ok (.iadd, 1) := by decide +kernel
theorem dX2_readNumber_17 : decode cX2_readNumber 17 = .ok (.if_icmp .ge 49, 3) := by decide +kernel
theorem dX2_readNumber_20 : decode cX2_readNumber 20 = .ok (.aload_n 0, 1) := by decide +kernel
theorem dX2_readNumber_21 : decode cX2_readNumber 21 = .ok (.aload_n 0, 1) := by decide +kernel
theorem dX2_readNumber_22 : decode cX2_readNumber 22 = .ok (.getfield 28, 3) := by decide +kernel
theorem dX2_readNumber_25 : decode cX2_readNumber 25 = .ok (.invokevirtual 34, 3) := by decide +kernel
theorem dX2_readNumber_28 : decode cX2_readNumber 28 = .ok (.invokestatic 55, 3) := by decide +kernel
theorem dX2_readNumber_31 : decode cX2_readNumber 31 = .ok (.ifCond .eq 35, 3) := by decide +kernel
theorem dX2_readNumber_34 : decode cX2_readNumber 34 = .ok (.bipush 10, 2) := by decide +kernel
theorem dX2_readNumber_36 : decode cX2_readNumber 36 = .ok (.iload 5, 2) := by decide +kernel
theorem dX2_readNumber_38 : decode cX2_readNumber 38 = .ok (.imul, 1) := by decide +kernel
theorem dX2_readNumber_39 : decode cX2_readNumber 39 = .ok (.aload_n 0, 1) := by decide +kernel
theorem dX2_readNumber_40 : decode cX2_readNumber 40 = .ok (.aload_n 0, 1) := by decide +kernel
theorem dX2_readNumber_41 : decode cX2_readNumber 41 = .ok (.getfield 28, 3) := by decide +kernel
theorem dX2_readNumber_44 : decode cX2_readNumber 44 = .ok (.invokevirtual 34, 3) := by decide +kernel
theorem dX2_readNumber_47 : decode cX2_readNumber 47 = .ok (.iadd, 1) := by decide +kernel
theorem dX2_readNumber_48 : decode cX2_readNumber 48 = .ok (.bipush 48, 2) := by decide +kernel
theorem dX2_readNumber_50 : decode cX2_readNumber 50 = .ok (.isub, 1) := by decide +kernel
theorem dX2_readNumber_51 : decode cX2_readNumber 51 = .ok (.istore 5, 2) := by decide +kernel
theorem dX2_readNumber_53 : decode cX2_readNumber 53 = .ok (.aload_n 0, 1) := by decide +kernel
theorem dX2_readNumber_54 : decode cX2_readNumber 54 = .ok (.dup, 1) := by decide +kernel
theorem dX2_readNumber_55 : decode cX2_readNumber 55 = .ok (.getfield 28, 3) := by decide +kernel
theorem dX2_readNumber_58 : decode cX2_readNumber 58 = .ok (.iconst 1, 1) := by decide +kernel
theorem dX2_readNumber_59 : decode cX2_readNumber 59 = .ok (.iadd, 1) := by decide +kernel
theorem dX2_readNumber_60 : decode cX2_readNumber 60 = .ok (.putfield 28, 3) := by decide +kernel
theorem dX2_readNumber_63 : decode cX2_readNumber 63 = .ok (.goto (-54), 3) := by decide +kernel
theorem dX2_readNumber_66 : decode cX2_readNumber 66 = .ok (.aload_n 0, 1) := by decide +kernel
theorem dX2_readNumber_67 : decode cX2_readNumber 67 = .ok (.getfield 28, 3) := by decide +kernel
theorem dX2_readNumber_70 : decode cX2_readNumber 70 = .ok (.iload 4, 2) := by decide +kernel
theorem dX2_readNumber_72 : decode cX2_readNumber 72 = .ok (.if_icmp .eq 17, 3) := by decide +kernel
theorem dX2_readNumber_75 : decode cX2_readNumber 75 = .ok (.aload_n 0, 1) := by decide +kernel
theorem dX2_readNumber_76 : decode cX2_readNumber 76 = .ok (.aload_n 0, 1) := by decide +kernel
theorem dX2_readNumber_77 : decode cX2_readNumber 77 = .ok (.getfield 28, 3) := by decide +kernel
theorem dX2_readNumber_80 : decode cX2_readNumber 80 = .ok (.invokevirtual 34, 3) := by decide +kernel
theorem dX2_readNumber_83 : decode cX2_readNumber 83 = .ok (.invokestatic 55, 3) := by decide +kernel
theorem dX2_readNumber_86 : decode cX2_readNumber 86 = .ok (.ifCond .eq 14, 3) := by decide +kernel
theorem dX2_readNumber_89 : decode cX2_readNumber 89 = .ok (.aload_n 0, 1) := by decide +kernel
theorem dX2_readNumber_90 : decode cX2_readNumber 90 = .ok (.aload_n 0, 1) := by decide +kernel
theorem dX2_readNumber_91 : decode cX2_readNumber 91 = .ok (.getfield 28, 3) := by decide +kernel
theorem dX2_readNumber_94 : decode cX2_readNumber 94 = .ok (.putfield 31, 3) := by decide +kernel
theorem dX2_readNumber_97 : decode cX2_readNumber 97 = .ok (.goto 19, 3) := by decide +kernel
theorem dX2_readNumber_100 : decode cX2_readNumber 100 = .ok (.iload 5, 2) := by decide +kernel
theorem dX2_readNumber_102 : decode cX2_readNumber 102 = .ok (.iload_n 2, 1) := by decide +kernel
theorem dX2_readNumber_103 : decode cX2_readNumber 103 = .ok (.iload_n 3, 1) := by decide +kernel
theorem dX2_readNumber_104 : decode cX2_readNumber 104 = .ok (.invokestatic 59, 3) := by decide +kernel
theorem dX2_readNumber_107 : decode cX2_readNumber 107 = .ok (.ifCond .ne 9, 3) := by decide +kernel
theorem dX2_readNumber_110 : decode cX2_readNumber 110 = .ok (.aload_n 0, 1) := by decide +kernel
theorem dX2_readNumber_111 : decode cX2_readNumber 111 = .ok (.iload 4, 2) := by decide +kernel
theorem dX2_readNumber_113 : decode cX2_readNumber 113 = .ok (.putfield 31, 3) := by decide +kernel
theorem dX2_readNumber_116 : decode cX2_readNumber 116 = .ok (.iload 5, 2) := by decide +kernel
theorem dX2_readNumber_118 : decode cX2_readNumber 118 = .ok (.ireturn, 1) := by decide +kernel
theorem dX2_readCompressor_0 : decode cX2_readCompressor 0 = .ok (.aload_n 0, 1) := by decide +kernel
theorem dX2_readCompressor_1 : decode cX2_readCompressor 1 = .ok (.aload_n 0, 1) := by decide +kernel
theorem dX2_readCompressor_2 : decode cX2_readCompressor 2 = .ok (.getfield 28, 3) := by decide +kernel
theorem dX2_readCompressor_5 : decode cX2_readCompressor 5 = .ok (.invokevirtual 34, 3) := by decide +kernel
theorem dX2_readCompressor_8 : decode cX2_readCompressor 8 = .ok (.bipush 48, 2) := by decide +kernel
theorem dX2_readCompressor_10 : decode cX2_readCompressor 10 = .ok (.isub, 1) := by decide +kernel
theorem dX2_readCompressor_11 : decode cX2_readCompressor 11 = .ok (.istore_n 1, 1) := by decide +kernel
theorem dX2_readCompressor_12 : decode cX2_readCompressor 12 = .ok (.iload_n 1, 1) := by decide +kernel
theorem dX2_readCompressor_13 : decode cX2_readCompressor 13 = .ok (.iconst 0, 1) := by decide +kernel
theorem dX2_readCompressor_14 : decode cX2_readCompressor 14 = .ok (.iconst 4, 1) := by decide +kernel
theorem dX2_readCompressor_15 : decode cX2_readCompressor 15 = .ok (.invokestatic 59, 3) := by decide +kernel
theorem dX2_readCompressor_18 : decode cX2_readCompressor 18 = .ok (.ifCond .ne 11, 3) := by decide +kernel
theorem dX2_readCompressor_21 : decode cX2_readCompressor 21 = .ok (.aload_n 0, 1) := by decide +kernel
theorem dX2_readCompressor_22 : decode cX2_readCompressor 22 = .ok (.aload_n 0, 1) := by decide +kernel
theorem dX2_readCompressor_23 : decode cX2_readCompressor 23 = .ok (.getfield 28, 3) := by decide +kernel
theorem dX2_readCompressor_26 : decode cX2_readCompressor 26 = .ok (.putfield 31, 3) := by decide +kernel
theorem dX2_readCompressor_29 : decode cX2_readCompressor 29 = .ok (.aload_n 0, 1) := by decide +kernel
theorem dX2_readCompressor_30 : decode cX2_readCompressor 30 = .ok (.dup, 1) := by decide +kernel
theorem dX2_readCompressor_31 : decode cX2_readCompressor 31 = .ok (.getfield 28, 3) := by decide +kernel
theorem dX2_readCompressor_34 : decode cX2_readCompressor 34 = .ok (.iconst 1, 1) := by decide +kernel
theorem dX2_readCompressor_35 : decode cX2_readCompressor 35 = .ok (.iadd, 1) := by decide +kernel
theorem dX2_readCompressor_36 : decode cX2_readCompressor 36 = .ok (.putfield 28, 3) := by decide +kernel
theorem dX2_readCompressor_39 : decode cX2_readCompressor 39 = .ok (.iload_n 1, 1) := by decide +kernel
theorem dX2_readCompressor_40 : decode cX2_readCompressor 40 = .ok (.ireturn, 1) := by decide +kernel
theorem dX2_readSemicolon_0 : decode cX2_readSemicolon 0 = .ok (.aload_n 0, 1) := by decide +kernel
theorem dX2_readSemicolon_1 : decode cX2_readSemicolon 1 = .ok (.getfield 31, 3) := by decide +kernel
theorem dX2_readSemicolon_4 : decode cX2_readSemicolon 4 = .ok (.iconst (-1), 1) := by decide +kernel
theorem dX2_readSemicolon_5 : decode cX2_readSemicolon 5 = .ok (.if_icmp .ne 24, 3) := by decide +kernel
theorem dX2_readSemicolon_8 : decode cX2_readSemicolon 8 = .ok (.aload_n 0, 1) := by decide +kernel
theorem dX2_readSemicolon_9 : decode cX2_readSemicolon 9 = .ok (.aload_n 0, 1) := by decide +kernel
theorem dX2_readSemicolon_10 : decode cX2_readSemicolon 10 = .ok (.getfield 28, 3) := by decide +kernel
theorem dX2_readSemicolon_13 : decode cX2_readSemicolon 13 = .ok (.invokevirtual 34, 3) := by decide +kernel
theorem dX2_readSemicolon_16 : decode cX2_readSemicolon 16 = .ok (.bipush 59, 2) := by decide +kernel
theorem dX2_readSemicolon_18 : decode cX2_readSemicolon 18 = .ok (.if_icmp .eq 11, 3) := by decide +kernel
theorem dX2_readSemicolon_21 : decode cX2_readSemicolon 21 = .ok (.aload_n 0, 1) := by decide +kernel
theorem dX2_readSemicolon_22 : decode cX2_readSemicolon 22 = .ok (.aload_n 0, 1) := by decide +kernel
theorem dX2_readSemicolon_23 : decode cX2_readSemicolon 23 = .ok (.getfield 28, 3) := by decide +kernel
theorem dX2_readSemicolon_26 : decode cX2_readSemicolon 26 = .ok (.putfield 31, 3) := by decide +kernel
theorem dX2_readSemicolon_29 : decode cX2_readSemicolon 29 = .ok (.aload_n 0, 1) := by decide +kernel
theorem dX2_readSemicolon_30 : decode cX2_readSemicolon 30 = .ok (.dup, 1) := by decide +kernel
theorem dX2_readSemicolon_31 : decode cX2_readSemicolon 31 = .ok (.getfield 28, 3) := by decide +kernel
theorem dX2_readSemicolon_34 : decode cX2_readSemicolon 34 = .ok (.iconst 1, 1) := by decide +kernel
theorem dX2_readSemicolon_35 : decode cX2_readSemicolon 35 = .ok (.iadd, 1) := by decide +kernel
theorem dX2_readSemicolon_36 : decode cX2_readSemicolon 36 = .ok (.putfield 28, 3) := by decide +kernel
theorem dX2_readSemicolon_39 : decode cX2_readSemicolon 39 = .ok (.return_, 1) := by decide +kernel
theorem dX2_byteAt_0 : decode cX2_byteAt 0 = .ok (.iload_n 1, 1) := by decide +kernel
theorem dX2_byteAt_1 : decode cX2_byteAt 1 = .ok (.ifCond .lt 29, 3) := by decide +kernel
theorem dX2_byteAt_4 : decode cX2_byteAt 4 = .ok (.iload_n 1, 1) := by decide +kernel
theorem dX2_byteAt_5 : decode cX2_byteAt 5 = .ok (.aload_n 0, 1) := by decide +kernel
theorem dX2_byteAt_6 : decode cX2_byteAt 6 = .ok (.getfield 21, 3) := by decide +kernel
theorem dX2_byteAt_9 : decode cX2_byteAt 9 = .ok (.if_icmp .ge 21, 3) := by decide +kernel
theorem dX2_byteAt_12 : decode cX2_byteAt 12 = .ok (.iload_n 1, 1) := by decide +kernel
theorem dX2_byteAt_13 : decode cX2_byteAt 13 = .ok (.aload_n 0, 1) := by decide +kernel
theorem dX2_byteAt_14 : decode cX2_byteAt 14 = .ok (.getfield 9, 3) := by decide +kernel
theorem dX2_byteAt_17 : decode cX2_byteAt 17 = .ok (.arraylength, 1) := by decide +kernel
theorem dX2_byteAt_18 : decode cX2_byteAt 18 = .ok (.if_icmp .ge 12, 3) := by decide +kernel
theorem dX2_byteAt_21 : decode cX2_byteAt 21 = .ok (.aload_n 0, 1) := by decide +kernel
theorem dX2_byteAt_22 : decode cX2_byteAt 22 = .ok (.getfield 9, 3) := by decide +kernel
theorem dX2_byteAt_25 : decode cX2_byteAt 25 = .ok (.iload_n 1, 1) := by decide +kernel
theorem dX2_byteAt_26 : decode cX2_byteAt 26 = .ok (.iaload, 1) := by decide +kernel
theorem dX2_byteAt_27 : decode cX2_byteAt 27 = .ok (.goto 4, 3) := by decide +kernel
theorem dX2_byteAt_30 : decode cX2_byteAt 30 = .ok (.iconst (-1), 1) := by decide +kernel
theorem dX2_byteAt_31 : decode cX2_byteAt 31 = .ok (.ireturn, 1) := by decide +kernel
theorem dX2_isDigit_0 : decode cX2_isDigit 0 = .ok (.iload_n 0, 1) := by decide +kernel
theorem dX2_isDigit_1 : decode cX2_isDigit 1 = .ok (.bipush 48, 2) := by decide +kernel
theorem dX2_isDigit_3 : decode cX2_isDigit 3 = .ok (.if_icmp .lt 13, 3) := by decide +kernel
theorem dX2_isDigit_6 : decode cX2_isDigit 6 = .ok (.iload_n 0, 1) := by decide +kernel
theorem dX2_isDigit_7 : decode cX2_isDigit 7 = .ok (.bipush 57, 2) := by decide +kernel
theorem dX2_isDigit_9 : decode cX2_isDigit 9 = .ok (.if_icmp .gt 7, 3) := by decide +kernel
theorem dX2_isDigit_12 : decode cX2_isDigit 12 = .ok (.iconst 1, 1) := by decide +kernel
theorem dX2_isDigit_13 : decode cX2_isDigit 13 = .ok (.goto 4, 3) := by decide +kernel
theorem dX2_isDigit_16 : decode cX2_isDigit 16 = .ok (.iconst 0, 1) := by decide +kernel
theorem dX2_isDigit_17 : decode cX2_isDigit 17 = .ok (.ireturn, 1) := by decide +kernel
theorem dX3_init_0 : decode cX3_init 0 = .ok (.aload_n 0, 1) := by decide +kernel
theorem dX3_init_1 : decode cX3_init 1 = .ok (.invokespecial 3, 3) := by decide +kernel
theorem dX3_init_4 : decode cX3_init 4 = .ok (.aload_n 0, 1) := by decide +kernel
theorem dX3_init_5 : decode cX3_init 5 = .ok (.sipush 1000, 3) := by decide +kernel
theorem dX3_init_8 : decode cX3_init 8 = .ok (.putfield 9, 3) := by decide +kernel
theorem dX3_init_11 : decode cX3_init 11 = .ok (.aload_n 0, 1) := by decide +kernel
theorem dX3_init_12 : decode cX3_init 12 = .ok (.sipush 6000, 3) := by decide +kernel
theorem dX3_init_15 : decode cX3_init 15 = .ok (.putfield 15, 3) := by decide +kernel
theorem dX3_init_18 : decode cX3_init 18 = .ok (.aload_n 0, 1) := by decide +kernel
theorem dX3_init_19 : decode cX3_init 19 = .ok (.bipush 8, 2) := by decide +kernel
theorem dX3_init_21 : decode cX3_init 21 = .ok (.newarray .int, 2) := by decide +kernel
theorem dX3_init_23 : decode cX3_init 23 = .ok (.putfield 18, 3) := by decide +kernel
theorem dX3_init_26 : decode cX3_init 26 = .ok (.aload_n 0, 1) := by decide +kernel
theorem dX3_init_27 : decode cX3_init 27 = .ok (.bipush 6, 2) := by decide +kernel
theorem dX3_init_29 : decode cX3_init 29 = .ok (.newarray .long, 2) := by decide +kernel
theorem dX3_init_31 : decode cX3_init 31 = .ok (.putfield 22, 3) := by decide +kernel
theorem dX3_init_34 : decode cX3_init 34 = .ok (.aload_n 0, 1) := by decide +kernel
theorem dX3_init_35 : decode cX3_init 35 = .ok (.bipush 6, 2) := by decide +kernel
theorem dX3_init_37 : decode cX3_init 37 = .ok (.newarray .int, 2) := by decide +kernel
theorem dX3_init_39 : decode cX3_init 39 = .ok (.putfield 26, 3) := by decide +kernel
theorem dX3_init_42 : decode cX3_init 42 = .ok (.aload_n 0, 1) := by decide +kernel
theorem dX3_init_43 : decode cX3_init 43 = .ok (.iconst 5, 1) := by decide +kernel
theorem dX3_init_44 : decode cX3_init 44 = .ok (.anewarray 29, 3) := by decide +kernel
theorem dX3_init_47 : decode cX3_init 47 = .ok (.putfield 31, 3) := by decide +kernel
theorem dX3_init_50 : decode cX3_init 50 = .ok (.getstatic 35, 3) := by decide +kernel
theorem dX3_init_53 : decode cX3_init 53 = .ok (.iconst 0, 1) := by decide +kernel
theorem dX3_init_54 : decode cX3_init 54 = .ok (.aload_n 0, 1) := by decide +kernel
theorem dX3_init_55 : decode cX3_init 55 = .ok (.getfield 18, 3) := by decide +kernel
theorem dX3_init_58 : decode cX3_init 58 = .ok (.iconst 0, 1) := by decide +kernel
theorem dX3_init_59 : decode cX3_init 59 = .ok (.bipush 8, 2) := by decide +kernel
theorem dX3_init_61 : decode cX3_init 61 = .ok (.invokestatic 38, 3) := by decide +kernel
theorem dX3_init_64 : decode cX3_init 64 = .ok (.iconst 0, 1) := by decide +kernel
theorem dX3_init_65 : decode cX3_init 65 = .ok (.istore_n 1, 1) := by decide +kernel
theorem dX3_init_66 : decode cX3_init 66 = .ok (.iload_n 1, 1) := by decide +kernel
theorem dX3_init_67 : decode cX3_init 67 = .ok (.iconst 5, 1) := by decide +kernel
theorem dX3_init_68 : decode cX3_init 68 = .ok (.if_icmp .ge 22, 3) := by decide +kernel
theorem dX3_init_71 : decode cX3_init 71 = .ok (.aload_n 0, 1) := by decide +kernel
theorem dX3_init_72 : decode cX3_init 72 = .ok (.getfield 31, 3) := by decide +kernel
theorem dX3_init_75 : decode cX3_init 75 = .ok (.iload_n 1, 1) := by decide +kernel
theorem dX3_init_76 : decode cX3_init 76 = .ok (.new 29, 3) := by decide +kernel
theorem dX3_init_79 : decode cX3_init 79 = .ok (.dup, 1) := by decide +kernel
theorem dX3_init_80 : decode cX3_init 80 = .ok (.invokespecial 44, 3) := by decide +kernel
theorem dX3_init_83 : decode cX3_init 83 = .ok (.aastore, 1) := by decide +kernel
theorem dX3_init_84 : decode cX3_init 84 = .ok (.iinc 1 1, 3) := by decide +kernel
theorem dX3_init_87 : decode cX3_init 87 = .ok (.goto (-21), 3) := by decide +kernel
theorem dX3_init_90 : decode cX3_init 90 = .ok (.return_, 1) := by decide +kernel
theorem dX3_takeOver_0 : decode cX3_takeOver 0 = .ok (.aload_n 0, 1) := by decide +kernel
theorem dX3_takeOver_1 : decode cX3_takeOver 1 = .ok (.aload_n 1, 1) := by decide +kernel
theorem dX3_takeOver_2 : decode cX3_takeOver 2 = .ok (.getfield 9, 3) := by decide +kernel
theorem dX3_takeOver_5 : decode cX3_takeOver 5 = .ok (.putfield 9, 3) := by decide +kernel
theorem dX3_takeOver_8 : decode cX3_takeOver 8 = .ok (.aload_n 0, 1) := by decide +kernel
theorem dX3_takeOver_9 : decode cX3_takeOver 9 = .ok (.aload_n 1, 1) := by decide +kernel
theorem dX3_takeOver_10 : decode cX3_takeOver 10 = .ok (.getfield 15, 3) := by decide +kernel
theorem dX3_takeOver_13 : decode cX3_takeOver 13 = .ok (.putfield 15, 3) := by decide +kernel
theorem dX3_takeOver_16 : decode cX3_takeOver 16 = .ok (.aload_n 0, 1) := by decide +kernel
theorem dX3_takeOver_17 : decode cX3_takeOver 17 = .ok (.aload_n 1, 1) := by decide +kernel
theorem dX3_takeOver_18 : decode cX3_takeOver 18 = .ok (.getfield 45, 3) := by decide +kernel
theorem dX3_takeOver_21 : decode cX3_takeOver 21 = .ok (.putfield 45, 3) := by decide +kernel
theorem dX3_takeOver_24 : decode cX3_takeOver 24 = .ok (.aload_n 0, 1) := by decide +kernel
theorem dX3_takeOver_25 : decode cX3_takeOver 25 = .ok (.aload_n 1, 1) := by decide +kernel
theorem dX3_takeOver_26 : decode cX3_takeOver 26 = .ok (.getfield 48, 3) := by decide +kernel
theorem dX3_takeOver_29 : decode cX3_takeOver 29 = .ok (.putfield 48, 3) := by decide +kernel
theorem dX3_takeOver_32 : decode cX3_takeOver 32 = .ok (.aload_n 0, 1) := by decide +kernel
theorem dX3_takeOver_33 : decode cX3_takeOver 33 = .ok (.aload_n 1, 1) := by decide +kernel
theorem dX3_takeOver_34 : decode cX3_takeOver 34 = .ok (.getfield 51, 3) := by decide +kernel
theorem dX3_takeOver_37 : decode cX3_takeOver 37 = .ok (.putfield 51, 3) := by decide +kernel
theorem dX3_takeOver_40 : decode cX3_takeOver 40 = .ok (.aload_n 0, 1) := by decide +kernel
theorem dX3_takeOver_41 : decode cX3_takeOver 41 = .ok (.aload_n 1, 1) := by decide +kernel
theorem dX3_takeOver_42 : decode cX3_takeOver 42 = .ok (.getfield 54, 3) := by decide +kernel
theorem dX3_takeOver_45 : decode cX3_takeOver 45 = .ok (.putfield 54, 3) := by decide +kernel
theorem dX3_takeOver_48 : decode cX3_takeOver 48 = .ok (.aload_n 0, 1) := by decide +kernel
theorem dX3_takeOver_49 : decode cX3_takeOver 49 = .ok (.aload_n 1, 1) := by decide +kernel
theorem dX3_takeOver_50 : decode cX3_takeOver 50 = .ok (.getfield 57, 3) := by decide +kernel
theorem dX3_takeOver_53 : decode cX3_takeOver 53 = .ok (.putfield 57, 3) := by decide +kernel
theorem dX3_takeOver_56 : decode cX3_takeOver 56 = .ok (.aload_n 1, 1) := by decide +kernel
theorem dX3_takeOver_57 : decode cX3_takeOver 57 = .ok (.getfield 18, 3) := by decide +kernel
theorem dX3_takeOver_60 : decode cX3_takeOver 60 = .ok (.iconst 0, 1) := by decide +kernel
theorem dX3_takeOver_61 : decode cX3_takeOver 61 = .ok (.aload_n 0, 1) := by decide +kernel
theorem dX3_takeOver_62 : decode cX3_takeOver 62 = .ok (.getfield 18, 3) := by decide +kernel
theorem dX3_takeOver_65 : decode cX3_takeOver 65 = .ok (.iconst 0, 1) := by decide +kernel
theorem dX3_takeOver_66 : decode cX3_takeOver 66 = .ok (.bipush 8, 2) := by decide +kernel
theorem dX3_takeOver_68 : decode cX3_takeOver 68 = .ok (.invokestatic 38, 3) := by decide +kernel
theorem dX3_takeOver_71 : decode cX3_takeOver 71 = .ok (.aload_n 1, 1) := by decide +kernel
theorem dX3_takeOver_72 : decode cX3_takeOver 72 = .ok (.getfield 22, 3) := by decide +kernel
theorem dX3_takeOver_75 : decode cX3_takeOver 75 = .ok (.iconst 0, 1) := by decide +kernel
theorem dX3_takeOver_76 : decode cX3_takeOver 76 = .ok (.aload_n 0, 1) := by decide +kernel
theorem dX3_takeOver_77 : decode cX3_takeOver 77 = .ok (.getfield 22, 3) := by decide +kernel
theorem dX3_takeOver_80 : decode cX3_takeOver 80 = .ok (.iconst 0, 1) := by decide +kernel
theorem dX3_takeOver_81 : decode cX3_takeOver 81 = .ok (.bipush 6, 2) := by decide +kernel
theorem dX3_takeOver_83 : decode cX3_takeOver 83 = .ok (.invokestatic 38, 3) := by decide +kernel
theorem dX3_takeOver_86 : decode cX3_takeOver 86 = .ok (.aload_n 1, 1) := by decide +kernel
theorem dX3_takeOver_87 : decode cX3_takeOver 87 = .ok (.getfield 26, 3) := by decide +kernel
theorem dX3_takeOver_90 : decode cX3_takeOver 90 = .ok (.iconst 0, 1) := by decide +kernel
theorem dX3_takeOver_91 : decode cX3_takeOver 91 = .ok (.aload_n 0, 1) := by decide +kernel
theorem dX3_takeOver_92 : decode cX3_takeOver 92 = .ok (.getfield 26, 3) := by decide +kernel
theorem dX3_takeOver_95 : decode cX3_takeOver 95 = .ok (.iconst 0, 1) := by decide +kernel
theorem dX3_takeOver_96 : decode cX3_takeOver 96 = .ok (.bipush 6, 2) := by decide +kernel
theorem dX3_takeOver_98 : decode cX3_takeOver 98 = .ok (.invokestatic 38, 3) := by decide +kernel
theorem dX3_takeOver_101 : decode cX3_takeOver 101 = .ok (.iconst 0, 1) := by decide +kernel
theorem dX3_takeOver_102 : decode cX3_takeOver 102 = .ok (.istore_n 2, 1) := by decide +kernel
theorem dX3_takeOver_103 : decode cX3_takeOver 103 = .ok (.iload_n 2, 1) := by decide +kernel
theorem dX3_takeOver_104 : decode cX3_takeOver 104 = .ok (.iconst 5, 1) := by decide +kernel
theorem dX3_takeOver_105 : decode cX3_takeOver 105 = .ok (.if_icmp .ge 37, 3) := by decide +kernel
theorem dX3_takeOver_108 : decode cX3_takeOver 108 = .ok (.aload_n 0, 1) := by decide +kernel
theorem dX3_takeOver_109 : decode cX3_takeOver 109 = .ok (.iload_n 2, 1) := by decide +kernel
theorem dX3_takeOver_110 : decode cX3_takeOver 110 = .ok (.invokevirtual 60, 3) := by decide +kernel
theorem dX3_takeOver_113 : decode cX3_takeOver 113 = .ok (.astore_n 3, 1) := by decide +kernel
theorem dX3_takeOver_114 : decode cX3_takeOver 114 = .ok (.aload_n 1, 1) := by decide +kernel
theorem dX3_takeOver_115 : decode cX3_takeOver 115 = .ok (.iload_n 2, 1) := by decide +kernel
theorem dX3_takeOver_116 : decode cX3_takeOver 116 = .ok (.invokevirtual 60, 3) := by decide +kernel
theorem dX3_takeOver_119 : decode cX3_takeOver 119 = .ok (.astore 4, 2) := by decide +kernel
theorem dX3_takeOver_121 : decode cX3_takeOver 121 = .ok (.aload_n 3, 1) := by decide +kernel
theorem dX3_takeOver_122 : decode cX3_takeOver 122 = .ok (.ifnull 14, 3) := by decide +kernel
theorem dX3_takeOver_125 : decode cX3_takeOver 125 = .ok (.aload 4, 2) := by decide +kernel
theorem dX3_takeOver_127 : decode cX3_takeOver 127 = .ok (.ifnull 9, 3) := by decide +kernel
theorem dX3_takeOver_130 : decode cX3_takeOver 130 = .ok (.aload_n 3, 1) := by decide +kernel
theorem dX3_takeOver_131 : decode cX3_takeOver 131 = .ok (.aload 4, 2) := by decide +kernel
theorem dX3_takeOver_133 : decode cX3_takeOver 133 = .ok (.invokevirtual 64, 3) := by decide +kernel
theorem dX3_takeOver_136 : decode cX3_takeOver 136 = .ok (.iinc 2 1, 3) := by decide +kernel
theorem dX3_takeOver_139 : decode cX3_takeOver 139 = .ok (.goto (-36), 3) := by decide +kernel
theorem dX3_takeOver_142 : decode cX3_takeOver 142 = .ok (.return_, 1) := by decide +kernel
theorem dX3_numbered_0 : decode cX3_numbered 0 = .ok (.iload_n 1, 1) := by decide +kernel
theorem dX3_numbered_1 : decode cX3_numbered 1 = .ok (.ifCond .lt 20, 3) := by decide +kernel
theorem dX3_numbered_4 : decode cX3_numbered 4 = .ok (.iload_n 1, 1) := by decide +kernel
theorem dX3_numbered_5 : decode cX3_numbered 5 = .ok (.aload_n 0, 1) := by decide +kernel
theorem dX3_numbered_6 : decode cX3_numbered 6 = .ok (.getfield 54, 3) := by decide +kernel
theorem dX3_numbered_9 : decode cX3_numbered 9 = .ok (.if_icmp .ge 12, 3) := by decide +kernel
theorem dX3_numbered_12 : decode cX3_numbered 12 = .ok (.iload_n 1, 1) := by decide +kernel
theorem dX3_numbered_13 : decode cX3_numbered 13 = .ok (.aload_n 0, 1) := by decide +kernel
theorem dX3_numbered_14 : decode cX3_numbered 14 = .ok (.getfield 31, 3) := by decide +kernel
theorem dX3_numbered_17 : decode cX3_numbered 17 = .ok (.arraylength, 1) := by decide +kernel
theorem dX3_numbered_18 : decode cX3_numbered 18 = .ok (.if_icmp .lt 5, 3) := by decide +kernel
theorem dX3_numbered_21 : decode cX3_numbered 21 = .ok (.aconst_null, 1) := by decide +kernel
theorem dX3_numbered_22 : decode cX3_numbered 22 = .ok (.areturn, 1) := by decide +kernel
theorem dX3_numbered_23 : decode cX3_numbered 23 = .ok (.aload_n 0, 1) := by decide +kernel
theorem dX3_numbered_24 : decode cX3_numbered 24 = .ok (.getfield 31, 3) := by decide +kernel
theorem dX3_numbered_27 : decode cX3_numbered 27 = .ok (.iload_n 1, 1) := by decide +kernel
theorem dX3_numbered_28 : decode cX3_numbered 28 = .ok (.aaload, 1) := by decide +kernel
theorem dX3_numbered_29 : decode cX3_numbered 29 = .ok (.areturn, 1) := by decide +kernel
theorem dX3_install_0 : decode cX3_install 0 = .ok (.aload_n 0, 1) := by decide +kernel
theorem dX3_install_1 : decode cX3_install 1 = .ok (.getfield 54, 3) := by decide +kernel
theorem dX3_install_4 : decode cX3_install 4 = .ok (.istore_n 2, 1) := by decide +kernel
theorem dX3_install_5 : decode cX3_install 5 = .ok (.aload_n 0, 1) := by decide +kernel
theorem dX3_install_6 : decode cX3_install 6 = .ok (.dup, 1) := by decide +kernel
theorem dX3_install_7 : decode cX3_install 7 = .ok (.getfield 54, 3) := by decide +kernel
theorem dX3_install_10 : decode cX3_install 10 = .ok (.iconst 1, 1) := by decide +kernel
theorem dX3_install_11 : decode cX3_install 11 = .ok (.iadd, 1) := by decide +kernel
theorem dX3_install_12 : decode cX3_install 12 = .ok (.putfield 54, 3) := by decide +kernel
theorem dX3_install_15 : decode cX3_install 15 = .ok (.aload_n 0, 1) := by decide +kernel
theorem dX3_install_16 : decode cX3_install 16 = .ok (.iload_n 2, 1) := by decide +kernel
theorem dX3_install_17 : decode cX3_install 17 = .ok (.invokevirtual 60, 3) := by decide +kernel
theorem dX3_install_20 : decode cX3_install 20 = .ok (.astore_n 3, 1) := by decide +kernel
theorem dX3_install_21 : decode cX3_install 21 = .ok (.aload_n 3, 1) := by decide +kernel
theorem dX3_install_22 : decode cX3_install 22 = .ok (.ifnull 9, 3) := by decide +kernel
theorem dX3_install_25 : decode cX3_install 25 = .ok (.aload_n 3, 1) := by decide +kernel
theorem dX3_install_26 : decode cX3_install 26 = .ok (.iload_n 1, 1) := by decide +kernel
theorem dX3_install_27 : decode cX3_install 27 = .ok (.iload_n 2, 1) := by decide +kernel
theorem dX3_install_28 : decode cX3_install 28 = .ok (.invokevirtual 68, 3) := by decide +kernel
theorem dX3_install_31 : decode cX3_install 31 = .ok (.iload_n 2, 1) := by decide +kernel
theorem dX3_install_32 : decode cX3_install 32 = .ok (.ireturn, 1) := by decide +kernel
theorem dX3_pressure_0 : decode cX3_pressure 0 = .ok (.aload_n 0, 1) := by decide +kernel
theorem dX3_pressure_1 : decode cX3_pressure 1 = .ok (.getfield 15, 3) := by decide +kernel
theorem dX3_pressure_4 : decode cX3_pressure 4 = .ok (.aload_n 0, 1) := by decide +kernel
theorem dX3_pressure_5 : decode cX3_pressure 5 = .ok (.getfield 9, 3) := by decide +kernel
theorem dX3_pressure_8 : decode cX3_pressure 8 = .ok (.invokestatic 72, 3) := by decide +kernel
theorem dX3_pressure_11 : decode cX3_pressure 11 = .ok (.ireturn, 1) := by decide +kernel
theorem dX3_leakAt_0 : decode cX3_leakAt 0 = .ok (.iload_n 1, 1) := by decide +kernel
theorem dX3_leakAt_1 : decode cX3_leakAt 1 = .ok (.aload_n 0, 1) := by decide +kernel
theorem dX3_leakAt_2 : decode cX3_leakAt 2 = .ok (.getfield 18, 3) := by decide +kernel
theorem dX3_leakAt_5 : decode cX3_leakAt 5 = .ok (.iconst 5, 1) := by decide +kernel
theorem dX3_leakAt_6 : decode cX3_leakAt 6 = .ok (.iaload, 1) := by decide +kernel
theorem dX3_leakAt_7 : decode cX3_leakAt 7 = .ok (.imul, 1) := by decide +kernel
theorem dX3_leakAt_8 : decode cX3_leakAt 8 = .ok (.sipush 1000, 3) := by decide +kernel
theorem dX3_leakAt_11 : decode cX3_leakAt 11 = .ok (.idiv, 1) := by decide +kernel
theorem dX3_leakAt_12 : decode cX3_leakAt 12 = .ok (.ireturn, 1) := by decide +kernel
theorem dX3_limitForLoading_0 : decode cX3_limitForLoading 0 = .ok (.aload_n 0, 1) := by decide +kernel
theorem dX3_limitForLoading_1 : decode cX3_limitForLoading 1 = .ok (.getfield 18, 3) := by decide +kernel
theorem dX3_limitForLoading_4 : decode cX3_limitForLoading 4 = .ok (.iconst 0, 1) := by decide +kernel
theorem dX3_limitForLoading_5 : decode cX3_limitForLoading 5 = .ok (.iaload, 1) := by decide +kernel
theorem dX3_limitForLoading_6 : decode cX3_limitForLoading 6 = .ok (.aload_n 1, 1) := by decide +kernel
theorem dX3_limitForLoading_7 : decode cX3_limitForLoading 7 = .ok (.getfield 76, 3) := by decide +kernel
theorem dX3_limitForLoading_10 : decode cX3_limitForLoading 10 = .ok (.iconst 1, 1) := by decide +kernel
theorem dX3_limitForLoading_11 : decode cX3_limitForLoading 11 = .ok (.iadd, 1) := by decide +kernel
theorem dX3_limitForLoading_12 : decode cX3_limitForLoading 12 = .ok (.aload_n 0, 1) := by decide +kernel
theorem dX3_limitForLoading_13 : decode cX3_limitForLoading 13 = .ok (.getfield 18, 3) := by decide +kernel
theorem dX3_limitForLoading_16 : decode cX3_limitForLoading 16 = .ok (.iconst 1, 1) := by decide +kernel
theorem dX3_limitForLoading_17 : decode cX3_limitForLoading 17 = .ok (.iaload, 1) := by decide +kernel
theorem dX3_limitForLoading_18 : decode cX3_limitForLoading 18 = .ok (.imul, 1) := by decide +kernel
theorem dX3_limitForLoading_19 : decode cX3_limitForLoading 19 = .ok (.isub, 1) := by decide +kernel
theorem dX3_limitForLoading_20 : decode cX3_limitForLoading 20 = .ok (.ireturn, 1) := by decide +kernel
theorem dX3_limitForUnloading_0 : decode cX3_limitForUnloading 0 = .ok (.aload_n 0, 1) := by decide +kernel
theorem dX3_limitForUnloading_1 : decode cX3_limitForUnloading 1 = .ok (.getfield 18, 3) := by decide +kernel
theorem dX3_limitForUnloading_4 : decode cX3_limitForUnloading 4 = .ok (.iconst 0, 1) := by decide +kernel
theorem dX3_limitForUnloading_5 : decode cX3_limitForUnloading 5 = .ok (.iaload, 1) := by decide +kernel
theorem dX3_limitForUnloading_6 : decode cX3_limitForUnloading 6 = .ok (.aload_n 0, 1) := by decide +kernel
theorem dX3_limitForUnloading_7 : decode cX3_limitForUnloading 7 = .ok (.getfield 54, 3) := by decide +kernel
theorem dX3_limitForUnloading_10 : decode cX3_limitForUnloading 10 = .ok (.aload_n 1, 1) := by decide +kernel
theorem dX3_limitForUnloading_11 : decode cX3_limitForUnloading 11 = .ok (.getfield 76, 3) := by decide +kernel
theorem dX3_limitForUnloading_14 : decode cX3_limitForUnloading 14 = .ok (.isub, 1) := by decide +kernel
theorem dX3_limitForUnloading_15 : decode cX3_limitForUnloading 15 = .ok (.aload_n 0, 1) := by decide +kernel
theorem dX3_limitForUnloading_16 : decode cX3_limitForUnloading 16 = .ok (.getfield 18, 3) := by decide +kernel
theorem dX3_limitForUnloading_19 : decode cX3_limitForUnloading 19 = .ok (.iconst 1, 1) := by decide +kernel
theorem dX3_limitForUnloading_20 : decode cX3_limitForUnloading 20 = .ok (.iaload, 1) := by decide +kernel
theorem dX3_limitForUnloading_21 : decode cX3_limitForUnloading 21 = .ok (.imul, 1) := by decide +kernel
theorem dX3_limitForUnloading_22 : decode cX3_limitForUnloading 22 = .ok (.iadd, 1) := by decide +kernel
theorem dX3_limitForUnloading_23 : decode cX3_limitForUnloading 23 = .ok (.ireturn, 1) := by decide +kernel
theorem dX3_hasTimeFor_0 : decode cX3_hasTimeFor 0 = .ok (.aload_n 0, 1) := by decide +kernel
theorem dX3_hasTimeFor_1 : decode cX3_hasTimeFor 1 = .ok (.getfield 45, 3) := by decide +kernel
theorem dX3_hasTimeFor_4 : decode cX3_hasTimeFor 4 = .ok (.iload_n 1, 1) := by decide +kernel
theorem dX3_hasTimeFor_5 : decode cX3_hasTimeFor 5 = .ok (.iadd, 1) := by decide +kernel
theorem dX3_hasTimeFor_6 : decode cX3_hasTimeFor 6 = .ok (.ldc 79, 2) := by decide +kernel
theorem dX3_hasTimeFor_8 : decode cX3_hasTimeFor 8 = .ok (.if_icmp .gt 7, 3) := by decide +kernel
theorem dX3_hasTimeFor_11 : decode cX3_hasTimeFor 11 = .ok (.iconst 1, 1) := by decide +kernel
theorem dX3_hasTimeFor_12 : decode cX3_hasTimeFor 12 = .ok (.goto 4, 3) := by decide +kernel
theorem dX3_hasTimeFor_15 : decode cX3_hasTimeFor 15 = .ok (.iconst 0, 1) := by decide +kernel
theorem dX3_hasTimeFor_16 : decode cX3_hasTimeFor 16 = .ok (.ireturn, 1) := by decide +kernel
theorem dX3_numberOf_0 : decode cX3_numberOf 0 = .ok (.iload_n 1, 1) := by decide +kernel
theorem dX3_numberOf_1 : decode cX3_numberOf 1 = .ok (.tableswitch 118 0 10 #[59, 64, 69, 74, 79, 85, 91, 97, 102, 107, 112], 59) := by decide +kernel
theorem dX3_numberOf_60 : decode cX3_numberOf 60 = .ok (.aload_n 0, 1) := by decide +kernel
theorem dX3_numberOf_61 : decode cX3_numberOf 61 = .ok (.getfield 9, 3) := by decide +kernel
theorem dX3_numberOf_64 : decode cX3_numberOf 64 = .ok (.ireturn, 1) := by decide +kernel
theorem dX3_numberOf_65 : decode cX3_numberOf 65 = .ok (.aload_n 0, 1) := by decide +kernel
theorem dX3_numberOf_66 : decode cX3_numberOf 66 = .ok (.getfield 15, 3) := by decide +kernel
theorem dX3_numberOf_69 : decode cX3_numberOf 69 = .ok (.ireturn, 1) := by decide +kernel
theorem dX3_numberOf_70 : decode cX3_numberOf 70 = .ok (.aload_n 0, 1) := by decide +kernel
theorem dX3_numberOf_71 : decode cX3_numberOf 71 = .ok (.invokevirtual 80, 3) := by decide +kernel
theorem dX3_numberOf_74 : decode cX3_numberOf 74 = .ok (.ireturn, 1) := by decide +kernel
theorem dX3_numberOf_75 : decode cX3_numberOf 75 = .ok (.aload_n 0, 1) := by decide +kernel
theorem dX3_numberOf_76 : decode cX3_numberOf 76 = .ok (.getfield 54, 3) := by decide +kernel
theorem dX3_numberOf_79 : decode cX3_numberOf 79 = .ok (.ireturn, 1) := by decide +kernel
theorem dX3_numberOf_80 : decode cX3_numberOf 80 = .ok (.aload_n 0, 1) := by decide +kernel
theorem dX3_numberOf_81 : decode cX3_numberOf 81 = .ok (.iconst 1, 1) := by decide +kernel
theorem dX3_numberOf_82 : decode cX3_numberOf 82 = .ok (.invokevirtual 84, 3) := by decide +kernel
theorem dX3_numberOf_85 : decode cX3_numberOf 85 = .ok (.ireturn, 1) := by decide +kernel
theorem dX3_numberOf_86 : decode cX3_numberOf 86 = .ok (.aload_n 0, 1) := by decide +kernel
theorem dX3_numberOf_87 : decode cX3_numberOf 87 = .ok (.iconst 2, 1) := by decide +kernel
theorem dX3_numberOf_88 : decode cX3_numberOf 88 = .ok (.invokevirtual 84, 3) := by decide +kernel
theorem dX3_numberOf_91 : decode cX3_numberOf 91 = .ok (.ireturn, 1) := by decide +kernel
theorem dX3_numberOf_92 : decode cX3_numberOf 92 = .ok (.aload_n 0, 1) := by decide +kernel
theorem dX3_numberOf_93 : decode cX3_numberOf 93 = .ok (.iconst 3, 1) := by decide +kernel
theorem dX3_numberOf_94 : decode cX3_numberOf 94 = .ok (.invokevirtual 84, 3) := by decide +kernel
theorem dX3_numberOf_97 : decode cX3_numberOf 97 = .ok (.ireturn, 1) := by decide +kernel
theorem dX3_numberOf_98 : decode cX3_numberOf 98 = .ok (.aload_n 0, 1) := by decide +kernel
theorem dX3_numberOf_99 : decode cX3_numberOf 99 = .ok (.getfield 45, 3) := by decide +kernel
theorem dX3_numberOf_102 : decode cX3_numberOf 102 = .ok (.ireturn, 1) := by decide +kernel
theorem dX3_numberOf_103 : decode cX3_numberOf 103 = .ok (.aload_n 0, 1) := by decide +kernel
theorem dX3_numberOf_104 : decode cX3_numberOf 104 = .ok (.getfield 48, 3) := by decide +kernel
theorem dX3_numberOf_107 : decode cX3_numberOf 107 = .ok (.ireturn, 1) := by decide +kernel
theorem dX3_numberOf_108 : decode cX3_numberOf 108 = .ok (.aload_n 0, 1) := by decide +kernel
theorem dX3_numberOf_109 : decode cX3_numberOf 109 = .ok (.getfield 51, 3) := by decide +kernel
theorem dX3_numberOf_112 : decode cX3_numberOf 112 = .ok (.ireturn, 1) := by decide +kernel
theorem dX3_numberOf_113 : decode cX3_numberOf 113 = .ok (.aload_n 0, 1) := by decide +kernel
theorem dX3_numberOf_114 : decode cX3_numberOf 114 = .ok (.iconst 1, 1) := by decide +kernel
theorem dX3_numberOf_115 : decode cX3_numberOf 115 = .ok (.invokevirtual 88, 3) := by decide +kernel
theorem dX3_numberOf_118 : decode cX3_numberOf 118 = .ok (.ireturn, 1) := by decide +kernel
theorem dX3_numberOf_119 : decode cX3_numberOf 119 = .ok (.aload_n 0, 1) := by decide +kernel
theorem dX3_numberOf_120 : decode cX3_numberOf 120 = .ok (.getfield 57, 3) := by decide +kernel
theorem dX3_numberOf_123 : decode cX3_numberOf 123 = .ok (.ireturn, 1) := by decide +kernel
theorem dX3_numberAbout_0 : decode cX3_numberAbout 0 = .ok (.iload_n 2, 1) := by decide +kernel
theorem dX3_numberAbout_1 : decode cX3_numberAbout 1 = .ok (.tableswitch 97 0 8 #[51, 56, 61, 66, 71, 76, 81, 86, 91], 51) := by decide +kernel
theorem dX3_numberAbout_52 : decode cX3_numberAbout 52 = .ok (.aload_n 1, 1) := by decide +kernel
theorem dX3_numberAbout_53 : decode cX3_numberAbout 53 = .ok (.getfield 91, 3) := by decide +kernel
theorem dX3_numberAbout_56 : decode cX3_numberAbout 56 = .ok (.ireturn, 1) := by decide +kernel
theorem dX3_numberAbout_57 : decode cX3_numberAbout 57 = .ok (.aload_n 1, 1) := by decide +kernel
theorem dX3_numberAbout_58 : decode cX3_numberAbout 58 = .ok (.getfield 94, 3) := by decide +kernel
theorem dX3_numberAbout_61 : decode cX3_numberAbout 61 = .ok (.ireturn, 1) := by decide +kernel
theorem dX3_numberAbout_62 : decode cX3_numberAbout 62 = .ok (.aload_n 1, 1) := by decide +kernel
theorem dX3_numberAbout_63 : decode cX3_numberAbout 63 = .ok (.getfield 76, 3) := by decide +kernel
theorem dX3_numberAbout_66 : decode cX3_numberAbout 66 = .ok (.ireturn, 1) := by decide +kernel
theorem dX3_numberAbout_67 : decode cX3_numberAbout 67 = .ok (.aload_n 1, 1) := by decide +kernel
theorem dX3_numberAbout_68 : decode cX3_numberAbout 68 = .ok (.getfield 97, 3) := by decide +kernel
theorem dX3_numberAbout_71 : decode cX3_numberAbout 71 = .ok (.ireturn, 1) := by decide +kernel
theorem dX3_numberAbout_72 : decode cX3_numberAbout 72 = .ok (.aload_n 1, 1) := by decide +kernel
theorem dX3_numberAbout_73 : decode cX3_numberAbout 73 = .ok (.getfield 100, 3) := by decide +kernel
theorem dX3_numberAbout_76 : decode cX3_numberAbout 76 = .ok (.ireturn, 1) := by decide +kernel
theorem dX3_numberAbout_77 : decode cX3_numberAbout 77 = .ok (.aload_n 1, 1) := by decide +kernel
theorem dX3_numberAbout_78 : decode cX3_numberAbout 78 = .ok (.getfield 103, 3) := by decide +kernel
theorem dX3_numberAbout_81 : decode cX3_numberAbout 81 = .ok (.ireturn, 1) := by decide +kernel
theorem dX3_numberAbout_82 : decode cX3_numberAbout 82 = .ok (.aload_n 1, 1) := by decide +kernel
theorem dX3_numberAbout_83 : decode cX3_numberAbout 83 = .ok (.getfield 106, 3) := by decide +kernel
theorem dX3_numberAbout_86 : decode cX3_numberAbout 86 = .ok (.ireturn, 1) := by decide +kernel
theorem dX3_numberAbout_87 : decode cX3_numberAbout 87 = .ok (.aload_n 1, 1) := by decide +kernel
theorem dX3_numberAbout_88 : decode cX3_numberAbout 88 = .ok (.getfield 109, 3) := by decide +kernel
theorem dX3_numberAbout_91 : decode cX3_numberAbout 91 = .ok (.ireturn, 1) := by decide +kernel
theorem dX3_numberAbout_92 : decode cX3_numberAbout 92 = .ok (.aload_n 0, 1) := by decide +kernel
theorem dX3_numberAbout_93 : decode cX3_numberAbout 93 = .ok (.aload_n 1, 1) := by decide +kernel
theorem dX3_numberAbout_94 : decode cX3_numberAbout 94 = .ok (.invokevirtual 112, 3) := by decide +kernel
theorem dX3_numberAbout_97 : decode cX3_numberAbout 97 = .ok (.ireturn, 1) := by decide +kernel
theorem dX3_numberAbout_98 : decode cX3_numberAbout 98 = .ok (.aload_n 0, 1) := by decide +kernel
theorem dX3_numberAbout_99 : decode cX3_numberAbout 99 = .ok (.aload_n 1, 1) := by decide +kernel
theorem dX3_numberAbout_100 : decode cX3_numberAbout 100 = .ok (.invokevirtual 116, 3) := by decide +kernel
theorem dX3_numberAbout_103 : decode cX3_numberAbout 103 = .ok (.ireturn, 1) := by decide +kernel
theorem dX3_countOf_0 : decode cX3_countOf 0 = .ok (.iconst 0, 1) := by decide +kernel
theorem dX3_countOf_1 : decode cX3_countOf 1 = .ok (.istore_n 2, 1) := by decide +kernel
theorem dX3_countOf_2 : decode cX3_countOf 2 = .ok (.iconst 0, 1) := by decide +kernel
theorem dX3_countOf_3 : decode cX3_countOf 3 = .ok (.istore_n 3, 1) := by decide +kernel
theorem dX3_countOf_4 : decode cX3_countOf 4 = .ok (.iload_n 3, 1) := by decide +kernel
theorem dX3_countOf_5 : decode cX3_countOf 5 = .ok (.iconst 5, 1) := by decide +kernel
theorem dX3_countOf_6 : decode cX3_countOf 6 = .ok (.if_icmp .ge 33, 3) := by decide +kernel
theorem dX3_countOf_9 : decode cX3_countOf 9 = .ok (.aload_n 0, 1) := by decide +kernel
theorem dX3_countOf_10 : decode cX3_countOf 10 = .ok (.iload_n 3, 1) := by decide +kernel
theorem dX3_countOf_11 : decode cX3_countOf 11 = .ok (.invokevirtual 60, 3) := by decide +kernel
theorem dX3_countOf_14 : decode cX3_countOf 14 = .ok (.astore 4, 2) := by decide +kernel
theorem dX3_countOf_16 : decode cX3_countOf 16 = .ok (.aload 4, 2) := by decide +kernel
theorem dX3_countOf_18 : decode cX3_countOf 18 = .ok (.ifnull 15, 3) := by decide +kernel
theorem dX3_countOf_21 : decode cX3_countOf 21 = .ok (.aload 4, 2) := by decide +kernel
theorem dX3_countOf_23 : decode cX3_countOf 23 = .ok (.getfield 94, 3) := by decide +kernel
theorem dX3_countOf_26 : decode cX3_countOf 26 = .ok (.iload_n 1, 1) := by decide +kernel
theorem dX3_countOf_27 : decode cX3_countOf 27 = .ok (.if_icmp .ne 6, 3) := by decide +kernel
theorem dX3_countOf_30 : decode cX3_countOf 30 = .ok (.iinc 2 1, 3) := by decide +kernel
theorem dX3_countOf_33 : decode cX3_countOf 33 = .ok (.iinc 3 1, 3) := by decide +kernel
theorem dX3_countOf_36 : decode cX3_countOf 36 = .ok (.goto (-32), 3) := by decide +kernel
theorem dX3_countOf_39 : decode cX3_countOf 39 = .ok (.iload_n 2, 1) := by decide +kernel
theorem dX3_countOf_40 : decode cX3_countOf 40 = .ok (.ireturn, 1) := by decide +kernel
theorem dX3_capacityOf_0 : decode cX3_capacityOf 0 = .ok (.iconst 0, 1) := by decide +kernel
theorem dX3_capacityOf_1 : decode cX3_capacityOf 1 = .ok (.istore_n 2, 1) := by decide +kernel
theorem dX3_capacityOf_2 : decode cX3_capacityOf 2 = .ok (.iconst 0, 1) := by decide +kernel
theorem dX3_capacityOf_3 : decode cX3_capacityOf 3 = .ok (.istore_n 3, 1) := by decide +kernel
theorem dX3_capacityOf_4 : decode cX3_capacityOf 4 = .ok (.iload_n 3, 1) := by decide +kernel
theorem dX3_capacityOf_5 : decode cX3_capacityOf 5 = .ok (.iconst 5, 1) := by decide +kernel
theorem dX3_capacityOf_6 : decode cX3_capacityOf 6 = .ok (.if_icmp .ge 38, 3) := by decide +kernel
theorem dX3_capacityOf_9 : decode cX3_capacityOf 9 = .ok (.aload_n 0, 1) := by decide +kernel
theorem dX3_capacityOf_10 : decode cX3_capacityOf 10 = .ok (.iload_n 3, 1) := by decide +kernel
theorem dX3_capacityOf_11 : decode cX3_capacityOf 11 = .ok (.invokevirtual 60, 3) := by decide +kernel
theorem dX3_capacityOf_14 : decode cX3_capacityOf 14 = .ok (.astore 4, 2) := by decide +kernel
theorem dX3_capacityOf_16 : decode cX3_capacityOf 16 = .ok (.aload 4, 2) := by decide +kernel
theorem dX3_capacityOf_18 : decode cX3_capacityOf 18 = .ok (.ifnull 20, 3) := by decide +kernel
theorem dX3_capacityOf_21 : decode cX3_capacityOf 21 = .ok (.aload 4, 2) := by decide +kernel
theorem dX3_capacityOf_23 : decode cX3_capacityOf 23 = .ok (.getfield 94, 3) := by decide +kernel
theorem dX3_capacityOf_26 : decode cX3_capacityOf 26 = .ok (.iload_n 1, 1) := by decide +kernel
theorem dX3_capacityOf_27 : decode cX3_capacityOf 27 = .ok (.if_icmp .ne 11, 3) := by decide +kernel
theorem dX3_capacityOf_30 : decode cX3_capacityOf 30 = .ok (.iload_n 2, 1) := by decide +kernel
theorem dX3_capacityOf_31 : decode cX3_capacityOf 31 = .ok (.aload 4, 2) := by decide +kernel
theorem dX3_capacityOf_33 : decode cX3_capacityOf 33 = .ok (.getfield 91, 3) := by decide +kernel
theorem dX3_capacityOf_36 : decode cX3_capacityOf 36 = .ok (.iadd, 1) := by decide +kernel
theorem dX3_capacityOf_37 : decode cX3_capacityOf 37 = .ok (.istore_n 2, 1) := by decide +kernel
theorem dX3_capacityOf_38 : decode cX3_capacityOf 38 = .ok (.iinc 3 1, 3) := by decide +kernel
theorem dX3_capacityOf_41 : decode cX3_capacityOf 41 = .ok (.goto (-37), 3) := by decide +kernel
theorem dX3_capacityOf_44 : decode cX3_capacityOf 44 = .ok (.iload_n 2, 1) := by decide +kernel
theorem dX3_capacityOf_45 : decode cX3_capacityOf 45 = .ok (.ireturn, 1) := by decide +kernel
theorem dX3_usableCapacity_0 : decode cX3_usableCapacity 0 = .ok (.aload_n 0, 1) := by decide +kernel
theorem dX3_usableCapacity_1 : decode cX3_usableCapacity 1 = .ok (.iconst 0, 1) := by decide +kernel
theorem dX3_usableCapacity_2 : decode cX3_usableCapacity 2 = .ok (.invokevirtual 88, 3) := by decide +kernel
theorem dX3_usableCapacity_5 : decode cX3_usableCapacity 5 = .ok (.aload_n 0, 1) := by decide +kernel
theorem dX3_usableCapacity_6 : decode cX3_usableCapacity 6 = .ok (.iconst 1, 1) := by decide +kernel
theorem dX3_usableCapacity_7 : decode cX3_usableCapacity 7 = .ok (.invokevirtual 88, 3) := by decide +kernel
theorem dX3_usableCapacity_10 : decode cX3_usableCapacity 10 = .ok (.iadd, 1) := by decide +kernel
theorem dX3_usableCapacity_11 : decode cX3_usableCapacity 11 = .ok (.aload_n 0, 1) := by decide +kernel
theorem dX3_usableCapacity_12 : decode cX3_usableCapacity 12 = .ok (.iconst 2, 1) := by decide +kernel
theorem dX3_usableCapacity_13 : decode cX3_usableCapacity 13 = .ok (.invokevirtual 88, 3) := by decide +kernel
theorem dX3_usableCapacity_16 : decode cX3_usableCapacity 16 = .ok (.iadd, 1) := by decide +kernel
theorem dX3_usableCapacity_17 : decode cX3_usableCapacity 17 = .ok (.ireturn, 1) := by decide +kernel
theorem dX3_loadedEnergy_0 : decode cX3_loadedEnergy 0 = .ok (.lconst 0, 1) := by decide +kernel
theorem dX3_loadedEnergy_1 : decode cX3_loadedEnergy 1 = .ok (.lstore_n 1, 1) := by decide +kernel
theorem dX3_loadedEnergy_2 : decode cX3_loadedEnergy 2 = .ok (.iconst 0, 1) := by decide +kernel
theorem dX3_loadedEnergy_3 : decode cX3_loadedEnergy 3 = .ok (.istore_n 3, 1) := by decide +kernel
theorem dX3_loadedEnergy_4 : decode cX3_loadedEnergy 4 = .ok (.iload_n 3, 1) := by decide +kernel
theorem dX3_loadedEnergy_5 : decode cX3_loadedEnergy 5 = .ok (.iconst 5, 1) := by decide +kernel
theorem dX3_loadedEnergy_6 : decode cX3_loadedEnergy 6 = .ok (.if_icmp .ge 37, 3) := by decide +kernel
theorem dX3_loadedEnergy_9 : decode cX3_loadedEnergy 9 = .ok (.aload_n 0, 1) := by decide +kernel
theorem dX3_loadedEnergy_10 : decode cX3_loadedEnergy 10 = .ok (.iload_n 3, 1) := by decide +kernel
theorem dX3_loadedEnergy_11 : decode cX3_loadedEnergy 11 = .ok (.invokevirtual 60, 3) := by decide +kernel
theorem dX3_loadedEnergy_14 : decode cX3_loadedEnergy 14 = .ok (.astore 4, 2) := by decide +kernel
theorem dX3_loadedEnergy_16 : decode cX3_loadedEnergy 16 = .ok (.aload 4, 2) := by decide +kernel
theorem dX3_loadedEnergy_18 : decode cX3_loadedEnergy 18 = .ok (.ifnull 19, 3) := by decide +kernel
theorem dX3_loadedEnergy_21 : decode cX3_loadedEnergy 21 = .ok (.lload_n 1, 1) := by decide +kernel
theorem dX3_loadedEnergy_22 : decode cX3_loadedEnergy 22 = .ok (.aload 4, 2) := by decide +kernel
theorem dX3_loadedEnergy_24 : decode cX3_loadedEnergy 24 = .ok (.getfield 91, 3) := by decide +kernel
theorem dX3_loadedEnergy_27 : decode cX3_loadedEnergy 27 = .ok (.i2l, 1) := by decide +kernel
theorem dX3_loadedEnergy_28 : decode cX3_loadedEnergy 28 = .ok (.aload 4, 2) := by decide +kernel
theorem dX3_loadedEnergy_30 : decode cX3_loadedEnergy 30 = .ok (.getfield 97, 3) := by decide +kernel
theorem dX3_loadedEnergy_33 : decode cX3_loadedEnergy 33 = .ok (.i2l, 1) := by decide +kernel
theorem dX3_loadedEnergy_34 : decode cX3_loadedEnergy 34 = .ok (.lmul, 1) := by decide +kernel
theorem dX3_loadedEnergy_35 : decode cX3_loadedEnergy 35 = .ok (.ladd, 1) := by decide +kernel
theorem dX3_loadedEnergy_36 : decode cX3_loadedEnergy 36 = .ok (.lstore_n 1, 1) := by decide +kernel
theorem dX3_loadedEnergy_37 : decode cX3_loadedEnergy 37 = .ok (.iinc 3 1, 3) := by decide +kernel
theorem dX3_loadedEnergy_40 : decode cX3_loadedEnergy 40 = .ok (.goto (-36), 3) := by decide +kernel
theorem dX3_loadedEnergy_43 : decode cX3_loadedEnergy 43 = .ok (.ldc2_w 119, 3) := by decide +kernel
theorem dX3_loadedEnergy_46 : decode cX3_loadedEnergy 46 = .ok (.lload_n 1, 1) := by decide +kernel
theorem dX3_loadedEnergy_47 : decode cX3_loadedEnergy 47 = .ok (.lmul, 1) := by decide +kernel
theorem dX3_loadedEnergy_48 : decode cX3_loadedEnergy 48 = .ok (.lreturn, 1) := by decide +kernel
theorem dX3_numberAtStage_0 : decode cX3_numberAtStage 0 = .ok (.iconst 0, 1) := by decide +kernel
theorem dX3_numberAtStage_1 : decode cX3_numberAtStage 1 = .ok (.istore_n 2, 1) := by decide +kernel
theorem dX3_numberAtStage_2 : decode cX3_numberAtStage 2 = .ok (.iload_n 2, 1) := by decide +kernel
theorem dX3_numberAtStage_3 : decode cX3_numberAtStage 3 = .ok (.iconst 5, 1) := by decide +kernel
theorem dX3_numberAtStage_4 : decode cX3_numberAtStage 4 = .ok (.if_icmp .ge 29, 3) := by decide +kernel
theorem dX3_numberAtStage_7 : decode cX3_numberAtStage 7 = .ok (.aload_n 0, 1) := by decide +kernel
theorem dX3_numberAtStage_8 : decode cX3_numberAtStage 8 = .ok (.iload_n 2, 1) := by decide +kernel
theorem dX3_numberAtStage_9 : decode cX3_numberAtStage 9 = .ok (.invokevirtual 60, 3) := by decide +kernel
theorem dX3_numberAtStage_12 : decode cX3_numberAtStage 12 = .ok (.astore_n 3, 1) := by decide +kernel
theorem dX3_numberAtStage_13 : decode cX3_numberAtStage 13 = .ok (.aload_n 3, 1) := by decide +kernel
theorem dX3_numberAtStage_14 : decode cX3_numberAtStage 14 = .ok (.ifnull 13, 3) := by decide +kernel
theorem dX3_numberAtStage_17 : decode cX3_numberAtStage 17 = .ok (.aload_n 3, 1) := by decide +kernel
theorem dX3_numberAtStage_18 : decode cX3_numberAtStage 18 = .ok (.getfield 76, 3) := by decide +kernel
theorem dX3_numberAtStage_21 : decode cX3_numberAtStage 21 = .ok (.iload_n 1, 1) := by decide +kernel
theorem dX3_numberAtStage_22 : decode cX3_numberAtStage 22 = .ok (.if_icmp .ne 5, 3) := by decide +kernel
theorem dX3_numberAtStage_25 : decode cX3_numberAtStage 25 = .ok (.iload_n 2, 1) := by decide +kernel
theorem dX3_numberAtStage_26 : decode cX3_numberAtStage 26 = .ok (.ireturn, 1) := by decide +kernel
theorem dX3_numberAtStage_27 : decode cX3_numberAtStage 27 = .ok (.iinc 2 1, 3) := by decide +kernel
theorem dX3_numberAtStage_30 : decode cX3_numberAtStage 30 = .ok (.goto (-28), 3) := by decide +kernel
theorem dX3_numberAtStage_33 : decode cX3_numberAtStage 33 = .ok (.iconst (-1), 1) := by decide +kernel
theorem dX3_numberAtStage_34 : decode cX3_numberAtStage 34 = .ok (.ireturn, 1) := by decide +kernel
theorem dX3_reorder_0 : decode cX3_reorder 0 = .ok (.iconst 0, 1) := by decide +kernel
theorem dX3_reorder_1 : decode cX3_reorder 1 = .ok (.istore_n 1, 1) := by decide +kernel
theorem dX3_reorder_2 : decode cX3_reorder 2 = .ok (.iconst 0, 1) := by decide +kernel
theorem dX3_reorder_3 : decode cX3_reorder 3 = .ok (.istore_n 2, 1) := by decide +kernel
theorem dX3_reorder_4 : decode cX3_reorder 4 = .ok (.iload_n 2, 1) := by decide +kernel
theorem dX3_reorder_5 : decode cX3_reorder 5 = .ok (.iconst 5, 1) := by decide +kernel
theorem dX3_reorder_6 : decode cX3_reorder 6 = .ok (.if_icmp .ge 48, 3) := by decide +kernel
theorem dX3_reorder_9 : decode cX3_reorder 9 = .ok (.aload_n 0, 1) := by decide +kernel
theorem dX3_reorder_10 : decode cX3_reorder 10 = .ok (.iload_n 2, 1) := by decide +kernel
theorem dX3_reorder_11 : decode cX3_reorder 11 = .ok (.invokevirtual 60, 3) := by decide +kernel
theorem dX3_reorder_14 : decode cX3_reorder 14 = .ok (.astore_n 3, 1) := by decide +kernel
theorem dX3_reorder_15 : decode cX3_reorder 15 = .ok (.aload_n 3, 1) := by decide +kernel
theorem dX3_reorder_16 : decode cX3_reorder 16 = .ok (.ifnull 32, 3) := by decide +kernel
theorem dX3_reorder_19 : decode cX3_reorder 19 = .ok (.aload_n 0, 1) := by decide +kernel
theorem dX3_reorder_20 : decode cX3_reorder 20 = .ok (.iload_n 2, 1) := by decide +kernel
theorem dX3_reorder_21 : decode cX3_reorder 21 = .ok (.aload_n 3, 1) := by decide +kernel
theorem dX3_reorder_22 : decode cX3_reorder 22 = .ok (.getfield 97, 3) := by decide +kernel
theorem dX3_reorder_25 : decode cX3_reorder 25 = .ok (.invokevirtual 121, 3) := by decide +kernel
theorem dX3_reorder_28 : decode cX3_reorder 28 = .ok (.istore 4, 2) := by decide +kernel
theorem dX3_reorder_30 : decode cX3_reorder 30 = .ok (.iload 4, 2) := by decide +kernel
theorem dX3_reorder_32 : decode cX3_reorder 32 = .ok (.aload_n 3, 1) := by decide +kernel
theorem dX3_reorder_33 : decode cX3_reorder 33 = .ok (.getfield 76, 3) := by decide +kernel
theorem dX3_reorder_36 : decode cX3_reorder 36 = .ok (.if_icmp .eq 6, 3) := by decide +kernel
theorem dX3_reorder_39 : decode cX3_reorder 39 = .ok (.iinc 1 1, 3) := by decide +kernel
theorem dX3_reorder_42 : decode cX3_reorder 42 = .ok (.aload_n 3, 1) := by decide +kernel
theorem dX3_reorder_43 : decode cX3_reorder 43 = .ok (.iload 4, 2) := by decide +kernel
theorem dX3_reorder_45 : decode cX3_reorder 45 = .ok (.putfield 76, 3) := by decide +kernel
theorem dX3_reorder_48 : decode cX3_reorder 48 = .ok (.iinc 2 1, 3) := by decide +kernel
theorem dX3_reorder_51 : decode cX3_reorder 51 = .ok (.goto (-47), 3) := by decide +kernel
theorem dX3_reorder_54 : decode cX3_reorder 54 = .ok (.aload_n 0, 1) := by decide +kernel
theorem dX3_reorder_55 : decode cX3_reorder 55 = .ok (.dup, 1) := by decide +kernel
theorem dX3_reorder_56 : decode cX3_reorder 56 = .ok (.getfield 51, 3) := by decide +kernel
theorem dX3_reorder_59 : decode cX3_reorder 59 = .ok (.iconst 1, 1) := by decide +kernel
theorem dX3_reorder_60 : decode cX3_reorder 60 = .ok (.iadd, 1) := by decide +kernel
theorem dX3_reorder_61 : decode cX3_reorder 61 = .ok (.putfield 51, 3) := by decide +kernel
theorem dX3_reorder_64 : decode cX3_reorder 64 = .ok (.aload_n 0, 1) := by decide +kernel
theorem dX3_reorder_65 : decode cX3_reorder 65 = .ok (.iconst 0, 1) := by decide +kernel
theorem dX3_reorder_66 : decode cX3_reorder 66 = .ok (.putfield 48, 3) := by decide +kernel
theorem dX3_reorder_69 : decode cX3_reorder 69 = .ok (.iload_n 1, 1) := by decide +kernel
theorem dX3_reorder_70 : decode cX3_reorder 70 = .ok (.ireturn, 1) := by decide +kernel
theorem dX3_stageByMinutes_0 : decode cX3_stageByMinutes 0 = .ok (.iconst 0, 1) := by decide +kernel
theorem dX3_stageByMinutes_1 : decode cX3_stageByMinutes 1 = .ok (.istore_n 3, 1) := by decide +kernel
theorem dX3_stageByMinutes_2 : decode cX3_stageByMinutes 2 = .ok (.iconst 0, 1) := by decide +kernel
theorem dX3_stageByMinutes_3 : decode cX3_stageByMinutes 3 = .ok (.istore 4, 2) := by decide +kernel
theorem dX3_stageByMinutes_5 : decode cX3_stageByMinutes 5 = .ok (.iload 4, 2) := by decide +kernel
theorem dX3_stageByMinutes_7 : decode cX3_stageByMinutes 7 = .ok (.iconst 5, 1) := by decide +kernel
theorem dX3_stageByMinutes_8 : decode cX3_stageByMinutes 8 = .ok (.if_icmp .ge 49, 3) := by decide +kernel
theorem dX3_stageByMinutes_11 : decode cX3_stageByMinutes 11 = .ok (.aload_n 0, 1) := by decide +kernel
theorem dX3_stageByMinutes_12 : decode cX3_stageByMinutes 12 = .ok (.iload 4, 2) := by decide +kernel
theorem dX3_stageByMinutes_14 : decode cX3_stageByMinutes 14 = .ok (.invokevirtual 60, 3) := by decide +kernel
theorem dX3_stageByMinutes_17 : decode cX3_stageByMinutes 17 = .ok (.astore 5, 2) := by decide +kernel
theorem dX3_stageByMinutes_19 : decode cX3_stageByMinutes 19 = .ok (.aload 5, 2) := by decide +kernel
theorem dX3_stageByMinutes_21 : decode cX3_stageByMinutes 21 = .ok (.ifnull 30, 3) := by decide +kernel
theorem dX3_stageByMinutes_24 : decode cX3_stageByMinutes 24 = .ok (.aload 5, 2) := by decide +kernel
theorem dX3_stageByMinutes_26 : decode cX3_stageByMinutes 26 = .ok (.getfield 97, 3) := by decide +kernel
theorem dX3_stageByMinutes_29 : decode cX3_stageByMinutes 29 = .ok (.iload_n 2, 1) := by decide +kernel
theorem dX3_stageByMinutes_30 : decode cX3_stageByMinutes 30 = .ok (.if_icmp .lt 18, 3) := by decide +kernel
theorem dX3_stageByMinutes_33 : decode cX3_stageByMinutes 33 = .ok (.aload 5, 2) := by decide +kernel
theorem dX3_stageByMinutes_35 : decode cX3_stageByMinutes 35 = .ok (.getfield 97, 3) := by decide +kernel
theorem dX3_stageByMinutes_38 : decode cX3_stageByMinutes 38 = .ok (.iload_n 2, 1) := by decide +kernel
theorem dX3_stageByMinutes_39 : decode cX3_stageByMinutes 39 = .ok (.if_icmp .ne 12, 3) := by decide +kernel
theorem dX3_stageByMinutes_42 : decode cX3_stageByMinutes 42 = .ok (.iload 4, 2) := by decide +kernel
theorem dX3_stageByMinutes_44 : decode cX3_stageByMinutes 44 = .ok (.iload_n 1, 1) := by decide +kernel
theorem dX3_stageByMinutes_45 : decode cX3_stageByMinutes 45 = .ok (.if_icmp .ge 6, 3) := by decide +kernel
theorem dX3_stageByMinutes_48 : decode cX3_stageByMinutes 48 = .ok (.iinc 3 1, 3) := by decide +kernel
theorem dX3_stageByMinutes_51 : decode cX3_stageByMinutes 51 = .ok (.iinc 4 1, 3) := by decide +kernel
theorem dX3_stageByMinutes_54 : decode cX3_stageByMinutes 54 = .ok (.goto (-49), 3) := by decide +kernel
theorem dX3_stageByMinutes_57 : decode cX3_stageByMinutes 57 = .ok (.iload_n 3, 1) := by decide +kernel
theorem dX3_stageByMinutes_58 : decode cX3_stageByMinutes 58 = .ok (.ireturn, 1) := by decide +kernel
theorem dX3_orderByRank_0 : decode cX3_orderByRank 0 = .ok (.iconst 0, 1) := by decide +kernel
theorem dX3_orderByRank_1 : decode cX3_orderByRank 1 = .ok (.istore_n 2, 1) := by decide +kernel
theorem dX3_orderByRank_2 : decode cX3_orderByRank 2 = .ok (.iload_n 2, 1) := by decide +kernel
theorem dX3_orderByRank_3 : decode cX3_orderByRank 3 = .ok (.iconst 5, 1) := by decide +kernel
theorem dX3_orderByRank_4 : decode cX3_orderByRank 4 = .ok (.if_icmp .ge 24, 3) := by decide +kernel
theorem dX3_orderByRank_7 : decode cX3_orderByRank 7 = .ok (.aload_n 0, 1) := by decide +kernel
theorem dX3_orderByRank_8 : decode cX3_orderByRank 8 = .ok (.iload_n 2, 1) := by decide +kernel
theorem dX3_orderByRank_9 : decode cX3_orderByRank 9 = .ok (.invokevirtual 60, 3) := by decide +kernel
theorem dX3_orderByRank_12 : decode cX3_orderByRank 12 = .ok (.astore_n 3, 1) := by decide +kernel
theorem dX3_orderByRank_13 : decode cX3_orderByRank 13 = .ok (.aload_n 3, 1) := by decide +kernel
theorem dX3_orderByRank_14 : decode cX3_orderByRank 14 = .ok (.ifnull 8, 3) := by decide +kernel
theorem dX3_orderByRank_17 : decode cX3_orderByRank 17 = .ok (.aload_n 3, 1) := by decide +kernel
theorem dX3_orderByRank_18 : decode cX3_orderByRank 18 = .ok (.iconst (-1), 1) := by decide +kernel
theorem dX3_orderByRank_19 : decode cX3_orderByRank 19 = .ok (.putfield 76, 3) := by decide +kernel
theorem dX3_orderByRank_22 : decode cX3_orderByRank 22 = .ok (.iinc 2 1, 3) := by decide +kernel
theorem dX3_orderByRank_25 : decode cX3_orderByRank 25 = .ok (.goto (-23), 3) := by decide +kernel
theorem dX3_orderByRank_28 : decode cX3_orderByRank 28 = .ok (.iload_n 1, 1) := by decide +kernel
theorem dX3_orderByRank_29 : decode cX3_orderByRank 29 = .ok (.istore_n 2, 1) := by decide +kernel
theorem dX3_orderByRank_30 : decode cX3_orderByRank 30 = .ok (.iconst 0, 1) := by decide +kernel
theorem dX3_orderByRank_31 : decode cX3_orderByRank 31 = .ok (.istore_n 3, 1) := by decide +kernel
theorem dX3_orderByRank_32 : decode cX3_orderByRank 32 = .ok (.iload_n 3, 1) := by decide +kernel
theorem dX3_orderByRank_33 : decode cX3_orderByRank 33 = .ok (.aload_n 0, 1) := by decide +kernel
theorem dX3_orderByRank_34 : decode cX3_orderByRank 34 = .ok (.getfield 54, 3) := by decide +kernel
theorem dX3_orderByRank_37 : decode cX3_orderByRank 37 = .ok (.if_icmp .ge 41, 3) := by decide +kernel
theorem dX3_orderByRank_40 : decode cX3_orderByRank 40 = .ok (.aload_n 0, 1) := by decide +kernel
theorem dX3_orderByRank_41 : decode cX3_orderByRank 41 = .ok (.getfield 54, 3) := by decide +kernel
theorem dX3_orderByRank_44 : decode cX3_orderByRank 44 = .ok (.iconst 1, 1) := by decide +kernel
theorem dX3_orderByRank_45 : decode cX3_orderByRank 45 = .ok (.isub, 1) := by decide +kernel
theorem dX3_orderByRank_46 : decode cX3_orderByRank 46 = .ok (.iload_n 3, 1) := by decide +kernel
theorem dX3_orderByRank_47 : decode cX3_orderByRank 47 = .ok (.isub, 1) := by decide +kernel
theorem dX3_orderByRank_48 : decode cX3_orderByRank 48 = .ok (.invokestatic 124, 3) := by decide +kernel
theorem dX3_orderByRank_51 : decode cX3_orderByRank 51 = .ok (.istore 4, 2) := by decide +kernel
theorem dX3_orderByRank_53 : decode cX3_orderByRank 53 = .ok (.iload 4, 2) := by decide +kernel
theorem dX3_orderByRank_55 : decode cX3_orderByRank 55 = .ok (.ifCond .le 17, 3) := by decide +kernel
theorem dX3_orderByRank_58 : decode cX3_orderByRank 58 = .ok (.aload_n 0, 1) := by decide +kernel
theorem dX3_orderByRank_59 : decode cX3_orderByRank 59 = .ok (.iload_n 2, 1) := by decide +kernel
theorem dX3_orderByRank_60 : decode cX3_orderByRank 60 = .ok (.iload 4, 2) := by decide +kernel
theorem dX3_orderByRank_62 : decode cX3_orderByRank 62 = .ok (.idiv, 1) := by decide +kernel
theorem dX3_orderByRank_63 : decode cX3_orderByRank 63 = .ok (.iload_n 3, 1) := by decide +kernel
theorem dX3_orderByRank_64 : decode cX3_orderByRank 64 = .ok (.invokevirtual 127, 3) := by decide +kernel
theorem dX3_orderByRank_67 : decode cX3_orderByRank 67 = .ok (.iload_n 2, 1) := by decide +kernel
theorem dX3_orderByRank_68 : decode cX3_orderByRank 68 = .ok (.iload 4, 2) := by decide +kernel
