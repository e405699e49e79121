theorem dX4_bestOrder_23 : decode cX4_bestOrder 23 = .ok (.getfield 10, 3) := by decide +kernel
theorem dX4_bestOrder_26 : decode cX4_bestOrder 26 = .ok (.getfield 84, 3) := by decide +kernel
theorem dX4_bestOrder_29 : decode cX4_bestOrder 29 = .ok (.iconst 1, 1) := by decide +kernel
theorem dX4_bestOrder_30 : decode cX4_bestOrder 30 = .ok (.isub, 1) := by decide +kernel
theorem dX4_bestOrder_31 : decode cX4_bestOrder 31 = .ok (.invokestatic 33, 3) := by decide +kernel
theorem dX4_bestOrder_34 : decode cX4_bestOrder 34 = .ok (.ifCond .ne 13, 3) := by decide +kernel
theorem dX4_bestOrder_37 : decode cX4_bestOrder 37 = .ok (.new 97, 3) := by decide +kernel
theorem dX4_bestOrder_40 : decode cX4_bestOrder 40 = .ok (.dup, 1) := by decide +kernel
theorem dX4_bestOrder_41 : decode cX4_bestOrder 41 = .ok (.ldc 144, 2) := by decide +kernel
theorem dX4_bestOrder_43 : decode cX4_bestOrder 43 = .ok (.invokespecial 101, 3) := by decide +kernel
theorem dX4_bestOrder_46 : decode cX4_bestOrder 46 = .ok (.athrow, 1) := by decide +kernel
theorem dX4_bestOrder_47 : decode cX4_bestOrder 47 = .ok (.aload_n 0, 1) := by decide +kernel
theorem dX4_bestOrder_48 : decode cX4_bestOrder 48 = .ok (.getfield 16, 3) := by decide +kernel
theorem dX4_bestOrder_51 : decode cX4_bestOrder 51 = .ok (.aload_n 0, 1) := by decide +kernel
theorem dX4_bestOrder_52 : decode cX4_bestOrder 52 = .ok (.getfield 10, 3) := by decide +kernel
theorem dX4_bestOrder_55 : decode cX4_bestOrder 55 = .ok (.invokevirtual 171, 3) := by decide +kernel
theorem dX4_bestOrder_58 : decode cX4_bestOrder 58 = .ok (.aload_n 0, 1) := by decide +kernel
theorem dX4_bestOrder_59 : decode cX4_bestOrder 59 = .ok (.getfield 16, 3) := by decide +kernel
theorem dX4_bestOrder_62 : decode cX4_bestOrder 62 = .ok (.aload_n 0, 1) := by decide +kernel
theorem dX4_bestOrder_63 : decode cX4_bestOrder 63 = .ok (.iload_n 1, 1) := by decide +kernel
theorem dX4_bestOrder_64 : decode cX4_bestOrder 64 = .ok (.invokevirtual 193, 3) := by decide +kernel
theorem dX4_bestOrder_67 : decode cX4_bestOrder 67 = .ok (.invokevirtual 196, 3) := by decide +kernel
theorem dX4_bestOrder_70 : decode cX4_bestOrder 70 = .ok (.aload_n 0, 1) := by decide +kernel
theorem dX4_bestOrder_71 : decode cX4_bestOrder 71 = .ok (.getfield 16, 3) := by decide +kernel
theorem dX4_bestOrder_74 : decode cX4_bestOrder 74 = .ok (.iload_n 2, 1) := by decide +kernel
theorem dX4_bestOrder_75 : decode cX4_bestOrder 75 = .ok (.invokevirtual 146, 3) := by decide +kernel
theorem dX4_bestOrder_78 : decode cX4_bestOrder 78 = .ok (.ireturn, 1) := by decide +kernel
theorem dX4_loadedShare_0 : decode cX4_loadedShare 0 = .ok (.aload_n 0, 1) := by decide +kernel
theorem dX4_loadedShare_1 : decode cX4_loadedShare 1 = .ok (.getfield 10, 3) := by decide +kernel
theorem dX4_loadedShare_4 : decode cX4_loadedShare 4 = .ok (.getfield 156, 3) := by decide +kernel
theorem dX4_loadedShare_7 : decode cX4_loadedShare 7 = .ok (.iconst 5, 1) := by decide +kernel
theorem dX4_loadedShare_8 : decode cX4_loadedShare 8 = .ok (.laload, 1) := by decide +kernel
theorem dX4_loadedShare_9 : decode cX4_loadedShare 9 = .ok (.lstore_n 1, 1) := by decide +kernel
theorem dX4_loadedShare_10 : decode cX4_loadedShare 10 = .ok (.lload_n 1, 1) := by decide +kernel
theorem dX4_loadedShare_11 : decode cX4_loadedShare 11 = .ok (.lconst 0, 1) := by decide +kernel
theorem dX4_loadedShare_12 : decode cX4_loadedShare 12 = .ok (.lcmp, 1) := by decide +kernel
theorem dX4_loadedShare_13 : decode cX4_loadedShare 13 = .ok (.ifCond .ne 5, 3) := by decide +kernel
theorem dX4_loadedShare_16 : decode cX4_loadedShare 16 = .ok (.dconst 0, 1) := by decide +kernel
theorem dX4_loadedShare_17 : decode cX4_loadedShare 17 = .ok (.dreturn, 1) := by decide +kernel
theorem dX4_loadedShare_18 : decode cX4_loadedShare 18 = .ok (.aload_n 0, 1) := by decide +kernel
theorem dX4_loadedShare_19 : decode cX4_loadedShare 19 = .ok (.getfield 10, 3) := by decide +kernel
theorem dX4_loadedShare_22 : decode cX4_loadedShare 22 = .ok (.invokevirtual 199, 3) := by decide +kernel
theorem dX4_loadedShare_25 : decode cX4_loadedShare 25 = .ok (.l2d, 1) := by decide +kernel
theorem dX4_loadedShare_26 : decode cX4_loadedShare 26 = .ok (.lload_n 1, 1) := by decide +kernel
theorem dX4_loadedShare_27 : decode cX4_loadedShare 27 = .ok (.l2d, 1) := by decide +kernel
theorem dX4_loadedShare_28 : decode cX4_loadedShare 28 = .ok (.ddiv, 1) := by decide +kernel
theorem dX4_loadedShare_29 : decode cX4_loadedShare 29 = .ok (.dreturn, 1) := by decide +kernel
theorem dX4_append_0 : decode cX4_append 0 = .ok (.iload_n 1, 1) := by decide +kernel
theorem dX4_append_1 : decode cX4_append 1 = .ok (.iconst 0, 1) := by decide +kernel
theorem dX4_append_2 : decode cX4_append 2 = .ok (.bipush 127, 2) := by decide +kernel
theorem dX4_append_4 : decode cX4_append 4 = .ok (.invokestatic 33, 3) := by decide +kernel
theorem dX4_append_7 : decode cX4_append 7 = .ok (.ifCond .ne 13, 3) := by decide +kernel
theorem dX4_append_10 : decode cX4_append 10 = .ok (.new 37, 3) := by decide +kernel
theorem dX4_append_13 : decode cX4_append 13 = .ok (.dup, 1) := by decide +kernel
theorem dX4_append_14 : decode cX4_append 14 = .ok (.ldc 203, 2) := by decide +kernel
theorem dX4_append_16 : decode cX4_append 16 = .ok (.invokespecial 41, 3) := by decide +kernel
theorem dX4_append_19 : decode cX4_append 19 = .ok (.athrow, 1) := by decide +kernel
theorem dX4_append_20 : decode cX4_append 20 = .ok (.aload_n 0, 1) := by decide +kernel
theorem dX4_append_21 : decode cX4_append 21 = .ok (.getfield 29, 3) := by decide +kernel
theorem dX4_append_24 : decode cX4_append 24 = .ok (.getfield 205, 3) := by decide +kernel
theorem dX4_append_27 : decode cX4_append 27 = .ok (.bipush 100, 2) := by decide +kernel
theorem dX4_append_29 : decode cX4_append 29 = .ok (.if_icmp .lt 13, 3) := by decide +kernel
theorem dX4_append_32 : decode cX4_append 32 = .ok (.new 56, 3) := by decide +kernel
theorem dX4_append_35 : decode cX4_append 35 = .ok (.dup, 1) := by decide +kernel
theorem dX4_append_36 : decode cX4_append 36 = .ok (.ldc 208, 2) := by decide +kernel
theorem dX4_append_38 : decode cX4_append 38 = .ok (.invokespecial 60, 3) := by decide +kernel
theorem dX4_append_41 : decode cX4_append 41 = .ok (.athrow, 1) := by decide +kernel
theorem dX4_append_42 : decode cX4_append 42 = .ok (.aload_n 0, 1) := by decide +kernel
theorem dX4_append_43 : decode cX4_append 43 = .ok (.getfield 29, 3) := by decide +kernel
theorem dX4_append_46 : decode cX4_append 46 = .ok (.iload_n 1, 1) := by decide +kernel
theorem dX4_append_47 : decode cX4_append 47 = .ok (.invokevirtual 210, 3) := by decide +kernel
theorem dX4_append_50 : decode cX4_append 50 = .ok (.ireturn, 1) := by decide +kernel
theorem dX4_clearText_0 : decode cX4_clearText 0 = .ok (.aload_n 0, 1) := by decide +kernel
theorem dX4_clearText_1 : decode cX4_clearText 1 = .ok (.getfield 29, 3) := by decide +kernel
theorem dX4_clearText_4 : decode cX4_clearText 4 = .ok (.getfield 205, 3) := by decide +kernel
theorem dX4_clearText_7 : decode cX4_clearText 7 = .ok (.istore_n 1, 1) := by decide +kernel
theorem dX4_clearText_8 : decode cX4_clearText 8 = .ok (.aload_n 0, 1) := by decide +kernel
theorem dX4_clearText_9 : decode cX4_clearText 9 = .ok (.getfield 29, 3) := by decide +kernel
theorem dX4_clearText_12 : decode cX4_clearText 12 = .ok (.iconst 0, 1) := by decide +kernel
theorem dX4_clearText_13 : decode cX4_clearText 13 = .ok (.putfield 205, 3) := by decide +kernel
theorem dX4_clearText_16 : decode cX4_clearText 16 = .ok (.iload_n 1, 1) := by decide +kernel
theorem dX4_clearText_17 : decode cX4_clearText 17 = .ok (.ireturn, 1) := by decide +kernel
theorem dX4_carryOut_0 : decode cX4_carryOut 0 = .ok (.aload_n 0, 1) := by decide +kernel
theorem dX4_carryOut_1 : decode cX4_carryOut 1 = .ok (.getfield 29, 3) := by decide +kernel
theorem dX4_carryOut_4 : decode cX4_carryOut 4 = .ok (.invokevirtual 213, 3) := by decide +kernel
theorem dX4_carryOut_7 : decode cX4_carryOut 7 = .ok (.istore_n 1, 1) := by decide +kernel
theorem dX4_carryOut_8 : decode cX4_carryOut 8 = .ok (.iload_n 1, 1) := by decide +kernel
theorem dX4_carryOut_9 : decode cX4_carryOut 9 = .ok (.iconst (-1), 1) := by decide +kernel
theorem dX4_carryOut_10 : decode cX4_carryOut 10 = .ok (.if_icmp .eq 8, 3) := by decide +kernel
theorem dX4_carryOut_13 : decode cX4_carryOut 13 = .ok (.bipush (-10), 2) := by decide +kernel
theorem dX4_carryOut_15 : decode cX4_carryOut 15 = .ok (.iload_n 1, 1) := by decide +kernel
theorem dX4_carryOut_16 : decode cX4_carryOut 16 = .ok (.isub, 1) := by decide +kernel
theorem dX4_carryOut_17 : decode cX4_carryOut 17 = .ok (.ireturn, 1) := by decide +kernel
theorem dX4_carryOut_18 : decode cX4_carryOut 18 = .ok (.aload_n 0, 1) := by decide +kernel
theorem dX4_carryOut_19 : decode cX4_carryOut 19 = .ok (.getfield 22, 3) := by decide +kernel
theorem dX4_carryOut_22 : decode cX4_carryOut 22 = .ok (.aload_n 0, 1) := by decide +kernel
theorem dX4_carryOut_23 : decode cX4_carryOut 23 = .ok (.getfield 10, 3) := by decide +kernel
theorem dX4_carryOut_26 : decode cX4_carryOut 26 = .ok (.invokevirtual 61, 3) := by decide +kernel
theorem dX4_carryOut_29 : decode cX4_carryOut 29 = .ok (.iconst 0, 1) := by decide +kernel
theorem dX4_carryOut_30 : decode cX4_carryOut 30 = .ok (.istore_n 2, 1) := by decide +kernel
theorem dX4_carryOut_31 : decode cX4_carryOut 31 = .ok (.iload_n 2, 1) := by decide +kernel
theorem dX4_carryOut_32 : decode cX4_carryOut 32 = .ok (.aload_n 0, 1) := by decide +kernel
theorem dX4_carryOut_33 : decode cX4_carryOut 33 = .ok (.getfield 29, 3) := by decide +kernel
theorem dX4_carryOut_36 : decode cX4_carryOut 36 = .ok (.getfield 216, 3) := by decide +kernel
theorem dX4_carryOut_39 : decode cX4_carryOut 39 = .ok (.if_icmp .ge 37, 3) := by decide +kernel
theorem dX4_carryOut_42 : decode cX4_carryOut 42 = .ok (.aload_n 0, 1) := by decide +kernel
theorem dX4_carryOut_43 : decode cX4_carryOut 43 = .ok (.getfield 10, 3) := by decide +kernel
theorem dX4_carryOut_46 : decode cX4_carryOut 46 = .ok (.aload_n 0, 1) := by decide +kernel
theorem dX4_carryOut_47 : decode cX4_carryOut 47 = .ok (.getfield 29, 3) := by decide +kernel
theorem dX4_carryOut_50 : decode cX4_carryOut 50 = .ok (.iload_n 2, 1) := by decide +kernel
theorem dX4_carryOut_51 : decode cX4_carryOut 51 = .ok (.invokevirtual 219, 3) := by decide +kernel
theorem dX4_carryOut_54 : decode cX4_carryOut 54 = .ok (.aload_n 0, 1) := by decide +kernel
theorem dX4_carryOut_55 : decode cX4_carryOut 55 = .ok (.getfield 29, 3) := by decide +kernel
theorem dX4_carryOut_58 : decode cX4_carryOut 58 = .ok (.iload_n 2, 1) := by decide +kernel
theorem dX4_carryOut_59 : decode cX4_carryOut 59 = .ok (.invokevirtual 222, 3) := by decide +kernel
theorem dX4_carryOut_62 : decode cX4_carryOut 62 = .ok (.invokevirtual 225, 3) := by decide +kernel
theorem dX4_carryOut_65 : decode cX4_carryOut 65 = .ok (.ifCond .ne 5, 3) := by decide +kernel
theorem dX4_carryOut_68 : decode cX4_carryOut 68 = .ok (.iload_n 2, 1) := by decide +kernel
theorem dX4_carryOut_69 : decode cX4_carryOut 69 = .ok (.ireturn, 1) := by decide +kernel
theorem dX4_carryOut_70 : decode cX4_carryOut 70 = .ok (.iinc 2 1, 3) := by decide +kernel
theorem dX4_carryOut_73 : decode cX4_carryOut 73 = .ok (.goto (-42), 3) := by decide +kernel
theorem dX4_carryOut_76 : decode cX4_carryOut 76 = .ok (.aload_n 0, 1) := by decide +kernel
theorem dX4_carryOut_77 : decode cX4_carryOut 77 = .ok (.getfield 29, 3) := by decide +kernel
theorem dX4_carryOut_80 : decode cX4_carryOut 80 = .ok (.getfield 216, 3) := by decide +kernel
theorem dX4_carryOut_83 : decode cX4_carryOut 83 = .ok (.ireturn, 1) := by decide +kernel
theorem dX4_undo_0 : decode cX4_undo 0 = .ok (.aload_n 0, 1) := by decide +kernel
theorem dX4_undo_1 : decode cX4_undo 1 = .ok (.getfield 22, 3) := by decide +kernel
theorem dX4_undo_4 : decode cX4_undo 4 = .ok (.getfield 229, 3) := by decide +kernel
theorem dX4_undo_7 : decode cX4_undo 7 = .ok (.ifCond .ne 13, 3) := by decide +kernel
theorem dX4_undo_10 : decode cX4_undo 10 = .ok (.new 56, 3) := by decide +kernel
theorem dX4_undo_13 : decode cX4_undo 13 = .ok (.dup, 1) := by decide +kernel
theorem dX4_undo_14 : decode cX4_undo 14 = .ok (.ldc 230, 2) := by decide +kernel
theorem dX4_undo_16 : decode cX4_undo 16 = .ok (.invokespecial 60, 3) := by decide +kernel
theorem dX4_undo_19 : decode cX4_undo 19 = .ok (.athrow, 1) := by decide +kernel
theorem dX4_undo_20 : decode cX4_undo 20 = .ok (.aload_n 0, 1) := by decide +kernel
theorem dX4_undo_21 : decode cX4_undo 21 = .ok (.getfield 22, 3) := by decide +kernel
theorem dX4_undo_24 : decode cX4_undo 24 = .ok (.aload_n 0, 1) := by decide +kernel
theorem dX4_undo_25 : decode cX4_undo 25 = .ok (.getfield 10, 3) := by decide +kernel
theorem dX4_undo_28 : decode cX4_undo 28 = .ok (.invokevirtual 232, 3) := by decide +kernel
theorem dX4_undo_31 : decode cX4_undo 31 = .ok (.aload_n 0, 1) := by decide +kernel
theorem dX4_undo_32 : decode cX4_undo 32 = .ok (.getfield 22, 3) := by decide +kernel
theorem dX4_undo_35 : decode cX4_undo 35 = .ok (.getfield 229, 3) := by decide +kernel
theorem dX4_undo_38 : decode cX4_undo 38 = .ok (.ireturn, 1) := by decide +kernel
theorem dX4_digest_0 : decode cX4_digest 0 = .ok (.ldc2_w 235, 3) := by decide +kernel
theorem dX4_digest_3 : decode cX4_digest 3 = .ok (.aload_n 0, 1) := by decide +kernel
theorem dX4_digest_4 : decode cX4_digest 4 = .ok (.getfield 29, 3) := by decide +kernel
theorem dX4_digest_7 : decode cX4_digest 7 = .ok (.getfield 205, 3) := by decide +kernel
theorem dX4_digest_10 : decode cX4_digest 10 = .ok (.i2l, 1) := by decide +kernel
theorem dX4_digest_11 : decode cX4_digest 11 = .ok (.ladd, 1) := by decide +kernel
theorem dX4_digest_12 : decode cX4_digest 12 = .ok (.lstore_n 1, 1) := by decide +kernel
theorem dX4_digest_13 : decode cX4_digest 13 = .ok (.iconst 0, 1) := by decide +kernel
theorem dX4_digest_14 : decode cX4_digest 14 = .ok (.istore_n 3, 1) := by decide +kernel
theorem dX4_digest_15 : decode cX4_digest 15 = .ok (.iload_n 3, 1) := by decide +kernel
theorem dX4_digest_16 : decode cX4_digest 16 = .ok (.bipush 12, 2) := by decide +kernel
theorem dX4_digest_18 : decode cX4_digest 18 = .ok (.if_icmp .ge 25, 3) := by decide +kernel
theorem dX4_digest_21 : decode cX4_digest 21 = .ok (.ldc2_w 237, 3) := by decide +kernel
theorem dX4_digest_24 : decode cX4_digest 24 = .ok (.lload_n 1, 1) := by decide +kernel
theorem dX4_digest_25 : decode cX4_digest 25 = .ok (.lmul, 1) := by decide +kernel
theorem dX4_digest_26 : decode cX4_digest 26 = .ok (.aload_n 0, 1) := by decide +kernel
theorem dX4_digest_27 : decode cX4_digest 27 = .ok (.getfield 10, 3) := by decide +kernel
theorem dX4_digest_30 : decode cX4_digest 30 = .ok (.iload_n 3, 1) := by decide +kernel
theorem dX4_digest_31 : decode cX4_digest 31 = .ok (.invokevirtual 151, 3) := by decide +kernel
theorem dX4_digest_34 : decode cX4_digest 34 = .ok (.i2l, 1) := by decide +kernel
theorem dX4_digest_35 : decode cX4_digest 35 = .ok (.ladd, 1) := by decide +kernel
theorem dX4_digest_36 : decode cX4_digest 36 = .ok (.lstore_n 1, 1) := by decide +kernel
theorem dX4_digest_37 : decode cX4_digest 37 = .ok (.iinc 3 1, 3) := by decide +kernel
theorem dX4_digest_40 : decode cX4_digest 40 = .ok (.goto (-25), 3) := by decide +kernel
theorem dX4_digest_43 : decode cX4_digest 43 = .ok (.iconst 0, 1) := by decide +kernel
theorem dX4_digest_44 : decode cX4_digest 44 = .ok (.istore_n 3, 1) := by decide +kernel
theorem dX4_digest_45 : decode cX4_digest 45 = .ok (.iload_n 3, 1) := by decide +kernel
theorem dX4_digest_46 : decode cX4_digest 46 = .ok (.bipush 8, 2) := by decide +kernel
theorem dX4_digest_48 : decode cX4_digest 48 = .ok (.if_icmp .ge 26, 3) := by decide +kernel
theorem dX4_digest_51 : decode cX4_digest 51 = .ok (.ldc2_w 237, 3) := by decide +kernel
theorem dX4_digest_54 : decode cX4_digest 54 = .ok (.lload_n 1, 1) := by decide +kernel
theorem dX4_digest_55 : decode cX4_digest 55 = .ok (.lmul, 1) := by decide +kernel
theorem dX4_digest_56 : decode cX4_digest 56 = .ok (.aload_n 0, 1) := by decide +kernel
theorem dX4_digest_57 : decode cX4_digest 57 = .ok (.getfield 10, 3) := by decide +kernel
theorem dX4_digest_60 : decode cX4_digest 60 = .ok (.getfield 52, 3) := by decide +kernel
theorem dX4_digest_63 : decode cX4_digest 63 = .ok (.iload_n 3, 1) := by decide +kernel
theorem dX4_digest_64 : decode cX4_digest 64 = .ok (.iaload, 1) := by decide +kernel
theorem dX4_digest_65 : decode cX4_digest 65 = .ok (.i2l, 1) := by decide +kernel
theorem dX4_digest_66 : decode cX4_digest 66 = .ok (.ladd, 1) := by decide +kernel
theorem dX4_digest_67 : decode cX4_digest 67 = .ok (.lstore_n 1, 1) := by decide +kernel
theorem dX4_digest_68 : decode cX4_digest 68 = .ok (.iinc 3 1, 3) := by decide +kernel
theorem dX4_digest_71 : decode cX4_digest 71 = .ok (.goto (-26), 3) := by decide +kernel
theorem dX4_digest_74 : decode cX4_digest 74 = .ok (.iconst 0, 1) := by decide +kernel
theorem dX4_digest_75 : decode cX4_digest 75 = .ok (.istore_n 3, 1) := by decide +kernel
theorem dX4_digest_76 : decode cX4_digest 76 = .ok (.iload_n 3, 1) := by decide +kernel
theorem dX4_digest_77 : decode cX4_digest 77 = .ok (.bipush 6, 2) := by decide +kernel
theorem dX4_digest_79 : decode cX4_digest 79 = .ok (.if_icmp .ge 25, 3) := by decide +kernel
theorem dX4_digest_82 : decode cX4_digest 82 = .ok (.ldc2_w 237, 3) := by decide +kernel
theorem dX4_digest_85 : decode cX4_digest 85 = .ok (.lload_n 1, 1) := by decide +kernel
theorem dX4_digest_86 : decode cX4_digest 86 = .ok (.lmul, 1) := by decide +kernel
theorem dX4_digest_87 : decode cX4_digest 87 = .ok (.aload_n 0, 1) := by decide +kernel
theorem dX4_digest_88 : decode cX4_digest 88 = .ok (.getfield 10, 3) := by decide +kernel
theorem dX4_digest_91 : decode cX4_digest 91 = .ok (.getfield 156, 3) := by decide +kernel
theorem dX4_digest_94 : decode cX4_digest 94 = .ok (.iload_n 3, 1) := by decide +kernel
theorem dX4_digest_95 : decode cX4_digest 95 = .ok (.laload, 1) := by decide +kernel
theorem dX4_digest_96 : decode cX4_digest 96 = .ok (.ladd, 1) := by decide +kernel
theorem dX4_digest_97 : decode cX4_digest 97 = .ok (.lstore_n 1, 1) := by decide +kernel
theorem dX4_digest_98 : decode cX4_digest 98 = .ok (.iinc 3 1, 3) := by decide +kernel
theorem dX4_digest_101 : decode cX4_digest 101 = .ok (.goto (-25), 3) := by decide +kernel
theorem dX4_digest_104 : decode cX4_digest 104 = .ok (.iconst 0, 1) := by decide +kernel
theorem dX4_digest_105 : decode cX4_digest 105 = .ok (.istore_n 3, 1) := by decide +kernel
theorem dX4_digest_106 : decode cX4_digest 106 = .ok (.iload_n 3, 1) := by decide +kernel
theorem dX4_digest_107 : decode cX4_digest 107 = .ok (.iconst 5, 1) := by decide +kernel
theorem dX4_digest_108 : decode cX4_digest 108 = .ok (.if_icmp .ge 23, 3) := by decide +kernel
theorem dX4_digest_111 : decode cX4_digest 111 = .ok (.aload_n 0, 1) := by decide +kernel
theorem dX4_digest_112 : decode cX4_digest 112 = .ok (.lload_n 1, 1) := by decide +kernel
theorem dX4_digest_113 : decode cX4_digest 113 = .ok (.aload_n 0, 1) := by decide +kernel
theorem dX4_digest_114 : decode cX4_digest 114 = .ok (.getfield 10, 3) := by decide +kernel
theorem dX4_digest_117 : decode cX4_digest 117 = .ok (.iload_n 3, 1) := by decide +kernel
theorem dX4_digest_118 : decode cX4_digest 118 = .ok (.invokevirtual 93, 3) := by decide +kernel
theorem dX4_digest_121 : decode cX4_digest 121 = .ok (.invokevirtual 239, 3) := by decide +kernel
theorem dX4_digest_124 : decode cX4_digest 124 = .ok (.lstore_n 1, 1) := by decide +kernel
theorem dX4_digest_125 : decode cX4_digest 125 = .ok (.iinc 3 1, 3) := by decide +kernel
theorem dX4_digest_128 : decode cX4_digest 128 = .ok (.goto (-22), 3) := by decide +kernel
theorem dX4_digest_131 : decode cX4_digest 131 = .ok (.iconst 0, 1) := by decide +kernel
theorem dX4_digest_132 : decode cX4_digest 132 = .ok (.istore_n 3, 1) := by decide +kernel
theorem dX4_digest_133 : decode cX4_digest 133 = .ok (.iload_n 3, 1) := by decide +kernel
theorem dX4_digest_134 : decode cX4_digest 134 = .ok (.aload_n 0, 1) := by decide +kernel
theorem dX4_digest_135 : decode cX4_digest 135 = .ok (.getfield 10, 3) := by decide +kernel
theorem dX4_digest_138 : decode cX4_digest 138 = .ok (.getfield 160, 3) := by decide +kernel
theorem dX4_digest_141 : decode cX4_digest 141 = .ok (.if_icmp .ge 32, 3) := by decide +kernel
theorem dX4_digest_144 : decode cX4_digest 144 = .ok (.iload_n 3, 1) := by decide +kernel
theorem dX4_digest_145 : decode cX4_digest 145 = .ok (.bipush 6, 2) := by decide +kernel
theorem dX4_digest_147 : decode cX4_digest 147 = .ok (.if_icmp .ge 26, 3) := by decide +kernel
theorem dX4_digest_150 : decode cX4_digest 150 = .ok (.ldc2_w 237, 3) := by decide +kernel
theorem dX4_digest_153 : decode cX4_digest 153 = .ok (.lload_n 1, 1) := by decide +kernel
theorem dX4_digest_154 : decode cX4_digest 154 = .ok (.lmul, 1) := by decide +kernel
theorem dX4_digest_155 : decode cX4_digest 155 = .ok (.aload_n 0, 1) := by decide +kernel
theorem dX4_digest_156 : decode cX4_digest 156 = .ok (.getfield 10, 3) := by decide +kernel
theorem dX4_digest_159 : decode cX4_digest 159 = .ok (.getfield 165, 3) := by decide +kernel
theorem dX4_digest_162 : decode cX4_digest 162 = .ok (.iload_n 3, 1) := by decide +kernel
theorem dX4_digest_163 : decode cX4_digest 163 = .ok (.iaload, 1) := by decide +kernel
theorem dX4_digest_164 : decode cX4_digest 164 = .ok (.i2l, 1) := by decide +kernel
theorem dX4_digest_165 : decode cX4_digest 165 = .ok (.ladd, 1) := by decide +kernel
theorem dX4_digest_166 : decode cX4_digest 166 = .ok (.lstore_n 1, 1) := by decide +kernel
theorem dX4_digest_167 : decode cX4_digest 167 = .ok (.iinc 3 1, 3) := by decide +kernel
theorem dX4_digest_170 : decode cX4_digest 170 = .ok (.goto (-37), 3) := by decide +kernel
theorem dX4_digest_173 : decode cX4_digest 173 = .ok (.ldc2_w 237, 3) := by decide +kernel
theorem dX4_digest_176 : decode cX4_digest 176 = .ok (.lload_n 1, 1) := by decide +kernel
theorem dX4_digest_177 : decode cX4_digest 177 = .ok (.lmul, 1) := by decide +kernel
theorem dX4_digest_178 : decode cX4_digest 178 = .ok (.aload_n 0, 1) := by decide +kernel
theorem dX4_digest_179 : decode cX4_digest 179 = .ok (.getfield 22, 3) := by decide +kernel
theorem dX4_digest_182 : decode cX4_digest 182 = .ok (.getfield 229, 3) := by decide +kernel
theorem dX4_digest_185 : decode cX4_digest 185 = .ok (.i2l, 1) := by decide +kernel
theorem dX4_digest_186 : decode cX4_digest 186 = .ok (.ladd, 1) := by decide +kernel
theorem dX4_digest_187 : decode cX4_digest 187 = .ok (.lreturn, 1) := by decide +kernel
theorem dX4_digestWith_0 : decode cX4_digestWith 0 = .ok (.aload_n 3, 1) := by decide +kernel
theorem dX4_digestWith_1 : decode cX4_digestWith 1 = .ok (.ifnonnull 5, 3) := by decide +kernel
theorem dX4_digestWith_4 : decode cX4_digestWith 4 = .ok (.lload_n 1, 1) := by decide +kernel
theorem dX4_digestWith_5 : decode cX4_digestWith 5 = .ok (.lreturn, 1) := by decide +kernel
theorem dX4_digestWith_6 : decode cX4_digestWith 6 = .ok (.lload_n 1, 1) := by decide +kernel
theorem dX4_digestWith_7 : decode cX4_digestWith 7 = .ok (.lstore 4, 2) := by decide +kernel
theorem dX4_digestWith_9 : decode cX4_digestWith 9 = .ok (.iconst 0, 1) := by decide +kernel
theorem dX4_digestWith_10 : decode cX4_digestWith 10 = .ok (.istore 6, 2) := by decide +kernel
theorem dX4_digestWith_12 : decode cX4_digestWith 12 = .ok (.iload 6, 2) := by decide +kernel
theorem dX4_digestWith_14 : decode cX4_digestWith 14 = .ok (.bipush 10, 2) := by decide +kernel
theorem dX4_digestWith_16 : decode cX4_digestWith 16 = .ok (.if_icmp .ge 29, 3) := by decide +kernel
theorem dX4_digestWith_19 : decode cX4_digestWith 19 = .ok (.ldc2_w 237, 3) := by decide +kernel
theorem dX4_digestWith_22 : decode cX4_digestWith 22 = .ok (.lload 4, 2) := by decide +kernel
theorem dX4_digestWith_24 : decode cX4_digestWith 24 = .ok (.lmul, 1) := by decide +kernel
theorem dX4_digestWith_25 : decode cX4_digestWith 25 = .ok (.aload_n 0, 1) := by decide +kernel
theorem dX4_digestWith_26 : decode cX4_digestWith 26 = .ok (.getfield 10, 3) := by decide +kernel
theorem dX4_digestWith_29 : decode cX4_digestWith 29 = .ok (.aload_n 3, 1) := by decide +kernel
theorem dX4_digestWith_30 : decode cX4_digestWith 30 = .ok (.iload 6, 2) := by decide +kernel
theorem dX4_digestWith_32 : decode cX4_digestWith 32 = .ok (.invokevirtual 140, 3) := by decide +kernel
theorem dX4_digestWith_35 : decode cX4_digestWith 35 = .ok (.i2l, 1) := by decide +kernel
theorem dX4_digestWith_36 : decode cX4_digestWith 36 = .ok (.ladd, 1) := by decide +kernel
theorem dX4_digestWith_37 : decode cX4_digestWith 37 = .ok (.lstore 4, 2) := by decide +kernel
theorem dX4_digestWith_39 : decode cX4_digestWith 39 = .ok (.iinc 6 1, 3) := by decide +kernel
theorem dX4_digestWith_42 : decode cX4_digestWith 42 = .ok (.goto (-30), 3) := by decide +kernel
theorem dX4_digestWith_45 : decode cX4_digestWith 45 = .ok (.ldc2_w 237, 3) := by decide +kernel
theorem dX4_digestWith_48 : decode cX4_digestWith 48 = .ok (.lload 4, 2) := by decide +kernel
theorem dX4_digestWith_50 : decode cX4_digestWith 50 = .ok (.lmul, 1) := by decide +kernel
theorem dX4_digestWith_51 : decode cX4_digestWith 51 = .ok (.aload_n 0, 1) := by decide +kernel
theorem dX4_digestWith_52 : decode cX4_digestWith 52 = .ok (.getfield 10, 3) := by decide +kernel
theorem dX4_digestWith_55 : decode cX4_digestWith 55 = .ok (.aload_n 3, 1) := by decide +kernel
theorem dX4_digestWith_56 : decode cX4_digestWith 56 = .ok (.aload_n 0, 1) := by decide +kernel
theorem dX4_digestWith_57 : decode cX4_digestWith 57 = .ok (.getfield 10, 3) := by decide +kernel
theorem dX4_digestWith_60 : decode cX4_digestWith 60 = .ok (.invokevirtual 68, 3) := by decide +kernel
theorem dX4_digestWith_63 : decode cX4_digestWith 63 = .ok (.invokevirtual 168, 3) := by decide +kernel
theorem dX4_digestWith_66 : decode cX4_digestWith 66 = .ok (.i2l, 1) := by decide +kernel
theorem dX4_digestWith_67 : decode cX4_digestWith 67 = .ok (.ladd, 1) := by decide +kernel
theorem dX4_digestWith_68 : decode cX4_digestWith 68 = .ok (.lreturn, 1) := by decide +kernel
theorem dX4_rankOfBestOrder_0 : decode cX4_rankOfBestOrder 0 = .ok (.iconst 0, 1) := by decide +kernel
theorem dX4_rankOfBestOrder_1 : decode cX4_rankOfBestOrder 1 = .ok (.istore_n 2, 1) := by decide +kernel
theorem dX4_rankOfBestOrder_2 : decode cX4_rankOfBestOrder 2 = .ok (.lconst 0, 1) := by decide +kernel
theorem dX4_rankOfBestOrder_3 : decode cX4_rankOfBestOrder 3 = .ok (.lstore_n 3, 1) := by decide +kernel
theorem dX4_rankOfBestOrder_4 : decode cX4_rankOfBestOrder 4 = .ok (.lconst 0, 1) := by decide +kernel
theorem dX4_rankOfBestOrder_5 : decode cX4_rankOfBestOrder 5 = .ok (.lstore 5, 2) := by decide +kernel
theorem dX4_rankOfBestOrder_7 : decode cX4_rankOfBestOrder 7 = .ok (.aload_n 0, 1) := by decide +kernel
theorem dX4_rankOfBestOrder_8 : decode cX4_rankOfBestOrder 8 = .ok (.getfield 10, 3) := by decide +kernel
theorem dX4_rankOfBestOrder_11 : decode cX4_rankOfBestOrder 11 = .ok (.getfield 84, 3) := by decide +kernel
theorem dX4_rankOfBestOrder_14 : decode cX4_rankOfBestOrder 14 = .ok (.invokestatic 243, 3) := by decide +kernel
theorem dX4_rankOfBestOrder_17 : decode cX4_rankOfBestOrder 17 = .ok (.istore 7, 2) := by decide +kernel
theorem dX4_rankOfBestOrder_19 : decode cX4_rankOfBestOrder 19 = .ok (.iconst 0, 1) := by decide +kernel
theorem dX4_rankOfBestOrder_20 : decode cX4_rankOfBestOrder 20 = .ok (.istore 8, 2) := by decide +kernel
theorem dX4_rankOfBestOrder_22 : decode cX4_rankOfBestOrder 22 = .ok (.iload 8, 2) := by decide +kernel
theorem dX4_rankOfBestOrder_24 : decode cX4_rankOfBestOrder 24 = .ok (.iload 7, 2) := by decide +kernel
theorem dX4_rankOfBestOrder_26 : decode cX4_rankOfBestOrder 26 = .ok (.if_icmp .ge 96, 3) := by decide +kernel
theorem dX4_rankOfBestOrder_29 : decode cX4_rankOfBestOrder 29 = .ok (.aload_n 0, 1) := by decide +kernel
theorem dX4_rankOfBestOrder_30 : decode cX4_rankOfBestOrder 30 = .ok (.getfield 16, 3) := by decide +kernel
theorem dX4_rankOfBestOrder_33 : decode cX4_rankOfBestOrder 33 = .ok (.aload_n 0, 1) := by decide +kernel
theorem dX4_rankOfBestOrder_34 : decode cX4_rankOfBestOrder 34 = .ok (.getfield 10, 3) := by decide +kernel
theorem dX4_rankOfBestOrder_37 : decode cX4_rankOfBestOrder 37 = .ok (.invokevirtual 171, 3) := by decide +kernel
theorem dX4_rankOfBestOrder_40 : decode cX4_rankOfBestOrder 40 = .ok (.aload_n 0, 1) := by decide +kernel
theorem dX4_rankOfBestOrder_41 : decode cX4_rankOfBestOrder 41 = .ok (.getfield 16, 3) := by decide +kernel
theorem dX4_rankOfBestOrder_44 : decode cX4_rankOfBestOrder 44 = .ok (.iload 8, 2) := by decide +kernel
theorem dX4_rankOfBestOrder_46 : decode cX4_rankOfBestOrder 46 = .ok (.invokevirtual 196, 3) := by decide +kernel
theorem dX4_rankOfBestOrder_49 : decode cX4_rankOfBestOrder 49 = .ok (.aload_n 0, 1) := by decide +kernel
theorem dX4_rankOfBestOrder_50 : decode cX4_rankOfBestOrder 50 = .ok (.getfield 16, 3) := by decide +kernel
theorem dX4_rankOfBestOrder_53 : decode cX4_rankOfBestOrder 53 = .ok (.iload_n 1, 1) := by decide +kernel
theorem dX4_rankOfBestOrder_54 : decode cX4_rankOfBestOrder 54 = .ok (.invokevirtual 132, 3) := by decide +kernel
theorem dX4_rankOfBestOrder_57 : decode cX4_rankOfBestOrder 57 = .ok (.aload_n 0, 1) := by decide +kernel
theorem dX4_rankOfBestOrder_58 : decode cX4_rankOfBestOrder 58 = .ok (.getfield 16, 3) := by decide +kernel
theorem dX4_rankOfBestOrder_61 : decode cX4_rankOfBestOrder 61 = .ok (.getfield 156, 3) := by decide +kernel
theorem dX4_rankOfBestOrder_64 : decode cX4_rankOfBestOrder 64 = .ok (.iconst 3, 1) := by decide +kernel
theorem dX4_rankOfBestOrder_65 : decode cX4_rankOfBestOrder 65 = .ok (.laload, 1) := by decide +kernel
theorem dX4_rankOfBestOrder_66 : decode cX4_rankOfBestOrder 66 = .ok (.lstore 9, 2) := by decide +kernel
theorem dX4_rankOfBestOrder_68 : decode cX4_rankOfBestOrder 68 = .ok (.aload_n 0, 1) := by decide +kernel
theorem dX4_rankOfBestOrder_69 : decode cX4_rankOfBestOrder 69 = .ok (.getfield 16, 3) := by decide +kernel
theorem dX4_rankOfBestOrder_72 : decode cX4_rankOfBestOrder 72 = .ok (.getfield 156, 3) := by decide +kernel
theorem dX4_rankOfBestOrder_75 : decode cX4_rankOfBestOrder 75 = .ok (.iconst 5, 1) := by decide +kernel
theorem dX4_rankOfBestOrder_76 : decode cX4_rankOfBestOrder 76 = .ok (.laload, 1) := by decide +kernel
theorem dX4_rankOfBestOrder_77 : decode cX4_rankOfBestOrder 77 = .ok (.lstore 11, 2) := by decide +kernel
theorem dX4_rankOfBestOrder_79 : decode cX4_rankOfBestOrder 79 = .ok (.iload 8, 2) := by decide +kernel
theorem dX4_rankOfBestOrder_81 : decode cX4_rankOfBestOrder 81 = .ok (.ifCond .eq 25, 3) := by decide +kernel
theorem dX4_rankOfBestOrder_84 : decode cX4_rankOfBestOrder 84 = .ok (.lload 9, 2) := by decide +kernel
theorem dX4_rankOfBestOrder_86 : decode cX4_rankOfBestOrder 86 = .ok (.lload_n 3, 1) := by decide +kernel
theorem dX4_rankOfBestOrder_87 : decode cX4_rankOfBestOrder 87 = .ok (.lcmp, 1) := by decide +kernel
theorem dX4_rankOfBestOrder_88 : decode cX4_rankOfBestOrder 88 = .ok (.ifCond .lt 18, 3) := by decide +kernel
theorem dX4_rankOfBestOrder_91 : decode cX4_rankOfBestOrder 91 = .ok (.lload 9, 2) := by decide +kernel
theorem dX4_rankOfBestOrder_93 : decode cX4_rankOfBestOrder 93 = .ok (.lload_n 3, 1) := by decide +kernel
theorem dX4_rankOfBestOrder_94 : decode cX4_rankOfBestOrder 94 = .ok (.lcmp, 1) := by decide +kernel
theorem dX4_rankOfBestOrder_95 : decode cX4_rankOfBestOrder 95 = .ok (.ifCond .ne 21, 3) := by decide +kernel
theorem dX4_rankOfBestOrder_98 : decode cX4_rankOfBestOrder 98 = .ok (.lload 11, 2) := by decide +kernel
theorem dX4_rankOfBestOrder_100 : decode cX4_rankOfBestOrder 100 = .ok (.lload 5, 2) := by decide +kernel
theorem dX4_rankOfBestOrder_102 : decode cX4_rankOfBestOrder 102 = .ok (.lcmp, 1) := by decide +kernel
theorem dX4_rankOfBestOrder_103 : decode cX4_rankOfBestOrder 103 = .ok (.ifCond .ge 13, 3) := by decide +kernel
theorem dX4_rankOfBestOrder_106 : decode cX4_rankOfBestOrder 106 = .ok (.iload 8, 2) := by decide +kernel
theorem dX4_rankOfBestOrder_108 : decode cX4_rankOfBestOrder 108 = .ok (.istore_n 2, 1) := by decide +kernel
theorem dX4_rankOfBestOrder_109 : decode cX4_rankOfBestOrder 109 = .ok (.lload 9, 2) := by decide +kernel
theorem dX4_rankOfBestOrder_111 : decode cX4_rankOfBestOrder 111 = .ok (.lstore_n 3, 1) := by decide +kernel
theorem dX4_rankOfBestOrder_112 : decode cX4_rankOfBestOrder 112 = .ok (.lload 11, 2) := by decide +kernel
theorem dX4_rankOfBestOrder_114 : decode cX4_rankOfBestOrder 114 = .ok (.lstore 5, 2) := by decide +kernel
theorem dX4_rankOfBestOrder_116 : decode cX4_rankOfBestOrder 116 = .ok (.iinc 8 1, 3) := by decide +kernel
theorem dX4_rankOfBestOrder_119 : decode cX4_rankOfBestOrder 119 = .ok (.goto (-97), 3) := by decide +kernel
theorem dX4_rankOfBestOrder_122 : decode cX4_rankOfBestOrder 122 = .ok (.iload_n 2, 1) := by decide +kernel
theorem dX4_rankOfBestOrder_123 : decode cX4_rankOfBestOrder 123 = .ok (.ireturn, 1) := by decide +kernel
theorem dX4_isWithin_0 : decode cX4_isWithin 0 = .ok (.iload_n 0, 1) := by decide +kernel
theorem dX4_isWithin_1 : decode cX4_isWithin 1 = .ok (.iload_n 1, 1) := by decide +kernel
theorem dX4_isWithin_2 : decode cX4_isWithin 2 = .ok (.if_icmp .lt 12, 3) := by decide +kernel
theorem dX4_isWithin_5 : decode cX4_isWithin 5 = .ok (.iload_n 0, 1) := by decide +kernel
theorem dX4_isWithin_6 : decode cX4_isWithin 6 = .ok (.iload_n 2, 1) := by decide +kernel
theorem dX4_isWithin_7 : decode cX4_isWithin 7 = .ok (.if_icmp .gt 7, 3) := by decide +kernel
theorem dX4_isWithin_10 : decode cX4_isWithin 10 = .ok (.iconst 1, 1) := by decide +kernel
theorem dX4_isWithin_11 : decode cX4_isWithin 11 = .ok (.goto 4, 3) := by decide +kernel
theorem dX4_isWithin_14 : decode cX4_isWithin 14 = .ok (.iconst 0, 1) := by decide +kernel
theorem dX4_isWithin_15 : decode cX4_isWithin 15 = .ok (.ireturn, 1) := by decide +kernel
theorem dX4_pressureOf_0 : decode cX4_pressureOf 0 = .ok (.iload_n 1, 1) := by decide +kernel
theorem dX4_pressureOf_1 : decode cX4_pressureOf 1 = .ok (.ifCond .gt 7, 3) := by decide +kernel
theorem dX4_pressureOf_4 : decode cX4_pressureOf 4 = .ok (.iconst 0, 1) := by decide +kernel
theorem dX4_pressureOf_5 : decode cX4_pressureOf 5 = .ok (.goto 10, 3) := by decide +kernel
theorem dX4_pressureOf_8 : decode cX4_pressureOf 8 = .ok (.iload_n 0, 1) := by decide +kernel
theorem dX4_pressureOf_9 : decode cX4_pressureOf 9 = .ok (.sipush 1000, 3) := by decide +kernel
theorem dX4_pressureOf_12 : decode cX4_pressureOf 12 = .ok (.imul, 1) := by decide +kernel
theorem dX4_pressureOf_13 : decode cX4_pressureOf 13 = .ok (.iload_n 1, 1) := by decide +kernel
theorem dX4_pressureOf_14 : decode cX4_pressureOf 14 = .ok (.idiv, 1) := by decide +kernel
theorem dX4_pressureOf_15 : decode cX4_pressureOf 15 = .ok (.ireturn, 1) := by decide +kernel
theorem dX4_ordersOf_0 : decode cX4_ordersOf 0 = .ok (.iconst 1, 1) := by decide +kernel
theorem dX4_ordersOf_1 : decode cX4_ordersOf 1 = .ok (.istore_n 1, 1) := by decide +kernel
theorem dX4_ordersOf_2 : decode cX4_ordersOf 2 = .ok (.iconst 2, 1) := by decide +kernel
theorem dX4_ordersOf_3 : decode cX4_ordersOf 3 = .ok (.istore_n 2, 1) := by decide +kernel
theorem dX4_ordersOf_4 : decode cX4_ordersOf 4 = .ok (.iload_n 2, 1) := by decide +kernel
theorem dX4_ordersOf_5 : decode cX4_ordersOf 5 = .ok (.iload_n 0, 1) := by decide +kernel
theorem dX4_ordersOf_6 : decode cX4_ordersOf 6 = .ok (.if_icmp .gt 18, 3) := by decide +kernel
theorem dX4_ordersOf_9 : decode cX4_ordersOf 9 = .ok (.iload_n 2, 1) := by decide +kernel
theorem dX4_ordersOf_10 : decode cX4_ordersOf 10 = .ok (.iconst 5, 1) := by decide +kernel
theorem dX4_ordersOf_11 : decode cX4_ordersOf 11 = .ok (.if_icmp .gt 13, 3) := by decide +kernel
theorem dX4_ordersOf_14 : decode cX4_ordersOf 14 = .ok (.iload_n 1, 1) := by decide +kernel
theorem dX4_ordersOf_15 : decode cX4_ordersOf 15 = .ok (.iload_n 2, 1) := by decide +kernel
theorem dX4_ordersOf_16 : decode cX4_ordersOf 16 = .ok (.imul, 1) := by decide +kernel
theorem dX4_ordersOf_17 : decode cX4_ordersOf 17 = .ok (.istore_n 1, 1) := by decide +kernel
theorem dX4_ordersOf_18 : decode cX4_ordersOf 18 = .ok (.iinc 2 1, 3) := by decide +kernel
theorem dX4_ordersOf_21 : decode cX4_ordersOf 21 = .ok (.goto (-17), 3) := by decide +kernel
theorem dX4_ordersOf_24 : decode cX4_ordersOf 24 = .ok (.iload_n 1, 1) := by decide +kernel
theorem dX4_ordersOf_25 : decode cX4_ordersOf 25 = .ok (.ireturn, 1) := by decide +kernel
theorem dX5_init_0 : decode cX5_init 0 = .ok (.aload_n 0, 1) := by decide +kernel
theorem dX5_init_1 : decode cX5_init 1 = .ok (.invokespecial 1, 3) := by decide +kernel
theorem dX5_init_4 : decode cX5_init 4 = .ok (.aload_n 0, 1) := by decide +kernel
theorem dX5_init_5 : decode cX5_init 5 = .ok (.bipush 61, 2) := by decide +kernel
theorem dX5_init_7 : decode cX5_init 7 = .ok (.newarray .int, 2) := by decide +kernel
theorem dX5_init_9 : decode cX5_init 9 = .ok (.putfield 7, 3) := by decide +kernel
theorem dX5_init_12 : decode cX5_init 12 = .ok (.aload_n 0, 1) := by decide +kernel
theorem dX5_init_13 : decode cX5_init 13 = .ok (.bipush 6, 2) := by decide +kernel
theorem dX5_init_15 : decode cX5_init 15 = .ok (.newarray .long, 2) := by decide +kernel
theorem dX5_init_17 : decode cX5_init 17 = .ok (.putfield 13, 3) := by decide +kernel
theorem dX5_init_20 : decode cX5_init 20 = .ok (.aload_n 0, 1) := by decide +kernel
theorem dX5_init_21 : decode cX5_init 21 = .ok (.sipush 244, 3) := by decide +kernel
theorem dX5_init_24 : decode cX5_init 24 = .ok (.newarray .int, 2) := by decide +kernel
theorem dX5_init_26 : decode cX5_init 26 = .ok (.putfield 17, 3) := by decide +kernel
theorem dX5_init_29 : decode cX5_init 29 = .ok (.aload_n 0, 1) := by decide +kernel
theorem dX5_init_30 : decode cX5_init 30 = .ok (.bipush 24, 2) := by decide +kernel
theorem dX5_init_32 : decode cX5_init 32 = .ok (.newarray .long, 2) := by decide +kernel
theorem dX5_init_34 : decode cX5_init 34 = .ok (.putfield 20, 3) := by decide +kernel
theorem dX5_init_37 : decode cX5_init 37 = .ok (.aload_n 0, 1) := by decide +kernel
theorem dX5_init_38 : decode cX5_init 38 = .ok (.bipush 61, 2) := by decide +kernel
theorem dX5_init_40 : decode cX5_init 40 = .ok (.newarray .int, 2) := by decide +kernel
theorem dX5_init_42 : decode cX5_init 42 = .ok (.putfield 23, 3) := by decide +kernel
theorem dX5_init_45 : decode cX5_init 45 = .ok (.aload_n 0, 1) := by decide +kernel
theorem dX5_init_46 : decode cX5_init 46 = .ok (.bipush 6, 2) := by decide +kernel
theorem dX5_init_48 : decode cX5_init 48 = .ok (.newarray .long, 2) := by decide +kernel
theorem dX5_init_50 : decode cX5_init 50 = .ok (.putfield 26, 3) := by decide +kernel
theorem dX5_init_53 : decode cX5_init 53 = .ok (.aload_n 0, 1) := by decide +kernel
theorem dX5_init_54 : decode cX5_init 54 = .ok (.bipush 61, 2) := by decide +kernel
theorem dX5_init_56 : decode cX5_init 56 = .ok (.newarray .int, 2) := by decide +kernel
theorem dX5_init_58 : decode cX5_init 58 = .ok (.putfield 29, 3) := by decide +kernel
theorem dX5_init_61 : decode cX5_init 61 = .ok (.aload_n 0, 1) := by decide +kernel
theorem dX5_init_62 : decode cX5_init 62 = .ok (.bipush 6, 2) := by decide +kernel
theorem dX5_init_64 : decode cX5_init 64 = .ok (.newarray .long, 2) := by decide +kernel
theorem dX5_init_66 : decode cX5_init 66 = .ok (.putfield 32, 3) := by decide +kernel
theorem dX5_init_69 : decode cX5_init 69 = .ok (.aload_n 0, 1) := by decide +kernel
theorem dX5_init_70 : decode cX5_init 70 = .ok (.bipush 100, 2) := by decide +kernel
theorem dX5_init_72 : decode cX5_init 72 = .ok (.newarray .int, 2) := by decide +kernel
theorem dX5_init_74 : decode cX5_init 74 = .ok (.putfield 35, 3) := by decide +kernel
theorem dX5_init_77 : decode cX5_init 77 = .ok (.aload_n 0, 1) := by decide +kernel
theorem dX5_init_78 : decode cX5_init 78 = .ok (.iconst 5, 1) := by decide +kernel
theorem dX5_init_79 : decode cX5_init 79 = .ok (.newarray .int, 2) := by decide +kernel
theorem dX5_init_81 : decode cX5_init 81 = .ok (.putfield 38, 3) := by decide +kernel
theorem dX5_init_84 : decode cX5_init 84 = .ok (.aload_n 0, 1) := by decide +kernel
theorem dX5_init_85 : decode cX5_init 85 = .ok (.getfield 7, 3) := by decide +kernel
theorem dX5_init_88 : decode cX5_init 88 = .ok (.iconst 0, 1) := by decide +kernel
theorem dX5_init_89 : decode cX5_init 89 = .ok (.sipush 1000, 3) := by decide +kernel
theorem dX5_init_92 : decode cX5_init 92 = .ok (.iastore, 1) := by decide +kernel
theorem dX5_init_93 : decode cX5_init 93 = .ok (.aload_n 0, 1) := by decide +kernel
theorem dX5_init_94 : decode cX5_init 94 = .ok (.getfield 7, 3) := by decide +kernel
theorem dX5_init_97 : decode cX5_init 97 = .ok (.iconst 1, 1) := by decide +kernel
theorem dX5_init_98 : decode cX5_init 98 = .ok (.sipush 6000, 3) := by decide +kernel
theorem dX5_init_101 : decode cX5_init 101 = .ok (.iastore, 1) := by decide +kernel
theorem dX5_init_102 : decode cX5_init 102 = .ok (.aload_n 0, 1) := by decide +kernel
theorem dX5_init_103 : decode cX5_init 103 = .ok (.getfield 7, 3) := by decide +kernel
theorem dX5_init_106 : decode cX5_init 106 = .ok (.iconst 2, 1) := by decide +kernel
theorem dX5_init_107 : decode cX5_init 107 = .ok (.sipush 6500, 3) := by decide +kernel
theorem dX5_init_110 : decode cX5_init 110 = .ok (.iastore, 1) := by decide +kernel
theorem dX5_init_111 : decode cX5_init 111 = .ok (.aload_n 0, 1) := by decide +kernel
theorem dX5_init_112 : decode cX5_init 112 = .ok (.getfield 7, 3) := by decide +kernel
theorem dX5_init_115 : decode cX5_init 115 = .ok (.iconst 3, 1) := by decide +kernel
theorem dX5_init_116 : decode cX5_init 116 = .ok (.sipush 200, 3) := by decide +kernel
theorem dX5_init_119 : decode cX5_init 119 = .ok (.iastore, 1) := by decide +kernel
theorem dX5_init_120 : decode cX5_init 120 = .ok (.aload_n 0, 1) := by decide +kernel
theorem dX5_init_121 : decode cX5_init 121 = .ok (.getfield 7, 3) := by decide +kernel
theorem dX5_init_124 : decode cX5_init 124 = .ok (.iconst 4, 1) := by decide +kernel
theorem dX5_init_125 : decode cX5_init 125 = .ok (.sipush 10000, 3) := by decide +kernel
theorem dX5_init_128 : decode cX5_init 128 = .ok (.iastore, 1) := by decide +kernel
theorem dX5_init_129 : decode cX5_init 129 = .ok (.aload_n 0, 1) := by decide +kernel
theorem dX5_init_130 : decode cX5_init 130 = .ok (.getfield 7, 3) := by decide +kernel
theorem dX5_init_133 : decode cX5_init 133 = .ok (.iconst 5, 1) := by decide +kernel
theorem dX5_init_134 : decode cX5_init 134 = .ok (.iconst 5, 1) := by decide +kernel
theorem dX5_init_135 : decode cX5_init 135 = .ok (.iastore, 1) := by decide +kernel
theorem dX5_init_136 : decode cX5_init 136 = .ok (.aload_n 0, 1) := by decide +kernel
theorem dX5_init_137 : decode cX5_init 137 = .ok (.getfield 7, 3) := by decide +kernel
theorem dX5_init_140 : decode cX5_init 140 = .ok (.bipush 6, 2) := by decide +kernel
theorem dX5_init_142 : decode cX5_init 142 = .ok (.iconst 3, 1) := by decide +kernel
theorem dX5_init_143 : decode cX5_init 143 = .ok (.iastore, 1) := by decide +kernel
theorem dX5_init_144 : decode cX5_init 144 = .ok (.aload_n 0, 1) := by decide +kernel
theorem dX5_init_145 : decode cX5_init 145 = .ok (.getfield 7, 3) := by decide +kernel
theorem dX5_init_148 : decode cX5_init 148 = .ok (.bipush 7, 2) := by decide +kernel
theorem dX5_init_150 : decode cX5_init 150 = .ok (.iconst 2, 1) := by decide +kernel
theorem dX5_init_151 : decode cX5_init 151 = .ok (.iastore, 1) := by decide +kernel
theorem dX5_init_152 : decode cX5_init 152 = .ok (.aload_n 0, 1) := by decide +kernel
theorem dX5_init_153 : decode cX5_init 153 = .ok (.getfield 7, 3) := by decide +kernel
theorem dX5_init_156 : decode cX5_init 156 = .ok (.bipush 8, 2) := by decide +kernel
theorem dX5_init_158 : decode cX5_init 158 = .ok (.bipush 100, 2) := by decide +kernel
theorem dX5_init_160 : decode cX5_init 160 = .ok (.iastore, 1) := by decide +kernel
theorem dX5_init_161 : decode cX5_init 161 = .ok (.aload_n 0, 1) := by decide +kernel
theorem dX5_init_162 : decode cX5_init 162 = .ok (.getfield 7, 3) := by decide +kernel
theorem dX5_init_165 : decode cX5_init 165 = .ok (.bipush 9, 2) := by decide +kernel
theorem dX5_init_167 : decode cX5_init 167 = .ok (.sipush 480, 3) := by decide +kernel
theorem dX5_init_170 : decode cX5_init 170 = .ok (.iastore, 1) := by decide +kernel
theorem dX5_init_171 : decode cX5_init 171 = .ok (.return_, 1) := by decide +kernel
theorem dX5_thrown_0 : decode cX5_thrown 0 = .ok (.aload_n 0, 1) := by decide +kernel
theorem dX5_thrown_1 : decode cX5_thrown 1 = .ok (.getfield 41, 3) := by decide +kernel
theorem dX5_thrown_4 : decode cX5_thrown 4 = .ok (.ireturn, 1) := by decide +kernel
theorem dX5_in_0 : decode cX5_in 0 = .ok (.iload_n 0, 1) := by decide +kernel
theorem dX5_in_1 : decode cX5_in 1 = .ok (.iload_n 1, 1) := by decide +kernel
theorem dX5_in_2 : decode cX5_in 2 = .ok (.if_icmp .lt 12, 3) := by decide +kernel
theorem dX5_in_5 : decode cX5_in 5 = .ok (.iload_n 0, 1) := by decide +kernel
theorem dX5_in_6 : decode cX5_in 6 = .ok (.iload_n 2, 1) := by decide +kernel
theorem dX5_in_7 : decode cX5_in 7 = .ok (.if_icmp .gt 7, 3) := by decide +kernel
theorem dX5_in_10 : decode cX5_in 10 = .ok (.iconst 1, 1) := by decide +kernel
theorem dX5_in_11 : decode cX5_in 11 = .ok (.goto 4, 3) := by decide +kernel
theorem dX5_in_14 : decode cX5_in 14 = .ok (.iconst 0, 1) := by decide +kernel
theorem dX5_in_15 : decode cX5_in 15 = .ok (.ireturn, 1) := by decide +kernel
theorem dX5_fails_0 : decode cX5_fails 0 = .ok (.aload_n 0, 1) := by decide +kernel
theorem dX5_fails_1 : decode cX5_fails 1 = .ok (.iload_n 1, 1) := by decide +kernel
theorem dX5_fails_2 : decode cX5_fails 2 = .ok (.putfield 41, 3) := by decide +kernel
theorem dX5_fails_5 : decode cX5_fails 5 = .ok (.iconst 0, 1) := by decide +kernel
theorem dX5_fails_6 : decode cX5_fails 6 = .ok (.ireturn, 1) := by decide +kernel
theorem dX5_tells_0 : decode cX5_tells 0 = .ok (.aload_n 0, 1) := by decide +kernel
theorem dX5_tells_1 : decode cX5_tells 1 = .ok (.iconst 0, 1) := by decide +kernel
theorem dX5_tells_2 : decode cX5_tells 2 = .ok (.putfield 41, 3) := by decide +kernel
theorem dX5_tells_5 : decode cX5_tells 5 = .ok (.iload_n 1, 1) := by decide +kernel
theorem dX5_tells_6 : decode cX5_tells 6 = .ok (.ireturn, 1) := by decide +kernel
theorem dX5_holds_0 : decode cX5_holds 0 = .ok (.iconst 0, 1) := by decide +kernel
theorem dX5_holds_1 : decode cX5_holds 1 = .ok (.istore_n 1, 1) := by decide +kernel
theorem dX5_holds_2 : decode cX5_holds 2 = .ok (.iload_n 1, 1) := by decide +kernel
theorem dX5_holds_3 : decode cX5_holds 3 = .ok (.bipush 61, 2) := by decide +kernel
theorem dX5_holds_5 : decode cX5_holds 5 = .ok (.if_icmp .ge 21, 3) := by decide +kernel
theorem dX5_holds_8 : decode cX5_holds 8 = .ok (.aload_n 0, 1) := by decide +kernel
theorem dX5_holds_9 : decode cX5_holds 9 = .ok (.getfield 29, 3) := by decide +kernel
theorem dX5_holds_12 : decode cX5_holds 12 = .ok (.iload_n 1, 1) := by decide +kernel
theorem dX5_holds_13 : decode cX5_holds 13 = .ok (.aload_n 0, 1) := by decide +kernel
theorem dX5_holds_14 : decode cX5_holds 14 = .ok (.getfield 7, 3) := by decide +kernel
theorem dX5_holds_17 : decode cX5_holds 17 = .ok (.iload_n 1, 1) := by decide +kernel
theorem dX5_holds_18 : decode cX5_holds 18 = .ok (.iaload, 1) := by decide +kernel
theorem dX5_holds_19 : decode cX5_holds 19 = .ok (.iastore, 1) := by decide +kernel
theorem dX5_holds_20 : decode cX5_holds 20 = .ok (.iinc 1 1, 3) := by decide +kernel
theorem dX5_holds_23 : decode cX5_holds 23 = .ok (.goto (-21), 3) := by decide +kernel
theorem dX5_holds_26 : decode cX5_holds 26 = .ok (.iconst 0, 1) := by decide +kernel
theorem dX5_holds_27 : decode cX5_holds 27 = .ok (.istore_n 1, 1) := by decide +kernel
theorem dX5_holds_28 : decode cX5_holds 28 = .ok (.iload_n 1, 1) := by decide +kernel
theorem dX5_holds_29 : decode cX5_holds 29 = .ok (.bipush 6, 2) := by decide +kernel
theorem dX5_holds_31 : decode cX5_holds 31 = .ok (.if_icmp .ge 21, 3) := by decide +kernel
theorem dX5_holds_34 : decode cX5_holds 34 = .ok (.aload_n 0, 1) := by decide +kernel
theorem dX5_holds_35 : decode cX5_holds 35 = .ok (.getfield 32, 3) := by decide +kernel
theorem dX5_holds_38 : decode cX5_holds 38 = .ok (.iload_n 1, 1) := by decide +kernel
theorem dX5_holds_39 : decode cX5_holds 39 = .ok (.aload_n 0, 1) := by decide +kernel
theorem dX5_holds_40 : decode cX5_holds 40 = .ok (.getfield 13, 3) := by decide +kernel
theorem dX5_holds_43 : decode cX5_holds 43 = .ok (.iload_n 1, 1) := by decide +kernel
theorem dX5_holds_44 : decode cX5_holds 44 = .ok (.laload, 1) := by decide +kernel
theorem dX5_holds_45 : decode cX5_holds 45 = .ok (.lastore, 1) := by decide +kernel
theorem dX5_holds_46 : decode cX5_holds 46 = .ok (.iinc 1 1, 3) := by decide +kernel
theorem dX5_holds_49 : decode cX5_holds 49 = .ok (.goto (-21), 3) := by decide +kernel
theorem dX5_holds_52 : decode cX5_holds 52 = .ok (.return_, 1) := by decide +kernel
theorem dX5_saves_0 : decode cX5_saves 0 = .ok (.aload_n 0, 1) := by decide +kernel
theorem dX5_saves_1 : decode cX5_saves 1 = .ok (.getfield 45, 3) := by decide +kernel
theorem dX5_saves_4 : decode cX5_saves 4 = .ok (.iconst 4, 1) := by decide +kernel
theorem dX5_saves_5 : decode cX5_saves 5 = .ok (.if_icmp .ne 72, 3) := by decide +kernel
theorem dX5_saves_8 : decode cX5_saves 8 = .ok (.iconst 0, 1) := by decide +kernel
theorem dX5_saves_9 : decode cX5_saves 9 = .ok (.istore_n 1, 1) := by decide +kernel
theorem dX5_saves_10 : decode cX5_saves 10 = .ok (.iload_n 1, 1) := by decide +kernel
theorem dX5_saves_11 : decode cX5_saves 11 = .ok (.sipush 183, 3) := by decide +kernel
theorem dX5_saves_14 : decode cX5_saves 14 = .ok (.if_icmp .ge 24, 3) := by decide +kernel
theorem dX5_saves_17 : decode cX5_saves 17 = .ok (.aload_n 0, 1) := by decide +kernel
theorem dX5_saves_18 : decode cX5_saves 18 = .ok (.getfield 17, 3) := by decide +kernel
theorem dX5_saves_21 : decode cX5_saves 21 = .ok (.iload_n 1, 1) := by decide +kernel
theorem dX5_saves_22 : decode cX5_saves 22 = .ok (.aload_n 0, 1) := by decide +kernel
theorem dX5_saves_23 : decode cX5_saves 23 = .ok (.getfield 17, 3) := by decide +kernel
theorem dX5_saves_26 : decode cX5_saves 26 = .ok (.iload_n 1, 1) := by decide +kernel
theorem dX5_saves_27 : decode cX5_saves 27 = .ok (.bipush 61, 2) := by decide +kernel
theorem dX5_saves_29 : decode cX5_saves 29 = .ok (.iadd, 1) := by decide +kernel
theorem dX5_saves_30 : decode cX5_saves 30 = .ok (.iaload, 1) := by decide +kernel
theorem dX5_saves_31 : decode cX5_saves 31 = .ok (.iastore, 1) := by decide +kernel
theorem dX5_saves_32 : decode cX5_saves 32 = .ok (.iinc 1 1, 3) := by decide +kernel
theorem dX5_saves_35 : decode cX5_saves 35 = .ok (.goto (-25), 3) := by decide +kernel
theorem dX5_saves_38 : decode cX5_saves 38 = .ok (.iconst 0, 1) := by decide +kernel
theorem dX5_saves_39 : decode cX5_saves 39 = .ok (.istore_n 1, 1) := by decide +kernel
theorem dX5_saves_40 : decode cX5_saves 40 = .ok (.iload_n 1, 1) := by decide +kernel
theorem dX5_saves_41 : decode cX5_saves 41 = .ok (.bipush 18, 2) := by decide +kernel
theorem dX5_saves_43 : decode cX5_saves 43 = .ok (.if_icmp .ge 24, 3) := by decide +kernel
theorem dX5_saves_46 : decode cX5_saves 46 = .ok (.aload_n 0, 1) := by decide +kernel
theorem dX5_saves_47 : decode cX5_saves 47 = .ok (.getfield 20, 3) := by decide +kernel
theorem dX5_saves_50 : decode cX5_saves 50 = .ok (.iload_n 1, 1) := by decide +kernel
theorem dX5_saves_51 : decode cX5_saves 51 = .ok (.aload_n 0, 1) := by decide +kernel
theorem dX5_saves_52 : decode cX5_saves 52 = .ok (.getfield 20, 3) := by decide +kernel
theorem dX5_saves_55 : decode cX5_saves 55 = .ok (.iload_n 1, 1) := by decide +kernel
theorem dX5_saves_56 : decode cX5_saves 56 = .ok (.bipush 6, 2) := by decide +kernel
theorem dX5_saves_58 : decode cX5_saves 58 = .ok (.iadd, 1) := by decide +kernel
theorem dX5_saves_59 : decode cX5_saves 59 = .ok (.laload, 1) := by decide +kernel
theorem dX5_saves_60 : decode cX5_saves 60 = .ok (.lastore, 1) := by decide +kernel
theorem dX5_saves_61 : decode cX5_saves 61 = .ok (.iinc 1 1, 3) := by decide +kernel
theorem dX5_saves_64 : decode cX5_saves 64 = .ok (.goto (-24), 3) := by decide +kernel
theorem dX5_saves_67 : decode cX5_saves 67 = .ok (.aload_n 0, 1) := by decide +kernel
theorem dX5_saves_68 : decode cX5_saves 68 = .ok (.dup, 1) := by decide +kernel
theorem dX5_saves_69 : decode cX5_saves 69 = .ok (.getfield 45, 3) := by decide +kernel
theorem dX5_saves_72 : decode cX5_saves 72 = .ok (.iconst 1, 1) := by decide +kernel
theorem dX5_saves_73 : decode cX5_saves 73 = .ok (.isub, 1) := by decide +kernel
theorem dX5_saves_74 : decode cX5_saves 74 = .ok (.putfield 45, 3) := by decide +kernel
theorem dX5_saves_77 : decode cX5_saves 77 = .ok (.iconst 0, 1) := by decide +kernel
theorem dX5_saves_78 : decode cX5_saves 78 = .ok (.istore_n 1, 1) := by decide +kernel
theorem dX5_saves_79 : decode cX5_saves 79 = .ok (.iload_n 1, 1) := by decide +kernel
theorem dX5_saves_80 : decode cX5_saves 80 = .ok (.bipush 61, 2) := by decide +kernel
theorem dX5_saves_82 : decode cX5_saves 82 = .ok (.if_icmp .ge 29, 3) := by decide +kernel
theorem dX5_saves_85 : decode cX5_saves 85 = .ok (.aload_n 0, 1) := by decide +kernel
theorem dX5_saves_86 : decode cX5_saves 86 = .ok (.getfield 17, 3) := by decide +kernel
theorem dX5_saves_89 : decode cX5_saves 89 = .ok (.bipush 61, 2) := by decide +kernel
theorem dX5_saves_91 : decode cX5_saves 91 = .ok (.aload_n 0, 1) := by decide +kernel
theorem dX5_saves_92 : decode cX5_saves 92 = .ok (.getfield 45, 3) := by decide +kernel
theorem dX5_saves_95 : decode cX5_saves 95 = .ok (.imul, 1) := by decide +kernel
theorem dX5_saves_96 : decode cX5_saves 96 = .ok (.iload_n 1, 1) := by decide +kernel
theorem dX5_saves_97 : decode cX5_saves 97 = .ok (.iadd, 1) := by decide +kernel
theorem dX5_saves_98 : decode cX5_saves 98 = .ok (.aload_n 0, 1) := by decide +kernel
theorem dX5_saves_99 : decode cX5_saves 99 = .ok (.getfield 29, 3) := by decide +kernel
theorem dX5_saves_102 : decode cX5_saves 102 = .ok (.iload_n 1, 1) := by decide +kernel
theorem dX5_saves_103 : decode cX5_saves 103 = .ok (.iaload, 1) := by decide +kernel
theorem dX5_saves_104 : decode cX5_saves 104 = .ok (.iastore, 1) := by decide +kernel
theorem dX5_saves_105 : decode cX5_saves 105 = .ok (.iinc 1 1, 3) := by decide +kernel
theorem dX5_saves_108 : decode cX5_saves 108 = .ok (.goto (-29), 3) := by decide +kernel
theorem dX5_saves_111 : decode cX5_saves 111 = .ok (.iconst 0, 1) := by decide +kernel
theorem dX5_saves_112 : decode cX5_saves 112 = .ok (.istore_n 1, 1) := by decide +kernel
theorem dX5_saves_113 : decode cX5_saves 113 = .ok (.iload_n 1, 1) := by decide +kernel
theorem dX5_saves_114 : decode cX5_saves 114 = .ok (.bipush 6, 2) := by decide +kernel
theorem dX5_saves_116 : decode cX5_saves 116 = .ok (.if_icmp .ge 29, 3) := by decide +kernel
theorem dX5_saves_119 : decode cX5_saves 119 = .ok (.aload_n 0, 1) := by decide +kernel
theorem dX5_saves_120 : decode cX5_saves 120 = .ok (.getfield 20, 3) := by decide +kernel
theorem dX5_saves_123 : decode cX5_saves 123 = .ok (.bipush 6, 2) := by decide +kernel
theorem dX5_saves_125 : decode cX5_saves 125 = .ok (.aload_n 0, 1) := by decide +kernel
theorem dX5_saves_126 : decode cX5_saves 126 = .ok (.getfield 45, 3) := by decide +kernel
theorem dX5_saves_129 : decode cX5_saves 129 = .ok (.imul, 1) := by decide +kernel
theorem dX5_saves_130 : decode cX5_saves 130 = .ok (.iload_n 1, 1) := by decide +kernel
theorem dX5_saves_131 : decode cX5_saves 131 = .ok (.iadd, 1) := by decide +kernel
theorem dX5_saves_132 : decode cX5_saves 132 = .ok (.aload_n 0, 1) := by decide +kernel
theorem dX5_saves_133 : decode cX5_saves 133 = .ok (.getfield 32, 3) := by decide +kernel
theorem dX5_saves_136 : decode cX5_saves 136 = .ok (.iload_n 1, 1) := by decide +kernel
theorem dX5_saves_137 : decode cX5_saves 137 = .ok (.laload, 1) := by decide +kernel
theorem dX5_saves_138 : decode cX5_saves 138 = .ok (.lastore, 1) := by decide +kernel
theorem dX5_saves_139 : decode cX5_saves 139 = .ok (.iinc 1 1, 3) := by decide +kernel
theorem dX5_saves_142 : decode cX5_saves 142 = .ok (.goto (-29), 3) := by decide +kernel
theorem dX5_saves_145 : decode cX5_saves 145 = .ok (.aload_n 0, 1) := by decide +kernel
theorem dX5_saves_146 : decode cX5_saves 146 = .ok (.dup, 1) := by decide +kernel
theorem dX5_saves_147 : decode cX5_saves 147 = .ok (.getfield 45, 3) := by decide +kernel
theorem dX5_saves_150 : decode cX5_saves 150 = .ok (.iconst 1, 1) := by decide +kernel
theorem dX5_saves_151 : decode cX5_saves 151 = .ok (.iadd, 1) := by decide +kernel
theorem dX5_saves_152 : decode cX5_saves 152 = .ok (.putfield 45, 3) := by decide +kernel
theorem dX5_saves_155 : decode cX5_saves 155 = .ok (.return_, 1) := by decide +kernel
theorem dX5_lays_0 : decode cX5_lays 0 = .ok (.iconst 0, 1) := by decide +kernel
theorem dX5_lays_1 : decode cX5_lays 1 = .ok (.istore_n 1, 1) := by decide +kernel
theorem dX5_lays_2 : decode cX5_lays 2 = .ok (.iload_n 1, 1) := by decide +kernel
theorem dX5_lays_3 : decode cX5_lays 3 = .ok (.bipush 61, 2) := by decide +kernel
theorem dX5_lays_5 : decode cX5_lays 5 = .ok (.if_icmp .ge 21, 3) := by decide +kernel
theorem dX5_lays_8 : decode cX5_lays 8 = .ok (.aload_n 0, 1) := by decide +kernel
theorem dX5_lays_9 : decode cX5_lays 9 = .ok (.getfield 23, 3) := by decide +kernel
theorem dX5_lays_12 : decode cX5_lays 12 = .ok (.iload_n 1, 1) := by decide +kernel
theorem dX5_lays_13 : decode cX5_lays 13 = .ok (.aload_n 0, 1) := by decide +kernel
theorem dX5_lays_14 : decode cX5_lays 14 = .ok (.getfield 7, 3) := by decide +kernel
theorem dX5_lays_17 : decode cX5_lays 17 = .ok (.iload_n 1, 1) := by decide +kernel
theorem dX5_lays_18 : decode cX5_lays 18 = .ok (.iaload, 1) := by decide +kernel
theorem dX5_lays_19 : decode cX5_lays 19 = .ok (.iastore, 1) := by decide +kernel
theorem dX5_lays_20 : decode cX5_lays 20 = .ok (.iinc 1 1, 3) := by decide +kernel
theorem dX5_lays_23 : decode cX5_lays 23 = .ok (.goto (-21), 3) := by decide +kernel
theorem dX5_lays_26 : decode cX5_lays 26 = .ok (.iconst 0, 1) := by decide +kernel
theorem dX5_lays_27 : decode cX5_lays 27 = .ok (.istore_n 1, 1) := by decide +kernel
theorem dX5_lays_28 : decode cX5_lays 28 = .ok (.iload_n 1, 1) := by decide +kernel
theorem dX5_lays_29 : decode cX5_lays 29 = .ok (.bipush 6, 2) := by decide +kernel
theorem dX5_lays_31 : decode cX5_lays 31 = .ok (.if_icmp .ge 21, 3) := by decide +kernel
theorem dX5_lays_34 : decode cX5_lays 34 = .ok (.aload_n 0, 1) := by decide +kernel
theorem dX5_lays_35 : decode cX5_lays 35 = .ok (.getfield 26, 3) := by decide +kernel
theorem dX5_lays_38 : decode cX5_lays 38 = .ok (.iload_n 1, 1) := by decide +kernel
theorem dX5_lays_39 : decode cX5_lays 39 = .ok (.aload_n 0, 1) := by decide +kernel
theorem dX5_lays_40 : decode cX5_lays 40 = .ok (.getfield 13, 3) := by decide +kernel
theorem dX5_lays_43 : decode cX5_lays 43 = .ok (.iload_n 1, 1) := by decide +kernel
theorem dX5_lays_44 : decode cX5_lays 44 = .ok (.laload, 1) := by decide +kernel
theorem dX5_lays_45 : decode cX5_lays 45 = .ok (.lastore, 1) := by decide +kernel
theorem dX5_lays_46 : decode cX5_lays 46 = .ok (.iinc 1 1, 3) := by decide +kernel
theorem dX5_lays_49 : decode cX5_lays 49 = .ok (.goto (-21), 3) := by decide +kernel
theorem dX5_lays_52 : decode cX5_lays 52 = .ok (.return_, 1) := by decide +kernel
theorem dX5_restores_0 : decode cX5_restores 0 = .ok (.iconst 0, 1) := by decide +kernel
theorem dX5_restores_1 : decode cX5_restores 1 = .ok (.istore_n 1, 1) := by decide +kernel
theorem dX5_restores_2 : decode cX5_restores 2 = .ok (.iload_n 1, 1) := by decide +kernel
theorem dX5_restores_3 : decode cX5_restores 3 = .ok (.bipush 61, 2) := by decide +kernel
theorem dX5_restores_5 : decode cX5_restores 5 = .ok (.if_icmp .ge 21, 3) := by decide +kernel
theorem dX5_restores_8 : decode cX5_restores 8 = .ok (.aload_n 0, 1) := by decide +kernel
theorem dX5_restores_9 : decode cX5_restores 9 = .ok (.getfield 7, 3) := by decide +kernel
theorem dX5_restores_12 : decode cX5_restores 12 = .ok (.iload_n 1, 1) := by decide +kernel
theorem dX5_restores_13 : decode cX5_restores 13 = .ok (.aload_n 0, 1) := by decide +kernel
theorem dX5_restores_14 : decode cX5_restores 14 = .ok (.getfield 23, 3) := by decide +kernel
theorem dX5_restores_17 : decode cX5_restores 17 = .ok (.iload_n 1, 1) := by decide +kernel
theorem dX5_restores_18 : decode cX5_restores 18 = .ok (.iaload, 1) := by decide +kernel
theorem dX5_restores_19 : decode cX5_restores 19 = .ok (.iastore, 1) := by decide +kernel
theorem dX5_restores_20 : decode cX5_restores 20 = .ok (.iinc 1 1, 3) := by decide +kernel
theorem dX5_restores_23 : decode cX5_restores 23 = .ok (.goto (-21), 3) := by decide +kernel
theorem dX5_restores_26 : decode cX5_restores 26 = .ok (.iconst 0, 1) := by decide +kernel
theorem dX5_restores_27 : decode cX5_restores 27 = .ok (.istore_n 1, 1) := by decide +kernel
theorem dX5_restores_28 : decode cX5_restores 28 = .ok (.iload_n 1, 1) := by decide +kernel
theorem dX5_restores_29 : decode cX5_restores 29 = .ok (.bipush 6, 2) := by decide +kernel
theorem dX5_restores_31 : decode cX5_restores 31 = .ok (.if_icmp .ge 21, 3) := by decide +kernel
theorem dX5_restores_34 : decode cX5_restores 34 = .ok (.aload_n 0, 1) := by decide +kernel
theorem dX5_restores_35 : decode cX5_restores 35 = .ok (.getfield 13, 3) := by decide +kernel
theorem dX5_restores_38 : decode cX5_restores 38 = .ok (.iload_n 1, 1) := by decide +kernel
theorem dX5_restores_39 : decode cX5_restores 39 = .ok (.aload_n 0, 1) := by decide +kernel
theorem dX5_restores_40 : decode cX5_restores 40 = .ok (.getfield 26, 3) := by decide +kernel
theorem dX5_restores_43 : decode cX5_restores 43 = .ok (.iload_n 1, 1) := by decide +kernel
theorem dX5_restores_44 : decode cX5_restores 44 = .ok (.laload, 1) := by decide +kernel
theorem dX5_restores_45 : decode cX5_restores 45 = .ok (.lastore, 1) := by decide +kernel
theorem dX5_restores_46 : decode cX5_restores 46 = .ok (.iinc 1 1, 3) := by decide +kernel
theorem dX5_restores_49 : decode cX5_restores 49 = .ok (.goto (-21), 3) := by decide +kernel
theorem dX5_restores_52 : decode cX5_restores 52 = .ok (.return_, 1) := by decide +kernel
theorem dX5_isOne_0 : decode cX5_isOne 0 = .ok (.iload_n 1, 1) := by decide +kernel
theorem dX5_isOne_1 : decode cX5_isOne 1 = .ok (.iconst 0, 1) := by decide +kernel
theorem dX5_isOne_2 : decode cX5_isOne 2 = .ok (.aload_n 0, 1) := by decide +kernel
theorem dX5_isOne_3 : decode cX5_isOne 3 = .ok (.getfield 7, 3) := by decide +kernel
theorem dX5_isOne_6 : decode cX5_isOne 6 = .ok (.bipush 10, 2) := by decide +kernel
theorem dX5_isOne_8 : decode cX5_isOne 8 = .ok (.iaload, 1) := by decide +kernel
theorem dX5_isOne_9 : decode cX5_isOne 9 = .ok (.iconst 1, 1) := by decide +kernel
theorem dX5_isOne_10 : decode cX5_isOne 10 = .ok (.isub, 1) := by decide +kernel
theorem dX5_isOne_11 : decode cX5_isOne 11 = .ok (.invokestatic 48, 3) := by decide +kernel
theorem dX5_isOne_14 : decode cX5_isOne 14 = .ok (.ireturn, 1) := by decide +kernel
theorem dX5_its_0 : decode cX5_its 0 = .ok (.aload_n 0, 1) := by decide +kernel
theorem dX5_its_1 : decode cX5_its 1 = .ok (.getfield 7, 3) := by decide +kernel
theorem dX5_its_4 : decode cX5_its 4 = .ok (.bipush 21, 2) := by decide +kernel
theorem dX5_its_6 : decode cX5_its 6 = .ok (.bipush 7, 2) := by decide +kernel
theorem dX5_its_8 : decode cX5_its 8 = .ok (.iload_n 1, 1) := by decide +kernel
theorem dX5_its_9 : decode cX5_its 9 = .ok (.imul, 1) := by decide +kernel
theorem dX5_its_10 : decode cX5_its 10 = .ok (.iadd, 1) := by decide +kernel
theorem dX5_its_11 : decode cX5_its 11 = .ok (.iload_n 2, 1) := by decide +kernel
theorem dX5_its_12 : decode cX5_its 12 = .ok (.iadd, 1) := by decide +kernel
theorem dX5_its_13 : decode cX5_its 13 = .ok (.iaload, 1) := by decide +kernel
theorem dX5_its_14 : decode cX5_its 14 = .ok (.ireturn, 1) := by decide +kernel
theorem dX5_put_0 : decode cX5_put 0 = .ok (.aload_n 0, 1) := by decide +kernel
theorem dX5_put_1 : decode cX5_put 1 = .ok (.getfield 7, 3) := by decide +kernel
theorem dX5_put_4 : decode cX5_put 4 = .ok (.bipush 21, 2) := by decide +kernel
theorem dX5_put_6 : decode cX5_put 6 = .ok (.bipush 7, 2) := by decide +kernel
theorem dX5_put_8 : decode cX5_put 8 = .ok (.iload_n 1, 1) := by decide +kernel
theorem dX5_put_9 : decode cX5_put 9 = .ok (.imul, 1) := by decide +kernel
theorem dX5_put_10 : decode cX5_put 10 = .ok (.iadd, 1) := by decide +kernel
theorem dX5_put_11 : decode cX5_put 11 = .ok (.iload_n 2, 1) := by decide +kernel
theorem dX5_put_12 : decode cX5_put 12 = .ok (.iadd, 1) := by decide +kernel
theorem dX5_put_13 : decode cX5_put 13 = .ok (.iload_n 3, 1) := by decide +kernel
theorem dX5_put_14 : decode cX5_put 14 = .ok (.iastore, 1) := by decide +kernel
theorem dX5_put_15 : decode cX5_put 15 = .ok (.return_, 1) := by decide +kernel
theorem dX5_pressure_0 : decode cX5_pressure 0 = .ok (.aload_n 0, 1) := by decide +kernel
theorem dX5_pressure_1 : decode cX5_pressure 1 = .ok (.getfield 7, 3) := by decide +kernel
theorem dX5_pressure_4 : decode cX5_pressure 4 = .ok (.iconst 1, 1) := by decide +kernel
theorem dX5_pressure_5 : decode cX5_pressure 5 = .ok (.iaload, 1) := by decide +kernel
theorem dX5_pressure_6 : decode cX5_pressure 6 = .ok (.sipush 1000, 3) := by decide +kernel
theorem dX5_pressure_9 : decode cX5_pressure 9 = .ok (.imul, 1) := by decide +kernel
theorem dX5_pressure_10 : decode cX5_pressure 10 = .ok (.aload_n 0, 1) := by decide +kernel
theorem dX5_pressure_11 : decode cX5_pressure 11 = .ok (.getfield 7, 3) := by decide +kernel
theorem dX5_pressure_14 : decode cX5_pressure 14 = .ok (.iconst 0, 1) := by decide +kernel
theorem dX5_pressure_15 : decode cX5_pressure 15 = .ok (.iaload, 1) := by decide +kernel
theorem dX5_pressure_16 : decode cX5_pressure 16 = .ok (.idiv, 1) := by decide +kernel
theorem dX5_pressure_17 : decode cX5_pressure 17 = .ok (.ireturn, 1) := by decide +kernel
theorem dX5_stage_0 : decode cX5_stage 0 = .ok (.iconst 0, 1) := by decide +kernel
theorem dX5_stage_1 : decode cX5_stage 1 = .ok (.istore_n 2, 1) := by decide +kernel
theorem dX5_stage_2 : decode cX5_stage 2 = .ok (.aload_n 0, 1) := by decide +kernel
theorem dX5_stage_3 : decode cX5_stage 3 = .ok (.getfield 7, 3) := by decide +kernel
theorem dX5_stage_6 : decode cX5_stage 6 = .ok (.bipush 56, 2) := by decide +kernel
theorem dX5_stage_8 : decode cX5_stage 8 = .ok (.iload_n 2, 1) := by decide +kernel
theorem dX5_stage_9 : decode cX5_stage 9 = .ok (.iadd, 1) := by decide +kernel
theorem dX5_stage_10 : decode cX5_stage 10 = .ok (.iaload, 1) := by decide +kernel
theorem dX5_stage_11 : decode cX5_stage 11 = .ok (.iload_n 1, 1) := by decide +kernel
theorem dX5_stage_12 : decode cX5_stage 12 = .ok (.if_icmp .eq 9, 3) := by decide +kernel
theorem dX5_stage_15 : decode cX5_stage 15 = .ok (.iinc 2 1, 3) := by decide +kernel
theorem dX5_stage_18 : decode cX5_stage 18 = .ok (.goto (-16), 3) := by decide +kernel
theorem dX5_stage_21 : decode cX5_stage 21 = .ok (.iload_n 2, 1) := by decide +kernel
theorem dX5_stage_22 : decode cX5_stage 22 = .ok (.ireturn, 1) := by decide +kernel
theorem dX5_loadsBelow_0 : decode cX5_loadsBelow 0 = .ok (.aload_n 0, 1) := by decide +kernel
theorem dX5_loadsBelow_1 : decode cX5_loadsBelow 1 = .ok (.getfield 7, 3) := by decide +kernel
theorem dX5_loadsBelow_4 : decode cX5_loadsBelow 4 = .ok (.iconst 2, 1) := by decide +kernel
theorem dX5_loadsBelow_5 : decode cX5_loadsBelow 5 = .ok (.iaload, 1) := by decide +kernel
theorem dX5_loadsBelow_6 : decode cX5_loadsBelow 6 = .ok (.aload_n 0, 1) := by decide +kernel
theorem dX5_loadsBelow_7 : decode cX5_loadsBelow 7 = .ok (.iload_n 1, 1) := by decide +kernel
theorem dX5_loadsBelow_8 : decode cX5_loadsBelow 8 = .ok (.invokevirtual 52, 3) := by decide +kernel
theorem dX5_loadsBelow_11 : decode cX5_loadsBelow 11 = .ok (.iconst 1, 1) := by decide +kernel
theorem dX5_loadsBelow_12 : decode cX5_loadsBelow 12 = .ok (.iadd, 1) := by decide +kernel
theorem dX5_loadsBelow_13 : decode cX5_loadsBelow 13 = .ok (.aload_n 0, 1) := by decide +kernel
theorem dX5_loadsBelow_14 : decode cX5_loadsBelow 14 = .ok (.getfield 7, 3) := by decide +kernel
theorem dX5_loadsBelow_17 : decode cX5_loadsBelow 17 = .ok (.iconst 3, 1) := by decide +kernel
theorem dX5_loadsBelow_18 : decode cX5_loadsBelow 18 = .ok (.iaload, 1) := by decide +kernel
theorem dX5_loadsBelow_19 : decode cX5_loadsBelow 19 = .ok (.imul, 1) := by decide +kernel
theorem dX5_loadsBelow_20 : decode cX5_loadsBelow 20 = .ok (.isub, 1) := by decide +kernel
theorem dX5_loadsBelow_21 : decode cX5_loadsBelow 21 = .ok (.ireturn, 1) := by decide +kernel
theorem dX5_unloadsAbove_0 : decode cX5_unloadsAbove 0 = .ok (.aload_n 0, 1) := by decide +kernel
theorem dX5_unloadsAbove_1 : decode cX5_unloadsAbove 1 = .ok (.getfield 7, 3) := by decide +kernel
theorem dX5_unloadsAbove_4 : decode cX5_unloadsAbove 4 = .ok (.iconst 2, 1) := by decide +kernel
theorem dX5_unloadsAbove_5 : decode cX5_unloadsAbove 5 = .ok (.iaload, 1) := by decide +kernel
theorem dX5_unloadsAbove_6 : decode cX5_unloadsAbove 6 = .ok (.aload_n 0, 1) := by decide +kernel
theorem dX5_unloadsAbove_7 : decode cX5_unloadsAbove 7 = .ok (.getfield 7, 3) := by decide +kernel
theorem dX5_unloadsAbove_10 : decode cX5_unloadsAbove 10 = .ok (.bipush 10, 2) := by decide +kernel
theorem dX5_unloadsAbove_12 : decode cX5_unloadsAbove 12 = .ok (.iaload, 1) := by decide +kernel
theorem dX5_unloadsAbove_13 : decode cX5_unloadsAbove 13 = .ok (.aload_n 0, 1) := by decide +kernel
theorem dX5_unloadsAbove_14 : decode cX5_unloadsAbove 14 = .ok (.iload_n 1, 1) := by decide +kernel
theorem dX5_unloadsAbove_15 : decode cX5_unloadsAbove 15 = .ok (.invokevirtual 52, 3) := by decide +kernel
theorem dX5_unloadsAbove_18 : decode cX5_unloadsAbove 18 = .ok (.isub, 1) := by decide +kernel
theorem dX5_unloadsAbove_19 : decode cX5_unloadsAbove 19 = .ok (.aload_n 0, 1) := by decide +kernel
theorem dX5_unloadsAbove_20 : decode cX5_unloadsAbove 20 = .ok (.getfield 7, 3) := by decide +kernel
theorem dX5_unloadsAbove_23 : decode cX5_unloadsAbove 23 = .ok (.iconst 3, 1) := by decide +kernel
theorem dX5_unloadsAbove_24 : decode cX5_unloadsAbove 24 = .ok (.iaload, 1) := by decide +kernel
theorem dX5_unloadsAbove_25 : decode cX5_unloadsAbove 25 = .ok (.imul, 1) := by decide +kernel
theorem dX5_unloadsAbove_26 : decode cX5_unloadsAbove 26 = .ok (.iadd, 1) := by decide +kernel
theorem dX5_unloadsAbove_27 : decode cX5_unloadsAbove 27 = .ok (.ireturn, 1) := by decide +kernel
theorem dX5_countOf_0 : decode cX5_countOf 0 = .ok (.iconst 0, 1) := by decide +kernel
theorem dX5_countOf_1 : decode cX5_countOf 1 = .ok (.istore_n 2, 1) := by decide +kernel
theorem dX5_countOf_2 : decode cX5_countOf 2 = .ok (.iconst 0, 1) := by decide +kernel
theorem dX5_countOf_3 : decode cX5_countOf 3 = .ok (.istore_n 3, 1) := by decide +kernel
theorem dX5_countOf_4 : decode cX5_countOf 4 = .ok (.iload_n 3, 1) := by decide +kernel
theorem dX5_countOf_5 : decode cX5_countOf 5 = .ok (.aload_n 0, 1) := by decide +kernel
theorem dX5_countOf_6 : decode cX5_countOf 6 = .ok (.getfield 7, 3) := by decide +kernel
theorem dX5_countOf_9 : decode cX5_countOf 9 = .ok (.bipush 10, 2) := by decide +kernel
theorem dX5_countOf_11 : decode cX5_countOf 11 = .ok (.iaload, 1) := by decide +kernel
theorem dX5_countOf_12 : decode cX5_countOf 12 = .ok (.if_icmp .ge 27, 3) := by decide +kernel
theorem dX5_countOf_15 : decode cX5_countOf 15 = .ok (.iload_n 2, 1) := by decide +kernel
theorem dX5_countOf_16 : decode cX5_countOf 16 = .ok (.aload_n 0, 1) := by decide +kernel
theorem dX5_countOf_17 : decode cX5_countOf 17 = .ok (.iload_n 3, 1) := by decide +kernel
theorem dX5_countOf_18 : decode cX5_countOf 18 = .ok (.iconst 1, 1) := by decide +kernel
theorem dX5_countOf_19 : decode cX5_countOf 19 = .ok (.invokevirtual 56, 3) := by decide +kernel
theorem dX5_countOf_22 : decode cX5_countOf 22 = .ok (.iload_n 1, 1) := by decide +kernel
theorem dX5_countOf_23 : decode cX5_countOf 23 = .ok (.if_icmp .ne 7, 3) := by decide +kernel
theorem dX5_countOf_26 : decode cX5_countOf 26 = .ok (.iconst 1, 1) := by decide +kernel
theorem dX5_countOf_27 : decode cX5_countOf 27 = .ok (.goto 4, 3) := by decide +kernel
theorem dX5_countOf_30 : decode cX5_countOf 30 = .ok (.iconst 0, 1) := by decide +kernel
theorem dX5_countOf_31 : decode cX5_countOf 31 = .ok (.iadd, 1) := by decide +kernel
theorem dX5_countOf_32 : decode cX5_countOf 32 = .ok (.istore_n 2, 1) := by decide +kernel
theorem dX5_countOf_33 : decode cX5_countOf 33 = .ok (.iinc 3 1, 3) := by decide +kernel
theorem dX5_countOf_36 : decode cX5_countOf 36 = .ok (.goto (-32), 3) := by decide +kernel
theorem dX5_countOf_39 : decode cX5_countOf 39 = .ok (.iload_n 2, 1) := by decide +kernel
theorem dX5_countOf_40 : decode cX5_countOf 40 = .ok (.ireturn, 1) := by decide +kernel
theorem dX5_rank_0 : decode cX5_rank 0 = .ok (.iconst 0, 1) := by decide +kernel
theorem dX5_rank_1 : decode cX5_rank 1 = .ok (.istore_n 2, 1) := by decide +kernel
theorem dX5_rank_2 : decode cX5_rank 2 = .ok (.iconst 0, 1) := by decide +kernel
theorem dX5_rank_3 : decode cX5_rank 3 = .ok (.istore_n 3, 1) := by decide +kernel
theorem dX5_rank_4 : decode cX5_rank 4 = .ok (.iload_n 3, 1) := by decide +kernel
theorem dX5_rank_5 : decode cX5_rank 5 = .ok (.aload_n 0, 1) := by decide +kernel
theorem dX5_rank_6 : decode cX5_rank 6 = .ok (.getfield 7, 3) := by decide +kernel
theorem dX5_rank_9 : decode cX5_rank 9 = .ok (.bipush 10, 2) := by decide +kernel
theorem dX5_rank_11 : decode cX5_rank 11 = .ok (.iaload, 1) := by decide +kernel
theorem dX5_rank_12 : decode cX5_rank 12 = .ok (.if_icmp .ge 52, 3) := by decide +kernel
theorem dX5_rank_15 : decode cX5_rank 15 = .ok (.iload_n 2, 1) := by decide +kernel
theorem dX5_rank_16 : decode cX5_rank 16 = .ok (.aload_n 0, 1) := by decide +kernel
theorem dX5_rank_17 : decode cX5_rank 17 = .ok (.iload_n 3, 1) := by decide +kernel
theorem dX5_rank_18 : decode cX5_rank 18 = .ok (.iconst 2, 1) := by decide +kernel
theorem dX5_rank_19 : decode cX5_rank 19 = .ok (.invokevirtual 56, 3) := by decide +kernel
theorem dX5_rank_22 : decode cX5_rank 22 = .ok (.aload_n 0, 1) := by decide +kernel
theorem dX5_rank_23 : decode cX5_rank 23 = .ok (.iload_n 1, 1) := by decide +kernel
theorem dX5_rank_24 : decode cX5_rank 24 = .ok (.iconst 2, 1) := by decide +kernel
theorem dX5_rank_25 : decode cX5_rank 25 = .ok (.invokevirtual 56, 3) := by decide +kernel
theorem dX5_rank_28 : decode cX5_rank 28 = .ok (.if_icmp .lt 23, 3) := by decide +kernel
theorem dX5_rank_31 : decode cX5_rank 31 = .ok (.aload_n 0, 1) := by decide +kernel
theorem dX5_rank_32 : decode cX5_rank 32 = .ok (.iload_n 3, 1) := by decide +kernel
theorem dX5_rank_33 : decode cX5_rank 33 = .ok (.iconst 2, 1) := by decide +kernel
theorem dX5_rank_34 : decode cX5_rank 34 = .ok (.invokevirtual 56, 3) := by decide +kernel
theorem dX5_rank_37 : decode cX5_rank 37 = .ok (.aload_n 0, 1) := by decide +kernel
theorem dX5_rank_38 : decode cX5_rank 38 = .ok (.iload_n 1, 1) := by decide +kernel
theorem dX5_rank_39 : decode cX5_rank 39 = .ok (.iconst 2, 1) := by decide +kernel
theorem dX5_rank_40 : decode cX5_rank 40 = .ok (.invokevirtual 56, 3) := by decide +kernel
theorem dX5_rank_43 : decode cX5_rank 43 = .ok (.if_icmp .ne 12, 3) := by decide +kernel
theorem dX5_rank_46 : decode cX5_rank 46 = .ok (.iload_n 3, 1) := by decide +kernel
theorem dX5_rank_47 : decode cX5_rank 47 = .ok (.iload_n 1, 1) := by decide +kernel
theorem dX5_rank_48 : decode cX5_rank 48 = .ok (.if_icmp .ge 7, 3) := by decide +kernel
theorem dX5_rank_51 : decode cX5_rank 51 = .ok (.iconst 1, 1) := by decide +kernel
theorem dX5_rank_52 : decode cX5_rank 52 = .ok (.goto 4, 3) := by decide +kernel
theorem dX5_rank_55 : decode cX5_rank 55 = .ok (.iconst 0, 1) := by decide +kernel
theorem dX5_rank_56 : decode cX5_rank 56 = .ok (.iadd, 1) := by decide +kernel
theorem dX5_rank_57 : decode cX5_rank 57 = .ok (.istore_n 2, 1) := by decide +kernel
theorem dX5_rank_58 : decode cX5_rank 58 = .ok (.iinc 3 1, 3) := by decide +kernel
theorem dX5_rank_61 : decode cX5_rank 61 = .ok (.goto (-57), 3) := by decide +kernel
theorem dX5_rank_64 : decode cX5_rank 64 = .ok (.iload_n 2, 1) := by decide +kernel
theorem dX5_rank_65 : decode cX5_rank 65 = .ok (.ireturn, 1) := by decide +kernel
theorem dX5_rotates_0 : decode cX5_rotates 0 = .ok (.iconst 0, 1) := by decide +kernel
theorem dX5_rotates_1 : decode cX5_rotates 1 = .ok (.istore_n 1, 1) := by decide +kernel
theorem dX5_rotates_2 : decode cX5_rotates 2 = .ok (.iconst 0, 1) := by decide +kernel
theorem dX5_rotates_3 : decode cX5_rotates 3 = .ok (.istore_n 2, 1) := by decide +kernel
theorem dX5_rotates_4 : decode cX5_rotates 4 = .ok (.iload_n 2, 1) := by decide +kernel
theorem dX5_rotates_5 : decode cX5_rotates 5 = .ok (.aload_n 0, 1) := by decide +kernel
theorem dX5_rotates_6 : decode cX5_rotates 6 = .ok (.getfield 7, 3) := by decide +kernel
theorem dX5_rotates_9 : decode cX5_rotates 9 = .ok (.bipush 10, 2) := by decide +kernel
theorem dX5_rotates_11 : decode cX5_rotates 11 = .ok (.iaload, 1) := by decide +kernel
theorem dX5_rotates_12 : decode cX5_rotates 12 = .ok (.if_icmp .ge 30, 3) := by decide +kernel
theorem dX5_rotates_15 : decode cX5_rotates 15 = .ok (.iload_n 1, 1) := by decide +kernel
theorem dX5_rotates_16 : decode cX5_rotates 16 = .ok (.aload_n 0, 1) := by decide +kernel
theorem dX5_rotates_17 : decode cX5_rotates 17 = .ok (.iload_n 2, 1) := by decide +kernel
theorem dX5_rotates_18 : decode cX5_rotates 18 = .ok (.invokevirtual 60, 3) := by decide +kernel
theorem dX5_rotates_21 : decode cX5_rotates 21 = .ok (.aload_n 0, 1) := by decide +kernel
theorem dX5_rotates_22 : decode cX5_rotates 22 = .ok (.iload_n 2, 1) := by decide +kernel
theorem dX5_rotates_23 : decode cX5_rotates 23 = .ok (.invokevirtual 52, 3) := by decide +kernel
theorem dX5_rotates_26 : decode cX5_rotates 26 = .ok (.if_icmp .ne 7, 3) := by decide +kernel
theorem dX5_rotates_29 : decode cX5_rotates 29 = .ok (.iconst 0, 1) := by decide +kernel
theorem dX5_rotates_30 : decode cX5_rotates 30 = .ok (.goto 4, 3) := by decide +kernel
theorem dX5_rotates_33 : decode cX5_rotates 33 = .ok (.iconst 1, 1) := by decide +kernel
theorem dX5_rotates_34 : decode cX5_rotates 34 = .ok (.iadd, 1) := by decide +kernel
theorem dX5_rotates_35 : decode cX5_rotates 35 = .ok (.istore_n 1, 1) := by decide +kernel
theorem dX5_rotates_36 : decode cX5_rotates 36 = .ok (.iinc 2 1, 3) := by decide +kernel
theorem dX5_rotates_39 : decode cX5_rotates 39 = .ok (.goto (-35), 3) := by decide +kernel
theorem dX5_rotates_42 : decode cX5_rotates 42 = .ok (.iconst 0, 1) := by decide +kernel
theorem dX5_rotates_43 : decode cX5_rotates 43 = .ok (.istore_n 2, 1) := by decide +kernel
theorem dX5_rotates_44 : decode cX5_rotates 44 = .ok (.iload_n 2, 1) := by decide +kernel
theorem dX5_rotates_45 : decode cX5_rotates 45 = .ok (.aload_n 0, 1) := by decide +kernel
theorem dX5_rotates_46 : decode cX5_rotates 46 = .ok (.getfield 7, 3) := by decide +kernel
theorem dX5_rotates_49 : decode cX5_rotates 49 = .ok (.bipush 10, 2) := by decide +kernel
theorem dX5_rotates_51 : decode cX5_rotates 51 = .ok (.iaload, 1) := by decide +kernel
theorem dX5_rotates_52 : decode cX5_rotates 52 = .ok (.if_icmp .ge 23, 3) := by decide +kernel
theorem dX5_rotates_55 : decode cX5_rotates 55 = .ok (.aload_n 0, 1) := by decide +kernel
theorem dX5_rotates_56 : decode cX5_rotates 56 = .ok (.getfield 7, 3) := by decide +kernel
theorem dX5_rotates_59 : decode cX5_rotates 59 = .ok (.bipush 56, 2) := by decide +kernel
theorem dX5_rotates_61 : decode cX5_rotates 61 = .ok (.aload_n 0, 1) := by decide +kernel
theorem dX5_rotates_62 : decode cX5_rotates 62 = .ok (.iload_n 2, 1) := by decide +kernel
theorem dX5_rotates_63 : decode cX5_rotates 63 = .ok (.invokevirtual 60, 3) := by decide +kernel
theorem dX5_rotates_66 : decode cX5_rotates 66 = .ok (.iadd, 1) := by decide +kernel
theorem dX5_rotates_67 : decode cX5_rotates 67 = .ok (.iload_n 2, 1) := by decide +kernel
theorem dX5_rotates_68 : decode cX5_rotates 68 = .ok (.iastore, 1) := by decide +kernel
theorem dX5_rotates_69 : decode cX5_rotates 69 = .ok (.iinc 2 1, 3) := by decide +kernel
theorem dX5_rotates_72 : decode cX5_rotates 72 = .ok (.goto (-28), 3) := by decide +kernel
theorem dX5_rotates_75 : decode cX5_rotates 75 = .ok (.aload_n 0, 1) := by decide +kernel
theorem dX5_rotates_76 : decode cX5_rotates 76 = .ok (.getfield 7, 3) := by decide +kernel
theorem dX5_rotates_79 : decode cX5_rotates 79 = .ok (.bipush 12, 2) := by decide +kernel
theorem dX5_rotates_81 : decode cX5_rotates 81 = .ok (.iconst 0, 1) := by decide +kernel
theorem dX5_rotates_82 : decode cX5_rotates 82 = .ok (.iastore, 1) := by decide +kernel
theorem dX5_rotates_83 : decode cX5_rotates 83 = .ok (.aload_n 0, 1) := by decide +kernel
theorem dX5_rotates_84 : decode cX5_rotates 84 = .ok (.getfield 7, 3) := by decide +kernel
theorem dX5_rotates_87 : decode cX5_rotates 87 = .ok (.bipush 13, 2) := by decide +kernel
theorem dX5_rotates_89 : decode cX5_rotates 89 = .ok (.dup2, 1) := by decide +kernel
theorem dX5_rotates_90 : decode cX5_rotates 90 = .ok (.iaload, 1) := by decide +kernel
theorem dX5_rotates_91 : decode cX5_rotates 91 = .ok (.iconst 1, 1) := by decide +kernel
theorem dX5_rotates_92 : decode cX5_rotates 92 = .ok (.iadd, 1) := by decide +kernel
theorem dX5_rotates_93 : decode cX5_rotates 93 = .ok (.iastore, 1) := by decide +kernel
theorem dX5_rotates_94 : decode cX5_rotates 94 = .ok (.iload_n 1, 1) := by decide +kernel
theorem dX5_rotates_95 : decode cX5_rotates 95 = .ok (.ireturn, 1) := by decide +kernel
theorem dX5_nextOf_0 : decode cX5_nextOf 0 = .ok (.aload_n 0, 1) := by decide +kernel
theorem dX5_nextOf_1 : decode cX5_nextOf 1 = .ok (.iload_n 1, 1) := by decide +kernel
theorem dX5_nextOf_2 : decode cX5_nextOf 2 = .ok (.iconst 1, 1) := by decide +kernel
theorem dX5_nextOf_3 : decode cX5_nextOf 3 = .ok (.invokevirtual 56, 3) := by decide +kernel
theorem dX5_nextOf_6 : decode cX5_nextOf 6 = .ok (.istore_n 3, 1) := by decide +kernel
theorem dX5_nextOf_7 : decode cX5_nextOf 7 = .ok (.iload_n 3, 1) := by decide +kernel
theorem dX5_nextOf_8 : decode cX5_nextOf 8 = .ok (.iconst 3, 1) := by decide +kernel
theorem dX5_nextOf_9 : decode cX5_nextOf 9 = .ok (.if_icmp .ne 5, 3) := by decide +kernel
theorem dX5_nextOf_12 : decode cX5_nextOf 12 = .ok (.iconst 0, 1) := by decide +kernel
theorem dX5_nextOf_13 : decode cX5_nextOf 13 = .ok (.ireturn, 1) := by decide +kernel
theorem dX5_nextOf_14 : decode cX5_nextOf 14 = .ok (.iload_n 3, 1) := by decide +kernel
theorem dX5_nextOf_15 : decode cX5_nextOf 15 = .ok (.iconst 1, 1) := by decide +kernel
theorem dX5_nextOf_16 : decode cX5_nextOf 16 = .ok (.if_icmp .ne 18, 3) := by decide +kernel
theorem dX5_nextOf_19 : decode cX5_nextOf 19 = .ok (.iload_n 2, 1) := by decide +kernel
theorem dX5_nextOf_20 : decode cX5_nextOf 20 = .ok (.aload_n 0, 1) := by decide +kernel
theorem dX5_nextOf_21 : decode cX5_nextOf 21 = .ok (.iload_n 1, 1) := by decide +kernel
theorem dX5_nextOf_22 : decode cX5_nextOf 22 = .ok (.invokevirtual 63, 3) := by decide +kernel
theorem dX5_nextOf_25 : decode cX5_nextOf 25 = .ok (.if_icmp .le 7, 3) := by decide +kernel
theorem dX5_nextOf_28 : decode cX5_nextOf 28 = .ok (.iconst 4, 1) := by decide +kernel
theorem dX5_nextOf_29 : decode cX5_nextOf 29 = .ok (.goto 4, 3) := by decide +kernel
theorem dX5_nextOf_32 : decode cX5_nextOf 32 = .ok (.iconst 3, 1) := by decide +kernel
theorem dX5_nextOf_33 : decode cX5_nextOf 33 = .ok (.ireturn, 1) := by decide +kernel
theorem dX5_nextOf_34 : decode cX5_nextOf 34 = .ok (.iload_n 3, 1) := by decide +kernel
theorem dX5_nextOf_35 : decode cX5_nextOf 35 = .ok (.ifCond .ne 14, 3) := by decide +kernel
theorem dX5_nextOf_38 : decode cX5_nextOf 38 = .ok (.aload_n 0, 1) := by decide +kernel
theorem dX5_nextOf_39 : decode cX5_nextOf 39 = .ok (.iload_n 1, 1) := by decide +kernel
theorem dX5_nextOf_40 : decode cX5_nextOf 40 = .ok (.iconst 5, 1) := by decide +kernel
theorem dX5_nextOf_41 : decode cX5_nextOf 41 = .ok (.invokevirtual 56, 3) := by decide +kernel
theorem dX5_nextOf_44 : decode cX5_nextOf 44 = .ok (.ifCond .le 5, 3) := by decide +kernel
theorem dX5_nextOf_47 : decode cX5_nextOf 47 = .ok (.iconst 1, 1) := by decide +kernel
theorem dX5_nextOf_48 : decode cX5_nextOf 48 = .ok (.ireturn, 1) := by decide +kernel
theorem dX5_nextOf_49 : decode cX5_nextOf 49 = .ok (.iload_n 2, 1) := by decide +kernel
theorem dX5_nextOf_50 : decode cX5_nextOf 50 = .ok (.aload_n 0, 1) := by decide +kernel
theorem dX5_nextOf_51 : decode cX5_nextOf 51 = .ok (.iload_n 1, 1) := by decide +kernel
theorem dX5_nextOf_52 : decode cX5_nextOf 52 = .ok (.invokevirtual 66, 3) := by decide +kernel
theorem dX5_nextOf_55 : decode cX5_nextOf 55 = .ok (.if_icmp .ge 5, 3) := by decide +kernel
theorem dX5_nextOf_58 : decode cX5_nextOf 58 = .ok (.iconst 2, 1) := by decide +kernel
theorem dX5_nextOf_59 : decode cX5_nextOf 59 = .ok (.ireturn, 1) := by decide +kernel
theorem dX5_nextOf_60 : decode cX5_nextOf 60 = .ok (.iload_n 3, 1) := by decide +kernel
theorem dX5_nextOf_61 : decode cX5_nextOf 61 = .ok (.ifCond .ne 8, 3) := by decide +kernel
theorem dX5_nextOf_64 : decode cX5_nextOf 64 = .ok (.bipush 7, 2) := by decide +kernel
theorem dX5_nextOf_66 : decode cX5_nextOf 66 = .ok (.goto 26, 3) := by decide +kernel
theorem dX5_nextOf_69 : decode cX5_nextOf 69 = .ok (.aload_n 0, 1) := by decide +kernel
theorem dX5_nextOf_70 : decode cX5_nextOf 70 = .ok (.iload_n 1, 1) := by decide +kernel
theorem dX5_nextOf_71 : decode cX5_nextOf 71 = .ok (.iconst 4, 1) := by decide +kernel
theorem dX5_nextOf_72 : decode cX5_nextOf 72 = .ok (.invokevirtual 56, 3) := by decide +kernel
theorem dX5_nextOf_75 : decode cX5_nextOf 75 = .ok (.iconst 1, 1) := by decide +kernel
theorem dX5_nextOf_76 : decode cX5_nextOf 76 = .ok (.iadd, 1) := by decide +kernel
theorem dX5_nextOf_77 : decode cX5_nextOf 77 = .ok (.aload_n 0, 1) := by decide +kernel
theorem dX5_nextOf_78 : decode cX5_nextOf 78 = .ok (.getfield 7, 3) := by decide +kernel
theorem dX5_nextOf_81 : decode cX5_nextOf 81 = .ok (.iconst 5, 1) := by decide +kernel
theorem dX5_nextOf_82 : decode cX5_nextOf 82 = .ok (.iaload, 1) := by decide +kernel
theorem dX5_nextOf_83 : decode cX5_nextOf 83 = .ok (.if_icmp .lt 8, 3) := by decide +kernel
theorem dX5_nextOf_86 : decode cX5_nextOf 86 = .ok (.bipush 6, 2) := by decide +kernel
theorem dX5_nextOf_88 : decode cX5_nextOf 88 = .ok (.goto 4, 3) := by decide +kernel
theorem dX5_nextOf_91 : decode cX5_nextOf 91 = .ok (.iconst 5, 1) := by decide +kernel
theorem dX5_nextOf_92 : decode cX5_nextOf 92 = .ok (.ireturn, 1) := by decide +kernel
theorem dX5_does_0 : decode cX5_does 0 = .ok (.aload_n 0, 1) := by decide +kernel
theorem dX5_does_1 : decode cX5_does 1 = .ok (.iload_n 1, 1) := by decide +kernel
theorem dX5_does_2 : decode cX5_does 2 = .ok (.iload_n 2, 1) := by decide +kernel
theorem dX5_does_3 : decode cX5_does 3 = .ok (.invokevirtual 69, 3) := by decide +kernel
theorem dX5_does_6 : decode cX5_does 6 = .ok (.tableswitch 170 1 6 #[38, 55, 170, 106, 123, 140], 38) := by decide +kernel
theorem dX5_does_44 : decode cX5_does 44 = .ok (.aload_n 0, 1) := by decide +kernel
theorem dX5_does_45 : decode cX5_does 45 = .ok (.iload_n 1, 1) := by decide +kernel
theorem dX5_does_46 : decode cX5_does 46 = .ok (.iconst 5, 1) := by decide +kernel
theorem dX5_does_47 : decode cX5_does 47 = .ok (.aload_n 0, 1) := by decide +kernel
theorem dX5_does_48 : decode cX5_does 48 = .ok (.iload_n 1, 1) := by decide +kernel
theorem dX5_does_49 : decode cX5_does 49 = .ok (.iconst 5, 1) := by decide +kernel
theorem dX5_does_50 : decode cX5_does 50 = .ok (.invokevirtual 56, 3) := by decide +kernel
theorem dX5_does_53 : decode cX5_does 53 = .ok (.iconst 1, 1) := by decide +kernel
theorem dX5_does_54 : decode cX5_does 54 = .ok (.isub, 1) := by decide +kernel
theorem dX5_does_55 : decode cX5_does 55 = .ok (.invokevirtual 72, 3) := by decide +kernel
theorem dX5_does_58 : decode cX5_does 58 = .ok (.goto 118, 3) := by decide +kernel
theorem dX5_does_61 : decode cX5_does 61 = .ok (.aload_n 0, 1) := by decide +kernel
theorem dX5_does_62 : decode cX5_does 62 = .ok (.iload_n 1, 1) := by decide +kernel
theorem dX5_does_63 : decode cX5_does 63 = .ok (.bipush 6, 2) := by decide +kernel
theorem dX5_does_65 : decode cX5_does 65 = .ok (.aload_n 0, 1) := by decide +kernel
theorem dX5_does_66 : decode cX5_does 66 = .ok (.iload_n 1, 1) := by decide +kernel
theorem dX5_does_67 : decode cX5_does 67 = .ok (.bipush 6, 2) := by decide +kernel
theorem dX5_does_69 : decode cX5_does 69 = .ok (.invokevirtual 56, 3) := by decide +kernel
theorem dX5_does_72 : decode cX5_does 72 = .ok (.aload_n 0, 1) := by decide +kernel
theorem dX5_does_73 : decode cX5_does 73 = .ok (.iload_n 1, 1) := by decide +kernel
theorem dX5_does_74 : decode cX5_does 74 = .ok (.iconst 1, 1) := by decide +kernel
theorem dX5_does_75 : decode cX5_does 75 = .ok (.invokevirtual 56, 3) := by decide +kernel
theorem dX5_does_78 : decode cX5_does 78 = .ok (.ifCond .ne 7, 3) := by decide +kernel
theorem dX5_does_81 : decode cX5_does 81 = .ok (.iconst 1, 1) := by decide +kernel
theorem dX5_does_82 : decode cX5_does 82 = .ok (.goto 4, 3) := by decide +kernel
theorem dX5_does_85 : decode cX5_does 85 = .ok (.iconst 0, 1) := by decide +kernel
theorem dX5_does_86 : decode cX5_does 86 = .ok (.iadd, 1) := by decide +kernel
theorem dX5_does_87 : decode cX5_does 87 = .ok (.invokevirtual 72, 3) := by decide +kernel
theorem dX5_does_90 : decode cX5_does 90 = .ok (.aload_n 0, 1) := by decide +kernel
theorem dX5_does_91 : decode cX5_does 91 = .ok (.iload_n 1, 1) := by decide +kernel
theorem dX5_does_92 : decode cX5_does 92 = .ok (.iconst 1, 1) := by decide +kernel
theorem dX5_does_93 : decode cX5_does 93 = .ok (.iconst 1, 1) := by decide +kernel
theorem dX5_does_94 : decode cX5_does 94 = .ok (.invokevirtual 72, 3) := by decide +kernel
theorem dX5_does_97 : decode cX5_does 97 = .ok (.aload_n 0, 1) := by decide +kernel
theorem dX5_does_98 : decode cX5_does 98 = .ok (.iload_n 1, 1) := by decide +kernel
theorem dX5_does_99 : decode cX5_does 99 = .ok (.iconst 4, 1) := by decide +kernel
theorem dX5_does_100 : decode cX5_does 100 = .ok (.iconst 0, 1) := by decide +kernel
theorem dX5_does_101 : decode cX5_does 101 = .ok (.invokevirtual 72, 3) := by decide +kernel
theorem dX5_does_104 : decode cX5_does 104 = .ok (.aload_n 0, 1) := by decide +kernel
theorem dX5_does_105 : decode cX5_does 105 = .ok (.iconst 1, 1) := by decide +kernel
theorem dX5_does_106 : decode cX5_does 106 = .ok (.putfield 76, 3) := by decide +kernel
theorem dX5_does_109 : decode cX5_does 109 = .ok (.goto 67, 3) := by decide +kernel
theorem dX5_does_112 : decode cX5_does 112 = .ok (.aload_n 0, 1) := by decide +kernel
theorem dX5_does_113 : decode cX5_does 113 = .ok (.iload_n 1, 1) := by decide +kernel
theorem dX5_does_114 : decode cX5_does 114 = .ok (.iconst 1, 1) := by decide +kernel
theorem dX5_does_115 : decode cX5_does 115 = .ok (.iconst 2, 1) := by decide +kernel
theorem dX5_does_116 : decode cX5_does 116 = .ok (.invokevirtual 72, 3) := by decide +kernel
theorem dX5_does_119 : decode cX5_does 119 = .ok (.aload_n 0, 1) := by decide +kernel
theorem dX5_does_120 : decode cX5_does 120 = .ok (.iload_n 1, 1) := by decide +kernel
theorem dX5_does_121 : decode cX5_does 121 = .ok (.iconst 4, 1) := by decide +kernel
theorem dX5_does_122 : decode cX5_does 122 = .ok (.iconst 0, 1) := by decide +kernel
theorem dX5_does_123 : decode cX5_does 123 = .ok (.invokevirtual 72, 3) := by decide +kernel
theorem dX5_does_126 : decode cX5_does 126 = .ok (.goto 50, 3) := by decide +kernel
theorem dX5_does_129 : decode cX5_does 129 = .ok (.aload_n 0, 1) := by decide +kernel
theorem dX5_does_130 : decode cX5_does 130 = .ok (.iload_n 1, 1) := by decide +kernel
theorem dX5_does_131 : decode cX5_does 131 = .ok (.iconst 4, 1) := by decide +kernel
theorem dX5_does_132 : decode cX5_does 132 = .ok (.aload_n 0, 1) := by decide +kernel
theorem dX5_does_133 : decode cX5_does 133 = .ok (.iload_n 1, 1) := by decide +kernel
theorem dX5_does_134 : decode cX5_does 134 = .ok (.iconst 4, 1) := by decide +kernel
theorem dX5_does_135 : decode cX5_does 135 = .ok (.invokevirtual 56, 3) := by decide +kernel
theorem dX5_does_138 : decode cX5_does 138 = .ok (.iconst 1, 1) := by decide +kernel
