theorem dX3_lookAtAll_14 : decode cX3_lookAtAll 14 = .ok (.astore 4, 2) := by decide +kernel
theorem dX3_lookAtAll_16 : decode cX3_lookAtAll 16 = .ok (.aload 4, 2) := by decide +kernel
theorem dX3_lookAtAll_18 : decode cX3_lookAtAll 18 = .ok (.ifnull 41, 3) := by decide +kernel
theorem dX3_lookAtAll_21 : decode cX3_lookAtAll 21 = .ok (.aload_n 0, 1) := by decide +kernel
theorem dX3_lookAtAll_22 : decode cX3_lookAtAll 22 = .ok (.aload 4, 2) := by decide +kernel
theorem dX3_lookAtAll_24 : decode cX3_lookAtAll 24 = .ok (.iload_n 1, 1) := by decide +kernel
theorem dX3_lookAtAll_25 : decode cX3_lookAtAll 25 = .ok (.invokevirtual 159, 3) := by decide +kernel
theorem dX3_lookAtAll_28 : decode cX3_lookAtAll 28 = .ok (.istore 5, 2) := by decide +kernel
theorem dX3_lookAtAll_30 : decode cX3_lookAtAll 30 = .ok (.aload 4, 2) := by decide +kernel
theorem dX3_lookAtAll_32 : decode cX3_lookAtAll 32 = .ok (.iload 5, 2) := by decide +kernel
theorem dX3_lookAtAll_34 : decode cX3_lookAtAll 34 = .ok (.aload_n 0, 1) := by decide +kernel
theorem dX3_lookAtAll_35 : decode cX3_lookAtAll 35 = .ok (.getfield 18, 3) := by decide +kernel
theorem dX3_lookAtAll_38 : decode cX3_lookAtAll 38 = .ok (.iconst 4, 1) := by decide +kernel
theorem dX3_lookAtAll_39 : decode cX3_lookAtAll 39 = .ok (.iaload, 1) := by decide +kernel
theorem dX3_lookAtAll_40 : decode cX3_lookAtAll 40 = .ok (.invokevirtual 163, 3) := by decide +kernel
theorem dX3_lookAtAll_43 : decode cX3_lookAtAll 43 = .ok (.iload_n 2, 1) := by decide +kernel
theorem dX3_lookAtAll_44 : decode cX3_lookAtAll 44 = .ok (.ifCond .ne 9, 3) := by decide +kernel
theorem dX3_lookAtAll_47 : decode cX3_lookAtAll 47 = .ok (.iload 5, 2) := by decide +kernel
theorem dX3_lookAtAll_49 : decode cX3_lookAtAll 49 = .ok (.iconst 2, 1) := by decide +kernel
theorem dX3_lookAtAll_50 : decode cX3_lookAtAll 50 = .ok (.if_icmp .ne 7, 3) := by decide +kernel
theorem dX3_lookAtAll_53 : decode cX3_lookAtAll 53 = .ok (.iconst 1, 1) := by decide +kernel
theorem dX3_lookAtAll_54 : decode cX3_lookAtAll 54 = .ok (.goto 4, 3) := by decide +kernel
theorem dX3_lookAtAll_57 : decode cX3_lookAtAll 57 = .ok (.iconst 0, 1) := by decide +kernel
theorem dX3_lookAtAll_58 : decode cX3_lookAtAll 58 = .ok (.istore_n 2, 1) := by decide +kernel
theorem dX3_lookAtAll_59 : decode cX3_lookAtAll 59 = .ok (.iinc 3 1, 3) := by decide +kernel
theorem dX3_lookAtAll_62 : decode cX3_lookAtAll 62 = .ok (.goto (-58), 3) := by decide +kernel
theorem dX3_lookAtAll_65 : decode cX3_lookAtAll 65 = .ok (.iload_n 2, 1) := by decide +kernel
theorem dX3_lookAtAll_66 : decode cX3_lookAtAll 66 = .ok (.ireturn, 1) := by decide +kernel
theorem dX3_doingOf_0 : decode cX3_doingOf 0 = .ok (.aload_n 1, 1) := by decide +kernel
theorem dX3_doingOf_1 : decode cX3_doingOf 1 = .ok (.getfield 94, 3) := by decide +kernel
theorem dX3_doingOf_4 : decode cX3_doingOf 4 = .ok (.tableswitch 101 0 2 #[28, 53, 68], 28) := by decide +kernel
theorem dX3_doingOf_32 : decode cX3_doingOf 32 = .ok (.aload_n 1, 1) := by decide +kernel
theorem dX3_doingOf_33 : decode cX3_doingOf 33 = .ok (.getfield 106, 3) := by decide +kernel
theorem dX3_doingOf_36 : decode cX3_doingOf 36 = .ok (.ifCond .le 5, 3) := by decide +kernel
theorem dX3_doingOf_39 : decode cX3_doingOf 39 = .ok (.iconst 1, 1) := by decide +kernel
theorem dX3_doingOf_40 : decode cX3_doingOf 40 = .ok (.ireturn, 1) := by decide +kernel
theorem dX3_doingOf_41 : decode cX3_doingOf 41 = .ok (.iload_n 2, 1) := by decide +kernel
theorem dX3_doingOf_42 : decode cX3_doingOf 42 = .ok (.aload_n 0, 1) := by decide +kernel
theorem dX3_doingOf_43 : decode cX3_doingOf 43 = .ok (.aload_n 1, 1) := by decide +kernel
theorem dX3_doingOf_44 : decode cX3_doingOf 44 = .ok (.invokevirtual 112, 3) := by decide +kernel
theorem dX3_doingOf_47 : decode cX3_doingOf 47 = .ok (.if_icmp .ge 7, 3) := by decide +kernel
theorem dX3_doingOf_50 : decode cX3_doingOf 50 = .ok (.iconst 2, 1) := by decide +kernel
theorem dX3_doingOf_51 : decode cX3_doingOf 51 = .ok (.goto 5, 3) := by decide +kernel
theorem dX3_doingOf_54 : decode cX3_doingOf 54 = .ok (.bipush 7, 2) := by decide +kernel
theorem dX3_doingOf_56 : decode cX3_doingOf 56 = .ok (.ireturn, 1) := by decide +kernel
theorem dX3_doingOf_57 : decode cX3_doingOf 57 = .ok (.iload_n 2, 1) := by decide +kernel
theorem dX3_doingOf_58 : decode cX3_doingOf 58 = .ok (.aload_n 0, 1) := by decide +kernel
theorem dX3_doingOf_59 : decode cX3_doingOf 59 = .ok (.aload_n 1, 1) := by decide +kernel
theorem dX3_doingOf_60 : decode cX3_doingOf 60 = .ok (.invokevirtual 116, 3) := by decide +kernel
theorem dX3_doingOf_63 : decode cX3_doingOf 63 = .ok (.if_icmp .le 7, 3) := by decide +kernel
theorem dX3_doingOf_66 : decode cX3_doingOf 66 = .ok (.iconst 4, 1) := by decide +kernel
theorem dX3_doingOf_67 : decode cX3_doingOf 67 = .ok (.goto 4, 3) := by decide +kernel
theorem dX3_doingOf_70 : decode cX3_doingOf 70 = .ok (.iconst 3, 1) := by decide +kernel
theorem dX3_doingOf_71 : decode cX3_doingOf 71 = .ok (.ireturn, 1) := by decide +kernel
theorem dX3_doingOf_72 : decode cX3_doingOf 72 = .ok (.iload_n 2, 1) := by decide +kernel
theorem dX3_doingOf_73 : decode cX3_doingOf 73 = .ok (.aload_n 0, 1) := by decide +kernel
theorem dX3_doingOf_74 : decode cX3_doingOf 74 = .ok (.aload_n 1, 1) := by decide +kernel
theorem dX3_doingOf_75 : decode cX3_doingOf 75 = .ok (.invokevirtual 112, 3) := by decide +kernel
theorem dX3_doingOf_78 : decode cX3_doingOf 78 = .ok (.if_icmp .ge 5, 3) := by decide +kernel
theorem dX3_doingOf_81 : decode cX3_doingOf 81 = .ok (.iconst 2, 1) := by decide +kernel
theorem dX3_doingOf_82 : decode cX3_doingOf 82 = .ok (.ireturn, 1) := by decide +kernel
theorem dX3_doingOf_83 : decode cX3_doingOf 83 = .ok (.aload_n 1, 1) := by decide +kernel
theorem dX3_doingOf_84 : decode cX3_doingOf 84 = .ok (.getfield 103, 3) := by decide +kernel
theorem dX3_doingOf_87 : decode cX3_doingOf 87 = .ok (.iconst 1, 1) := by decide +kernel
theorem dX3_doingOf_88 : decode cX3_doingOf 88 = .ok (.iadd, 1) := by decide +kernel
theorem dX3_doingOf_89 : decode cX3_doingOf 89 = .ok (.aload_n 0, 1) := by decide +kernel
theorem dX3_doingOf_90 : decode cX3_doingOf 90 = .ok (.getfield 18, 3) := by decide +kernel
theorem dX3_doingOf_93 : decode cX3_doingOf 93 = .ok (.iconst 3, 1) := by decide +kernel
theorem dX3_doingOf_94 : decode cX3_doingOf 94 = .ok (.iaload, 1) := by decide +kernel
theorem dX3_doingOf_95 : decode cX3_doingOf 95 = .ok (.if_icmp .lt 8, 3) := by decide +kernel
theorem dX3_doingOf_98 : decode cX3_doingOf 98 = .ok (.bipush 6, 2) := by decide +kernel
theorem dX3_doingOf_100 : decode cX3_doingOf 100 = .ok (.goto 4, 3) := by decide +kernel
theorem dX3_doingOf_103 : decode cX3_doingOf 103 = .ok (.iconst 5, 1) := by decide +kernel
theorem dX3_doingOf_104 : decode cX3_doingOf 104 = .ok (.ireturn, 1) := by decide +kernel
theorem dX3_doingOf_105 : decode cX3_doingOf 105 = .ok (.iconst 0, 1) := by decide +kernel
theorem dX3_doingOf_106 : decode cX3_doingOf 106 = .ok (.ireturn, 1) := by decide +kernel
theorem dX3_runFlows_0 : decode cX3_runFlows 0 = .ok (.aload_n 0, 1) := by decide +kernel
theorem dX3_runFlows_1 : decode cX3_runFlows 1 = .ok (.invokevirtual 166, 3) := by decide +kernel
theorem dX3_runFlows_4 : decode cX3_runFlows 4 = .ok (.aload_n 0, 1) := by decide +kernel
theorem dX3_runFlows_5 : decode cX3_runFlows 5 = .ok (.iload_n 1, 1) := by decide +kernel
theorem dX3_runFlows_6 : decode cX3_runFlows 6 = .ok (.invokevirtual 169, 3) := by decide +kernel
theorem dX3_runFlows_9 : decode cX3_runFlows 9 = .ok (.aload_n 0, 1) := by decide +kernel
theorem dX3_runFlows_10 : decode cX3_runFlows 10 = .ok (.getfield 15, 3) := by decide +kernel
theorem dX3_runFlows_13 : decode cX3_runFlows 13 = .ok (.invokestatic 154, 3) := by decide +kernel
theorem dX3_runFlows_16 : decode cX3_runFlows 16 = .ok (.istore_n 3, 1) := by decide +kernel
theorem dX3_runFlows_17 : decode cX3_runFlows 17 = .ok (.aload_n 0, 1) := by decide +kernel
theorem dX3_runFlows_18 : decode cX3_runFlows 18 = .ok (.dup, 1) := by decide +kernel
theorem dX3_runFlows_19 : decode cX3_runFlows 19 = .ok (.getfield 15, 3) := by decide +kernel
theorem dX3_runFlows_22 : decode cX3_runFlows 22 = .ok (.iload_n 3, 1) := by decide +kernel
theorem dX3_runFlows_23 : decode cX3_runFlows 23 = .ok (.isub, 1) := by decide +kernel
theorem dX3_runFlows_24 : decode cX3_runFlows 24 = .ok (.putfield 15, 3) := by decide +kernel
theorem dX3_runFlows_27 : decode cX3_runFlows 27 = .ok (.iload_n 2, 1) := by decide +kernel
theorem dX3_runFlows_28 : decode cX3_runFlows 28 = .ok (.aload_n 0, 1) := by decide +kernel
theorem dX3_runFlows_29 : decode cX3_runFlows 29 = .ok (.getfield 15, 3) := by decide +kernel
theorem dX3_runFlows_32 : decode cX3_runFlows 32 = .ok (.invokestatic 154, 3) := by decide +kernel
theorem dX3_runFlows_35 : decode cX3_runFlows 35 = .ok (.istore 4, 2) := by decide +kernel
theorem dX3_runFlows_37 : decode cX3_runFlows 37 = .ok (.aload_n 0, 1) := by decide +kernel
theorem dX3_runFlows_38 : decode cX3_runFlows 38 = .ok (.dup, 1) := by decide +kernel
theorem dX3_runFlows_39 : decode cX3_runFlows 39 = .ok (.getfield 15, 3) := by decide +kernel
theorem dX3_runFlows_42 : decode cX3_runFlows 42 = .ok (.iload 4, 2) := by decide +kernel
theorem dX3_runFlows_44 : decode cX3_runFlows 44 = .ok (.isub, 1) := by decide +kernel
theorem dX3_runFlows_45 : decode cX3_runFlows 45 = .ok (.putfield 15, 3) := by decide +kernel
theorem dX3_runFlows_48 : decode cX3_runFlows 48 = .ok (.aload_n 0, 1) := by decide +kernel
theorem dX3_runFlows_49 : decode cX3_runFlows 49 = .ok (.getfield 22, 3) := by decide +kernel
theorem dX3_runFlows_52 : decode cX3_runFlows 52 = .ok (.iconst 1, 1) := by decide +kernel
theorem dX3_runFlows_53 : decode cX3_runFlows 53 = .ok (.dup2, 1) := by decide +kernel
theorem dX3_runFlows_54 : decode cX3_runFlows 54 = .ok (.laload, 1) := by decide +kernel
theorem dX3_runFlows_55 : decode cX3_runFlows 55 = .ok (.iload_n 3, 1) := by decide +kernel
theorem dX3_runFlows_56 : decode cX3_runFlows 56 = .ok (.i2l, 1) := by decide +kernel
theorem dX3_runFlows_57 : decode cX3_runFlows 57 = .ok (.ladd, 1) := by decide +kernel
theorem dX3_runFlows_58 : decode cX3_runFlows 58 = .ok (.lastore, 1) := by decide +kernel
theorem dX3_runFlows_59 : decode cX3_runFlows 59 = .ok (.aload_n 0, 1) := by decide +kernel
theorem dX3_runFlows_60 : decode cX3_runFlows 60 = .ok (.getfield 22, 3) := by decide +kernel
theorem dX3_runFlows_63 : decode cX3_runFlows 63 = .ok (.iconst 2, 1) := by decide +kernel
theorem dX3_runFlows_64 : decode cX3_runFlows 64 = .ok (.dup2, 1) := by decide +kernel
theorem dX3_runFlows_65 : decode cX3_runFlows 65 = .ok (.laload, 1) := by decide +kernel
theorem dX3_runFlows_66 : decode cX3_runFlows 66 = .ok (.iload 4, 2) := by decide +kernel
theorem dX3_runFlows_68 : decode cX3_runFlows 68 = .ok (.i2l, 1) := by decide +kernel
theorem dX3_runFlows_69 : decode cX3_runFlows 69 = .ok (.ladd, 1) := by decide +kernel
theorem dX3_runFlows_70 : decode cX3_runFlows 70 = .ok (.lastore, 1) := by decide +kernel
theorem dX3_runFlows_71 : decode cX3_runFlows 71 = .ok (.aload_n 0, 1) := by decide +kernel
theorem dX3_runFlows_72 : decode cX3_runFlows 72 = .ok (.getfield 22, 3) := by decide +kernel
theorem dX3_runFlows_75 : decode cX3_runFlows 75 = .ok (.iconst 3, 1) := by decide +kernel
theorem dX3_runFlows_76 : decode cX3_runFlows 76 = .ok (.dup2, 1) := by decide +kernel
theorem dX3_runFlows_77 : decode cX3_runFlows 77 = .ok (.laload, 1) := by decide +kernel
theorem dX3_runFlows_78 : decode cX3_runFlows 78 = .ok (.iload_n 2, 1) := by decide +kernel
theorem dX3_runFlows_79 : decode cX3_runFlows 79 = .ok (.iload 4, 2) := by decide +kernel
theorem dX3_runFlows_81 : decode cX3_runFlows 81 = .ok (.isub, 1) := by decide +kernel
theorem dX3_runFlows_82 : decode cX3_runFlows 82 = .ok (.i2l, 1) := by decide +kernel
theorem dX3_runFlows_83 : decode cX3_runFlows 83 = .ok (.ladd, 1) := by decide +kernel
theorem dX3_runFlows_84 : decode cX3_runFlows 84 = .ok (.lastore, 1) := by decide +kernel
theorem dX3_runFlows_85 : decode cX3_runFlows 85 = .ok (.aload_n 0, 1) := by decide +kernel
theorem dX3_runFlows_86 : decode cX3_runFlows 86 = .ok (.invokevirtual 172, 3) := by decide +kernel
theorem dX3_runFlows_89 : decode cX3_runFlows 89 = .ok (.aload_n 0, 1) := by decide +kernel
theorem dX3_runFlows_90 : decode cX3_runFlows 90 = .ok (.dup, 1) := by decide +kernel
theorem dX3_runFlows_91 : decode cX3_runFlows 91 = .ok (.getfield 45, 3) := by decide +kernel
theorem dX3_runFlows_94 : decode cX3_runFlows 94 = .ok (.iconst 1, 1) := by decide +kernel
theorem dX3_runFlows_95 : decode cX3_runFlows 95 = .ok (.iadd, 1) := by decide +kernel
theorem dX3_runFlows_96 : decode cX3_runFlows 96 = .ok (.putfield 45, 3) := by decide +kernel
theorem dX3_runFlows_99 : decode cX3_runFlows 99 = .ok (.aload_n 0, 1) := by decide +kernel
theorem dX3_runFlows_100 : decode cX3_runFlows 100 = .ok (.dup, 1) := by decide +kernel
theorem dX3_runFlows_101 : decode cX3_runFlows 101 = .ok (.getfield 48, 3) := by decide +kernel
theorem dX3_runFlows_104 : decode cX3_runFlows 104 = .ok (.iconst 1, 1) := by decide +kernel
theorem dX3_runFlows_105 : decode cX3_runFlows 105 = .ok (.iadd, 1) := by decide +kernel
theorem dX3_runFlows_106 : decode cX3_runFlows 106 = .ok (.putfield 48, 3) := by decide +kernel
theorem dX3_runFlows_109 : decode cX3_runFlows 109 = .ok (.iload_n 3, 1) := by decide +kernel
theorem dX3_runFlows_110 : decode cX3_runFlows 110 = .ok (.ireturn, 1) := by decide +kernel
theorem dX3_runCompressors_0 : decode cX3_runCompressors 0 = .ok (.iconst 0, 1) := by decide +kernel
theorem dX3_runCompressors_1 : decode cX3_runCompressors 1 = .ok (.istore_n 1, 1) := by decide +kernel
theorem dX3_runCompressors_2 : decode cX3_runCompressors 2 = .ok (.iload_n 1, 1) := by decide +kernel
theorem dX3_runCompressors_3 : decode cX3_runCompressors 3 = .ok (.iconst 5, 1) := by decide +kernel
theorem dX3_runCompressors_4 : decode cX3_runCompressors 4 = .ok (.if_icmp .ge 122, 3) := by decide +kernel
theorem dX3_runCompressors_7 : decode cX3_runCompressors 7 = .ok (.aload_n 0, 1) := by decide +kernel
theorem dX3_runCompressors_8 : decode cX3_runCompressors 8 = .ok (.iload_n 1, 1) := by decide +kernel
theorem dX3_runCompressors_9 : decode cX3_runCompressors 9 = .ok (.invokevirtual 60, 3) := by decide +kernel
theorem dX3_runCompressors_12 : decode cX3_runCompressors 12 = .ok (.astore_n 2, 1) := by decide +kernel
theorem dX3_runCompressors_13 : decode cX3_runCompressors 13 = .ok (.aload_n 2, 1) := by decide +kernel
theorem dX3_runCompressors_14 : decode cX3_runCompressors 14 = .ok (.ifnull 68, 3) := by decide +kernel
theorem dX3_runCompressors_17 : decode cX3_runCompressors 17 = .ok (.aload_n 2, 1) := by decide +kernel
theorem dX3_runCompressors_18 : decode cX3_runCompressors 18 = .ok (.getfield 94, 3) := by decide +kernel
theorem dX3_runCompressors_21 : decode cX3_runCompressors 21 = .ok (.iconst 1, 1) := by decide +kernel
theorem dX3_runCompressors_22 : decode cX3_runCompressors 22 = .ok (.if_icmp .ne 60, 3) := by decide +kernel
theorem dX3_runCompressors_25 : decode cX3_runCompressors 25 = .ok (.aload_n 0, 1) := by decide +kernel
theorem dX3_runCompressors_26 : decode cX3_runCompressors 26 = .ok (.dup, 1) := by decide +kernel
theorem dX3_runCompressors_27 : decode cX3_runCompressors 27 = .ok (.getfield 15, 3) := by decide +kernel
theorem dX3_runCompressors_30 : decode cX3_runCompressors 30 = .ok (.aload_n 2, 1) := by decide +kernel
theorem dX3_runCompressors_31 : decode cX3_runCompressors 31 = .ok (.getfield 91, 3) := by decide +kernel
theorem dX3_runCompressors_34 : decode cX3_runCompressors 34 = .ok (.iadd, 1) := by decide +kernel
theorem dX3_runCompressors_35 : decode cX3_runCompressors 35 = .ok (.putfield 15, 3) := by decide +kernel
theorem dX3_runCompressors_38 : decode cX3_runCompressors 38 = .ok (.aload_n 0, 1) := by decide +kernel
theorem dX3_runCompressors_39 : decode cX3_runCompressors 39 = .ok (.getfield 22, 3) := by decide +kernel
theorem dX3_runCompressors_42 : decode cX3_runCompressors 42 = .ok (.iconst 0, 1) := by decide +kernel
theorem dX3_runCompressors_43 : decode cX3_runCompressors 43 = .ok (.dup2, 1) := by decide +kernel
theorem dX3_runCompressors_44 : decode cX3_runCompressors 44 = .ok (.laload, 1) := by decide +kernel
theorem dX3_runCompressors_45 : decode cX3_runCompressors 45 = .ok (.aload_n 2, 1) := by decide +kernel
theorem dX3_runCompressors_46 : decode cX3_runCompressors 46 = .ok (.getfield 91, 3) := by decide +kernel
theorem dX3_runCompressors_49 : decode cX3_runCompressors 49 = .ok (.i2l, 1) := by decide +kernel
theorem dX3_runCompressors_50 : decode cX3_runCompressors 50 = .ok (.ladd, 1) := by decide +kernel
theorem dX3_runCompressors_51 : decode cX3_runCompressors 51 = .ok (.lastore, 1) := by decide +kernel
theorem dX3_runCompressors_52 : decode cX3_runCompressors 52 = .ok (.aload_n 0, 1) := by decide +kernel
theorem dX3_runCompressors_53 : decode cX3_runCompressors 53 = .ok (.getfield 22, 3) := by decide +kernel
theorem dX3_runCompressors_56 : decode cX3_runCompressors 56 = .ok (.iconst 5, 1) := by decide +kernel
theorem dX3_runCompressors_57 : decode cX3_runCompressors 57 = .ok (.dup2, 1) := by decide +kernel
theorem dX3_runCompressors_58 : decode cX3_runCompressors 58 = .ok (.laload, 1) := by decide +kernel
theorem dX3_runCompressors_59 : decode cX3_runCompressors 59 = .ok (.bipush 10, 2) := by decide +kernel
theorem dX3_runCompressors_61 : decode cX3_runCompressors 61 = .ok (.aload_n 2, 1) := by decide +kernel
theorem dX3_runCompressors_62 : decode cX3_runCompressors 62 = .ok (.getfield 91, 3) := by decide +kernel
theorem dX3_runCompressors_65 : decode cX3_runCompressors 65 = .ok (.imul, 1) := by decide +kernel
theorem dX3_runCompressors_66 : decode cX3_runCompressors 66 = .ok (.i2l, 1) := by decide +kernel
theorem dX3_runCompressors_67 : decode cX3_runCompressors 67 = .ok (.ladd, 1) := by decide +kernel
theorem dX3_runCompressors_68 : decode cX3_runCompressors 68 = .ok (.lastore, 1) := by decide +kernel
theorem dX3_runCompressors_69 : decode cX3_runCompressors 69 = .ok (.aload_n 2, 1) := by decide +kernel
theorem dX3_runCompressors_70 : decode cX3_runCompressors 70 = .ok (.dup, 1) := by decide +kernel
theorem dX3_runCompressors_71 : decode cX3_runCompressors 71 = .ok (.getfield 97, 3) := by decide +kernel
theorem dX3_runCompressors_74 : decode cX3_runCompressors 74 = .ok (.iconst 1, 1) := by decide +kernel
theorem dX3_runCompressors_75 : decode cX3_runCompressors 75 = .ok (.iadd, 1) := by decide +kernel
theorem dX3_runCompressors_76 : decode cX3_runCompressors 76 = .ok (.putfield 97, 3) := by decide +kernel
theorem dX3_runCompressors_79 : decode cX3_runCompressors 79 = .ok (.goto 41, 3) := by decide +kernel
theorem dX3_runCompressors_82 : decode cX3_runCompressors 82 = .ok (.aload_n 2, 1) := by decide +kernel
theorem dX3_runCompressors_83 : decode cX3_runCompressors 83 = .ok (.ifnull 37, 3) := by decide +kernel
theorem dX3_runCompressors_86 : decode cX3_runCompressors 86 = .ok (.aload_n 2, 1) := by decide +kernel
theorem dX3_runCompressors_87 : decode cX3_runCompressors 87 = .ok (.getfield 94, 3) := by decide +kernel
theorem dX3_runCompressors_90 : decode cX3_runCompressors 90 = .ok (.iconst 2, 1) := by decide +kernel
theorem dX3_runCompressors_91 : decode cX3_runCompressors 91 = .ok (.if_icmp .ne 29, 3) := by decide +kernel
theorem dX3_runCompressors_94 : decode cX3_runCompressors 94 = .ok (.aload_n 0, 1) := by decide +kernel
theorem dX3_runCompressors_95 : decode cX3_runCompressors 95 = .ok (.getfield 22, 3) := by decide +kernel
theorem dX3_runCompressors_98 : decode cX3_runCompressors 98 = .ok (.iconst 5, 1) := by decide +kernel
theorem dX3_runCompressors_99 : decode cX3_runCompressors 99 = .ok (.dup2, 1) := by decide +kernel
theorem dX3_runCompressors_100 : decode cX3_runCompressors 100 = .ok (.laload, 1) := by decide +kernel
theorem dX3_runCompressors_101 : decode cX3_runCompressors 101 = .ok (.iconst 3, 1) := by decide +kernel
theorem dX3_runCompressors_102 : decode cX3_runCompressors 102 = .ok (.aload_n 2, 1) := by decide +kernel
theorem dX3_runCompressors_103 : decode cX3_runCompressors 103 = .ok (.getfield 91, 3) := by decide +kernel
theorem dX3_runCompressors_106 : decode cX3_runCompressors 106 = .ok (.imul, 1) := by decide +kernel
theorem dX3_runCompressors_107 : decode cX3_runCompressors 107 = .ok (.i2l, 1) := by decide +kernel
theorem dX3_runCompressors_108 : decode cX3_runCompressors 108 = .ok (.ladd, 1) := by decide +kernel
theorem dX3_runCompressors_109 : decode cX3_runCompressors 109 = .ok (.lastore, 1) := by decide +kernel
theorem dX3_runCompressors_110 : decode cX3_runCompressors 110 = .ok (.aload_n 2, 1) := by decide +kernel
theorem dX3_runCompressors_111 : decode cX3_runCompressors 111 = .ok (.dup, 1) := by decide +kernel
theorem dX3_runCompressors_112 : decode cX3_runCompressors 112 = .ok (.getfield 100, 3) := by decide +kernel
theorem dX3_runCompressors_115 : decode cX3_runCompressors 115 = .ok (.iconst 1, 1) := by decide +kernel
theorem dX3_runCompressors_116 : decode cX3_runCompressors 116 = .ok (.iadd, 1) := by decide +kernel
theorem dX3_runCompressors_117 : decode cX3_runCompressors 117 = .ok (.putfield 100, 3) := by decide +kernel
theorem dX3_runCompressors_120 : decode cX3_runCompressors 120 = .ok (.iinc 1 1, 3) := by decide +kernel
theorem dX3_runCompressors_123 : decode cX3_runCompressors 123 = .ok (.goto (-121), 3) := by decide +kernel
theorem dX3_runCompressors_126 : decode cX3_runCompressors 126 = .ok (.return_, 1) := by decide +kernel
theorem dX3_blowOff_0 : decode cX3_blowOff 0 = .ok (.aload_n 0, 1) := by decide +kernel
theorem dX3_blowOff_1 : decode cX3_blowOff 1 = .ok (.getfield 15, 3) := by decide +kernel
theorem dX3_blowOff_4 : decode cX3_blowOff 4 = .ok (.aload_n 0, 1) := by decide +kernel
theorem dX3_blowOff_5 : decode cX3_blowOff 5 = .ok (.getfield 9, 3) := by decide +kernel
theorem dX3_blowOff_8 : decode cX3_blowOff 8 = .ok (.invokestatic 72, 3) := by decide +kernel
theorem dX3_blowOff_11 : decode cX3_blowOff 11 = .ok (.aload_n 0, 1) := by decide +kernel
theorem dX3_blowOff_12 : decode cX3_blowOff 12 = .ok (.getfield 18, 3) := by decide +kernel
theorem dX3_blowOff_15 : decode cX3_blowOff 15 = .ok (.iconst 2, 1) := by decide +kernel
theorem dX3_blowOff_16 : decode cX3_blowOff 16 = .ok (.iaload, 1) := by decide +kernel
theorem dX3_blowOff_17 : decode cX3_blowOff 17 = .ok (.if_icmp .le 40, 3) := by decide +kernel
theorem dX3_blowOff_20 : decode cX3_blowOff 20 = .ok (.aload_n 0, 1) := by decide +kernel
theorem dX3_blowOff_21 : decode cX3_blowOff 21 = .ok (.getfield 18, 3) := by decide +kernel
theorem dX3_blowOff_24 : decode cX3_blowOff 24 = .ok (.iconst 2, 1) := by decide +kernel
theorem dX3_blowOff_25 : decode cX3_blowOff 25 = .ok (.iaload, 1) := by decide +kernel
theorem dX3_blowOff_26 : decode cX3_blowOff 26 = .ok (.aload_n 0, 1) := by decide +kernel
theorem dX3_blowOff_27 : decode cX3_blowOff 27 = .ok (.getfield 9, 3) := by decide +kernel
theorem dX3_blowOff_30 : decode cX3_blowOff 30 = .ok (.imul, 1) := by decide +kernel
theorem dX3_blowOff_31 : decode cX3_blowOff 31 = .ok (.sipush 1000, 3) := by decide +kernel
theorem dX3_blowOff_34 : decode cX3_blowOff 34 = .ok (.idiv, 1) := by decide +kernel
theorem dX3_blowOff_35 : decode cX3_blowOff 35 = .ok (.istore_n 1, 1) := by decide +kernel
theorem dX3_blowOff_36 : decode cX3_blowOff 36 = .ok (.aload_n 0, 1) := by decide +kernel
theorem dX3_blowOff_37 : decode cX3_blowOff 37 = .ok (.getfield 22, 3) := by decide +kernel
theorem dX3_blowOff_40 : decode cX3_blowOff 40 = .ok (.iconst 4, 1) := by decide +kernel
theorem dX3_blowOff_41 : decode cX3_blowOff 41 = .ok (.dup2, 1) := by decide +kernel
theorem dX3_blowOff_42 : decode cX3_blowOff 42 = .ok (.laload, 1) := by decide +kernel
theorem dX3_blowOff_43 : decode cX3_blowOff 43 = .ok (.aload_n 0, 1) := by decide +kernel
theorem dX3_blowOff_44 : decode cX3_blowOff 44 = .ok (.getfield 15, 3) := by decide +kernel
theorem dX3_blowOff_47 : decode cX3_blowOff 47 = .ok (.iload_n 1, 1) := by decide +kernel
theorem dX3_blowOff_48 : decode cX3_blowOff 48 = .ok (.isub, 1) := by decide +kernel
theorem dX3_blowOff_49 : decode cX3_blowOff 49 = .ok (.i2l, 1) := by decide +kernel
theorem dX3_blowOff_50 : decode cX3_blowOff 50 = .ok (.ladd, 1) := by decide +kernel
theorem dX3_blowOff_51 : decode cX3_blowOff 51 = .ok (.lastore, 1) := by decide +kernel
theorem dX3_blowOff_52 : decode cX3_blowOff 52 = .ok (.aload_n 0, 1) := by decide +kernel
theorem dX3_blowOff_53 : decode cX3_blowOff 53 = .ok (.iload_n 1, 1) := by decide +kernel
theorem dX3_blowOff_54 : decode cX3_blowOff 54 = .ok (.putfield 15, 3) := by decide +kernel
theorem dX3_blowOff_57 : decode cX3_blowOff 57 = .ok (.return_, 1) := by decide +kernel
theorem dX4_init_0 : decode cX4_init 0 = .ok (.aload_n 0, 1) := by decide +kernel
theorem dX4_init_1 : decode cX4_init 1 = .ok (.invokespecial 1, 3) := by decide +kernel
theorem dX4_init_4 : decode cX4_init 4 = .ok (.aload_n 0, 1) := by decide +kernel
theorem dX4_init_5 : decode cX4_init 5 = .ok (.new 7, 3) := by decide +kernel
theorem dX4_init_8 : decode cX4_init 8 = .ok (.dup, 1) := by decide +kernel
theorem dX4_init_9 : decode cX4_init 9 = .ok (.invokespecial 9, 3) := by decide +kernel
theorem dX4_init_12 : decode cX4_init 12 = .ok (.putfield 10, 3) := by decide +kernel
theorem dX4_init_15 : decode cX4_init 15 = .ok (.aload_n 0, 1) := by decide +kernel
theorem dX4_init_16 : decode cX4_init 16 = .ok (.new 7, 3) := by decide +kernel
theorem dX4_init_19 : decode cX4_init 19 = .ok (.dup, 1) := by decide +kernel
theorem dX4_init_20 : decode cX4_init 20 = .ok (.invokespecial 9, 3) := by decide +kernel
theorem dX4_init_23 : decode cX4_init 23 = .ok (.putfield 16, 3) := by decide +kernel
theorem dX4_init_26 : decode cX4_init 26 = .ok (.aload_n 0, 1) := by decide +kernel
theorem dX4_init_27 : decode cX4_init 27 = .ok (.new 19, 3) := by decide +kernel
theorem dX4_init_30 : decode cX4_init 30 = .ok (.dup, 1) := by decide +kernel
theorem dX4_init_31 : decode cX4_init 31 = .ok (.invokespecial 21, 3) := by decide +kernel
theorem dX4_init_34 : decode cX4_init 34 = .ok (.putfield 22, 3) := by decide +kernel
theorem dX4_init_37 : decode cX4_init 37 = .ok (.aload_n 0, 1) := by decide +kernel
theorem dX4_init_38 : decode cX4_init 38 = .ok (.new 26, 3) := by decide +kernel
theorem dX4_init_41 : decode cX4_init 41 = .ok (.dup, 1) := by decide +kernel
theorem dX4_init_42 : decode cX4_init 42 = .ok (.invokespecial 28, 3) := by decide +kernel
theorem dX4_init_45 : decode cX4_init 45 = .ok (.putfield 29, 3) := by decide +kernel
theorem dX4_init_48 : decode cX4_init 48 = .ok (.return_, 1) := by decide +kernel
theorem dX4_set_0 : decode cX4_set 0 = .ok (.iload_n 1, 1) := by decide +kernel
theorem dX4_set_1 : decode cX4_set 1 = .ok (.iconst 0, 1) := by decide +kernel
theorem dX4_set_2 : decode cX4_set 2 = .ok (.bipush 7, 2) := by decide +kernel
theorem dX4_set_4 : decode cX4_set 4 = .ok (.invokestatic 33, 3) := by decide +kernel
theorem dX4_set_7 : decode cX4_set 7 = .ok (.ifCond .ne 13, 3) := by decide +kernel
theorem dX4_set_10 : decode cX4_set 10 = .ok (.new 37, 3) := by decide +kernel
theorem dX4_set_13 : decode cX4_set 13 = .ok (.dup, 1) := by decide +kernel
theorem dX4_set_14 : decode cX4_set 14 = .ok (.ldc 72, 2) := by decide +kernel
theorem dX4_set_16 : decode cX4_set 16 = .ok (.invokespecial 41, 3) := by decide +kernel
theorem dX4_set_19 : decode cX4_set 19 = .ok (.athrow, 1) := by decide +kernel
theorem dX4_set_20 : decode cX4_set 20 = .ok (.iload_n 2, 1) := by decide +kernel
theorem dX4_set_21 : decode cX4_set 21 = .ok (.getstatic 74, 3) := by decide +kernel
theorem dX4_set_24 : decode cX4_set 24 = .ok (.iload_n 1, 1) := by decide +kernel
theorem dX4_set_25 : decode cX4_set 25 = .ok (.iaload, 1) := by decide +kernel
theorem dX4_set_26 : decode cX4_set 26 = .ok (.getstatic 77, 3) := by decide +kernel
theorem dX4_set_29 : decode cX4_set 29 = .ok (.iload_n 1, 1) := by decide +kernel
theorem dX4_set_30 : decode cX4_set 30 = .ok (.iaload, 1) := by decide +kernel
theorem dX4_set_31 : decode cX4_set 31 = .ok (.invokestatic 33, 3) := by decide +kernel
theorem dX4_set_34 : decode cX4_set 34 = .ok (.ifCond .ne 13, 3) := by decide +kernel
theorem dX4_set_37 : decode cX4_set 37 = .ok (.new 37, 3) := by decide +kernel
theorem dX4_set_40 : decode cX4_set 40 = .ok (.dup, 1) := by decide +kernel
theorem dX4_set_41 : decode cX4_set 41 = .ok (.ldc 80, 2) := by decide +kernel
theorem dX4_set_43 : decode cX4_set 43 = .ok (.invokespecial 41, 3) := by decide +kernel
theorem dX4_set_46 : decode cX4_set 46 = .ok (.athrow, 1) := by decide +kernel
theorem dX4_set_47 : decode cX4_set 47 = .ok (.aload_n 0, 1) := by decide +kernel
theorem dX4_set_48 : decode cX4_set 48 = .ok (.getfield 22, 3) := by decide +kernel
theorem dX4_set_51 : decode cX4_set 51 = .ok (.aload_n 0, 1) := by decide +kernel
theorem dX4_set_52 : decode cX4_set 52 = .ok (.getfield 10, 3) := by decide +kernel
theorem dX4_set_55 : decode cX4_set 55 = .ok (.invokevirtual 61, 3) := by decide +kernel
theorem dX4_set_58 : decode cX4_set 58 = .ok (.aload_n 0, 1) := by decide +kernel
theorem dX4_set_59 : decode cX4_set 59 = .ok (.getfield 10, 3) := by decide +kernel
theorem dX4_set_62 : decode cX4_set 62 = .ok (.getfield 52, 3) := by decide +kernel
theorem dX4_set_65 : decode cX4_set 65 = .ok (.iload_n 1, 1) := by decide +kernel
theorem dX4_set_66 : decode cX4_set 66 = .ok (.iaload, 1) := by decide +kernel
theorem dX4_set_67 : decode cX4_set 67 = .ok (.istore_n 3, 1) := by decide +kernel
theorem dX4_set_68 : decode cX4_set 68 = .ok (.aload_n 0, 1) := by decide +kernel
theorem dX4_set_69 : decode cX4_set 69 = .ok (.getfield 10, 3) := by decide +kernel
theorem dX4_set_72 : decode cX4_set 72 = .ok (.getfield 52, 3) := by decide +kernel
theorem dX4_set_75 : decode cX4_set 75 = .ok (.iload_n 1, 1) := by decide +kernel
theorem dX4_set_76 : decode cX4_set 76 = .ok (.iload_n 2, 1) := by decide +kernel
theorem dX4_set_77 : decode cX4_set 77 = .ok (.iastore, 1) := by decide +kernel
theorem dX4_set_78 : decode cX4_set 78 = .ok (.iload_n 3, 1) := by decide +kernel
theorem dX4_set_79 : decode cX4_set 79 = .ok (.ireturn, 1) := by decide +kernel
theorem dX4_addCompressor_0 : decode cX4_addCompressor 0 = .ok (.iload_n 1, 1) := by decide +kernel
theorem dX4_addCompressor_1 : decode cX4_addCompressor 1 = .ok (.bipush 10, 2) := by decide +kernel
theorem dX4_addCompressor_3 : decode cX4_addCompressor 3 = .ok (.sipush 500, 3) := by decide +kernel
theorem dX4_addCompressor_6 : decode cX4_addCompressor 6 = .ok (.invokestatic 33, 3) := by decide +kernel
theorem dX4_addCompressor_9 : decode cX4_addCompressor 9 = .ok (.ifCond .ne 13, 3) := by decide +kernel
theorem dX4_addCompressor_12 : decode cX4_addCompressor 12 = .ok (.new 37, 3) := by decide +kernel
theorem dX4_addCompressor_15 : decode cX4_addCompressor 15 = .ok (.dup, 1) := by decide +kernel
theorem dX4_addCompressor_16 : decode cX4_addCompressor 16 = .ok (.ldc 82, 2) := by decide +kernel
theorem dX4_addCompressor_18 : decode cX4_addCompressor 18 = .ok (.invokespecial 41, 3) := by decide +kernel
theorem dX4_addCompressor_21 : decode cX4_addCompressor 21 = .ok (.athrow, 1) := by decide +kernel
theorem dX4_addCompressor_22 : decode cX4_addCompressor 22 = .ok (.aload_n 0, 1) := by decide +kernel
theorem dX4_addCompressor_23 : decode cX4_addCompressor 23 = .ok (.getfield 10, 3) := by decide +kernel
theorem dX4_addCompressor_26 : decode cX4_addCompressor 26 = .ok (.getfield 84, 3) := by decide +kernel
theorem dX4_addCompressor_29 : decode cX4_addCompressor 29 = .ok (.iconst 5, 1) := by decide +kernel
theorem dX4_addCompressor_30 : decode cX4_addCompressor 30 = .ok (.if_icmp .lt 13, 3) := by decide +kernel
theorem dX4_addCompressor_33 : decode cX4_addCompressor 33 = .ok (.new 56, 3) := by decide +kernel
theorem dX4_addCompressor_36 : decode cX4_addCompressor 36 = .ok (.dup, 1) := by decide +kernel
theorem dX4_addCompressor_37 : decode cX4_addCompressor 37 = .ok (.ldc 87, 2) := by decide +kernel
theorem dX4_addCompressor_39 : decode cX4_addCompressor 39 = .ok (.invokespecial 60, 3) := by decide +kernel
theorem dX4_addCompressor_42 : decode cX4_addCompressor 42 = .ok (.athrow, 1) := by decide +kernel
theorem dX4_addCompressor_43 : decode cX4_addCompressor 43 = .ok (.aload_n 0, 1) := by decide +kernel
theorem dX4_addCompressor_44 : decode cX4_addCompressor 44 = .ok (.getfield 22, 3) := by decide +kernel
theorem dX4_addCompressor_47 : decode cX4_addCompressor 47 = .ok (.aload_n 0, 1) := by decide +kernel
theorem dX4_addCompressor_48 : decode cX4_addCompressor 48 = .ok (.getfield 10, 3) := by decide +kernel
theorem dX4_addCompressor_51 : decode cX4_addCompressor 51 = .ok (.invokevirtual 61, 3) := by decide +kernel
theorem dX4_addCompressor_54 : decode cX4_addCompressor 54 = .ok (.aload_n 0, 1) := by decide +kernel
theorem dX4_addCompressor_55 : decode cX4_addCompressor 55 = .ok (.getfield 10, 3) := by decide +kernel
theorem dX4_addCompressor_58 : decode cX4_addCompressor 58 = .ok (.iload_n 1, 1) := by decide +kernel
theorem dX4_addCompressor_59 : decode cX4_addCompressor 59 = .ok (.invokevirtual 89, 3) := by decide +kernel
theorem dX4_addCompressor_62 : decode cX4_addCompressor 62 = .ok (.ireturn, 1) := by decide +kernel
theorem dX4_trip_0 : decode cX4_trip 0 = .ok (.aload_n 0, 1) := by decide +kernel
theorem dX4_trip_1 : decode cX4_trip 1 = .ok (.getfield 10, 3) := by decide +kernel
theorem dX4_trip_4 : decode cX4_trip 4 = .ok (.iload_n 1, 1) := by decide +kernel
theorem dX4_trip_5 : decode cX4_trip 5 = .ok (.invokevirtual 93, 3) := by decide +kernel
theorem dX4_trip_8 : decode cX4_trip 8 = .ok (.astore_n 2, 1) := by decide +kernel
theorem dX4_trip_9 : decode cX4_trip 9 = .ok (.aload_n 2, 1) := by decide +kernel
theorem dX4_trip_10 : decode cX4_trip 10 = .ok (.ifnonnull 13, 3) := by decide +kernel
theorem dX4_trip_13 : decode cX4_trip 13 = .ok (.new 97, 3) := by decide +kernel
theorem dX4_trip_16 : decode cX4_trip 16 = .ok (.dup, 1) := by decide +kernel
theorem dX4_trip_17 : decode cX4_trip 17 = .ok (.ldc 99, 2) := by decide +kernel
theorem dX4_trip_19 : decode cX4_trip 19 = .ok (.invokespecial 101, 3) := by decide +kernel
theorem dX4_trip_22 : decode cX4_trip 22 = .ok (.athrow, 1) := by decide +kernel
theorem dX4_trip_23 : decode cX4_trip 23 = .ok (.aload_n 2, 1) := by decide +kernel
theorem dX4_trip_24 : decode cX4_trip 24 = .ok (.getfield 102, 3) := by decide +kernel
theorem dX4_trip_27 : decode cX4_trip 27 = .ok (.iconst 3, 1) := by decide +kernel
theorem dX4_trip_28 : decode cX4_trip 28 = .ok (.if_icmp .ne 13, 3) := by decide +kernel
theorem dX4_trip_31 : decode cX4_trip 31 = .ok (.new 56, 3) := by decide +kernel
theorem dX4_trip_34 : decode cX4_trip 34 = .ok (.dup, 1) := by decide +kernel
theorem dX4_trip_35 : decode cX4_trip 35 = .ok (.ldc 107, 2) := by decide +kernel
theorem dX4_trip_37 : decode cX4_trip 37 = .ok (.invokespecial 60, 3) := by decide +kernel
theorem dX4_trip_40 : decode cX4_trip 40 = .ok (.athrow, 1) := by decide +kernel
theorem dX4_trip_41 : decode cX4_trip 41 = .ok (.aload_n 0, 1) := by decide +kernel
theorem dX4_trip_42 : decode cX4_trip 42 = .ok (.getfield 22, 3) := by decide +kernel
theorem dX4_trip_45 : decode cX4_trip 45 = .ok (.aload_n 0, 1) := by decide +kernel
theorem dX4_trip_46 : decode cX4_trip 46 = .ok (.getfield 10, 3) := by decide +kernel
theorem dX4_trip_49 : decode cX4_trip 49 = .ok (.invokevirtual 61, 3) := by decide +kernel
theorem dX4_trip_52 : decode cX4_trip 52 = .ok (.aload_n 2, 1) := by decide +kernel
theorem dX4_trip_53 : decode cX4_trip 53 = .ok (.getfield 102, 3) := by decide +kernel
theorem dX4_trip_56 : decode cX4_trip 56 = .ok (.istore_n 3, 1) := by decide +kernel
theorem dX4_trip_57 : decode cX4_trip 57 = .ok (.aload_n 2, 1) := by decide +kernel
theorem dX4_trip_58 : decode cX4_trip 58 = .ok (.invokevirtual 109, 3) := by decide +kernel
theorem dX4_trip_61 : decode cX4_trip 61 = .ok (.iload_n 3, 1) := by decide +kernel
theorem dX4_trip_62 : decode cX4_trip 62 = .ok (.ireturn, 1) := by decide +kernel
theorem dX4_clear_0 : decode cX4_clear 0 = .ok (.aload_n 0, 1) := by decide +kernel
theorem dX4_clear_1 : decode cX4_clear 1 = .ok (.getfield 10, 3) := by decide +kernel
theorem dX4_clear_4 : decode cX4_clear 4 = .ok (.iload_n 1, 1) := by decide +kernel
theorem dX4_clear_5 : decode cX4_clear 5 = .ok (.invokevirtual 93, 3) := by decide +kernel
theorem dX4_clear_8 : decode cX4_clear 8 = .ok (.astore_n 2, 1) := by decide +kernel
theorem dX4_clear_9 : decode cX4_clear 9 = .ok (.aload_n 2, 1) := by decide +kernel
theorem dX4_clear_10 : decode cX4_clear 10 = .ok (.ifnonnull 13, 3) := by decide +kernel
theorem dX4_clear_13 : decode cX4_clear 13 = .ok (.new 97, 3) := by decide +kernel
theorem dX4_clear_16 : decode cX4_clear 16 = .ok (.dup, 1) := by decide +kernel
theorem dX4_clear_17 : decode cX4_clear 17 = .ok (.ldc 99, 2) := by decide +kernel
theorem dX4_clear_19 : decode cX4_clear 19 = .ok (.invokespecial 101, 3) := by decide +kernel
theorem dX4_clear_22 : decode cX4_clear 22 = .ok (.athrow, 1) := by decide +kernel
theorem dX4_clear_23 : decode cX4_clear 23 = .ok (.aload_n 2, 1) := by decide +kernel
