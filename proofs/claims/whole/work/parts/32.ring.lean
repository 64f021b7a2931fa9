/-! ### rings -/
theorem d_RM_placeOfCount_0 : decode b_RM_placeOfCount 0 = .ok (.aload_n 0, 1) := by decide +kernel
theorem d_RM_placeOfCount_1 : decode b_RM_placeOfCount 1 = .ok (.getfield 75, 3) := by decide +kernel
theorem d_RM_placeOfCount_4 : decode b_RM_placeOfCount 4 = .ok (.lload_n 1, 1) := by decide +kernel
theorem d_RM_placeOfCount_5 : decode b_RM_placeOfCount 5 = .ok (.aload_n 0, 1) := by decide +kernel
theorem d_RM_placeOfCount_6 : decode b_RM_placeOfCount 6 = .ok (.getfield 26, 3) := by decide +kernel
theorem d_RM_placeOfCount_9 : decode b_RM_placeOfCount 9 = .ok (.iconst 1, 1) := by decide +kernel
theorem d_RM_placeOfCount_10 : decode b_RM_placeOfCount 10 = .ok (.isub, 1) := by decide +kernel
theorem d_RM_placeOfCount_11 : decode b_RM_placeOfCount 11 = .ok (.i2l, 1) := by decide +kernel
theorem d_RM_placeOfCount_12 : decode b_RM_placeOfCount 12 = .ok (.land, 1) := by decide +kernel
theorem d_RM_placeOfCount_13 : decode b_RM_placeOfCount 13 = .ok (.l2i, 1) := by decide +kernel
theorem d_RM_placeOfCount_14 : decode b_RM_placeOfCount 14 = .ok (.iadd, 1) := by decide +kernel
theorem d_RM_placeOfCount_15 : decode b_RM_placeOfCount 15 = .ok (.ireturn, 1) := by decide +kernel
theorem d_RM_writeRecord_0 : decode b_RM_writeRecord 0 = .ok (.aload_n 0, 1) := by decide +kernel
theorem d_RM_writeRecord_1 : decode b_RM_writeRecord 1 = .ok (.aload_n 0, 1) := by decide +kernel
theorem d_RM_writeRecord_2 : decode b_RM_writeRecord 2 = .ok (.getfield 9, 3) := by decide +kernel
theorem d_RM_writeRecord_5 : decode b_RM_writeRecord 5 = .ok (.invokevirtual 54, 3) := by decide +kernel
theorem d_RM_writeRecord_8 : decode b_RM_writeRecord 8 = .ok (.istore 4, 2) := by decide +kernel
theorem d_RM_writeRecord_10 : decode b_RM_writeRecord 10 = .ok (.aload_n 0, 1) := by decide +kernel
theorem d_RM_writeRecord_11 : decode b_RM_writeRecord 11 = .ok (.getfield 51, 3) := by decide +kernel
theorem d_RM_writeRecord_14 : decode b_RM_writeRecord 14 = .ok (.iload 4, 2) := by decide +kernel
theorem d_RM_writeRecord_16 : decode b_RM_writeRecord 16 = .ok (.iconst 4, 1) := by decide +kernel
theorem d_RM_writeRecord_17 : decode b_RM_writeRecord 17 = .ok (.iload_n 2, 1) := by decide +kernel
theorem d_RM_writeRecord_18 : decode b_RM_writeRecord 18 = .ok (.i2l, 1) := by decide +kernel
theorem d_RM_writeRecord_19 : decode b_RM_writeRecord 19 = .ok (.invokevirtual 71, 3) := by decide +kernel
theorem d_RM_writeRecord_22 : decode b_RM_writeRecord 22 = .ok (.aload_n 0, 1) := by decide +kernel
theorem d_RM_writeRecord_23 : decode b_RM_writeRecord 23 = .ok (.getfield 51, 3) := by decide +kernel
theorem d_RM_writeRecord_26 : decode b_RM_writeRecord 26 = .ok (.iload 4, 2) := by decide +kernel
theorem d_RM_writeRecord_28 : decode b_RM_writeRecord 28 = .ok (.iconst 4, 1) := by decide +kernel
theorem d_RM_writeRecord_29 : decode b_RM_writeRecord 29 = .ok (.iadd, 1) := by decide +kernel
theorem d_RM_writeRecord_30 : decode b_RM_writeRecord 30 = .ok (.iconst 4, 1) := by decide +kernel
theorem d_RM_writeRecord_31 : decode b_RM_writeRecord 31 = .ok (.aload_n 0, 1) := by decide +kernel
theorem d_RM_writeRecord_32 : decode b_RM_writeRecord 32 = .ok (.getfield 18, 3) := by decide +kernel
theorem d_RM_writeRecord_35 : decode b_RM_writeRecord 35 = .ok (.i2l, 1) := by decide +kernel
theorem d_RM_writeRecord_36 : decode b_RM_writeRecord 36 = .ok (.invokevirtual 71, 3) := by decide +kernel
theorem d_RM_writeRecord_39 : decode b_RM_writeRecord 39 = .ok (.iconst 0, 1) := by decide +kernel
theorem d_RM_writeRecord_40 : decode b_RM_writeRecord 40 = .ok (.istore 5, 2) := by decide +kernel
theorem d_RM_writeRecord_42 : decode b_RM_writeRecord 42 = .ok (.iload 5, 2) := by decide +kernel
theorem d_RM_writeRecord_44 : decode b_RM_writeRecord 44 = .ok (.iload_n 3, 1) := by decide +kernel
theorem d_RM_writeRecord_45 : decode b_RM_writeRecord 45 = .ok (.bipush 8, 2) := by decide +kernel
theorem d_RM_writeRecord_47 : decode b_RM_writeRecord 47 = .ok (.isub, 1) := by decide +kernel
theorem d_RM_writeRecord_48 : decode b_RM_writeRecord 48 = .ok (.if_icmp .ge 58, 3) := by decide +kernel
theorem d_RM_writeRecord_51 : decode b_RM_writeRecord 51 = .ok (.iload 5, 2) := by decide +kernel
theorem d_RM_writeRecord_53 : decode b_RM_writeRecord 53 = .ok (.iload_n 2, 1) := by decide +kernel
theorem d_RM_writeRecord_54 : decode b_RM_writeRecord 54 = .ok (.if_icmp .ge 17, 3) := by decide +kernel
theorem d_RM_writeRecord_57 : decode b_RM_writeRecord 57 = .ok (.aload_n 0, 1) := by decide +kernel
theorem d_RM_writeRecord_58 : decode b_RM_writeRecord 58 = .ok (.getfield 33, 3) := by decide +kernel
theorem d_RM_writeRecord_61 : decode b_RM_writeRecord 61 = .ok (.iload_n 1, 1) := by decide +kernel
theorem d_RM_writeRecord_62 : decode b_RM_writeRecord 62 = .ok (.iload 5, 2) := by decide +kernel
theorem d_RM_writeRecord_64 : decode b_RM_writeRecord 64 = .ok (.iadd, 1) := by decide +kernel
theorem d_RM_writeRecord_65 : decode b_RM_writeRecord 65 = .ok (.invokevirtual 64, 3) := by decide +kernel
theorem d_RM_writeRecord_68 : decode b_RM_writeRecord 68 = .ok (.goto 4, 3) := by decide +kernel
theorem d_RM_writeRecord_71 : decode b_RM_writeRecord 71 = .ok (.iconst 0, 1) := by decide +kernel
theorem d_RM_writeRecord_72 : decode b_RM_writeRecord 72 = .ok (.istore 6, 2) := by decide +kernel
theorem d_RM_writeRecord_74 : decode b_RM_writeRecord 74 = .ok (.aload_n 0, 1) := by decide +kernel
theorem d_RM_writeRecord_75 : decode b_RM_writeRecord 75 = .ok (.getfield 51, 3) := by decide +kernel
theorem d_RM_writeRecord_78 : decode b_RM_writeRecord 78 = .ok (.aload_n 0, 1) := by decide +kernel
theorem d_RM_writeRecord_79 : decode b_RM_writeRecord 79 = .ok (.aload_n 0, 1) := by decide +kernel
theorem d_RM_writeRecord_80 : decode b_RM_writeRecord 80 = .ok (.getfield 9, 3) := by decide +kernel
theorem d_RM_writeRecord_83 : decode b_RM_writeRecord 83 = .ok (.ldc2_w 62, 3) := by decide +kernel
theorem d_RM_writeRecord_86 : decode b_RM_writeRecord 86 = .ok (.ladd, 1) := by decide +kernel
theorem d_RM_writeRecord_87 : decode b_RM_writeRecord 87 = .ok (.iload 5, 2) := by decide +kernel
theorem d_RM_writeRecord_89 : decode b_RM_writeRecord 89 = .ok (.i2l, 1) := by decide +kernel
theorem d_RM_writeRecord_90 : decode b_RM_writeRecord 90 = .ok (.ladd, 1) := by decide +kernel
theorem d_RM_writeRecord_91 : decode b_RM_writeRecord 91 = .ok (.invokevirtual 54, 3) := by decide +kernel
theorem d_RM_writeRecord_94 : decode b_RM_writeRecord 94 = .ok (.iload 6, 2) := by decide +kernel
theorem d_RM_writeRecord_96 : decode b_RM_writeRecord 96 = .ok (.i2l, 1) := by decide +kernel
theorem d_RM_writeRecord_97 : decode b_RM_writeRecord 97 = .ok (.invokevirtual 67, 3) := by decide +kernel
theorem d_RM_writeRecord_100 : decode b_RM_writeRecord 100 = .ok (.iinc 5 1, 3) := by decide +kernel
theorem d_RM_writeRecord_103 : decode b_RM_writeRecord 103 = .ok (.goto (-61), 3) := by decide +kernel
theorem d_RM_writeRecord_106 : decode b_RM_writeRecord 106 = .ok (.return_, 1) := by decide +kernel
theorem d_RM_putRecord_0 : decode b_RM_putRecord 0 = .ok (.iload_n 2, 1) := by decide +kernel
theorem d_RM_putRecord_1 : decode b_RM_putRecord 1 = .ok (.i2l, 1) := by decide +kernel
theorem d_RM_putRecord_2 : decode b_RM_putRecord 2 = .ok (.iconst 1, 1) := by decide +kernel
theorem d_RM_putRecord_3 : decode b_RM_putRecord 3 = .ok (.sipush 256, 3) := by decide +kernel
theorem d_RM_putRecord_6 : decode b_RM_putRecord 6 = .ok (.invokestatic 29, 3) := by decide +kernel
theorem d_RM_putRecord_9 : decode b_RM_putRecord 9 = .ok (.ifCond .ne 6, 3) := by decide +kernel
theorem d_RM_putRecord_12 : decode b_RM_putRecord 12 = .ok (.bipush (-22), 2) := by decide +kernel
theorem d_RM_putRecord_14 : decode b_RM_putRecord 14 = .ok (.ireturn, 1) := by decide +kernel
theorem d_RM_putRecord_15 : decode b_RM_putRecord 15 = .ok (.aload_n 0, 1) := by decide +kernel
theorem d_RM_putRecord_16 : decode b_RM_putRecord 16 = .ok (.getfield 33, 3) := by decide +kernel
theorem d_RM_putRecord_19 : decode b_RM_putRecord 19 = .ok (.iload_n 1, 1) := by decide +kernel
theorem d_RM_putRecord_20 : decode b_RM_putRecord 20 = .ok (.iload_n 2, 1) := by decide +kernel
theorem d_RM_putRecord_21 : decode b_RM_putRecord 21 = .ok (.invokevirtual 37, 3) := by decide +kernel
theorem d_RM_putRecord_24 : decode b_RM_putRecord 24 = .ok (.aload_n 0, 1) := by decide +kernel
theorem d_RM_putRecord_25 : decode b_RM_putRecord 25 = .ok (.getfield 22, 3) := by decide +kernel
theorem d_RM_putRecord_28 : decode b_RM_putRecord 28 = .ok (.ifCond .eq 6, 3) := by decide +kernel
theorem d_RM_putRecord_31 : decode b_RM_putRecord 31 = .ok (.bipush (-22), 2) := by decide +kernel
theorem d_RM_putRecord_33 : decode b_RM_putRecord 33 = .ok (.ireturn, 1) := by decide +kernel
theorem d_RM_putRecord_34 : decode b_RM_putRecord 34 = .ok (.iload_n 2, 1) := by decide +kernel
theorem d_RM_putRecord_35 : decode b_RM_putRecord 35 = .ok (.invokestatic 43, 3) := by decide +kernel
theorem d_RM_putRecord_38 : decode b_RM_putRecord 38 = .ok (.istore_n 3, 1) := by decide +kernel
theorem d_RM_putRecord_39 : decode b_RM_putRecord 39 = .ok (.aload_n 0, 1) := by decide +kernel
theorem d_RM_putRecord_40 : decode b_RM_putRecord 40 = .ok (.getfield 9, 3) := by decide +kernel
theorem d_RM_putRecord_43 : decode b_RM_putRecord 43 = .ok (.aload_n 0, 1) := by decide +kernel
theorem d_RM_putRecord_44 : decode b_RM_putRecord 44 = .ok (.getfield 15, 3) := by decide +kernel
theorem d_RM_putRecord_47 : decode b_RM_putRecord 47 = .ok (.lsub, 1) := by decide +kernel
theorem d_RM_putRecord_48 : decode b_RM_putRecord 48 = .ok (.iload_n 3, 1) := by decide +kernel
theorem d_RM_putRecord_49 : decode b_RM_putRecord 49 = .ok (.i2l, 1) := by decide +kernel
theorem d_RM_putRecord_50 : decode b_RM_putRecord 50 = .ok (.ladd, 1) := by decide +kernel
theorem d_RM_putRecord_51 : decode b_RM_putRecord 51 = .ok (.aload_n 0, 1) := by decide +kernel
theorem d_RM_putRecord_52 : decode b_RM_putRecord 52 = .ok (.getfield 26, 3) := by decide +kernel
theorem d_RM_putRecord_55 : decode b_RM_putRecord 55 = .ok (.i2l, 1) := by decide +kernel
theorem d_RM_putRecord_56 : decode b_RM_putRecord 56 = .ok (.lcmp, 1) := by decide +kernel
theorem d_RM_putRecord_57 : decode b_RM_putRecord 57 = .ok (.ifCond .le 6, 3) := by decide +kernel
theorem d_RM_putRecord_60 : decode b_RM_putRecord 60 = .ok (.bipush (-11), 2) := by decide +kernel
theorem d_RM_putRecord_62 : decode b_RM_putRecord 62 = .ok (.ireturn, 1) := by decide +kernel
theorem d_RM_putRecord_63 : decode b_RM_putRecord 63 = .ok (.aload_n 0, 1) := by decide +kernel
theorem d_RM_putRecord_64 : decode b_RM_putRecord 64 = .ok (.iload_n 1, 1) := by decide +kernel
theorem d_RM_putRecord_65 : decode b_RM_putRecord 65 = .ok (.iload_n 2, 1) := by decide +kernel
theorem d_RM_putRecord_66 : decode b_RM_putRecord 66 = .ok (.iload_n 3, 1) := by decide +kernel
theorem d_RM_putRecord_67 : decode b_RM_putRecord 67 = .ok (.invokevirtual 47, 3) := by decide +kernel
theorem d_RM_putRecord_70 : decode b_RM_putRecord 70 = .ok (.aload_n 0, 1) := by decide +kernel
theorem d_RM_putRecord_71 : decode b_RM_putRecord 71 = .ok (.dup, 1) := by decide +kernel
theorem d_RM_putRecord_72 : decode b_RM_putRecord 72 = .ok (.getfield 9, 3) := by decide +kernel
theorem d_RM_putRecord_75 : decode b_RM_putRecord 75 = .ok (.iload_n 3, 1) := by decide +kernel
theorem d_RM_putRecord_76 : decode b_RM_putRecord 76 = .ok (.i2l, 1) := by decide +kernel
theorem d_RM_putRecord_77 : decode b_RM_putRecord 77 = .ok (.ladd, 1) := by decide +kernel
theorem d_RM_putRecord_78 : decode b_RM_putRecord 78 = .ok (.putfield 9, 3) := by decide +kernel
theorem d_RM_putRecord_81 : decode b_RM_putRecord 81 = .ok (.aload_n 0, 1) := by decide +kernel
theorem d_RM_putRecord_82 : decode b_RM_putRecord 82 = .ok (.dup, 1) := by decide +kernel
theorem d_RM_putRecord_83 : decode b_RM_putRecord 83 = .ok (.getfield 18, 3) := by decide +kernel
theorem d_RM_putRecord_86 : decode b_RM_putRecord 86 = .ok (.iconst 1, 1) := by decide +kernel
theorem d_RM_putRecord_87 : decode b_RM_putRecord 87 = .ok (.iadd, 1) := by decide +kernel
theorem d_RM_putRecord_88 : decode b_RM_putRecord 88 = .ok (.putfield 18, 3) := by decide +kernel
theorem d_RM_putRecord_91 : decode b_RM_putRecord 91 = .ok (.iconst 0, 1) := by decide +kernel
theorem d_RM_putRecord_92 : decode b_RM_putRecord 92 = .ok (.ireturn, 1) := by decide +kernel
theorem d_RM_takeRecord_0 : decode b_RM_takeRecord 0 = .ok (.aload_n 0, 1) := by decide +kernel
theorem d_RM_takeRecord_1 : decode b_RM_takeRecord 1 = .ok (.getfield 22, 3) := by decide +kernel
theorem d_RM_takeRecord_4 : decode b_RM_takeRecord 4 = .ok (.ifCond .eq 6, 3) := by decide +kernel
theorem d_RM_takeRecord_7 : decode b_RM_takeRecord 7 = .ok (.bipush (-22), 2) := by decide +kernel
theorem d_RM_takeRecord_9 : decode b_RM_takeRecord 9 = .ok (.ireturn, 1) := by decide +kernel
theorem d_RM_takeRecord_10 : decode b_RM_takeRecord 10 = .ok (.aload_n 0, 1) := by decide +kernel
theorem d_RM_takeRecord_11 : decode b_RM_takeRecord 11 = .ok (.getfield 9, 3) := by decide +kernel
theorem d_RM_takeRecord_14 : decode b_RM_takeRecord 14 = .ok (.aload_n 0, 1) := by decide +kernel
theorem d_RM_takeRecord_15 : decode b_RM_takeRecord 15 = .ok (.getfield 15, 3) := by decide +kernel
theorem d_RM_takeRecord_18 : decode b_RM_takeRecord 18 = .ok (.lcmp, 1) := by decide +kernel
theorem d_RM_takeRecord_19 : decode b_RM_takeRecord 19 = .ok (.ifCond .ne 6, 3) := by decide +kernel
theorem d_RM_takeRecord_22 : decode b_RM_takeRecord 22 = .ok (.bipush (-2), 2) := by decide +kernel
theorem d_RM_takeRecord_24 : decode b_RM_takeRecord 24 = .ok (.ireturn, 1) := by decide +kernel
theorem d_RM_takeRecord_25 : decode b_RM_takeRecord 25 = .ok (.aload_n 0, 1) := by decide +kernel
theorem d_RM_takeRecord_26 : decode b_RM_takeRecord 26 = .ok (.getfield 51, 3) := by decide +kernel
theorem d_RM_takeRecord_29 : decode b_RM_takeRecord 29 = .ok (.aload_n 0, 1) := by decide +kernel
theorem d_RM_takeRecord_30 : decode b_RM_takeRecord 30 = .ok (.aload_n 0, 1) := by decide +kernel
theorem d_RM_takeRecord_31 : decode b_RM_takeRecord 31 = .ok (.getfield 15, 3) := by decide +kernel
theorem d_RM_takeRecord_34 : decode b_RM_takeRecord 34 = .ok (.invokevirtual 54, 3) := by decide +kernel
theorem d_RM_takeRecord_37 : decode b_RM_takeRecord 37 = .ok (.iconst 4, 1) := by decide +kernel
theorem d_RM_takeRecord_38 : decode b_RM_takeRecord 38 = .ok (.invokevirtual 58, 3) := by decide +kernel
theorem d_RM_takeRecord_41 : decode b_RM_takeRecord 41 = .ok (.lstore_n 2, 1) := by decide +kernel
theorem d_RM_takeRecord_42 : decode b_RM_takeRecord 42 = .ok (.lload_n 2, 1) := by decide +kernel
theorem d_RM_takeRecord_43 : decode b_RM_takeRecord 43 = .ok (.iconst 1, 1) := by decide +kernel
theorem d_RM_takeRecord_44 : decode b_RM_takeRecord 44 = .ok (.sipush 256, 3) := by decide +kernel
theorem d_RM_takeRecord_47 : decode b_RM_takeRecord 47 = .ok (.invokestatic 29, 3) := by decide +kernel
theorem d_RM_takeRecord_50 : decode b_RM_takeRecord 50 = .ok (.ifCond .eq 22, 3) := by decide +kernel
theorem d_RM_takeRecord_53 : decode b_RM_takeRecord 53 = .ok (.lload_n 2, 1) := by decide +kernel
theorem d_RM_takeRecord_54 : decode b_RM_takeRecord 54 = .ok (.l2i, 1) := by decide +kernel
theorem d_RM_takeRecord_55 : decode b_RM_takeRecord 55 = .ok (.invokestatic 43, 3) := by decide +kernel
theorem d_RM_takeRecord_58 : decode b_RM_takeRecord 58 = .ok (.i2l, 1) := by decide +kernel
theorem d_RM_takeRecord_59 : decode b_RM_takeRecord 59 = .ok (.aload_n 0, 1) := by decide +kernel
theorem d_RM_takeRecord_60 : decode b_RM_takeRecord 60 = .ok (.getfield 9, 3) := by decide +kernel
theorem d_RM_takeRecord_63 : decode b_RM_takeRecord 63 = .ok (.aload_n 0, 1) := by decide +kernel
theorem d_RM_takeRecord_64 : decode b_RM_takeRecord 64 = .ok (.getfield 15, 3) := by decide +kernel
theorem d_RM_takeRecord_67 : decode b_RM_takeRecord 67 = .ok (.lsub, 1) := by decide +kernel
theorem d_RM_takeRecord_68 : decode b_RM_takeRecord 68 = .ok (.lcmp, 1) := by decide +kernel
theorem d_RM_takeRecord_69 : decode b_RM_takeRecord 69 = .ok (.ifCond .le 11, 3) := by decide +kernel
theorem d_RM_takeRecord_72 : decode b_RM_takeRecord 72 = .ok (.aload_n 0, 1) := by decide +kernel
theorem d_RM_takeRecord_73 : decode b_RM_takeRecord 73 = .ok (.iconst 1, 1) := by decide +kernel
theorem d_RM_takeRecord_74 : decode b_RM_takeRecord 74 = .ok (.putfield 22, 3) := by decide +kernel
theorem d_RM_takeRecord_77 : decode b_RM_takeRecord 77 = .ok (.bipush (-22), 2) := by decide +kernel
theorem d_RM_takeRecord_79 : decode b_RM_takeRecord 79 = .ok (.ireturn, 1) := by decide +kernel
theorem d_RM_takeRecord_80 : decode b_RM_takeRecord 80 = .ok (.lload_n 2, 1) := by decide +kernel
theorem d_RM_takeRecord_81 : decode b_RM_takeRecord 81 = .ok (.l2i, 1) := by decide +kernel
theorem d_RM_takeRecord_82 : decode b_RM_takeRecord 82 = .ok (.istore 4, 2) := by decide +kernel
theorem d_RM_takeRecord_84 : decode b_RM_takeRecord 84 = .ok (.aload_n 0, 1) := by decide +kernel
theorem d_RM_takeRecord_85 : decode b_RM_takeRecord 85 = .ok (.getfield 33, 3) := by decide +kernel
theorem d_RM_takeRecord_88 : decode b_RM_takeRecord 88 = .ok (.iload_n 1, 1) := by decide +kernel
theorem d_RM_takeRecord_89 : decode b_RM_takeRecord 89 = .ok (.iload 4, 2) := by decide +kernel
theorem d_RM_takeRecord_91 : decode b_RM_takeRecord 91 = .ok (.invokevirtual 37, 3) := by decide +kernel
theorem d_RM_takeRecord_94 : decode b_RM_takeRecord 94 = .ok (.iconst 0, 1) := by decide +kernel
theorem d_RM_takeRecord_95 : decode b_RM_takeRecord 95 = .ok (.istore 5, 2) := by decide +kernel
theorem d_RM_takeRecord_97 : decode b_RM_takeRecord 97 = .ok (.iload 5, 2) := by decide +kernel
theorem d_RM_takeRecord_99 : decode b_RM_takeRecord 99 = .ok (.iload 4, 2) := by decide +kernel
theorem d_RM_takeRecord_101 : decode b_RM_takeRecord 101 = .ok (.if_icmp .ge 44, 3) := by decide +kernel
theorem d_RM_takeRecord_104 : decode b_RM_takeRecord 104 = .ok (.aload_n 0, 1) := by decide +kernel
theorem d_RM_takeRecord_105 : decode b_RM_takeRecord 105 = .ok (.getfield 33, 3) := by decide +kernel
theorem d_RM_takeRecord_108 : decode b_RM_takeRecord 108 = .ok (.iload_n 1, 1) := by decide +kernel
theorem d_RM_takeRecord_109 : decode b_RM_takeRecord 109 = .ok (.iload 5, 2) := by decide +kernel
theorem d_RM_takeRecord_111 : decode b_RM_takeRecord 111 = .ok (.iadd, 1) := by decide +kernel
theorem d_RM_takeRecord_112 : decode b_RM_takeRecord 112 = .ok (.aload_n 0, 1) := by decide +kernel
theorem d_RM_takeRecord_113 : decode b_RM_takeRecord 113 = .ok (.getfield 51, 3) := by decide +kernel
theorem d_RM_takeRecord_116 : decode b_RM_takeRecord 116 = .ok (.aload_n 0, 1) := by decide +kernel
theorem d_RM_takeRecord_117 : decode b_RM_takeRecord 117 = .ok (.aload_n 0, 1) := by decide +kernel
theorem d_RM_takeRecord_118 : decode b_RM_takeRecord 118 = .ok (.getfield 15, 3) := by decide +kernel
theorem d_RM_takeRecord_121 : decode b_RM_takeRecord 121 = .ok (.ldc2_w 62, 3) := by decide +kernel
theorem d_RM_takeRecord_124 : decode b_RM_takeRecord 124 = .ok (.ladd, 1) := by decide +kernel
theorem d_RM_takeRecord_125 : decode b_RM_takeRecord 125 = .ok (.iload 5, 2) := by decide +kernel
theorem d_RM_takeRecord_127 : decode b_RM_takeRecord 127 = .ok (.i2l, 1) := by decide +kernel
theorem d_RM_takeRecord_128 : decode b_RM_takeRecord 128 = .ok (.ladd, 1) := by decide +kernel
theorem d_RM_takeRecord_129 : decode b_RM_takeRecord 129 = .ok (.invokevirtual 54, 3) := by decide +kernel
theorem d_RM_takeRecord_132 : decode b_RM_takeRecord 132 = .ok (.invokevirtual 64, 3) := by decide +kernel
theorem d_RM_takeRecord_135 : decode b_RM_takeRecord 135 = .ok (.i2l, 1) := by decide +kernel
theorem d_RM_takeRecord_136 : decode b_RM_takeRecord 136 = .ok (.invokevirtual 67, 3) := by decide +kernel
theorem d_RM_takeRecord_139 : decode b_RM_takeRecord 139 = .ok (.iinc 5 1, 3) := by decide +kernel
theorem d_RM_takeRecord_142 : decode b_RM_takeRecord 142 = .ok (.goto (-45), 3) := by decide +kernel
theorem d_RM_takeRecord_145 : decode b_RM_takeRecord 145 = .ok (.aload_n 0, 1) := by decide +kernel
theorem d_RM_takeRecord_146 : decode b_RM_takeRecord 146 = .ok (.dup, 1) := by decide +kernel
theorem d_RM_takeRecord_147 : decode b_RM_takeRecord 147 = .ok (.getfield 15, 3) := by decide +kernel
theorem d_RM_takeRecord_150 : decode b_RM_takeRecord 150 = .ok (.iload 4, 2) := by decide +kernel
theorem d_RM_takeRecord_152 : decode b_RM_takeRecord 152 = .ok (.invokestatic 43, 3) := by decide +kernel
theorem d_RM_takeRecord_155 : decode b_RM_takeRecord 155 = .ok (.i2l, 1) := by decide +kernel
theorem d_RM_takeRecord_156 : decode b_RM_takeRecord 156 = .ok (.ladd, 1) := by decide +kernel
theorem d_RM_takeRecord_157 : decode b_RM_takeRecord 157 = .ok (.putfield 15, 3) := by decide +kernel
theorem d_RM_takeRecord_160 : decode b_RM_takeRecord 160 = .ok (.iload 4, 2) := by decide +kernel
theorem d_RM_takeRecord_162 : decode b_RM_takeRecord 162 = .ok (.ireturn, 1) := by decide +kernel
theorem uN_lN {n : Nat} (h : n < 2 ^ 64) : uN (lN n) = n := wb_tn h
theorem p2_8 {n : Nat} (h : ∃ p, 6 ≤ p ∧ p ≤ 14 ∧ n = 2 ^ p) : n % 8 = 0 ∧ 64 ≤ n ∧ n ≤ 16384 := by
  obtain ⟨p, h1, h2, rfl⟩ := h
  rcases (by omega : p = 6 ∨ p = 7 ∨ p = 8 ∨ p = 9 ∨ p = 10 ∨ p = 11 ∨ p = 12 ∨ p = 13 ∨ p = 14) with h | h | h | h | h | h | h | h | h <;> subst h <;> decide
theorem rng_lin {f : Nat → Nat} {b n h : Nat} {v : Nat → Nat} (hn : 0 < n) : ∀ {k : Nat}, h % n + k ≤ n → ∀ x, rng f b n h v k x = if b + h % n ≤ x ∧ x < b + h % n + k then v (x - (b + h % n)) else f x
  | 0, _, x => by rw [if_neg (by omega)]; rfl
  | k + 1, hk, x => by
    have hm : (h + k) % n = h % n + k := by rw [Nat.add_mod, Nat.mod_eq_of_lt (a := k) (by omega), Nat.mod_eq_of_lt (by omega)]
    show (if x = b + (h + k) % n then v k else rng f b n h v k x) = _
    rw [hm, rng_lin hn (by omega) x]
    by_cases e : x = b + (h % n + k)
    · rw [if_pos e, if_pos (by omega)]
      congr 1; omega
    · rw [if_neg e]
      by_cases e2 : b + h % n ≤ x ∧ x < b + h % n + k
      · rw [if_pos e2, if_pos (by omega)]
      · rw [if_neg e2, if_neg (by omega)]
theorem mod8 {h n : Nat} (h8 : h % 8 = 0) (n8 : n % 8 = 0) (hn : 0 < n) : h % n + 8 ≤ n := by
  have h1 := Nat.mod_lt h hn
  have h2 : h % n % 8 = 0 := by rw [Nat.mod_mod_of_dvd h (Nat.dvd_of_mod_eq_zero n8)]; exact h8
  omega
set_option maxRecDepth 100000 in
set_option maxHeartbeats 4000000 in
theorem c_RM_placeOfCount (l : Launch) (D : va_G) (dA : Nat → ClassId) {w : mw_W} {a bd ba b n cc : Nat} {v1 v2 : Int64} {v3 v4 : Int32} (f0 : w a = some (.inr (cRM, [.ref bd, .ref ba, .int (nI b), .int (nI n), .long v1, .long v2, .int v3, .int v4]))) (hp : ∃ p, 6 ≤ p ∧ p ≤ 14 ∧ n = 2 ^ p) (hc : cc < 2 ^ 30) : CT l D dA y_RM_placeOfCount (Cond.code y_RM_placeOfCount b_RM_placeOfCount 3 (some .int) :: Ts) 0 0 0 0 [.ref a, .long (lN cc)] w (fun r w' => r = .inl (some (.int (nI (b + cc % n)))) ∧ w' = w) := by
  refine mw_meth (by decide) mk_tb (Nat.le_of_ble_eq_true rfl) ?_
  intro p e s m below meth c K hr hlk hce hnm hP0 hSy ls hl
  have hl : lv_has ls 3 [(0, .ref a), (1, .long (lN cc))] := hl
  obtain ⟨hx, hb, hml, hown, hts, hK, hTb⟩ := id K
  have hI := mw_I.start hP0
  have hn := p2_8 hp
  obtain ⟨p2, hp6, hp14, hpn⟩ := hp
  refine lv_aload_n hx hb d_RM_placeOfCount_0 rfl (lv_at hl 0 rfl) ?_
  refine mw_get K hI gf_RM_75_cRM f0 rfl d_RM_placeOfCount_1 ?_
  refine lv_lload_n hx hb d_RM_placeOfCount_4 rfl (lv_at hl 1 rfl) ?_
  refine lv_aload_n hx hb d_RM_placeOfCount_5 rfl (lv_at hl 0 rfl) ?_
  refine mw_get K hI gf_RM_26_cRM f0 rfl d_RM_placeOfCount_6 ?_
  refine lv_iconst (v := nI 1) hx hb d_RM_placeOfCount_9 (by decide) ?_
  refine lv_isub hx hb d_RM_placeOfCount_10 ?_
  refine mw_ti (pk_sub (by omega)) ?_
  refine lv_i2l hx hb d_RM_placeOfCount_11 rfl ?_
  refine mw_tl (nI_l (by omega)) ?_
  refine lv_land hx hb d_RM_placeOfCount_12 ?_
  refine mw_tl (y := lN (cc % n)) ((by rw [hpn, wb_mask (by omega) (by omega)])) ?_
  refine lv_l2i hx hb d_RM_placeOfCount_13 rfl ?_
  refine mw_ti (lN_i _) ?_
  refine lv_iadd hx hb d_RM_placeOfCount_14 ?_
  refine mw_ti (nI_add _ _) ?_
  exact mw_iret K hI hr hlk ⟨rfl, rfl⟩ d_RM_placeOfCount_15
set_option maxRecDepth 100000 in
set_option maxHeartbeats 4000000 in
theorem c_RM_writeRecord (l : Launch) (D : va_G) (dA : Nat → ClassId) {w : mw_W} {own : as_W} {x bd xd ba xa ra : Nat} {mp : Nat → Nat} {gd ga : Nat → Int64} {S : as_S} {t : Nat} (hA : rc_A dA w own x bd xd ba xa ra mp gd ga S) (hW : wf_S t S) {i : Nat} (hi : i < nm S) (ht : t ≤ 512) (hk : kd (mm S i) = 2) {q z : Nat} (hz : 1 ≤ z ∧ z ≤ 256) (hq0 : q + z ≤ 512) : CT l D dA y_RM_writeRecord (Cond.code y_RM_writeRecord b_RM_writeRecord 7 none :: Ts) 3 100 0 0 [.ref (mp i), .int (nI q), .int (nI z), .int (nI (up8 (8 + z)))] w (fun r w' => r = .inl none ∧ ∃ g', w' = mw_up w xa (by_a dA 65536 g') ∧ ∀ j, j < 65536 → bw_b g' j = rng (ar S) (bg (mm S i)) (en (mm S i)) (hd (mm S i)) (rcB (dk S) z (rc (mm S i)) q) (up8 (8 + z)) j) := by
  refine mw_meth (by decide) mk_tb (Nat.le_of_ble_eq_true rfl) ?_
  intro p e s m below meth c K hr hlk hce hnm hP0 hSy ls hl
  have hl : lv_has ls 7 [(0, .ref (mp i)), (1, .int (nI q)), (2, .int (nI z)), (3, .int (nI (up8 (8 + z))))] := hl
  obtain ⟨hx, hb, hml, hown, hts, hK, hTb⟩ := id K
  have hI := mw_I.start hP0
  obtain ⟨⟨o1, o2, o3, o4, fx, fd, fa, fr, hdk, har⟩, hM⟩ := id hA
  obtain ⟨r1, r2, r3, r4, r5, r6, r7, r8, r9⟩ := wf_R (hW.2.2.2.2.2 i hi) hk
  obtain ⟨om, f0⟩ := rc_RM (hA.2 i hi) hk
  obtain ⟨mi, em⟩ : ∃ mi, mi = mm S i := ⟨_, rfl⟩
  rw [← em] at f0 r1 r2 r3 r4 r5 r6 r7 r8 r9
  have p8 := p2_8 r2
  have u8 := up8_ge (8 + z)
  have hm8 := mod8 r6 p8.1 (by omega)
  have hup : ∀ g1, (mw_up w xa (by_a dA 65536 g1)) (mp i) = some (.inr (cRM, [.ref bd, .ref ba, .int (nI (bg mi)), .int (nI (en mi)), .long (lN (hd mi)), .long (lN (tl mi)), .int (nI (rc mi)), .int (nI (if bk mi = true then 1 else 0))])) := fun g1 => (mw_up_n _ _ (mw_neA f0 fa.2)).trans f0
  have hdu : ∀ g1, by_ok dA (mw_up w xa (by_a dA 65536 g1)) bd xd 512 gd := fun g1 => fd.keep (mw_neA fd.1 fa.2) (own_ne o2 o3 (by decide))
  have hloop : ∀ (n9 j : Nat), j + n9 = up8 (8 + z) - 8 → ∀ (g1 : Nat → Int64), (∀ y, y < 65536 → bw_b g1 y = rng (ar S) (bg mi) (en mi) (hd mi) (rcB (dk S) z (rc mi) q) (8 + j) y) → ∀ (H : Heap) (locs : List Loc), mw_I D mk_cl w s.heap (mw_up w xa (by_a dA 65536 g1)) H locs → ∀ ls : Array Slot, lv_has ls 7 [(5, .int (nI j)), (0, .ref (mp i)), (1, .int (nI q)), (2, .int (nI z)), (3, .int (nI (up8 (8 + z))))] → W p l e { frames := 3, cells := 0, slots := 0, locals := 100 } s m ([.ref (mp i), .int (nI q), .int (nI z), .int (nI (up8 (8 + z)))] : List Value).toArray below meth c H locs 0 0 (mx_Q below (mw_Qc D mk_cl w s.heap.size (fun r w' => r = .inl none ∧ ∃ g', w' = mw_up w xa (by_a dA 65536 g') ∧ ∀ j, j < 65536 → bw_b g' j = rng (ar S) (bg (mm S i)) (en (mm S i)) (hd (mm S i)) (rcB (dk S) z (rc (mm S i)) q) (up8 (8 + z)) j)) ([.ref (mp i), .int (nI q), .int (nI z), .int (nI (up8 (8 + z)))] : List Value).toArray s 0 0 (mw_A w s.heap.size)) (F0 m 42 ls []) := by
    intro n9
    induction n9 with
    | zero =>
      intro j hj g1 hg H locs hI ls hl
      refine lv_iload hx hb d_RM_writeRecord_42 (lv_at hl 0 rfl) ?_
      refine lv_iload_n hx hb d_RM_writeRecord_44 rfl (lv_at hl 4 rfl) ?_
      refine lv_bipush (v := nI 8) hx hb d_RM_writeRecord_45 (by decide) ?_
      refine lv_isub hx hb d_RM_writeRecord_47 ?_
      refine mw_ti (pk_sub (by omega)) ?_
      refine lv_icmp_ge (tgt := 106) hx hb d_RM_writeRecord_48 (by decide) (fun c48 => ?_) (fun c48 => ?_)
      ·
        have e9 : 8 + j = up8 (8 + z) := by omega
        rw [e9] at hg
        exact mw_vret K hI hr hlk ⟨rfl, g1, rfl, by rw [← em]; exact hg⟩ d_RM_writeRecord_106
      ·
        exact absurd (nI_le (by omega) (by omega)) c48
    | succ n9 ih =>
      intro j hj g1 hg H locs hI ls hl
      have f1 := hup g1
      have fd1 := hdu g1
      have fa1 := fa.up g1
      have hpl : bg mi + (hd mi + 8 + j) % en mi < 65536 := by
        have := Nat.mod_lt (hd mi + 8 + j) (show 0 < en mi by omega)
        omega
      have rest : ∀ (b0 : Nat), b0 < 256 → rcB (dk S) z (rc mi) q (8 + j) = b0 → ∀ (H : Heap) (locs : List Loc), mw_I D mk_cl w s.heap (mw_up w xa (by_a dA 65536 g1)) H locs → ∀ ls : Array Slot, lv_has ls 7 [(5, .int (nI j)), (0, .ref (mp i)), (1, .int (nI q)), (2, .int (nI z)), (3, .int (nI (up8 (8 + z))))] → W p l e { frames := 3, cells := 0, slots := 0, locals := 100 } s m ([.ref (mp i), .int (nI q), .int (nI z), .int (nI (up8 (8 + z)))] : List Value).toArray below meth c H locs 0 0 (mx_Q below (mw_Qc D mk_cl w s.heap.size (fun r w' => r = .inl none ∧ ∃ g', w' = mw_up w xa (by_a dA 65536 g') ∧ ∀ j, j < 65536 → bw_b g' j = rng (ar S) (bg (mm S i)) (en (mm S i)) (hd (mm S i)) (rcB (dk S) z (rc (mm S i)) q) (up8 (8 + z)) j)) ([.ref (mp i), .int (nI q), .int (nI z), .int (nI (up8 (8 + z)))] : List Value).toArray s 0 0 (mw_A w s.heap.size)) (F0 m 72 ls [.int (nI b0)]) := by
        intro b0 hb0 hrb H locs hI ls hl
        refine lv_istore (lv' := [(6, .int (nI b0)), (5, .int (nI j)), (0, .ref (mp i)), (1, .int (nI q)), (2, .int (nI z)), (3, .int (nI (up8 (8 + z))))]) hx hb d_RM_writeRecord_72 hl (by decide) rfl (fun ls hl => ?_)
        refine lv_aload_n hx hb d_RM_writeRecord_74 rfl (lv_at hl 2 rfl) ?_
        refine mw_get K hI gf_RM_51_cRM f1 rfl d_RM_writeRecord_75 ?_
        refine lv_aload_n hx hb d_RM_writeRecord_78 rfl (lv_at hl 2 rfl) ?_
        refine lv_aload_n hx hb d_RM_writeRecord_79 rfl (lv_at hl 2 rfl) ?_
        refine mw_get K hI gf_RM_9_cRM f1 rfl d_RM_writeRecord_80 ?_
        refine lv_ldc2 (v := lN 8) hx hb hown (hts _ tw_555) d_RM_writeRecord_83 ?_
        refine lv_ladd hx hb d_RM_writeRecord_86 ?_
        refine mw_tl (lN_add _ _) ?_
        refine lv_iload hx hb d_RM_writeRecord_87 (lv_at hl 1 rfl) ?_
        refine lv_i2l hx hb d_RM_writeRecord_89 rfl ?_
        refine mw_tl (nI_l (by omega)) ?_
        refine lv_ladd hx hb d_RM_writeRecord_90 ?_
        refine mw_tl (lN_add _ _) ?_
        refine mw_call (rest := [.ref ba]) K hSy hP0 hI (c_RM_placeOfCount l D dA f1 r2 (cc := hd mi + 8 + j) (by omega)) (mx_invV hx hown (hts _ tw_549) (hts _ tw_551) (hts _ tw_7) (hts _ tw_552) (by decide) (b := (mp i)) (mw_rc K hI f1 rfl) (g := F0 m 91 ls [.long (lN (((hd mi) + 8) + j)), .ref (mp i), .ref ba]) rfl (argsL := [.long (lN (((hd mi) + 8) + j))]) (rest := [.ref ba]) np_RM_placeOfCount rfl (by rw [hb]; exact d_RM_writeRecord_91)) hl.1 d_RM_writeRecord_91 ⟨Nat.le_of_ble_eq_true rfl, Nat.le_of_ble_eq_true rfl⟩ (Or.inl ⟨_, _, List.mem_cons_self⟩) (mk_ws tw_552 hts) (fun a9 U9 h9 => Ts_warm hts _ tw_34 a9 U9 h9) ⟨Nat.le_of_ble_eq_true rfl, Nat.le_of_ble_eq_true rfl⟩ (fun v w' H locs hq hI => ?_) (fun k x w' H locs hq hI hX => ?_)
        · obtain ⟨hq1, hq2⟩ := hq
          cases hq1
          rw [hq2] at hI
          refine W.eq (g2 := F0 m 94 ls [.int (nI (bg mi + (hd mi + 8 + j) % en mi)), .ref ba]) rfl ?_
          refine lv_iload hx hb d_RM_writeRecord_94 (lv_at hl 0 rfl) ?_
          refine lv_i2l hx hb d_RM_writeRecord_96 rfl ?_
          refine mw_tl (nI_l (by omega)) ?_
          refine mw_call (rest := []) K hSy hP0 hI (c_BY_setByte l D dA fa1 (by decide) (i := bg mi + (hd mi + 8 + j) % en mi) hpl (lN b0)) (mx_invV hx hown (hts _ tw_556) (hts _ tw_402) (hts _ tw_403) (hts _ tw_404) (by decide) (b := ba) (mw_rc K hI fa1.1 rfl) (g := F0 m 97 ls [.long (lN b0), .int (nI (bg mi + (hd mi + 8 + j) % en mi)), .ref ba]) rfl (argsL := [.int (nI (bg mi + (hd mi + 8 + j) % en mi)), .long (lN b0)]) (rest := []) np_BY_setByte rfl (by rw [hb]; exact d_RM_writeRecord_97)) hl.1 d_RM_writeRecord_97 ⟨Nat.le_of_ble_eq_true rfl, Nat.le_of_ble_eq_true rfl⟩ (Or.inl ⟨_, _, List.mem_cons_self⟩) (mk_ws tw_404 hts) (fun a9 U9 h9 => Ts_warm hts _ tw_22 a9 U9 h9) ⟨Nat.le_of_ble_eq_true rfl, Nat.le_of_ble_eq_true rfl⟩ (fun v w' H locs hq hI => ?_) (fun k x w' H locs hq hI hX => ?_)
          · obtain ⟨hq1, hq2⟩ := hq
            cases hq1
            rw [hq2, mw_uu] at hI
            refine W.eq (g2 := F0 m 100 ls []) rfl ?_
            refine lv_iinc (v := nI (j + 1)) (lv' := [(5, .int (nI (j + 1))), (6, .int (nI b0)), (0, .ref (mp i)), (1, .int (nI q)), (2, .int (nI z)), (3, .int (nI (up8 (8 + z))))]) hx hb d_RM_writeRecord_100 hl (k := 1) rfl (nI_add _ _) (by decide) rfl (fun ls hl => ?_)
            refine lv_goto (tgt := 42) hx hb d_RM_writeRecord_103 (by decide) ?_
            refine ih (j + 1) (by omega) _ (fun y hy => ?_) H locs hI ls (lv_sub hl [0, 2, 3, 4, 5] rfl)
            rw [bw_sb, uN_lN (by omega), Nat.mod_eq_of_lt hb0]
            show _ = nup (rng (ar S) (bg mi) (en mi) (hd mi) (rcB (dk S) z (rc mi) q) (8 + j)) (bg mi + (hd mi + (8 + j)) % en mi) (rcB (dk S) z (rc mi) q (8 + j)) y
            unfold nup
            rw [hrb, ← Nat.add_assoc, hg y hy]
          · exact absurd hq.1 (by simp)
        · exact absurd hq.1 (by simp)
      refine lv_iload hx hb d_RM_writeRecord_42 (lv_at hl 0 rfl) ?_
      refine lv_iload_n hx hb d_RM_writeRecord_44 rfl (lv_at hl 4 rfl) ?_
      refine lv_bipush (v := nI 8) hx hb d_RM_writeRecord_45 (by decide) ?_
      refine lv_isub hx hb d_RM_writeRecord_47 ?_
      refine mw_ti (pk_sub (by omega)) ?_
      refine lv_icmp_ge (tgt := 106) hx hb d_RM_writeRecord_48 (by decide) (fun c48 => ?_) (fun c48 => ?_)
      ·
        exact absurd c48 (nI_ge (by omega) (by omega))
      ·
        refine lv_iload hx hb d_RM_writeRecord_51 (lv_at hl 0 rfl) ?_
        refine lv_iload_n hx hb d_RM_writeRecord_53 rfl (lv_at hl 3 rfl) ?_
        refine lv_icmp_ge (tgt := 71) hx hb d_RM_writeRecord_54 (by decide) (fun c54 => ?_) (fun c54 => ?_)
        ·
          have hge : z ≤ j := (nI_leI (by omega) (by omega)).mp c54
          refine lv_iconst (v := nI 0) hx hb d_RM_writeRecord_71 (by decide) ?_
          refine rest 0 (by decide) ?_ H locs hI ls hl
          unfold rcB
          rw [if_neg (by omega), if_neg (by omega), if_neg (by omega)]
        ·
          have hlt : j < z := Nat.lt_of_not_le (fun h => c54 ((nI_leI (by omega) (by omega)).mpr h))
          refine lv_aload_n hx hb d_RM_writeRecord_57 rfl (lv_at hl 1 rfl) ?_
          refine mw_get K hI gf_RM_33_cRM f1 rfl d_RM_writeRecord_58 ?_
          refine lv_iload_n hx hb d_RM_writeRecord_61 rfl (lv_at hl 2 rfl) ?_
          refine lv_iload hx hb d_RM_writeRecord_62 (lv_at hl 0 rfl) ?_
          refine lv_iadd hx hb d_RM_writeRecord_64 ?_
          refine mw_ti (nI_add _ _) ?_
          refine mw_call (rest := []) K hSy hP0 hI (c_BY_byteAt l D dA fd1 (by decide) (i := q + j) (by omega)) (mx_invV hx hown (hts _ tw_554) (hts _ tw_384) (hts _ tw_385) (hts _ tw_386) (by decide) (b := bd) (mw_rc K hI fd1.1 rfl) (g := F0 m 65 ls [.int (nI (q + j)), .ref bd]) rfl (argsL := [.int (nI (q + j))]) (rest := []) np_BY_byteAt rfl (by rw [hb]; exact d_RM_writeRecord_65)) hl.1 d_RM_writeRecord_65 ⟨Nat.le_of_ble_eq_true rfl, Nat.le_of_ble_eq_true rfl⟩ (Or.inl ⟨_, _, List.mem_cons_self⟩) (mk_ws tw_386 hts) (fun a9 U9 h9 => Ts_warm hts _ tw_22 a9 U9 h9) ⟨Nat.le_of_ble_eq_true rfl, Nat.le_of_ble_eq_true rfl⟩ (fun v w' H locs hq hI => ?_) (fun k x w' H locs hq hI hX => ?_)
          · obtain ⟨hq1, hq2⟩ := hq
            cases hq1
            rw [hq2] at hI
            refine W.eq (g2 := F0 m 68 ls [.int (nI (bw_b gd (q + j)))]) rfl ?_
            refine lv_goto (tgt := 72) hx hb d_RM_writeRecord_68 (by decide) ?_
            refine rest (bw_b gd (q + j)) (bw_lt _ _) ?_ H locs hI ls hl
            unfold rcB
            rw [if_neg (by omega), if_neg (by omega), if_pos (by omega), show 8 + j - 8 = j by omega]
            exact (hdk _ (by omega)).symm
          · exact absurd hq.1 (by simp)
  refine lv_aload_n hx hb d_RM_writeRecord_0 rfl (lv_at hl 0 rfl) ?_
  refine lv_aload_n hx hb d_RM_writeRecord_1 rfl (lv_at hl 0 rfl) ?_
  refine mw_get K hI gf_RM_9_cRM f0 rfl d_RM_writeRecord_2 ?_
  refine mw_call (rest := []) K hSy hP0 hI (c_RM_placeOfCount l D dA f0 r2 (cc := hd mi) (by omega)) (mx_invV hx hown (hts _ tw_549) (hts _ tw_551) (hts _ tw_7) (hts _ tw_552) (by decide) (b := (mp i)) (mw_rc K hI f0 rfl) (g := F0 m 5 ls [.long (lN (hd mi)), .ref (mp i)]) rfl (argsL := [.long (lN (hd mi))]) (rest := []) np_RM_placeOfCount rfl (by rw [hb]; exact d_RM_writeRecord_5)) hl.1 d_RM_writeRecord_5 ⟨Nat.le_of_ble_eq_true rfl, Nat.le_of_ble_eq_true rfl⟩ (Or.inl ⟨_, _, List.mem_cons_self⟩) (mk_ws tw_552 hts) (fun a9 U9 h9 => Ts_warm hts _ tw_34 a9 U9 h9) ⟨Nat.le_of_ble_eq_true rfl, Nat.le_of_ble_eq_true rfl⟩ (fun v w' H locs hq hI => ?_) (fun k x w' H locs hq hI hX => ?_)
  · obtain ⟨hq1, hq2⟩ := hq
    cases hq1
    rw [hq2] at hI
    refine W.eq (g2 := F0 m 8 ls [.int (nI (bg mi + hd mi % en mi))]) rfl ?_
    refine lv_istore (lv' := [(4, .int (nI (bg mi + hd mi % en mi))), (0, .ref (mp i)), (1, .int (nI q)), (2, .int (nI z)), (3, .int (nI (up8 (8 + z))))]) hx hb d_RM_writeRecord_8 hl (by decide) rfl (fun ls hl => ?_)
    refine lv_aload_n hx hb d_RM_writeRecord_10 rfl (lv_at hl 1 rfl) ?_
    refine mw_get K hI gf_RM_51_cRM f0 rfl d_RM_writeRecord_11 ?_
    refine lv_iload hx hb d_RM_writeRecord_14 (lv_at hl 0 rfl) ?_
    refine lv_iconst (v := nI 4) hx hb d_RM_writeRecord_16 (by decide) ?_
    refine lv_iload_n hx hb d_RM_writeRecord_17 rfl (lv_at hl 3 rfl) ?_
    refine lv_i2l hx hb d_RM_writeRecord_18 rfl ?_
    refine mw_tl (nI_l (by omega)) ?_
    refine mw_call (rest := []) K hSy hP0 hI (c_BY_setNumber l D dA fa (by decide) (i := bg mi + hd mi % en mi) (k := 4) (by decide) (by omega) (lN z)) (mx_invV hx hown (hts _ tw_553) (hts _ tw_398) (hts _ tw_399) (hts _ tw_400) (by decide) (b := ba) (mw_rc K hI fa.1 rfl) (g := F0 m 19 ls [.long (lN z), .int (nI 4), .int (nI (bg mi + hd mi % en mi)), .ref ba]) rfl (argsL := [.int (nI (bg mi + hd mi % en mi)), .int (nI 4), .long (lN z)]) (rest := []) np_BY_setNumber rfl (by rw [hb]; exact d_RM_writeRecord_19)) hl.1 d_RM_writeRecord_19 ⟨Nat.le_of_ble_eq_true rfl, Nat.le_of_ble_eq_true rfl⟩ (Or.inl ⟨_, _, List.mem_cons_self⟩) (mk_ws tw_400 hts) (fun a9 U9 h9 => Ts_warm hts _ tw_22 a9 U9 h9) ⟨Nat.le_of_ble_eq_true rfl, Nat.le_of_ble_eq_true rfl⟩ (fun v w' H locs hq hI => ?_) (fun k x w' H locs hq hI hX => ?_)
    · obtain ⟨hq1, g1, hq2, hg1⟩ := hq
      cases hq1
      rw [hq2] at hI
      refine W.eq (g2 := F0 m 22 ls []) rfl ?_
      have f1 := hup g1
      have fa1 := fa.up g1
      refine lv_aload_n hx hb d_RM_writeRecord_22 rfl (lv_at hl 1 rfl) ?_
      refine mw_get K hI gf_RM_51_cRM f1 rfl d_RM_writeRecord_23 ?_
      refine lv_iload hx hb d_RM_writeRecord_26 (lv_at hl 0 rfl) ?_
      refine lv_iconst (v := nI 4) hx hb d_RM_writeRecord_28 (by decide) ?_
      refine lv_iadd hx hb d_RM_writeRecord_29 ?_
      refine mw_ti (nI_add _ _) ?_
      refine lv_iconst (v := nI 4) hx hb d_RM_writeRecord_30 (by decide) ?_
      refine lv_aload_n hx hb d_RM_writeRecord_31 rfl (lv_at hl 1 rfl) ?_
      refine mw_get K hI gf_RM_18_cRM f1 rfl d_RM_writeRecord_32 ?_
      refine lv_i2l hx hb d_RM_writeRecord_35 rfl ?_
      refine mw_tl (nI_l (by omega)) ?_
      refine mw_call (rest := []) K hSy hP0 hI (c_BY_setNumber l D dA fa1 (by decide) (i := bg mi + hd mi % en mi + 4) (k := 4) (by decide) (by omega) (lN (rc mi))) (mx_invV hx hown (hts _ tw_553) (hts _ tw_398) (hts _ tw_399) (hts _ tw_400) (by decide) (b := ba) (mw_rc K hI fa1.1 rfl) (g := F0 m 36 ls [.long (lN (rc mi)), .int (nI 4), .int (nI ((bg mi + hd mi % en mi) + 4)), .ref ba]) rfl (argsL := [.int (nI ((bg mi + hd mi % en mi) + 4)), .int (nI 4), .long (lN (rc mi))]) (rest := []) np_BY_setNumber rfl (by rw [hb]; exact d_RM_writeRecord_36)) hl.1 d_RM_writeRecord_36 ⟨Nat.le_of_ble_eq_true rfl, Nat.le_of_ble_eq_true rfl⟩ (Or.inl ⟨_, _, List.mem_cons_self⟩) (mk_ws tw_400 hts) (fun a9 U9 h9 => Ts_warm hts _ tw_22 a9 U9 h9) ⟨Nat.le_of_ble_eq_true rfl, Nat.le_of_ble_eq_true rfl⟩ (fun v w' H locs hq hI => ?_) (fun k x w' H locs hq hI hX => ?_)
      · obtain ⟨hq1, g2, hq2, hg2⟩ := hq
        cases hq1
        rw [hq2, mw_uu] at hI
        refine W.eq (g2 := F0 m 39 ls []) rfl ?_
        refine lv_iconst (v := nI 0) hx hb d_RM_writeRecord_39 (by decide) ?_
        refine lv_istore (lv' := [(5, .int (nI 0)), (4, .int (nI (bg mi + hd mi % en mi))), (0, .ref (mp i)), (1, .int (nI q)), (2, .int (nI z)), (3, .int (nI (up8 (8 + z))))]) hx hb d_RM_writeRecord_40 hl (by decide) rfl (fun ls hl => ?_)
        refine hloop (up8 (8 + z) - 8) 0 (by omega) g2 (fun y hy => ?_) H locs hI ls (lv_sub hl [0, 2, 3, 4, 5] rfl)
        rw [rng_lin (by omega) (by omega) y, hg2 y, hg1 y]
        rw [uN_lN (by omega), uN_lN (by omega)]
        unfold rcB
        by_cases c1 : bg mi + hd mi % en mi + 4 ≤ y ∧ y < bg mi + hd mi % en mi + 4 + 4
        · rw [if_pos c1, if_pos (by omega), if_neg (by omega), if_pos (by omega)]
          rw [show y - (bg mi + hd mi % en mi + 4) = y - (bg mi + hd mi % en mi) - 4 by omega]
        · rw [if_neg c1]
          by_cases c2 : bg mi + hd mi % en mi ≤ y ∧ y < bg mi + hd mi % en mi + 4
          · rw [if_pos c2, if_pos (by omega), if_pos (by omega)]
          · rw [if_neg c2, if_neg (by omega)]; exact har y hy
      · exact absurd hq.1 (by simp)
    · exact absurd hq.1 (by simp)
  · exact absurd hq.1 (by simp)
set_option maxRecDepth 100000 in
set_option maxHeartbeats 4000000 in
theorem c_RM_putRecord (l : Launch) (D : va_G) (dA : Nat → ClassId) (hL : mw_L l) {w : mw_W} {own : as_W} {x bd xd ba xa ra : Nat} {mp : Nat → Nat} {gd ga : Nat → Int64} {S : as_S} {t : Nat} (hA : rc_A dA w own x bd xd ba xa ra mp gd ga S) (hW : wf_S t S) {i : Nat} (hi : i < nm S) (ht : t ≤ 512) (hk : kd (mm S i) = 2) (a z : Int32) : CT l D dA y_RM_putRecord (Cond.code y_RM_putRecord b_RM_putRecord 4 (some .int) :: Ts) 7 140 1 6 [.ref (mp i), .int a, .int z] w (PC dA w own x bd xd ba xa ra mp (sp_put S i a z)) := by
  refine mw_meth (by decide) mk_tb (Nat.le_of_ble_eq_true rfl) ?_
  intro p e s m below meth c K hr hlk hce hnm hP0 hSy ls hl
  have hl : lv_has ls 4 [(0, .ref (mp i)), (1, .int a), (2, .int z)] := hl
  obtain ⟨hx, hb, hml, hown, hts, hK, hTb⟩ := id K
  have hI := mw_I.start hP0
  obtain ⟨⟨o1, o2, o3, o4, fx, fd, fa, fr, hdk, har⟩, hM⟩ := id hA
  obtain ⟨r1, r2, r3, r4, r5, r6, r7, r8, r9⟩ := wf_R (hW.2.2.2.2.2 i hi) hk
  obtain ⟨om, f0⟩ := rc_RM (hA.2 i hi) hk
  obtain ⟨mi, em⟩ : ∃ mi, mi = mm S i := ⟨_, rfl⟩
  rw [← em] at f0 r1 r2 r3 r4 r5 r6 r7 r8 r9
  have p8 := p2_8 r2
  refine lv_iload_n hx hb d_RM_putRecord_0 rfl (lv_at hl 2 rfl) ?_
  refine lv_i2l hx hb d_RM_putRecord_1 rfl ?_
  refine lv_iconst (v := nI 1) hx hb d_RM_putRecord_2 (by decide) ?_
  refine lv_sipush (v := nI 256) hx hb d_RM_putRecord_3 (by decide) ?_
  refine mp_call (rest := []) hb hml (c_MS_within l z.toInt64 (nI 1) (nI 256)) (mx_invSN hx hown (hts _ tw_539) (hts _ tw_183) (hts _ tw_21) (hts _ tw_184) (by decide) (g := F0 m 6 ls [.int (nI 256), .int (nI 1), .long (z.toInt64)]) rfl (argsL := [.long (z.toInt64), .int (nI 1), .int (nI 256)]) (rest := []) np_MS_within rfl (by rw [hb]; exact d_RM_putRecord_6)) hl.1 d_RM_putRecord_6 ⟨Nat.le_of_ble_eq_true rfl, Nat.le_of_ble_eq_true rfl⟩ (Or.inl ⟨_, _, List.mem_cons_self⟩) (mk_ws tw_184 hts) (fun a9 U9 h9 => Ts_warm hts _ tw_21 a9 U9 h9) (by first | exact ⟨Nat.le_of_ble_eq_true rfl, Nat.le_of_ble_eq_true rfl⟩ | assumption) (fun v hv => ?_)
  subst hv
  refine W.eq (g2 := F0 m 9 ls [.int (if (nI 1).toInt64 ≤ z.toInt64 ∧ z.toInt64 ≤ (nI 256).toInt64 then 1 else 0)]) rfl ?_
  rw [within_i z (a := 1) (b := 256) (by decide) (by decide)]
  refine lv_if_ne (tgt := 15) hx hb d_RM_putRecord_9 (by decide) (fun c9 => ?_) (fun c9 => ?_)
  ·
    rw [if10.2] at c9
    have hsp : sp_put S i a z = _ := if_pos c9
    obtain ⟨zn, hzn, rfl⟩ := nI_of (x := z) (by rw [Int32.lt_iff_toInt_lt, Int32.toInt_zero]; omega)
    rw [nI_toInt hzn] at c9
    have hzc : (nI zn).toNatClampNeg = zn := nI_clamp hzn
    have hz1 : 1 ≤ zn ∧ zn ≤ 256 := by omega
    rw [hzc] at hsp
    have u8 := up8_ge (8 + zn)
    rw [← em] at hsp
    refine lv_aload_n hx hb d_RM_putRecord_15 rfl (lv_at hl 0 rfl) ?_
    refine mw_get K hI gf_RM_33_cRM f0 rfl d_RM_putRecord_16 ?_
    refine lv_iload_n hx hb d_RM_putRecord_19 rfl (lv_at hl 1 rfl) ?_
    refine lv_iload_n hx hb d_RM_putRecord_20 rfl (lv_at hl 2 rfl) ?_
    refine mw_call (rest := []) K hSy hP0 hI (c_BY_demand l D dA hL fd (by decide) a (k := zn) (by omega)) (mx_invV hx hown (hts _ tw_540) (hts _ tw_373) (hts _ tw_374) (hts _ tw_375) (by decide) (b := bd) (mw_rc K hI fd.1 rfl) (g := F0 m 21 ls [.int (nI zn), .int a, .ref bd]) rfl (argsL := [.int a, .int (nI zn)]) (rest := []) np_BY_demand rfl (by rw [hb]; exact d_RM_putRecord_21)) hl.1 d_RM_putRecord_21 ⟨Nat.le_of_ble_eq_true rfl, Nat.le_of_ble_eq_true rfl⟩ (Or.inl ⟨_, _, List.mem_cons_self⟩) (mk_ws tw_375 hts) (fun a9 U9 h9 => Ts_warm hts _ tw_22 a9 U9 h9) ⟨Nat.le_of_ble_eq_true rfl, Nat.le_of_ble_eq_true rfl⟩ (fun v w' H locs hq hI => ?_) (fun k x w' H locs hq hI hX => ?_)
    · obtain ⟨hq1, ⟨hq2, hq3, hq4⟩ | ⟨-, hq4⟩⟩ := hq
      · cases hq4
        rw [hq1] at hI
        obtain ⟨e1, e2⟩ := inD_nI ⟨hq2, hq3⟩ (by decide)
        have hsp := hsp.trans (if_pos ⟨hq2, hq3⟩)
        refine W.eq (g2 := F0 m 24 ls []) rfl ?_
        rw [e1] at hl
        refine lv_aload_n hx hb d_RM_putRecord_24 rfl (lv_at hl 0 rfl) ?_
        refine mw_get K hI gf_RM_22_cRM f0 rfl d_RM_putRecord_25 ?_
        refine lv_if_eq (tgt := 34) hx hb d_RM_putRecord_28 (by decide) (fun c28 => ?_) (fun c28 => ?_)
        ·
          have hb0 : ¬ bk mi = true := fun z => by rw [if_pos z] at c28; exact absurd c28 (by decide)
          have hsp := hsp.trans (if_neg hb0)
          refine lv_iload_n hx hb d_RM_putRecord_34 rfl (lv_at hl 2 rfl) ?_
          refine mp_call (rest := []) hb hml (c_RM_bytesOfRecord l (n := zn) (by omega)) (mx_invS hx hown (hts _ tw_541) (hts _ tw_542) (hts _ tw_34) (hts _ tw_543) (by decide) (g := F0 m 35 ls [.int (nI zn)]) rfl (argsL := [.int (nI zn)]) (rest := []) np_RM_bytesOfRecord rfl (by rw [hb]; exact d_RM_putRecord_35)) hl.1 d_RM_putRecord_35 ⟨Nat.le_of_ble_eq_true rfl, Nat.le_of_ble_eq_true rfl⟩ (Or.inl ⟨_, _, List.mem_cons_self⟩) (mk_ws tw_543 hts) (fun a9 U9 h9 => Ts_warm hts _ tw_34 a9 U9 h9) (by first | exact ⟨Nat.le_of_ble_eq_true rfl, Nat.le_of_ble_eq_true rfl⟩ | assumption) (fun v hv => ?_)
          subst hv
          refine W.eq (g2 := F0 m 38 ls [.int (nI (up8 (8 + zn)))]) rfl ?_
          refine lv_istore_n (lv' := [(3, .int (nI (up8 (8 + zn)))), (0, .ref (mp i)), (1, .int (nI a.toNatClampNeg)), (2, .int (nI zn))]) hx hb d_RM_putRecord_38 rfl hl (by decide) rfl (fun ls hl => ?_)
          refine lv_aload_n hx hb d_RM_putRecord_39 rfl (lv_at hl 1 rfl) ?_
          refine mw_get K hI gf_RM_9_cRM f0 rfl d_RM_putRecord_40 ?_
          refine lv_aload_n hx hb d_RM_putRecord_43 rfl (lv_at hl 1 rfl) ?_
          refine mw_get K hI gf_RM_15_cRM f0 rfl d_RM_putRecord_44 ?_
          refine lv_lsub hx hb d_RM_putRecord_47 ?_
          refine mw_tl (lN_sub (by omega)) ?_
          refine lv_iload_n hx hb d_RM_putRecord_48 rfl (lv_at hl 0 rfl) ?_
          refine lv_i2l hx hb d_RM_putRecord_49 rfl ?_
          refine mw_tl (nI_l (by omega)) ?_
          refine lv_ladd hx hb d_RM_putRecord_50 ?_
          refine mw_tl (lN_add _ _) ?_
          refine lv_aload_n hx hb d_RM_putRecord_51 rfl (lv_at hl 1 rfl) ?_
          refine mw_get K hI gf_RM_26_cRM f0 rfl d_RM_putRecord_52 ?_
          refine lv_i2l hx hb d_RM_putRecord_55 rfl ?_
          refine mw_tl (nI_l (by omega)) ?_
          refine W.lcmp hx hb d_RM_putRecord_56 ?_
          refine lv_if_le (tgt := 63) hx hb d_RM_putRecord_57 (by decide) (fun c57 => ?_) (fun c57 => ?_)
          ·
            rw [lg_cmp_le, lN_leL (by omega) (by omega)] at c57
            have hsp := hsp.trans (if_neg (by omega))
            refine lv_aload_n hx hb d_RM_putRecord_63 rfl (lv_at hl 1 rfl) ?_
            refine lv_iload_n hx hb d_RM_putRecord_64 rfl (lv_at hl 2 rfl) ?_
            refine lv_iload_n hx hb d_RM_putRecord_65 rfl (lv_at hl 3 rfl) ?_
            refine lv_iload_n hx hb d_RM_putRecord_66 rfl (lv_at hl 0 rfl) ?_
            refine mw_call (rest := []) K hSy hP0 hI (c_RM_writeRecord l D dA hA hW hi ht hk hz1 e2) (mx_invV hx hown (hts _ tw_545) (hts _ tw_547) (hts _ tw_6) (hts _ tw_548) (by decide) (b := (mp i)) (mw_rc K hI f0 rfl) (g := F0 m 67 ls [.int (nI (up8 (8 + zn))), .int (nI zn), .int (nI a.toNatClampNeg), .ref (mp i)]) rfl (argsL := [.int (nI a.toNatClampNeg), .int (nI zn), .int (nI (up8 (8 + zn)))]) (rest := []) np_RM_writeRecord rfl (by rw [hb]; exact d_RM_putRecord_67)) hl.1 d_RM_putRecord_67 ⟨Nat.le_of_ble_eq_true rfl, Nat.le_of_ble_eq_true rfl⟩ (Or.inl ⟨_, _, List.mem_cons_self⟩) (mk_ws tw_548 hts) (fun a9 U9 h9 => Ts_warm hts _ tw_34 a9 U9 h9) ⟨Nat.le_of_ble_eq_true rfl, Nat.le_of_ble_eq_true rfl⟩ (fun v w' H locs hq hI => ?_) (fun k x w' H locs hq hI hX => ?_)
            · obtain ⟨hq1, g', hq2, hg'⟩ := hq
              cases hq1
              rw [hq2] at hI
              refine W.eq (g2 := F0 m 70 ls []) rfl ?_
              have f1 : (mw_up w xa (by_a dA 65536 g')) (mp i) = some (.inr (cRM, [.ref bd, .ref ba, .int (nI (bg mi)), .int (nI (en mi)), .long (lN (hd mi)), .long (lN (tl mi)), .int (nI (rc mi)), .int (nI (if bk mi = true then 1 else 0))])) := (mw_up_n _ _ (mw_neA f0 fa.2)).trans f0
              have hA1 := hA.area g' _ hg'
              have f1_0 := f1
              generalize ew : mw_up w xa (by_a dA 65536 g') = w1 at *
              generalize ea : mp i = a1 at *
              refine lv_aload_n hx hb d_RM_putRecord_70 rfl (lv_at hl 1 rfl) ?_
              refine lv_dup hx hb d_RM_putRecord_71 rfl ?_
              refine mw_get K hI gf_RM_9_cRM f1 rfl d_RM_putRecord_72 ?_
              refine lv_iload_n hx hb d_RM_putRecord_75 rfl (lv_at hl 0 rfl) ?_
              refine lv_i2l hx hb d_RM_putRecord_76 rfl ?_
              refine mw_tl (nI_l (by omega)) ?_
              refine lv_ladd hx hb d_RM_putRecord_77 ?_
              refine mw_tl (lN_add _ _) ?_
              refine mw_put K hI gp_RM_9_cRM (Or.inl ⟨_, rfl, rfl⟩) f1 rfl rfl (by simp) d_RM_putRecord_78 (fun H locs hI => ?_)
              have hI : mw_I D mk_cl w s.heap (mw_up w1 a1 (.inr (cRM, [.ref bd, .ref ba, .int (nI (bg mi)), .int (nI (en mi)), .long (lN ((hd mi) + (up8 (8 + zn)))), .long (lN (tl mi)), .int (nI (rc mi)), .int (nI (if bk mi = true then 1 else 0))]))) H _ := hI
              have f1 : (mw_up w1 a1 (.inr (cRM, [.ref bd, .ref ba, .int (nI (bg mi)), .int (nI (en mi)), .long (lN ((hd mi) + (up8 (8 + zn)))), .long (lN (tl mi)), .int (nI (rc mi)), .int (nI (if bk mi = true then 1 else 0))]))) a1 = some (.inr (cRM, [.ref bd, .ref ba, .int (nI (bg mi)), .int (nI (en mi)), .long (lN ((hd mi) + (up8 (8 + zn)))), .long (lN (tl mi)), .int (nI (rc mi)), .int (nI (if bk mi = true then 1 else 0))])) := mw_up_s _ _ _
              refine lv_aload_n hx hb d_RM_putRecord_81 rfl (lv_at hl 1 rfl) ?_
              refine lv_dup hx hb d_RM_putRecord_82 rfl ?_
              refine mw_get K hI gf_RM_18_cRM f1 rfl d_RM_putRecord_83 ?_
              refine lv_iconst (v := nI 1) hx hb d_RM_putRecord_86 (by decide) ?_
              refine lv_iadd hx hb d_RM_putRecord_87 ?_
              refine mw_ti (nI_add _ _) ?_
              refine mw_put K hI gp_RM_18_cRM (Or.inl ⟨_, rfl, rfl⟩) f1 rfl rfl (by simp) d_RM_putRecord_88 (fun H locs hI => ?_)
              rw [mw_uu] at hI
              have hI : mw_I D mk_cl w s.heap (mw_up w1 a1 (.inr (cRM, [.ref bd, .ref ba, .int (nI (bg mi)), .int (nI (en mi)), .long (lN ((hd mi) + (up8 (8 + zn)))), .long (lN (tl mi)), .int (nI ((rc mi) + 1)), .int (nI (if bk mi = true then 1 else 0))]))) H _ := hI
              have f1 : (mw_up w1 a1 (.inr (cRM, [.ref bd, .ref ba, .int (nI (bg mi)), .int (nI (en mi)), .long (lN ((hd mi) + (up8 (8 + zn)))), .long (lN (tl mi)), .int (nI ((rc mi) + 1)), .int (nI (if bk mi = true then 1 else 0))]))) a1 = some (.inr (cRM, [.ref bd, .ref ba, .int (nI (bg mi)), .int (nI (en mi)), .long (lN ((hd mi) + (up8 (8 + zn)))), .long (lN (tl mi)), .int (nI ((rc mi) + 1)), .int (nI (if bk mi = true then 1 else 0))])) := mw_up_s _ _ _
              refine lv_iconst (v := nI 0) hx hb d_RM_putRecord_91 (by decide) ?_
              refine mw_iret K hI hr hlk ?_ d_RM_putRecord_92
              rw [hsp]
              refine ⟨rfl, own, gd, g', ?_, ?_⟩
              · rw [em] at *
                refine hA1.map (i := i) (own' := own) ?_ (fun q' y hy hz => ?_) (fun _ _ _ => rfl)
                · rw [ea]
                  exact ⟨om, Or.inr (Or.inr ⟨hk, f1⟩)⟩
                · rw [mw_up_n _ _ ?_]
                  · exact hy
                  · intro e
                    subst e
                    rcases hz with hz | ⟨fs, hz⟩
                    · exact hz (by rw [om]; exact Or.inl rfl)
                    · rw [hz] at hy; exact absurd (hy.symm.trans f1_0) (by intro z; injection z with z; injection z with z; injection z with z; exact absurd z (by decide))
              · refine Fr.trans ?_ (Fr.up f1_0 (by rw [om]; simp))
                rw [← ew]; exact Fr.up fa.2 (by rw [o3]; decide)
            · exact absurd hq.1 (by simp)
          ·
            rw [lg_cmp_le, lN_leL (by omega) (by omega)] at c57
            have hsp := hsp.trans (if_pos (by omega))
            refine lv_bipush (v := (-11)) hx hb d_RM_putRecord_60 (by decide) ?_
            refine mw_iret K hI hr hlk ?_ d_RM_putRecord_62
            rw [hsp]
            exact ⟨rfl, own, gd, ga, hA, Fr.rf w own⟩
        ·
          have hb0 : bk mi = true := by
            cases hbk : bk mi with
            | true => rfl
            | false => rw [hbk] at c28; exact absurd (by decide) c28
          have hsp := hsp.trans (if_pos hb0)
          refine lv_bipush (v := (-22)) hx hb d_RM_putRecord_31 (by decide) ?_
          refine mw_iret K hI hr hlk ?_ d_RM_putRecord_33
          rw [hsp]
          exact ⟨rfl, own, gd, ga, hA, Fr.rf w own⟩
      · cases hq4
    · obtain ⟨hq1, ⟨-, -, hq4⟩ | ⟨hq2, hq4⟩⟩ := hq
      · cases hq4
      · cases hq4
        rw [hq1] at hI
        refine mw_on hI hce hlk hX ?_
        have hsp := hsp.trans (if_neg hq2)
        rw [hsp]
        exact ⟨rfl, own, gd, ga, hA, Fr.rf w own⟩
  ·
    rw [if10.1] at c9
    have hsp : sp_put S i a z = _ := if_neg c9
    refine lv_bipush (v := (-22)) hx hb d_RM_putRecord_12 (by decide) ?_
    refine W.widen (k := 1) (n := 6) (by decide) (by decide) ?_
    refine mw_iret K hI hr hlk ?_ d_RM_putRecord_14
    rw [hsp]
    exact ⟨rfl, own, gd, ga, hA, Fr.rf w own⟩
