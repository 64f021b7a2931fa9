/-! ### the model: write, find, remove, used -/
theorem d_MO_write_0 : decode b_MO_write 0 = .ok (.iconst 0, 1) := by decide +kernel
theorem d_MO_write_1 : decode b_MO_write 1 = .ok (.istore 4, 2) := by decide +kernel
theorem d_MO_write_3 : decode b_MO_write 3 = .ok (.iload 4, 2) := by decide +kernel
theorem d_MO_write_5 : decode b_MO_write 5 = .ok (.aload_n 0, 1) := by decide +kernel
theorem d_MO_write_6 : decode b_MO_write 6 = .ok (.getfield 24, 3) := by decide +kernel
theorem d_MO_write_9 : decode b_MO_write 9 = .ok (.iload_n 1, 1) := by decide +kernel
theorem d_MO_write_10 : decode b_MO_write 10 = .ok (.iaload, 1) := by decide +kernel
theorem d_MO_write_11 : decode b_MO_write 11 = .ok (.if_icmp .ge 32, 3) := by decide +kernel
theorem d_MO_write_14 : decode b_MO_write 14 = .ok (.aload_n 0, 1) := by decide +kernel
theorem d_MO_write_15 : decode b_MO_write 15 = .ok (.getfield 14, 3) := by decide +kernel
theorem d_MO_write_18 : decode b_MO_write 18 = .ok (.aload_n 0, 1) := by decide +kernel
theorem d_MO_write_19 : decode b_MO_write 19 = .ok (.iload_n 1, 1) := by decide +kernel
theorem d_MO_write_20 : decode b_MO_write 20 = .ok (.iload_n 2, 1) := by decide +kernel
theorem d_MO_write_21 : decode b_MO_write 21 = .ok (.invokevirtual 125, 3) := by decide +kernel
theorem d_MO_write_24 : decode b_MO_write 24 = .ok (.iload 4, 2) := by decide +kernel
theorem d_MO_write_26 : decode b_MO_write 26 = .ok (.iadd, 1) := by decide +kernel
theorem d_MO_write_27 : decode b_MO_write 27 = .ok (.aload_n 0, 1) := by decide +kernel
theorem d_MO_write_28 : decode b_MO_write 28 = .ok (.getfield 7, 3) := by decide +kernel
theorem d_MO_write_31 : decode b_MO_write 31 = .ok (.iload_n 3, 1) := by decide +kernel
theorem d_MO_write_32 : decode b_MO_write 32 = .ok (.iload 4, 2) := by decide +kernel
theorem d_MO_write_34 : decode b_MO_write 34 = .ok (.iadd, 1) := by decide +kernel
theorem d_MO_write_35 : decode b_MO_write 35 = .ok (.baload, 1) := by decide +kernel
theorem d_MO_write_36 : decode b_MO_write 36 = .ok (.bastore, 1) := by decide +kernel
theorem d_MO_write_37 : decode b_MO_write 37 = .ok (.iinc 4 1, 3) := by decide +kernel
theorem d_MO_write_40 : decode b_MO_write 40 = .ok (.goto (-37), 3) := by decide +kernel
theorem d_MO_write_43 : decode b_MO_write 43 = .ok (.iconst 0, 1) := by decide +kernel
theorem d_MO_write_44 : decode b_MO_write 44 = .ok (.ireturn, 1) := by decide +kernel
theorem d_MO_find_0 : decode b_MO_find 0 = .ok (.aload_n 0, 1) := by decide +kernel
theorem d_MO_find_1 : decode b_MO_find 1 = .ok (.iload_n 1, 1) := by decide +kernel
theorem d_MO_find_2 : decode b_MO_find 2 = .ok (.invokevirtual 92, 3) := by decide +kernel
theorem d_MO_find_5 : decode b_MO_find 5 = .ok (.ifCond .eq 5, 3) := by decide +kernel
theorem d_MO_find_8 : decode b_MO_find 8 = .ok (.iconst 0, 1) := by decide +kernel
theorem d_MO_find_9 : decode b_MO_find 9 = .ok (.ireturn, 1) := by decide +kernel
theorem d_MO_find_10 : decode b_MO_find 10 = .ok (.aload_n 0, 1) := by decide +kernel
theorem d_MO_find_11 : decode b_MO_find 11 = .ok (.getfield 17, 3) := by decide +kernel
theorem d_MO_find_14 : decode b_MO_find 14 = .ok (.iload_n 1, 1) := by decide +kernel
theorem d_MO_find_15 : decode b_MO_find 15 = .ok (.iaload, 1) := by decide +kernel
theorem d_MO_find_16 : decode b_MO_find 16 = .ok (.iconst 2, 1) := by decide +kernel
theorem d_MO_find_17 : decode b_MO_find 17 = .ok (.if_icmp .ne 6, 3) := by decide +kernel
theorem d_MO_find_20 : decode b_MO_find 20 = .ok (.bipush (-22), 2) := by decide +kernel
theorem d_MO_find_22 : decode b_MO_find 22 = .ok (.ireturn, 1) := by decide +kernel
theorem d_MO_find_23 : decode b_MO_find 23 = .ok (.aload_n 0, 1) := by decide +kernel
theorem d_MO_find_24 : decode b_MO_find 24 = .ok (.iload_n 2, 1) := by decide +kernel
theorem d_MO_find_25 : decode b_MO_find 25 = .ok (.aload_n 0, 1) := by decide +kernel
theorem d_MO_find_26 : decode b_MO_find 26 = .ok (.getfield 21, 3) := by decide +kernel
theorem d_MO_find_29 : decode b_MO_find 29 = .ok (.iload_n 1, 1) := by decide +kernel
theorem d_MO_find_30 : decode b_MO_find 30 = .ok (.iaload, 1) := by decide +kernel
theorem d_MO_find_31 : decode b_MO_find 31 = .ok (.invokestatic 97, 3) := by decide +kernel
theorem d_MO_find_34 : decode b_MO_find 34 = .ok (.ifCond .eq 7, 3) := by decide +kernel
theorem d_MO_find_37 : decode b_MO_find 37 = .ok (.iconst 0, 1) := by decide +kernel
theorem d_MO_find_38 : decode b_MO_find 38 = .ok (.goto 4, 3) := by decide +kernel
theorem d_MO_find_41 : decode b_MO_find 41 = .ok (.iconst 1, 1) := by decide +kernel
theorem d_MO_find_42 : decode b_MO_find 42 = .ok (.putfield 60, 3) := by decide +kernel
theorem d_MO_find_45 : decode b_MO_find 45 = .ok (.aload_n 0, 1) := by decide +kernel
theorem d_MO_find_46 : decode b_MO_find 46 = .ok (.getfield 60, 3) := by decide +kernel
theorem d_MO_find_49 : decode b_MO_find 49 = .ok (.ifCond .le 5, 3) := by decide +kernel
theorem d_MO_find_52 : decode b_MO_find 52 = .ok (.iconst 0, 1) := by decide +kernel
theorem d_MO_find_53 : decode b_MO_find 53 = .ok (.ireturn, 1) := by decide +kernel
theorem d_MO_find_54 : decode b_MO_find 54 = .ok (.aload_n 0, 1) := by decide +kernel
theorem d_MO_find_55 : decode b_MO_find 55 = .ok (.getfield 17, 3) := by decide +kernel
theorem d_MO_find_58 : decode b_MO_find 58 = .ok (.iload_n 1, 1) := by decide +kernel
theorem d_MO_find_59 : decode b_MO_find 59 = .ok (.iaload, 1) := by decide +kernel
theorem d_MO_find_60 : decode b_MO_find 60 = .ok (.ifCond .ne 12, 3) := by decide +kernel
theorem d_MO_find_63 : decode b_MO_find 63 = .ok (.aload_n 0, 1) := by decide +kernel
theorem d_MO_find_64 : decode b_MO_find 64 = .ok (.iload_n 1, 1) := by decide +kernel
theorem d_MO_find_65 : decode b_MO_find 65 = .ok (.iload_n 2, 1) := by decide +kernel
theorem d_MO_find_66 : decode b_MO_find 66 = .ok (.invokevirtual 118, 3) := by decide +kernel
theorem d_MO_find_69 : decode b_MO_find 69 = .ok (.goto 9, 3) := by decide +kernel
theorem d_MO_find_72 : decode b_MO_find 72 = .ok (.aload_n 0, 1) := by decide +kernel
theorem d_MO_find_73 : decode b_MO_find 73 = .ok (.iload_n 1, 1) := by decide +kernel
theorem d_MO_find_74 : decode b_MO_find 74 = .ok (.iload_n 2, 1) := by decide +kernel
theorem d_MO_find_75 : decode b_MO_find 75 = .ok (.invokevirtual 122, 3) := by decide +kernel
theorem d_MO_find_78 : decode b_MO_find 78 = .ok (.istore_n 3, 1) := by decide +kernel
theorem d_MO_find_79 : decode b_MO_find 79 = .ok (.iload_n 3, 1) := by decide +kernel
theorem d_MO_find_80 : decode b_MO_find 80 = .ok (.ifCond .ge 7, 3) := by decide +kernel
theorem d_MO_find_83 : decode b_MO_find 83 = .ok (.iconst (-1), 1) := by decide +kernel
theorem d_MO_find_84 : decode b_MO_find 84 = .ok (.goto 9, 3) := by decide +kernel
theorem d_MO_find_87 : decode b_MO_find 87 = .ok (.aload_n 0, 1) := by decide +kernel
theorem d_MO_find_88 : decode b_MO_find 88 = .ok (.iload_n 1, 1) := by decide +kernel
theorem d_MO_find_89 : decode b_MO_find 89 = .ok (.iload_n 3, 1) := by decide +kernel
theorem d_MO_find_90 : decode b_MO_find 90 = .ok (.invokevirtual 125, 3) := by decide +kernel
theorem d_MO_find_93 : decode b_MO_find 93 = .ok (.ireturn, 1) := by decide +kernel
theorem d_MO_remove_0 : decode b_MO_remove 0 = .ok (.aload_n 0, 1) := by decide +kernel
theorem d_MO_remove_1 : decode b_MO_remove 1 = .ok (.iload_n 1, 1) := by decide +kernel
theorem d_MO_remove_2 : decode b_MO_remove 2 = .ok (.invokevirtual 92, 3) := by decide +kernel
theorem d_MO_remove_5 : decode b_MO_remove 5 = .ok (.ifCond .eq 5, 3) := by decide +kernel
theorem d_MO_remove_8 : decode b_MO_remove 8 = .ok (.iconst 0, 1) := by decide +kernel
theorem d_MO_remove_9 : decode b_MO_remove 9 = .ok (.ireturn, 1) := by decide +kernel
theorem d_MO_remove_10 : decode b_MO_remove 10 = .ok (.aload_n 0, 1) := by decide +kernel
theorem d_MO_remove_11 : decode b_MO_remove 11 = .ok (.getfield 17, 3) := by decide +kernel
theorem d_MO_remove_14 : decode b_MO_remove 14 = .ok (.iload_n 1, 1) := by decide +kernel
theorem d_MO_remove_15 : decode b_MO_remove 15 = .ok (.iaload, 1) := by decide +kernel
theorem d_MO_remove_16 : decode b_MO_remove 16 = .ok (.iconst 1, 1) := by decide +kernel
theorem d_MO_remove_17 : decode b_MO_remove 17 = .ok (.if_icmp .eq 6, 3) := by decide +kernel
theorem d_MO_remove_20 : decode b_MO_remove 20 = .ok (.bipush (-22), 2) := by decide +kernel
theorem d_MO_remove_22 : decode b_MO_remove 22 = .ok (.ireturn, 1) := by decide +kernel
theorem d_MO_remove_23 : decode b_MO_remove 23 = .ok (.aload_n 0, 1) := by decide +kernel
theorem d_MO_remove_24 : decode b_MO_remove 24 = .ok (.iload_n 2, 1) := by decide +kernel
theorem d_MO_remove_25 : decode b_MO_remove 25 = .ok (.aload_n 0, 1) := by decide +kernel
theorem d_MO_remove_26 : decode b_MO_remove 26 = .ok (.getfield 21, 3) := by decide +kernel
theorem d_MO_remove_29 : decode b_MO_remove 29 = .ok (.iload_n 1, 1) := by decide +kernel
theorem d_MO_remove_30 : decode b_MO_remove 30 = .ok (.iaload, 1) := by decide +kernel
theorem d_MO_remove_31 : decode b_MO_remove 31 = .ok (.invokestatic 97, 3) := by decide +kernel
theorem d_MO_remove_34 : decode b_MO_remove 34 = .ok (.ifCond .eq 7, 3) := by decide +kernel
theorem d_MO_remove_37 : decode b_MO_remove 37 = .ok (.iconst 0, 1) := by decide +kernel
theorem d_MO_remove_38 : decode b_MO_remove 38 = .ok (.goto 4, 3) := by decide +kernel
theorem d_MO_remove_41 : decode b_MO_remove 41 = .ok (.iconst 1, 1) := by decide +kernel
theorem d_MO_remove_42 : decode b_MO_remove 42 = .ok (.putfield 60, 3) := by decide +kernel
theorem d_MO_remove_45 : decode b_MO_remove 45 = .ok (.aload_n 0, 1) := by decide +kernel
theorem d_MO_remove_46 : decode b_MO_remove 46 = .ok (.getfield 60, 3) := by decide +kernel
theorem d_MO_remove_49 : decode b_MO_remove 49 = .ok (.ifCond .le 5, 3) := by decide +kernel
theorem d_MO_remove_52 : decode b_MO_remove 52 = .ok (.iconst 0, 1) := by decide +kernel
theorem d_MO_remove_53 : decode b_MO_remove 53 = .ok (.ireturn, 1) := by decide +kernel
theorem d_MO_remove_54 : decode b_MO_remove 54 = .ok (.aload_n 0, 1) := by decide +kernel
theorem d_MO_remove_55 : decode b_MO_remove 55 = .ok (.iload_n 1, 1) := by decide +kernel
theorem d_MO_remove_56 : decode b_MO_remove 56 = .ok (.iload_n 2, 1) := by decide +kernel
theorem d_MO_remove_57 : decode b_MO_remove 57 = .ok (.invokevirtual 122, 3) := by decide +kernel
theorem d_MO_remove_60 : decode b_MO_remove 60 = .ok (.istore_n 3, 1) := by decide +kernel
theorem d_MO_remove_61 : decode b_MO_remove 61 = .ok (.iload_n 3, 1) := by decide +kernel
theorem d_MO_remove_62 : decode b_MO_remove 62 = .ok (.ifCond .ge 6, 3) := by decide +kernel
theorem d_MO_remove_65 : decode b_MO_remove 65 = .ok (.bipush (-2), 2) := by decide +kernel
theorem d_MO_remove_67 : decode b_MO_remove 67 = .ok (.ireturn, 1) := by decide +kernel
theorem d_MO_remove_68 : decode b_MO_remove 68 = .ok (.aload_n 0, 1) := by decide +kernel
theorem d_MO_remove_69 : decode b_MO_remove 69 = .ok (.getfield 39, 3) := by decide +kernel
theorem d_MO_remove_72 : decode b_MO_remove 72 = .ok (.aload_n 0, 1) := by decide +kernel
theorem d_MO_remove_73 : decode b_MO_remove 73 = .ok (.getfield 33, 3) := by decide +kernel
theorem d_MO_remove_76 : decode b_MO_remove 76 = .ok (.iload_n 1, 1) := by decide +kernel
theorem d_MO_remove_77 : decode b_MO_remove 77 = .ok (.iaload, 1) := by decide +kernel
theorem d_MO_remove_78 : decode b_MO_remove 78 = .ok (.iload_n 3, 1) := by decide +kernel
theorem d_MO_remove_79 : decode b_MO_remove 79 = .ok (.iadd, 1) := by decide +kernel
theorem d_MO_remove_80 : decode b_MO_remove 80 = .ok (.iconst 0, 1) := by decide +kernel
theorem d_MO_remove_81 : decode b_MO_remove 81 = .ok (.bastore, 1) := by decide +kernel
theorem d_MO_remove_82 : decode b_MO_remove 82 = .ok (.iconst 0, 1) := by decide +kernel
theorem d_MO_remove_83 : decode b_MO_remove 83 = .ok (.ireturn, 1) := by decide +kernel
theorem d_MO_used_0 : decode b_MO_used 0 = .ok (.aload_n 0, 1) := by decide +kernel
theorem d_MO_used_1 : decode b_MO_used 1 = .ok (.iload_n 1, 1) := by decide +kernel
theorem d_MO_used_2 : decode b_MO_used 2 = .ok (.invokevirtual 92, 3) := by decide +kernel
theorem d_MO_used_5 : decode b_MO_used 5 = .ok (.ifCond .eq 5, 3) := by decide +kernel
theorem d_MO_used_8 : decode b_MO_used 8 = .ok (.iconst 0, 1) := by decide +kernel
theorem d_MO_used_9 : decode b_MO_used 9 = .ok (.ireturn, 1) := by decide +kernel
theorem d_MO_used_10 : decode b_MO_used 10 = .ok (.aload_n 0, 1) := by decide +kernel
theorem d_MO_used_11 : decode b_MO_used 11 = .ok (.getfield 17, 3) := by decide +kernel
theorem d_MO_used_14 : decode b_MO_used 14 = .ok (.iload_n 1, 1) := by decide +kernel
theorem d_MO_used_15 : decode b_MO_used 15 = .ok (.iaload, 1) := by decide +kernel
theorem d_MO_used_16 : decode b_MO_used 16 = .ok (.iconst 2, 1) := by decide +kernel
theorem d_MO_used_17 : decode b_MO_used 17 = .ok (.if_icmp .ne 18, 3) := by decide +kernel
theorem d_MO_used_20 : decode b_MO_used 20 = .ok (.aload_n 0, 1) := by decide +kernel
theorem d_MO_used_21 : decode b_MO_used 21 = .ok (.getfield 47, 3) := by decide +kernel
theorem d_MO_used_24 : decode b_MO_used 24 = .ok (.iload_n 1, 1) := by decide +kernel
theorem d_MO_used_25 : decode b_MO_used 25 = .ok (.laload, 1) := by decide +kernel
theorem d_MO_used_26 : decode b_MO_used 26 = .ok (.aload_n 0, 1) := by decide +kernel
theorem d_MO_used_27 : decode b_MO_used 27 = .ok (.getfield 51, 3) := by decide +kernel
theorem d_MO_used_30 : decode b_MO_used 30 = .ok (.iload_n 1, 1) := by decide +kernel
theorem d_MO_used_31 : decode b_MO_used 31 = .ok (.laload, 1) := by decide +kernel
theorem d_MO_used_32 : decode b_MO_used 32 = .ok (.lsub, 1) := by decide +kernel
theorem d_MO_used_33 : decode b_MO_used 33 = .ok (.l2i, 1) := by decide +kernel
theorem d_MO_used_34 : decode b_MO_used 34 = .ok (.ireturn, 1) := by decide +kernel
theorem d_MO_used_35 : decode b_MO_used 35 = .ok (.iconst 0, 1) := by decide +kernel
theorem d_MO_used_36 : decode b_MO_used 36 = .ok (.istore_n 2, 1) := by decide +kernel
theorem d_MO_used_37 : decode b_MO_used 37 = .ok (.iconst 0, 1) := by decide +kernel
theorem d_MO_used_38 : decode b_MO_used 38 = .ok (.istore_n 3, 1) := by decide +kernel
theorem d_MO_used_39 : decode b_MO_used 39 = .ok (.iload_n 3, 1) := by decide +kernel
theorem d_MO_used_40 : decode b_MO_used 40 = .ok (.aload_n 0, 1) := by decide +kernel
theorem d_MO_used_41 : decode b_MO_used 41 = .ok (.getfield 27, 3) := by decide +kernel
theorem d_MO_used_44 : decode b_MO_used 44 = .ok (.iload_n 1, 1) := by decide +kernel
theorem d_MO_used_45 : decode b_MO_used 45 = .ok (.iaload, 1) := by decide +kernel
theorem d_MO_used_46 : decode b_MO_used 46 = .ok (.if_icmp .ge 42, 3) := by decide +kernel
theorem d_MO_used_49 : decode b_MO_used 49 = .ok (.aload_n 0, 1) := by decide +kernel
theorem d_MO_used_50 : decode b_MO_used 50 = .ok (.getfield 17, 3) := by decide +kernel
theorem d_MO_used_53 : decode b_MO_used 53 = .ok (.iload_n 1, 1) := by decide +kernel
theorem d_MO_used_54 : decode b_MO_used 54 = .ok (.iaload, 1) := by decide +kernel
theorem d_MO_used_55 : decode b_MO_used 55 = .ok (.ifCond .eq 19, 3) := by decide +kernel
theorem d_MO_used_58 : decode b_MO_used 58 = .ok (.aload_n 0, 1) := by decide +kernel
theorem d_MO_used_59 : decode b_MO_used 59 = .ok (.getfield 39, 3) := by decide +kernel
theorem d_MO_used_62 : decode b_MO_used 62 = .ok (.aload_n 0, 1) := by decide +kernel
theorem d_MO_used_63 : decode b_MO_used 63 = .ok (.getfield 33, 3) := by decide +kernel
theorem d_MO_used_66 : decode b_MO_used 66 = .ok (.iload_n 1, 1) := by decide +kernel
theorem d_MO_used_67 : decode b_MO_used 67 = .ok (.iaload, 1) := by decide +kernel
theorem d_MO_used_68 : decode b_MO_used 68 = .ok (.iload_n 3, 1) := by decide +kernel
theorem d_MO_used_69 : decode b_MO_used 69 = .ok (.iadd, 1) := by decide +kernel
theorem d_MO_used_70 : decode b_MO_used 70 = .ok (.baload, 1) := by decide +kernel
theorem d_MO_used_71 : decode b_MO_used 71 = .ok (.ifCond .eq 9, 3) := by decide +kernel
theorem d_MO_used_74 : decode b_MO_used 74 = .ok (.iload_n 2, 1) := by decide +kernel
theorem d_MO_used_75 : decode b_MO_used 75 = .ok (.iconst 1, 1) := by decide +kernel
theorem d_MO_used_76 : decode b_MO_used 76 = .ok (.iadd, 1) := by decide +kernel
theorem d_MO_used_77 : decode b_MO_used 77 = .ok (.goto 4, 3) := by decide +kernel
theorem d_MO_used_80 : decode b_MO_used 80 = .ok (.iload_n 2, 1) := by decide +kernel
theorem d_MO_used_81 : decode b_MO_used 81 = .ok (.istore_n 2, 1) := by decide +kernel
theorem d_MO_used_82 : decode b_MO_used 82 = .ok (.iinc 3 1, 3) := by decide +kernel
theorem d_MO_used_85 : decode b_MO_used 85 = .ok (.goto (-46), 3) := by decide +kernel
theorem d_MO_used_88 : decode b_MO_used 88 = .ok (.iload_n 2, 1) := by decide +kernel
theorem d_MO_used_89 : decode b_MO_used 89 = .ok (.ireturn, 1) := by decide +kernel
theorem d_MO_updateArray_0 : decode b_MO_updateArray 0 = .ok (.aload_n 0, 1) := by decide +kernel
theorem d_MO_updateArray_1 : decode b_MO_updateArray 1 = .ok (.iload_n 1, 1) := by decide +kernel
theorem d_MO_updateArray_2 : decode b_MO_updateArray 2 = .ok (.iload_n 2, 1) := by decide +kernel
theorem d_MO_updateArray_3 : decode b_MO_updateArray 3 = .ok (.invokevirtual 118, 3) := by decide +kernel
theorem d_MO_updateArray_6 : decode b_MO_updateArray 6 = .ok (.istore 5, 2) := by decide +kernel
theorem d_MO_updateArray_8 : decode b_MO_updateArray 8 = .ok (.iload 5, 2) := by decide +kernel
theorem d_MO_updateArray_10 : decode b_MO_updateArray 10 = .ok (.ifCond .ge 6, 3) := by decide +kernel
theorem d_MO_updateArray_13 : decode b_MO_updateArray 13 = .ok (.bipush (-7), 2) := by decide +kernel
theorem d_MO_updateArray_15 : decode b_MO_updateArray 15 = .ok (.ireturn, 1) := by decide +kernel
theorem d_MO_updateArray_16 : decode b_MO_updateArray 16 = .ok (.iload 4, 2) := by decide +kernel
theorem d_MO_updateArray_18 : decode b_MO_updateArray 18 = .ok (.iconst 1, 1) := by decide +kernel
theorem d_MO_updateArray_19 : decode b_MO_updateArray 19 = .ok (.if_icmp .ne 8, 3) := by decide +kernel
theorem d_MO_updateArray_22 : decode b_MO_updateArray 22 = .ok (.bipush (-17), 2) := by decide +kernel
theorem d_MO_updateArray_24 : decode b_MO_updateArray 24 = .ok (.goto 11, 3) := by decide +kernel
theorem d_MO_updateArray_27 : decode b_MO_updateArray 27 = .ok (.aload_n 0, 1) := by decide +kernel
theorem d_MO_updateArray_28 : decode b_MO_updateArray 28 = .ok (.iload_n 1, 1) := by decide +kernel
theorem d_MO_updateArray_29 : decode b_MO_updateArray 29 = .ok (.iload 5, 2) := by decide +kernel
theorem d_MO_updateArray_31 : decode b_MO_updateArray 31 = .ok (.iload_n 3, 1) := by decide +kernel
theorem d_MO_updateArray_32 : decode b_MO_updateArray 32 = .ok (.invokevirtual 128, 3) := by decide +kernel
theorem d_MO_updateArray_35 : decode b_MO_updateArray 35 = .ok (.ireturn, 1) := by decide +kernel
theorem cpy_lt {f d : Nat → Nat} (hf : ∀ j, f j < 256) (hd : ∀ j, d j < 256) (i j k : Nat) : ∀ x, cpy f i d j k x < 256 := fun x => by unfold cpy; split; exact hd _; exact hf _
theorem wf_S.ofA {t : Nat} {S : as_S} (h : wf_S t S) {d : Nat → Nat} (hd : ∀ j, d j < 256) : wf_S t (S_ar S d) := ⟨h.1, h.2.1, h.2.2.1, h.2.2.2.1, hd, h.2.2.2.2.2⟩
theorem wf_S.ofD {t : Nat} {S : as_S} (h : wf_S t S) {d : Nat → Nat} (hd : ∀ j, d j < 256) : wf_S t (S_dk S d) := ⟨h.1, h.2.1, h.2.2.1, hd, h.2.2.2.2⟩
section
variable {fe fk : Nat → Nat} {ec kc : Nat} {fi : Nat → Nat → Int32} {fl : Nat → Nat → Int64} {S : as_S}
theorem mo_R.ext (h : mo_R fe fk ec kc fi fl S) {S2 : as_S} (h1 : dk S2 = dk S) (h2 : ar S2 = ar S) (h3 : nm S2 = nm S) (h4 : gv S2 = gv S) (e : ∀ j, (mm S2 j).1 = (mm S j).1 ∧ (mm S2 j).2.1 = (mm S j).2.1 ∧ (mm S2 j).2.2.1 = (mm S j).2.2.1) : mo_R fe fk ec kc fi fl S2 := by
  have k1 : ∀ j, kd (mm S2 j) = kd (mm S j) := fun j => by show (mm S2 j).1.1 = (mm S j).1.1; rw [(e j).1]
  have k2 : ∀ j, ks (mm S2 j) = ks (mm S j) := fun j => by show (mm S2 j).1.2.1 = (mm S j).1.2.1; rw [(e j).1]
  have k3 : ∀ j, vs (mm S2 j) = vs (mm S j) := fun j => by show (mm S2 j).1.2.2.1 = (mm S j).1.2.2.1; rw [(e j).1]
  have k4 : ∀ j, en (mm S2 j) = en (mm S j) := fun j => by show (mm S2 j).1.2.2.2.1 = (mm S j).1.2.2.2.1; rw [(e j).1]
  have k5 : ∀ j, bg (mm S2 j) = bg (mm S j) := fun j => by show (mm S2 j).1.2.2.2.2 = (mm S j).1.2.2.2.2; rw [(e j).1]
  have k6 : ∀ j, tb (mm S2 j) = tb (mm S j) := fun j => (e j).2.1
  have k7 : ∀ j, hd (mm S2 j) = hd (mm S j) := fun j => by show (mm S2 j).2.2.1.1 = (mm S j).2.2.1.1; rw [(e j).2.2]
  have k8 : ∀ j, tl (mm S2 j) = tl (mm S j) := fun j => by show (mm S2 j).2.2.1.2.1 = (mm S j).2.2.1.2.1; rw [(e j).2.2]
  have k9 : ∀ j, rc (mm S2 j) = rc (mm S j) := fun j => by show (mm S2 j).2.2.1.2.2.1 = (mm S j).2.2.1.2.2.1; rw [(e j).2.2]
  have k10 : ∀ j, bk (mm S2 j) = bk (mm S j) := fun j => by show (mm S2 j).2.2.1.2.2.2 = (mm S j).2.2.1.2.2.2; rw [(e j).2.2]
  obtain ⟨g1, g2, g3, g4, g5, g6, g7, g8, g9⟩ := h
  refine ⟨by rw [h1]; exact g1, by rw [h2]; exact g2, fun i hi => ?_, fun i hi => g4 i (by rw [← h3]; exact hi), fun i hi hk => ?_, fun i j hij hj hi2 hj2 => ?_, g7, by rw [h4]; exact g8, g9⟩
  · rw [k1, k2, k3, k4, k5, k7, k8, k9, k10]; exact g3 i (by rw [← h3]; exact hi)
  · rw [k2, k4, k6]; exact g5 i (by rw [← h3]; exact hi) (by rw [← k1]; exact hk)
  · rw [k2, k4]; exact g6 i j hij (by rw [← h3]; exact hj) (by rw [← k1]; exact hi2) (by rw [← k1]; exact hj2)
theorem mo_R.ofL (h : mo_R fe fk ec kc fi fl S) (i q : Nat) : mo_R fe fk ec kc fi fl (lk S i q) := by
  by_cases hk : kd (mm S i) = 1
  · rw [lk_1 q hk]
    refine h.ext rfl rfl rfl rfl (fun j => ?_)
    by_cases z : j = i
    · subst z; rw [S_mm_self]; exact ⟨rfl, rfl, rfl⟩
    · rw [S_mm_ne _ _ z]; exact ⟨rfl, rfl, rfl⟩
  · have e : lk S i q = S := if_neg hk
    rw [e]; exact h
/-- an entry of a table gets a key, or loses it -/
theorem mo_R.tab (h : mo_R fe fk ec kc fi fl S) {fi' : Nat → Nat → Int32} {i e : Nat} (hi : i < nm S) (hk : kd (mm S i) = 1) (he : e < en (mm S i)) {v : Option (List Nat)}
    (h9 : ∀ p, fi' 9 p = if p = fe i + e then nI (if v.isSome then 1 else 0) else fi 9 p)
    (h10 : ∀ p, ¬ (fk i + e * ks (mm S i) ≤ p ∧ p < fk i + e * ks (mm S i) + ks (mm S i)) → fi' 10 p = fi 10 p)
    (h11 : ∀ k, v = some k → ∀ j, j < ks (mm S i) → fi' 10 (fk i + e * ks (mm S i) + j) = sB (k.getD j 0) ∧ k.getD j 0 < 256)
    (ho : ∀ k, k ≠ 9 → k ≠ 10 → fi' k = fi k) : mo_R fe fk ec kc fi' fl (S_mm S i (M_tb (mm S i) (va_up (tb (mm S i)) e v))) := by
  obtain ⟨g1, g2, g3, g4, g5, g6, g7, g8, g9⟩ := h
  have s1 : ∀ j, (mm (S_mm S i (M_tb (mm S i) (va_up (tb (mm S i)) e v))) j).1 = (mm S j).1 ∧ (mm (S_mm S i (M_tb (mm S i) (va_up (tb (mm S i)) e v))) j).2.2 = (mm S j).2.2 := fun j => by
    by_cases z : j = i
    · subst z; rw [S_mm_self]; exact ⟨rfl, rfl⟩
    · rw [S_mm_ne _ _ z]; exact ⟨rfl, rfl⟩
  have s2 : ∀ j, j ≠ i → tb (mm (S_mm S i (M_tb (mm S i) (va_up (tb (mm S i)) e v))) j) = tb (mm S j) := fun j z => by rw [S_mm_ne _ _ z]
  have s3 : tb (mm (S_mm S i (M_tb (mm S i) (va_up (tb (mm S i)) e v))) i) = va_up (tb (mm S i)) e v := by rw [S_mm_self]; rfl
  have hS : dk (S_mm S i (M_tb (mm S i) (va_up (tb (mm S i)) e v))) = dk S ∧ ar (S_mm S i (M_tb (mm S i) (va_up (tb (mm S i)) e v))) = ar S ∧ nm (S_mm S i (M_tb (mm S i) (va_up (tb (mm S i)) e v))) = nm S ∧ gv (S_mm S i (M_tb (mm S i) (va_up (tb (mm S i)) e v))) = gv S := ⟨rfl, rfl, rfl, rfl⟩
  generalize S_mm S i (M_tb (mm S i) (va_up (tb (mm S i)) e v)) = S2 at *
  obtain ⟨q1, q2, q3, q4⟩ := hS
  have k1 : ∀ j, kd (mm S2 j) = kd (mm S j) := fun j => by show (mm S2 j).1.1 = (mm S j).1.1; rw [(s1 j).1]
  have k2 : ∀ j, ks (mm S2 j) = ks (mm S j) := fun j => by show (mm S2 j).1.2.1 = (mm S j).1.2.1; rw [(s1 j).1]
  have k3 : ∀ j, vs (mm S2 j) = vs (mm S j) := fun j => by show (mm S2 j).1.2.2.1 = (mm S j).1.2.2.1; rw [(s1 j).1]
  have k4 : ∀ j, en (mm S2 j) = en (mm S j) := fun j => by show (mm S2 j).1.2.2.2.1 = (mm S j).1.2.2.2.1; rw [(s1 j).1]
  have k5 : ∀ j, bg (mm S2 j) = bg (mm S j) := fun j => by show (mm S2 j).1.2.2.2.2 = (mm S j).1.2.2.2.2; rw [(s1 j).1]
  have k7 : ∀ j, hd (mm S2 j) = hd (mm S j) := fun j => by show (mm S2 j).2.2.1.1 = (mm S j).2.2.1.1; rw [(s1 j).2]
  have k8 : ∀ j, tl (mm S2 j) = tl (mm S j) := fun j => by show (mm S2 j).2.2.1.2.1 = (mm S j).2.2.1.2.1; rw [(s1 j).2]
  have k9 : ∀ j, rc (mm S2 j) = rc (mm S j) := fun j => by show (mm S2 j).2.2.1.2.2.1 = (mm S j).2.2.1.2.2.1; rw [(s1 j).2]
  have k10 : ∀ j, bk (mm S2 j) = bk (mm S j) := fun j => by show (mm S2 j).2.2.1.2.2.2 = (mm S j).2.2.1.2.2.2; rw [(s1 j).2]
  have hT := g5 i hi hk
  have dj : ∀ j, j < nm S → kd (mm S j) = 1 → j ≠ i → (fe j + en (mm S j) ≤ fe i ∧ fk j + en (mm S j) * ks (mm S j) ≤ fk i) ∨ (fe i + en (mm S i) ≤ fe j ∧ fk i + en (mm S i) * ks (mm S i) ≤ fk j) := fun j hj hkj z => by
    by_cases hlt : j < i
    · exact Or.inl (g6 j i hlt hi hkj hk)
    · exact Or.inr (g6 i j (by omega) hj hk hkj)
  have mi := mul_in (k := ks (mm S i)) he
  refine ⟨by rw [q1, ho 0 (by decide) (by decide)]; exact g1, by rw [q2, ho 1 (by decide) (by decide)]; exact g2, fun j hj => ?_, fun j hj hj2 => ?_, fun j hj hkj => ?_, fun a b hab hb ha2 hb2 => ?_, fun p hp hp2 => ?_, by rw [q4]; exact g8, g9⟩
  · rw [k1, k2, k3, k4, k5, k7, k8, k9, k10, ho 2 (by decide) (by decide), ho 3 (by decide) (by decide), ho 4 (by decide) (by decide), ho 5 (by decide) (by decide), ho 6 (by decide) (by decide), ho 13 (by decide) (by decide), ho 14 (by decide) (by decide)]
    exact g3 j (by rw [← q3]; exact hj)
  · rw [ho 13 (by decide) (by decide), ho 14 (by decide) (by decide)]; exact g4 j (by rw [← q3]; exact hj) hj2
  · have hj : j < nm S := by rw [← q3]; exact hj
    have hkj : kd (mm S j) = 1 := by rw [← k1]; exact hkj
    obtain ⟨t1, t2, t3, t4, t5, t6⟩ := g5 j hj hkj
    rw [ho 7 (by decide) (by decide), ho 8 (by decide) (by decide), k2, k4]
    refine ⟨t1, t2, t3, t4, fun e' he' => ?_, fun e' ky he' hky z hz => ?_⟩
    · rw [h9]
      by_cases ji : j = i
      · subst ji
        rw [s3]
        by_cases ee : e' = e
        · subst ee; rw [if_pos rfl, va_up_self]
        · rw [if_neg (by omega), va_up_ne _ _ ee]; exact t5 e' he'
      · rw [if_neg (by rcases dj j hj hkj ji with d | d <;> omega), s2 j ji]; exact t5 e' he'
    · have mj := mul_in (k := ks (mm S j)) he'
      by_cases ji : j = i
      · subst ji
        rw [s3] at hky
        by_cases ee : e' = e
        · subst ee; rw [va_up_self] at hky; exact h11 ky hky z hz
        · rw [va_up_ne _ _ ee] at hky
          rw [h10]
          · exact t6 e' ky he' hky z hz
          · rcases Nat.lt_or_gt_of_ne ee with l | l
            · have := mul_in (k := ks (mm S j)) l; omega
            · have := mul_in (k := ks (mm S j)) l; omega
      · rw [s2 j ji] at hky
        rw [h10]
        · exact t6 e' ky he' hky z hz
        · rcases dj j hj hkj ji with d | d <;> omega
  · rw [k2, k4]; exact g6 a b hab (by rw [← q3]; exact hb) (by rw [← k1]; exact ha2) (by rw [← k1]; exact hb2)
  · rw [h9, if_neg (by have := hT.2.2.1; omega)]; exact g7 p hp hp2
end
set_option maxRecDepth 100000 in
set_option maxHeartbeats 4000000 in
theorem c_MO_write (l : Launch) (D : va_G) (dA : Nat → ClassId) {w : mw_W} {own : as_W} {y t : Nat} {A : Nat → Nat} {cd : Int32} {fe fk : Nat → Nat} {ec kc : Nat} {fi : Nat → Nat → Int32} {fl : Nat → Nat → Int64} {S : as_S} (hw : mo_W dA w own y A cd (nI (gv S)) (nI (nm S)) (nI ec) (nI kc) (nI 0) fi fl) (hR : mo_R fe fk ec kc fi fl S) (hW : wf_S t S) {i : Nat} (hi : i < nm S) (hk : kd (mm S i) = 0 ∨ kd (mm S i) = 1) {e0 v : Nat} (he : e0 < en (mm S i)) (hv0 : v + vs (mm S i) ≤ 512) : CT l D dA y_MO_write (Cond.code y_MO_write b_MO_write 5 (some .int) :: Ts) 2 60 0 0 [.ref y, .int (nI i), .int (nI e0), .int (nI v)] w (fun r w' => r = .inl (some (.int (nI 0))) ∧ FrM w own w' ∧ ∃ fi', mo_W dA w' own y A cd (nI (gv S)) (nI (nm S)) (nI ec) (nI kc) (nI 0) fi' fl ∧ mo_R fe fk ec kc fi' fl (wrE S i e0 v)) := by
  refine mw_meth (by decide) mk_tb (Nat.le_of_ble_eq_true rfl) ?_
  intro p e s m below meth c K hr hlk hce hnm hP0 hSy ls hl
  have hl : lv_has ls 5 [(0, .ref y), (1, .int (nI i)), (2, .int (nI e0)), (3, .int (nI v))] := hl
  obtain ⟨hx, hb, hml, hown, hts, hK, hTb⟩ := id K
  have hI := mw_I.start hP0
  have h64 := hW.1
  have hwf := hW.2.2.2.2.2 i hi
  obtain ⟨b1, b2, b3, b4, b5, b6, b7, b8⟩ := wf_E hwf hk
  obtain ⟨p1, p2⟩ := plc_lt hwf hk he
  obtain ⟨pl, epl⟩ : ∃ pl, pl = plc (mm S i) e0 := ⟨_, rfl⟩
  rw [← epl] at p1
  have hF0 := FrM.rf w own
  have hloop : ∀ (n9 j : Nat), j + n9 = vs (mm S i) → ∀ (w1 : mw_W) (fi1 : Nat → Nat → Int32), FrM w own w1 → mo_W dA w1 own y A cd (nI (gv S)) (nI (nm S)) (nI ec) (nI kc) (nI 0) fi1 fl → mo_R fe fk ec kc fi1 fl (S_ar S (cpy (ar S) pl (dk S) v j)) → ∀ (H : Heap) (locs : List Loc), mw_I D mk_cl w s.heap w1 H locs → ∀ ls : Array Slot, lv_has ls 5 [(4, .int (nI j)), (0, .ref y), (1, .int (nI i)), (2, .int (nI e0)), (3, .int (nI v))] → W p l e { frames := 2, cells := 0, slots := 0, locals := 60 } s m ([.ref y, .int (nI i), .int (nI e0), .int (nI v)] : List Value).toArray below meth c H locs 0 0 (mx_Q below (mw_Qc D mk_cl w s.heap.size (fun r w' => r = .inl (some (.int (nI 0))) ∧ FrM w own w' ∧ ∃ fi', mo_W dA w' own y A cd (nI (gv S)) (nI (nm S)) (nI ec) (nI kc) (nI 0) fi' fl ∧ mo_R fe fk ec kc fi' fl (wrE S i e0 v))) ([.ref y, .int (nI i), .int (nI e0), .int (nI v)] : List Value).toArray s 0 0 (mw_A w s.heap.size)) (F0 m 3 ls []) := by
    intro n9
    induction n9 with
    | zero =>
      intro j hj w1 fi1 hF hw hR H locs hI ls hl
      have r3 := (hR.2.2.1 i hi).1.2.2.1
      refine lv_iload hx hb d_MO_write_3 (lv_at hl 0 rfl) ?_
      refine lv_aload_n hx hb d_MO_write_5 rfl (lv_at hl 1 rfl) ?_
      refine mw_get K hI gf_MO_24_cMO hw.o rfl d_MO_write_6 ?_
      refine lv_iload_n hx hb d_MO_write_9 rfl (lv_at hl 2 rfl) ?_
      refine mw_iald K hI tI hw.a4 rfl i rfl (by first | assumption | omega) (by omega) d_MO_write_10 ?_
      refine mw_ti (y := nI (vs (mm S i))) (r3) ?_
      refine lv_icmp_ge (tgt := 43) hx hb d_MO_write_11 (by decide) (fun c11 => ?_) (fun c11 => ?_)
      ·
        refine lv_iconst (v := nI 0) hx hb d_MO_write_43 (by decide) ?_
        refine mw_iret K hI hr hlk ⟨rfl, hF, fi1, hw, ?_⟩ d_MO_write_44
        unfold wrE
        rw [← epl, ← show j = vs (mm S i) by omega]
        exact hR
      ·
        exact absurd (nI_le (by omega) (by omega)) c11
    | succ n9 ih =>
      intro j hj w1 fi1 hF hw hR H locs hI ls hl
      have r3 := (hR.2.2.1 i hi).1.2.2.1
      have hW1 := hW.ofA (cpy_lt hW.2.2.2.2.1 hW.2.2.2.1 pl v j)
      refine lv_iload hx hb d_MO_write_3 (lv_at hl 0 rfl) ?_
      refine lv_aload_n hx hb d_MO_write_5 rfl (lv_at hl 1 rfl) ?_
      refine mw_get K hI gf_MO_24_cMO hw.o rfl d_MO_write_6 ?_
      refine lv_iload_n hx hb d_MO_write_9 rfl (lv_at hl 2 rfl) ?_
      refine mw_iald K hI tI hw.a4 rfl i rfl (by first | assumption | omega) (by omega) d_MO_write_10 ?_
      refine mw_ti (y := nI (vs (mm S i))) (r3) ?_
      refine lv_icmp_ge (tgt := 43) hx hb d_MO_write_11 (by decide) (fun c11 => ?_) (fun c11 => ?_)
      ·
        exact absurd c11 (nI_ge (by omega) (by omega))
      ·
        refine lv_aload_n hx hb d_MO_write_14 rfl (lv_at hl 1 rfl) ?_
        refine mw_get K hI gf_MO_14_cMO hw.o rfl d_MO_write_15 ?_
        refine lv_aload_n hx hb d_MO_write_18 rfl (lv_at hl 1 rfl) ?_
        refine lv_iload_n hx hb d_MO_write_19 rfl (lv_at hl 2 rfl) ?_
        refine lv_iload_n hx hb d_MO_write_20 rfl (lv_at hl 3 rfl) ?_
        refine mw_call (rest := [.ref (A 1)]) K hSy hP0 hI (c_MO_placeOf l D dA (S := S_ar S (cpy (ar S) pl (dk S) v j)) hw hR hW1 hi hk he) (mx_invV hx hown (hts _ tw_748) (hts _ tw_750) (hts _ tw_13) (hts _ tw_751) (by decide) (b := y) (mw_rc K hI hw.o rfl) (g := F0 m 21 ls [.int (nI e0), .int (nI i), .ref y, .ref (A 1)]) rfl (argsL := [.int (nI i), .int (nI e0)]) (rest := [.ref (A 1)]) np_MO_placeOf rfl (by rw [hb]; exact d_MO_write_21)) hl.1 d_MO_write_21 ⟨Nat.le_of_ble_eq_true rfl, Nat.le_of_ble_eq_true rfl⟩ (Or.inl ⟨_, _, List.mem_cons_self⟩) (mk_ws tw_751 hts) (fun a9 U9 h9 => Ts_warm hts _ tw_23 a9 U9 h9) ⟨Nat.le_of_ble_eq_true rfl, Nat.le_of_ble_eq_true rfl⟩ (fun v w' H locs hq hI => ?_) (fun k x w' H locs hq hI hX => ?_)
        · obtain ⟨hq1, hq2⟩ := hq
          cases hq1
          rw [hq2] at hI
          refine W.eq (g2 := F0 m 24 ls [.int (nI (plc (mm S i) e0)), .ref (A 1)]) rfl ?_
          refine mw_ti (y := nI pl) ((by rw [epl])) ?_
          refine lv_iload hx hb d_MO_write_24 (lv_at hl 0 rfl) ?_
          refine lv_iadd hx hb d_MO_write_26 ?_
          refine mw_ti (nI_add _ _) ?_
          refine lv_aload_n hx hb d_MO_write_27 rfl (lv_at hl 1 rfl) ?_
          refine mw_get K hI gf_MO_7_cMO hw.o rfl d_MO_write_28 ?_
          refine lv_iload_n hx hb d_MO_write_31 rfl (lv_at hl 4 rfl) ?_
          refine lv_iload hx hb d_MO_write_32 (lv_at hl 0 rfl) ?_
          refine lv_iadd hx hb d_MO_write_34 ?_
          refine mw_ti (nI_add _ _) ?_
          refine mw_bald K hI tB hw.a0 rfl (v + j) rfl (by first | assumption | omega) (by omega) d_MO_write_35 ?_
          refine mw_ti (y := sB (dk S (v + j))) (hR.1 (v + j) (by omega)) ?_
          refine mw_bast K hI tB hw.a1 rfl (pl + j) rfl (by first | assumption | omega) (by omega) d_MO_write_36 (fun H locs hI => ?_)
          obtain ⟨wn1, fn1, hI, hF, hw, hfn1⟩ := hw.seti (f := upd (fi1 1) (pl + j) (vp_nar .byte (sB (dk S (v + j))))) 1 (by decide) hI hF rfl
          refine lv_iinc (v := nI (j + 1)) (lv' := [(4, .int (nI (j + 1))), (0, .ref y), (1, .int (nI i)), (2, .int (nI e0)), (3, .int (nI v))]) hx hb d_MO_write_37 hl (k := 0) rfl (nI_add _ _) (by decide) rfl (fun ls hl => ?_)
          refine lv_goto (tgt := 3) hx hb d_MO_write_40 (by decide) ?_
          refine ih (j + 1) (by omega) _ _ hF hw ?_ H locs hI ls (lv_sub hl [0, 1, 2, 3, 4] rfl)
          rw [hfn1]
          refine hR.area (fun p hp => ?_)
          rw [sB_nar (hW.2.2.2.1 _)]
          show (if p = pl + j then sB (dk S (v + j)) else fi1 1 p) = _
          rw [hR.2.1 p hp]
          show _ = sB (cpy (ar S) pl (dk S) v (j + 1) p)
          show (if p = pl + j then sB (dk S (v + j)) else sB (cpy (ar S) pl (dk S) v j p)) = _
          unfold cpy
          by_cases e : p = pl + j
          · rw [if_pos e, if_pos (by omega), e, Nat.add_sub_cancel_left]
          · rw [if_neg e]
            by_cases e2 : pl ≤ p ∧ p < pl + j
            · rw [if_pos e2, if_pos (by omega)]
            · rw [if_neg e2, if_neg (by omega)]
        · exact absurd hq.1 (by simp)
  refine lv_iconst (v := nI 0) hx hb d_MO_write_0 (by decide) ?_
  refine lv_istore (lv' := [(4, .int (nI 0)), (0, .ref y), (1, .int (nI i)), (2, .int (nI e0)), (3, .int (nI v))]) hx hb d_MO_write_1 hl (by decide) rfl (fun ls hl => ?_)
  refine hloop (vs (mm S i)) 0 (by omega) w fi hF0 hw ?_ _ _ hI ls (lv_sub hl [0, 1, 2, 3, 4] rfl)
  have : cpy (ar S) pl (dk S) v 0 = ar S := by funext p; unfold cpy; rw [if_neg (by omega)]
  rw [this]; exact hR
