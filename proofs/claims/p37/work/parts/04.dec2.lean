theorem dX10_costAt_86 : decode cX10_costAt 86 = .ok (.getfield 412, 3) := by decide +kernel
theorem dX10_costAt_89 : decode cX10_costAt 89 = .ok (.invokevirtual 415, 3) := by decide +kernel
theorem dX10_costAt_92 : decode cX10_costAt 92 = .ok (.bipush 10, 2) := by decide +kernel
theorem dX10_costAt_94 : decode cX10_costAt 94 = .ok (.iload_n 3, 1) := by decide +kernel
theorem dX10_costAt_95 : decode cX10_costAt 95 = .ok (.imul, 1) := by decide +kernel
theorem dX10_costAt_96 : decode cX10_costAt 96 = .ok (.iadd, 1) := by decide +kernel
theorem dX10_costAt_97 : decode cX10_costAt 97 = .ok (.istore 4, 2) := by decide +kernel
theorem dX10_costAt_99 : decode cX10_costAt 99 = .ok (.iload 4, 2) := by decide +kernel
theorem dX10_costAt_101 : decode cX10_costAt 101 = .ok (.bipush 60, 2) := by decide +kernel
theorem dX10_costAt_103 : decode cX10_costAt 103 = .ok (.if_icmp .gt 8, 3) := by decide +kernel
theorem dX10_costAt_106 : decode cX10_costAt 106 = .ok (.iload 4, 2) := by decide +kernel
theorem dX10_costAt_108 : decode cX10_costAt 108 = .ok (.goto 4, 3) := by decide +kernel
theorem dX10_costAt_111 : decode cX10_costAt 111 = .ok (.iconst (-1), 1) := by decide +kernel
theorem dX10_costAt_112 : decode cX10_costAt 112 = .ok (.ireturn, 1) := by decide +kernel
theorem dX10_countEdits_0 : decode cX10_countEdits 0 = .ok (.iconst 0, 1) := by decide +kernel
theorem dX10_countEdits_1 : decode cX10_countEdits 1 = .ok (.istore 5, 2) := by decide +kernel
theorem dX10_countEdits_3 : decode cX10_countEdits 3 = .ok (.iload 5, 2) := by decide +kernel
theorem dX10_countEdits_5 : decode cX10_countEdits 5 = .ok (.aload_n 0, 1) := by decide +kernel
theorem dX10_countEdits_6 : decode cX10_countEdits 6 = .ok (.getfield 45, 3) := by decide +kernel
theorem dX10_countEdits_9 : decode cX10_countEdits 9 = .ok (.arraylength, 1) := by decide +kernel
theorem dX10_countEdits_10 : decode cX10_countEdits 10 = .ok (.if_icmp .ge 18, 3) := by decide +kernel
theorem dX10_countEdits_13 : decode cX10_countEdits 13 = .ok (.aload_n 0, 1) := by decide +kernel
theorem dX10_countEdits_14 : decode cX10_countEdits 14 = .ok (.getfield 45, 3) := by decide +kernel
theorem dX10_countEdits_17 : decode cX10_countEdits 17 = .ok (.iload 5, 2) := by decide +kernel
theorem dX10_countEdits_19 : decode cX10_countEdits 19 = .ok (.iload 5, 2) := by decide +kernel
theorem dX10_countEdits_21 : decode cX10_countEdits 21 = .ok (.iastore, 1) := by decide +kernel
theorem dX10_countEdits_22 : decode cX10_countEdits 22 = .ok (.iinc 5 1, 3) := by decide +kernel
theorem dX10_countEdits_25 : decode cX10_countEdits 25 = .ok (.goto (-22), 3) := by decide +kernel
theorem dX10_countEdits_28 : decode cX10_countEdits 28 = .ok (.lload_n 1, 1) := by decide +kernel
theorem dX10_countEdits_29 : decode cX10_countEdits 29 = .ok (.lstore 5, 2) := by decide +kernel
theorem dX10_countEdits_31 : decode cX10_countEdits 31 = .ok (.iconst 0, 1) := by decide +kernel
theorem dX10_countEdits_32 : decode cX10_countEdits 32 = .ok (.istore 7, 2) := by decide +kernel
theorem dX10_countEdits_34 : decode cX10_countEdits 34 = .ok (.iload 7, 2) := by decide +kernel
theorem dX10_countEdits_36 : decode cX10_countEdits 36 = .ok (.bipush 8, 2) := by decide +kernel
theorem dX10_countEdits_38 : decode cX10_countEdits 38 = .ok (.if_icmp .ge 35, 3) := by decide +kernel
theorem dX10_countEdits_41 : decode cX10_countEdits 41 = .ok (.lload 5, 2) := by decide +kernel
theorem dX10_countEdits_43 : decode cX10_countEdits 43 = .ok (.lconst 0, 1) := by decide +kernel
theorem dX10_countEdits_44 : decode cX10_countEdits 44 = .ok (.lcmp, 1) := by decide +kernel
theorem dX10_countEdits_45 : decode cX10_countEdits 45 = .ok (.ifCond .le 28, 3) := by decide +kernel
theorem dX10_countEdits_48 : decode cX10_countEdits 48 = .ok (.aload_n 0, 1) := by decide +kernel
theorem dX10_countEdits_49 : decode cX10_countEdits 49 = .ok (.lload 5, 2) := by decide +kernel
theorem dX10_countEdits_51 : decode cX10_countEdits 51 = .ok (.ldc2_w 295, 3) := by decide +kernel
theorem dX10_countEdits_54 : decode cX10_countEdits 54 = .ok (.lrem, 1) := by decide +kernel
theorem dX10_countEdits_55 : decode cX10_countEdits 55 = .ok (.lload_n 3, 1) := by decide +kernel
theorem dX10_countEdits_56 : decode cX10_countEdits 56 = .ok (.invokevirtual 419, 3) := by decide +kernel
theorem dX10_countEdits_59 : decode cX10_countEdits 59 = .ok (.lload 5, 2) := by decide +kernel
theorem dX10_countEdits_61 : decode cX10_countEdits 61 = .ok (.ldc2_w 295, 3) := by decide +kernel
theorem dX10_countEdits_64 : decode cX10_countEdits 64 = .ok (.ldiv, 1) := by decide +kernel
theorem dX10_countEdits_65 : decode cX10_countEdits 65 = .ok (.lstore 5, 2) := by decide +kernel
theorem dX10_countEdits_67 : decode cX10_countEdits 67 = .ok (.iinc 7 1, 3) := by decide +kernel
theorem dX10_countEdits_70 : decode cX10_countEdits 70 = .ok (.goto (-36), 3) := by decide +kernel
theorem dX10_countEdits_73 : decode cX10_countEdits 73 = .ok (.lload_n 3, 1) := by decide +kernel
theorem dX10_countEdits_74 : decode cX10_countEdits 74 = .ok (.invokestatic 423, 3) := by decide +kernel
theorem dX10_countEdits_77 : decode cX10_countEdits 77 = .ok (.istore 7, 2) := by decide +kernel
theorem dX10_countEdits_79 : decode cX10_countEdits 79 = .ok (.iload 7, 2) := by decide +kernel
theorem dX10_countEdits_81 : decode cX10_countEdits 81 = .ok (.aload_n 0, 1) := by decide +kernel
theorem dX10_countEdits_82 : decode cX10_countEdits 82 = .ok (.getfield 45, 3) := by decide +kernel
theorem dX10_countEdits_85 : decode cX10_countEdits 85 = .ok (.arraylength, 1) := by decide +kernel
theorem dX10_countEdits_86 : decode cX10_countEdits 86 = .ok (.if_icmp .ge 13, 3) := by decide +kernel
theorem dX10_countEdits_89 : decode cX10_countEdits 89 = .ok (.aload_n 0, 1) := by decide +kernel
theorem dX10_countEdits_90 : decode cX10_countEdits 90 = .ok (.getfield 45, 3) := by decide +kernel
theorem dX10_countEdits_93 : decode cX10_countEdits 93 = .ok (.iload 7, 2) := by decide +kernel
theorem dX10_countEdits_95 : decode cX10_countEdits 95 = .ok (.iaload, 1) := by decide +kernel
theorem dX10_countEdits_96 : decode cX10_countEdits 96 = .ok (.goto 5, 3) := by decide +kernel
theorem dX10_countEdits_99 : decode cX10_countEdits 99 = .ok (.bipush 8, 2) := by decide +kernel
theorem dX10_countEdits_101 : decode cX10_countEdits 101 = .ok (.ireturn, 1) := by decide +kernel
theorem dX10_addToEdits_0 : decode cX10_addToEdits 0 = .ok (.iconst 0, 1) := by decide +kernel
theorem dX10_addToEdits_1 : decode cX10_addToEdits 1 = .ok (.istore 5, 2) := by decide +kernel
theorem dX10_addToEdits_3 : decode cX10_addToEdits 3 = .ok (.iconst 0, 1) := by decide +kernel
theorem dX10_addToEdits_4 : decode cX10_addToEdits 4 = .ok (.istore 6, 2) := by decide +kernel
theorem dX10_addToEdits_6 : decode cX10_addToEdits 6 = .ok (.lload_n 3, 1) := by decide +kernel
theorem dX10_addToEdits_7 : decode cX10_addToEdits 7 = .ok (.lstore 7, 2) := by decide +kernel
theorem dX10_addToEdits_9 : decode cX10_addToEdits 9 = .ok (.iconst 0, 1) := by decide +kernel
theorem dX10_addToEdits_10 : decode cX10_addToEdits 10 = .ok (.istore 9, 2) := by decide +kernel
theorem dX10_addToEdits_12 : decode cX10_addToEdits 12 = .ok (.iload 9, 2) := by decide +kernel
theorem dX10_addToEdits_14 : decode cX10_addToEdits 14 = .ok (.aload_n 0, 1) := by decide +kernel
theorem dX10_addToEdits_15 : decode cX10_addToEdits 15 = .ok (.getfield 45, 3) := by decide +kernel
theorem dX10_addToEdits_18 : decode cX10_addToEdits 18 = .ok (.arraylength, 1) := by decide +kernel
theorem dX10_addToEdits_19 : decode cX10_addToEdits 19 = .ok (.if_icmp .ge 90, 3) := by decide +kernel
theorem dX10_addToEdits_22 : decode cX10_addToEdits 22 = .ok (.aload_n 0, 1) := by decide +kernel
theorem dX10_addToEdits_23 : decode cX10_addToEdits 23 = .ok (.getfield 45, 3) := by decide +kernel
theorem dX10_addToEdits_26 : decode cX10_addToEdits 26 = .ok (.iload 9, 2) := by decide +kernel
theorem dX10_addToEdits_28 : decode cX10_addToEdits 28 = .ok (.iaload, 1) := by decide +kernel
theorem dX10_addToEdits_29 : decode cX10_addToEdits 29 = .ok (.istore 10, 2) := by decide +kernel
theorem dX10_addToEdits_31 : decode cX10_addToEdits 31 = .ok (.iload 9, 2) := by decide +kernel
theorem dX10_addToEdits_33 : decode cX10_addToEdits 33 = .ok (.ifCond .ne 12, 3) := by decide +kernel
theorem dX10_addToEdits_36 : decode cX10_addToEdits 36 = .ok (.iload 10, 2) := by decide +kernel
theorem dX10_addToEdits_38 : decode cX10_addToEdits 38 = .ok (.iconst 1, 1) := by decide +kernel
theorem dX10_addToEdits_39 : decode cX10_addToEdits 39 = .ok (.iadd, 1) := by decide +kernel
theorem dX10_addToEdits_40 : decode cX10_addToEdits 40 = .ok (.istore 6, 2) := by decide +kernel
theorem dX10_addToEdits_42 : decode cX10_addToEdits 42 = .ok (.goto 48, 3) := by decide +kernel
theorem dX10_addToEdits_45 : decode cX10_addToEdits 45 = .ok (.iload 5, 2) := by decide +kernel
theorem dX10_addToEdits_47 : decode cX10_addToEdits 47 = .ok (.lload 7, 2) := by decide +kernel
theorem dX10_addToEdits_49 : decode cX10_addToEdits 49 = .ok (.ldc2_w 295, 3) := by decide +kernel
theorem dX10_addToEdits_52 : decode cX10_addToEdits 52 = .ok (.lrem, 1) := by decide +kernel
theorem dX10_addToEdits_53 : decode cX10_addToEdits 53 = .ok (.lload_n 1, 1) := by decide +kernel
theorem dX10_addToEdits_54 : decode cX10_addToEdits 54 = .ok (.lcmp, 1) := by decide +kernel
theorem dX10_addToEdits_55 : decode cX10_addToEdits 55 = .ok (.ifCond .ne 7, 3) := by decide +kernel
theorem dX10_addToEdits_58 : decode cX10_addToEdits 58 = .ok (.iconst 0, 1) := by decide +kernel
theorem dX10_addToEdits_59 : decode cX10_addToEdits 59 = .ok (.goto 4, 3) := by decide +kernel
theorem dX10_addToEdits_62 : decode cX10_addToEdits 62 = .ok (.iconst 1, 1) := by decide +kernel
theorem dX10_addToEdits_63 : decode cX10_addToEdits 63 = .ok (.iadd, 1) := by decide +kernel
theorem dX10_addToEdits_64 : decode cX10_addToEdits 64 = .ok (.istore 11, 2) := by decide +kernel
theorem dX10_addToEdits_66 : decode cX10_addToEdits 66 = .ok (.iload 11, 2) := by decide +kernel
theorem dX10_addToEdits_68 : decode cX10_addToEdits 68 = .ok (.iload 10, 2) := by decide +kernel
theorem dX10_addToEdits_70 : decode cX10_addToEdits 70 = .ok (.iload 6, 2) := by decide +kernel
theorem dX10_addToEdits_72 : decode cX10_addToEdits 72 = .ok (.invokestatic 406, 3) := by decide +kernel
theorem dX10_addToEdits_75 : decode cX10_addToEdits 75 = .ok (.iconst 1, 1) := by decide +kernel
theorem dX10_addToEdits_76 : decode cX10_addToEdits 76 = .ok (.iadd, 1) := by decide +kernel
theorem dX10_addToEdits_77 : decode cX10_addToEdits 77 = .ok (.invokestatic 406, 3) := by decide +kernel
theorem dX10_addToEdits_80 : decode cX10_addToEdits 80 = .ok (.istore 6, 2) := by decide +kernel
theorem dX10_addToEdits_82 : decode cX10_addToEdits 82 = .ok (.lload 7, 2) := by decide +kernel
theorem dX10_addToEdits_84 : decode cX10_addToEdits 84 = .ok (.ldc2_w 295, 3) := by decide +kernel
theorem dX10_addToEdits_87 : decode cX10_addToEdits 87 = .ok (.ldiv, 1) := by decide +kernel
theorem dX10_addToEdits_88 : decode cX10_addToEdits 88 = .ok (.lstore 7, 2) := by decide +kernel
theorem dX10_addToEdits_90 : decode cX10_addToEdits 90 = .ok (.aload_n 0, 1) := by decide +kernel
theorem dX10_addToEdits_91 : decode cX10_addToEdits 91 = .ok (.getfield 45, 3) := by decide +kernel
theorem dX10_addToEdits_94 : decode cX10_addToEdits 94 = .ok (.iload 9, 2) := by decide +kernel
theorem dX10_addToEdits_96 : decode cX10_addToEdits 96 = .ok (.iload 6, 2) := by decide +kernel
theorem dX10_addToEdits_98 : decode cX10_addToEdits 98 = .ok (.iastore, 1) := by decide +kernel
theorem dX10_addToEdits_99 : decode cX10_addToEdits 99 = .ok (.iload 10, 2) := by decide +kernel
theorem dX10_addToEdits_101 : decode cX10_addToEdits 101 = .ok (.istore 5, 2) := by decide +kernel
theorem dX10_addToEdits_103 : decode cX10_addToEdits 103 = .ok (.iinc 9 1, 3) := by decide +kernel
theorem dX10_addToEdits_106 : decode cX10_addToEdits 106 = .ok (.goto (-94), 3) := by decide +kernel
theorem dX10_addToEdits_109 : decode cX10_addToEdits 109 = .ok (.return_, 1) := by decide +kernel
theorem dX10_assignAll_0 : decode cX10_assignAll 0 = .ok (.aload_n 0, 1) := by decide +kernel
theorem dX10_assignAll_1 : decode cX10_assignAll 1 = .ok (.getfield 34, 3) := by decide +kernel
theorem dX10_assignAll_4 : decode cX10_assignAll 4 = .ok (.invokevirtual 427, 3) := by decide +kernel
theorem dX10_assignAll_7 : decode cX10_assignAll 7 = .ok (.iconst 0, 1) := by decide +kernel
theorem dX10_assignAll_8 : decode cX10_assignAll 8 = .ok (.istore_n 1, 1) := by decide +kernel
theorem dX10_assignAll_9 : decode cX10_assignAll 9 = .ok (.iload_n 1, 1) := by decide +kernel
theorem dX10_assignAll_10 : decode cX10_assignAll 10 = .ok (.aload_n 0, 1) := by decide +kernel
theorem dX10_assignAll_11 : decode cX10_assignAll 11 = .ok (.getfield 10, 3) := by decide +kernel
theorem dX10_assignAll_14 : decode cX10_assignAll 14 = .ok (.invokevirtual 67, 3) := by decide +kernel
theorem dX10_assignAll_17 : decode cX10_assignAll 17 = .ok (.if_icmp .ge 78, 3) := by decide +kernel
theorem dX10_assignAll_20 : decode cX10_assignAll 20 = .ok (.iconst 0, 1) := by decide +kernel
theorem dX10_assignAll_21 : decode cX10_assignAll 21 = .ok (.istore_n 2, 1) := by decide +kernel
theorem dX10_assignAll_22 : decode cX10_assignAll 22 = .ok (.iload_n 2, 1) := by decide +kernel
theorem dX10_assignAll_23 : decode cX10_assignAll 23 = .ok (.iconst 4, 1) := by decide +kernel
theorem dX10_assignAll_24 : decode cX10_assignAll 24 = .ok (.if_icmp .ge 58, 3) := by decide +kernel
theorem dX10_assignAll_27 : decode cX10_assignAll 27 = .ok (.aload_n 0, 1) := by decide +kernel
theorem dX10_assignAll_28 : decode cX10_assignAll 28 = .ok (.getfield 34, 3) := by decide +kernel
theorem dX10_assignAll_31 : decode cX10_assignAll 31 = .ok (.iload_n 2, 1) := by decide +kernel
theorem dX10_assignAll_32 : decode cX10_assignAll 32 = .ok (.iload_n 2, 1) := by decide +kernel
theorem dX10_assignAll_33 : decode cX10_assignAll 33 = .ok (.aload_n 0, 1) := by decide +kernel
theorem dX10_assignAll_34 : decode cX10_assignAll 34 = .ok (.getfield 25, 3) := by decide +kernel
theorem dX10_assignAll_37 : decode cX10_assignAll 37 = .ok (.invokevirtual 67, 3) := by decide +kernel
theorem dX10_assignAll_40 : decode cX10_assignAll 40 = .ok (.if_icmp .ge 32, 3) := by decide +kernel
theorem dX10_assignAll_43 : decode cX10_assignAll 43 = .ok (.aload_n 0, 1) := by decide +kernel
theorem dX10_assignAll_44 : decode cX10_assignAll 44 = .ok (.aload_n 0, 1) := by decide +kernel
theorem dX10_assignAll_45 : decode cX10_assignAll 45 = .ok (.getfield 25, 3) := by decide +kernel
theorem dX10_assignAll_48 : decode cX10_assignAll 48 = .ok (.iload_n 2, 1) := by decide +kernel
theorem dX10_assignAll_49 : decode cX10_assignAll 49 = .ok (.invokevirtual 310, 3) := by decide +kernel
theorem dX10_assignAll_52 : decode cX10_assignAll 52 = .ok (.checkcast 305, 3) := by decide +kernel
theorem dX10_assignAll_55 : decode cX10_assignAll 55 = .ok (.aload_n 0, 1) := by decide +kernel
theorem dX10_assignAll_56 : decode cX10_assignAll 56 = .ok (.getfield 10, 3) := by decide +kernel
theorem dX10_assignAll_59 : decode cX10_assignAll 59 = .ok (.iload_n 1, 1) := by decide +kernel
theorem dX10_assignAll_60 : decode cX10_assignAll 60 = .ok (.invokevirtual 310, 3) := by decide +kernel
theorem dX10_assignAll_63 : decode cX10_assignAll 63 = .ok (.checkcast 74, 3) := by decide +kernel
theorem dX10_assignAll_66 : decode cX10_assignAll 66 = .ok (.invokevirtual 314, 3) := by decide +kernel
theorem dX10_assignAll_69 : decode cX10_assignAll 69 = .ok (.goto 4, 3) := by decide +kernel
theorem dX10_assignAll_72 : decode cX10_assignAll 72 = .ok (.iconst (-1), 1) := by decide +kernel
theorem dX10_assignAll_73 : decode cX10_assignAll 73 = .ok (.invokevirtual 430, 3) := by decide +kernel
theorem dX10_assignAll_76 : decode cX10_assignAll 76 = .ok (.iinc 2 1, 3) := by decide +kernel
theorem dX10_assignAll_79 : decode cX10_assignAll 79 = .ok (.goto (-57), 3) := by decide +kernel
theorem dX10_assignAll_82 : decode cX10_assignAll 82 = .ok (.aload_n 0, 1) := by decide +kernel
theorem dX10_assignAll_83 : decode cX10_assignAll 83 = .ok (.getfield 34, 3) := by decide +kernel
theorem dX10_assignAll_86 : decode cX10_assignAll 86 = .ok (.invokevirtual 433, 3) := by decide +kernel
theorem dX10_assignAll_89 : decode cX10_assignAll 89 = .ok (.iinc 1 1, 3) := by decide +kernel
theorem dX10_assignAll_92 : decode cX10_assignAll 92 = .ok (.goto (-83), 3) := by decide +kernel
theorem dX10_assignAll_95 : decode cX10_assignAll 95 = .ok (.return_, 1) := by decide +kernel
theorem dX10_searchKey_0 : decode cX10_searchKey 0 = .ok (.aload_n 0, 1) := by decide +kernel
theorem dX10_searchKey_1 : decode cX10_searchKey 1 = .ok (.aload_n 2, 1) := by decide +kernel
theorem dX10_searchKey_2 : decode cX10_searchKey 2 = .ok (.iload 5, 2) := by decide +kernel
theorem dX10_searchKey_4 : decode cX10_searchKey 4 = .ok (.iload 6, 2) := by decide +kernel
theorem dX10_searchKey_6 : decode cX10_searchKey 6 = .ok (.invokevirtual 415, 3) := by decide +kernel
theorem dX10_searchKey_9 : decode cX10_searchKey 9 = .ok (.istore 7, 2) := by decide +kernel
theorem dX10_searchKey_11 : decode cX10_searchKey 11 = .ok (.aload_n 0, 1) := by decide +kernel
theorem dX10_searchKey_12 : decode cX10_searchKey 12 = .ok (.aload_n 2, 1) := by decide +kernel
theorem dX10_searchKey_13 : decode cX10_searchKey 13 = .ok (.lload_n 3, 1) := by decide +kernel
theorem dX10_searchKey_14 : decode cX10_searchKey 14 = .ok (.invokevirtual 436, 3) := by decide +kernel
theorem dX10_searchKey_17 : decode cX10_searchKey 17 = .ok (.ifCond .eq 11, 3) := by decide +kernel
theorem dX10_searchKey_20 : decode cX10_searchKey 20 = .ok (.iload 7, 2) := by decide +kernel
theorem dX10_searchKey_22 : decode cX10_searchKey 22 = .ok (.bipush 24, 2) := by decide +kernel
theorem dX10_searchKey_24 : decode cX10_searchKey 24 = .ok (.imul, 1) := by decide +kernel
theorem dX10_searchKey_25 : decode cX10_searchKey 25 = .ok (.iload_n 1, 1) := by decide +kernel
theorem dX10_searchKey_26 : decode cX10_searchKey 26 = .ok (.iadd, 1) := by decide +kernel
theorem dX10_searchKey_27 : decode cX10_searchKey 27 = .ok (.ireturn, 1) := by decide +kernel
theorem dX10_searchKey_28 : decode cX10_searchKey 28 = .ok (.aload_n 2, 1) := by decide +kernel
theorem dX10_searchKey_29 : decode cX10_searchKey 29 = .ok (.lload_n 3, 1) := by decide +kernel
theorem dX10_searchKey_30 : decode cX10_searchKey 30 = .ok (.invokevirtual 440, 3) := by decide +kernel
theorem dX10_searchKey_33 : decode cX10_searchKey 33 = .ok (.ifCond .eq 17, 3) := by decide +kernel
theorem dX10_searchKey_36 : decode cX10_searchKey 36 = .ok (.sipush 200, 3) := by decide +kernel
theorem dX10_searchKey_39 : decode cX10_searchKey 39 = .ok (.iload 7, 2) := by decide +kernel
theorem dX10_searchKey_41 : decode cX10_searchKey 41 = .ok (.iadd, 1) := by decide +kernel
theorem dX10_searchKey_42 : decode cX10_searchKey 42 = .ok (.bipush 24, 2) := by decide +kernel
theorem dX10_searchKey_44 : decode cX10_searchKey 44 = .ok (.imul, 1) := by decide +kernel
theorem dX10_searchKey_45 : decode cX10_searchKey 45 = .ok (.iload_n 1, 1) := by decide +kernel
theorem dX10_searchKey_46 : decode cX10_searchKey 46 = .ok (.iadd, 1) := by decide +kernel
theorem dX10_searchKey_47 : decode cX10_searchKey 47 = .ok (.goto 4, 3) := by decide +kernel
theorem dX10_searchKey_50 : decode cX10_searchKey 50 = .ok (.iconst (-1), 1) := by decide +kernel
theorem dX10_searchKey_51 : decode cX10_searchKey 51 = .ok (.ireturn, 1) := by decide +kernel
theorem dX10_countFoundAhead_0 : decode cX10_countFoundAhead 0 = .ok (.iconst 0, 1) := by decide +kernel
theorem dX10_countFoundAhead_1 : decode cX10_countFoundAhead 1 = .ok (.istore_n 2, 1) := by decide +kernel
theorem dX10_countFoundAhead_2 : decode cX10_countFoundAhead 2 = .ok (.iconst 0, 1) := by decide +kernel
theorem dX10_countFoundAhead_3 : decode cX10_countFoundAhead 3 = .ok (.istore_n 3, 1) := by decide +kernel
theorem dX10_countFoundAhead_4 : decode cX10_countFoundAhead 4 = .ok (.iload_n 3, 1) := by decide +kernel
theorem dX10_countFoundAhead_5 : decode cX10_countFoundAhead 5 = .ok (.aload_n 0, 1) := by decide +kernel
theorem dX10_countFoundAhead_6 : decode cX10_countFoundAhead 6 = .ok (.getfield 42, 3) := by decide +kernel
theorem dX10_countFoundAhead_9 : decode cX10_countFoundAhead 9 = .ok (.arraylength, 1) := by decide +kernel
theorem dX10_countFoundAhead_10 : decode cX10_countFoundAhead 10 = .ok (.if_icmp .ge 32, 3) := by decide +kernel
theorem dX10_countFoundAhead_13 : decode cX10_countFoundAhead 13 = .ok (.aload_n 0, 1) := by decide +kernel
theorem dX10_countFoundAhead_14 : decode cX10_countFoundAhead 14 = .ok (.getfield 42, 3) := by decide +kernel
theorem dX10_countFoundAhead_17 : decode cX10_countFoundAhead 17 = .ok (.iload_n 3, 1) := by decide +kernel
theorem dX10_countFoundAhead_18 : decode cX10_countFoundAhead 18 = .ok (.iaload, 1) := by decide +kernel
theorem dX10_countFoundAhead_19 : decode cX10_countFoundAhead 19 = .ok (.iconst (-1), 1) := by decide +kernel
theorem dX10_countFoundAhead_20 : decode cX10_countFoundAhead 20 = .ok (.if_icmp .eq 16, 3) := by decide +kernel
theorem dX10_countFoundAhead_23 : decode cX10_countFoundAhead 23 = .ok (.aload_n 0, 1) := by decide +kernel
theorem dX10_countFoundAhead_24 : decode cX10_countFoundAhead 24 = .ok (.getfield 42, 3) := by decide +kernel
theorem dX10_countFoundAhead_27 : decode cX10_countFoundAhead 27 = .ok (.iload_n 3, 1) := by decide +kernel
theorem dX10_countFoundAhead_28 : decode cX10_countFoundAhead 28 = .ok (.iaload, 1) := by decide +kernel
theorem dX10_countFoundAhead_29 : decode cX10_countFoundAhead 29 = .ok (.iload_n 1, 1) := by decide +kernel
theorem dX10_countFoundAhead_30 : decode cX10_countFoundAhead 30 = .ok (.if_icmp .ge 6, 3) := by decide +kernel
theorem dX10_countFoundAhead_33 : decode cX10_countFoundAhead 33 = .ok (.iinc 2 1, 3) := by decide +kernel
theorem dX10_countFoundAhead_36 : decode cX10_countFoundAhead 36 = .ok (.iinc 3 1, 3) := by decide +kernel
theorem dX10_countFoundAhead_39 : decode cX10_countFoundAhead 39 = .ok (.goto (-35), 3) := by decide +kernel
theorem dX10_countFoundAhead_42 : decode cX10_countFoundAhead 42 = .ok (.iload_n 2, 1) := by decide +kernel
theorem dX10_countFoundAhead_43 : decode cX10_countFoundAhead 43 = .ok (.ireturn, 1) := by decide +kernel
theorem dJ6_getChars_ba4f3_0 : decode cJ6_getChars_ba4f3 0 = .ok (.iload_n 1, 1) := by decide +kernel
theorem dJ6_getChars_ba4f3_1 : decode cJ6_getChars_ba4f3 1 = .ok (.istore 5, 2) := by decide +kernel
theorem dJ6_getChars_ba4f3_3 : decode cJ6_getChars_ba4f3 3 = .ok (.iload_n 0, 1) := by decide +kernel
theorem dJ6_getChars_ba4f3_4 : decode cJ6_getChars_ba4f3 4 = .ok (.ifCond .ge 7, 3) := by decide +kernel
theorem dJ6_getChars_ba4f3_7 : decode cJ6_getChars_ba4f3 7 = .ok (.iconst 1, 1) := by decide +kernel
theorem dJ6_getChars_ba4f3_8 : decode cJ6_getChars_ba4f3 8 = .ok (.goto 4, 3) := by decide +kernel
theorem dJ6_getChars_ba4f3_11 : decode cJ6_getChars_ba4f3 11 = .ok (.iconst 0, 1) := by decide +kernel
theorem dJ6_getChars_ba4f3_12 : decode cJ6_getChars_ba4f3 12 = .ok (.istore 6, 2) := by decide +kernel
theorem dJ6_getChars_ba4f3_14 : decode cJ6_getChars_ba4f3 14 = .ok (.iload 6, 2) := by decide +kernel
theorem dJ6_getChars_ba4f3_16 : decode cJ6_getChars_ba4f3 16 = .ok (.ifCond .ne 6, 3) := by decide +kernel
theorem dJ6_getChars_ba4f3_19 : decode cJ6_getChars_ba4f3 19 = .ok (.iload_n 0, 1) := by decide +kernel
theorem dJ6_getChars_ba4f3_20 : decode cJ6_getChars_ba4f3 20 = .ok (.ineg, 1) := by decide +kernel
theorem dJ6_getChars_ba4f3_21 : decode cJ6_getChars_ba4f3 21 = .ok (.istore_n 0, 1) := by decide +kernel
theorem dJ6_getChars_ba4f3_22 : decode cJ6_getChars_ba4f3 22 = .ok (.iload_n 0, 1) := by decide +kernel
theorem dJ6_getChars_ba4f3_23 : decode cJ6_getChars_ba4f3 23 = .ok (.bipush (-100), 2) := by decide +kernel
theorem dJ6_getChars_ba4f3_25 : decode cJ6_getChars_ba4f3 25 = .ok (.if_icmp .gt 47, 3) := by decide +kernel
theorem dJ6_getChars_ba4f3_28 : decode cJ6_getChars_ba4f3 28 = .ok (.iload_n 0, 1) := by decide +kernel
theorem dJ6_getChars_ba4f3_29 : decode cJ6_getChars_ba4f3 29 = .ok (.bipush 100, 2) := by decide +kernel
theorem dJ6_getChars_ba4f3_31 : decode cJ6_getChars_ba4f3 31 = .ok (.idiv, 1) := by decide +kernel
theorem dJ6_getChars_ba4f3_32 : decode cJ6_getChars_ba4f3 32 = .ok (.istore_n 3, 1) := by decide +kernel
theorem dJ6_getChars_ba4f3_33 : decode cJ6_getChars_ba4f3 33 = .ok (.iload_n 3, 1) := by decide +kernel
theorem dJ6_getChars_ba4f3_34 : decode cJ6_getChars_ba4f3 34 = .ok (.bipush 100, 2) := by decide +kernel
theorem dJ6_getChars_ba4f3_36 : decode cJ6_getChars_ba4f3 36 = .ok (.imul, 1) := by decide +kernel
theorem dJ6_getChars_ba4f3_37 : decode cJ6_getChars_ba4f3 37 = .ok (.iload_n 0, 1) := by decide +kernel
theorem dJ6_getChars_ba4f3_38 : decode cJ6_getChars_ba4f3 38 = .ok (.isub, 1) := by decide +kernel
theorem dJ6_getChars_ba4f3_39 : decode cJ6_getChars_ba4f3 39 = .ok (.istore 4, 2) := by decide +kernel
theorem dJ6_getChars_ba4f3_41 : decode cJ6_getChars_ba4f3 41 = .ok (.iload_n 3, 1) := by decide +kernel
theorem dJ6_getChars_ba4f3_42 : decode cJ6_getChars_ba4f3 42 = .ok (.istore_n 0, 1) := by decide +kernel
theorem dJ6_getChars_ba4f3_43 : decode cJ6_getChars_ba4f3 43 = .ok (.aload_n 2, 1) := by decide +kernel
theorem dJ6_getChars_ba4f3_44 : decode cJ6_getChars_ba4f3 44 = .ok (.iinc 5 (-1), 3) := by decide +kernel
theorem dJ6_getChars_ba4f3_47 : decode cJ6_getChars_ba4f3 47 = .ok (.iload 5, 2) := by decide +kernel
theorem dJ6_getChars_ba4f3_49 : decode cJ6_getChars_ba4f3 49 = .ok (.getstatic 83, 3) := by decide +kernel
theorem dJ6_getChars_ba4f3_52 : decode cJ6_getChars_ba4f3 52 = .ok (.iload 4, 2) := by decide +kernel
theorem dJ6_getChars_ba4f3_54 : decode cJ6_getChars_ba4f3 54 = .ok (.baload, 1) := by decide +kernel
theorem dJ6_getChars_ba4f3_55 : decode cJ6_getChars_ba4f3 55 = .ok (.bastore, 1) := by decide +kernel
theorem dJ6_getChars_ba4f3_56 : decode cJ6_getChars_ba4f3 56 = .ok (.aload_n 2, 1) := by decide +kernel
theorem dJ6_getChars_ba4f3_57 : decode cJ6_getChars_ba4f3 57 = .ok (.iinc 5 (-1), 3) := by decide +kernel
theorem dJ6_getChars_ba4f3_60 : decode cJ6_getChars_ba4f3 60 = .ok (.iload 5, 2) := by decide +kernel
theorem dJ6_getChars_ba4f3_62 : decode cJ6_getChars_ba4f3 62 = .ok (.getstatic 87, 3) := by decide +kernel
theorem dJ6_getChars_ba4f3_65 : decode cJ6_getChars_ba4f3 65 = .ok (.iload 4, 2) := by decide +kernel
theorem dJ6_getChars_ba4f3_67 : decode cJ6_getChars_ba4f3 67 = .ok (.baload, 1) := by decide +kernel
theorem dJ6_getChars_ba4f3_68 : decode cJ6_getChars_ba4f3 68 = .ok (.bastore, 1) := by decide +kernel
theorem dJ6_getChars_ba4f3_69 : decode cJ6_getChars_ba4f3 69 = .ok (.goto (-47), 3) := by decide +kernel
theorem dJ6_getChars_ba4f3_72 : decode cJ6_getChars_ba4f3 72 = .ok (.aload_n 2, 1) := by decide +kernel
theorem dJ6_getChars_ba4f3_73 : decode cJ6_getChars_ba4f3 73 = .ok (.iinc 5 (-1), 3) := by decide +kernel
theorem dJ6_getChars_ba4f3_76 : decode cJ6_getChars_ba4f3 76 = .ok (.iload 5, 2) := by decide +kernel
theorem dJ6_getChars_ba4f3_78 : decode cJ6_getChars_ba4f3 78 = .ok (.getstatic 83, 3) := by decide +kernel
theorem dJ6_getChars_ba4f3_81 : decode cJ6_getChars_ba4f3 81 = .ok (.iload_n 0, 1) := by decide +kernel
theorem dJ6_getChars_ba4f3_82 : decode cJ6_getChars_ba4f3 82 = .ok (.ineg, 1) := by decide +kernel
theorem dJ6_getChars_ba4f3_83 : decode cJ6_getChars_ba4f3 83 = .ok (.baload, 1) := by decide +kernel
theorem dJ6_getChars_ba4f3_84 : decode cJ6_getChars_ba4f3 84 = .ok (.bastore, 1) := by decide +kernel
theorem dJ6_getChars_ba4f3_85 : decode cJ6_getChars_ba4f3 85 = .ok (.iload_n 0, 1) := by decide +kernel
theorem dJ6_getChars_ba4f3_86 : decode cJ6_getChars_ba4f3 86 = .ok (.bipush (-9), 2) := by decide +kernel
theorem dJ6_getChars_ba4f3_88 : decode cJ6_getChars_ba4f3 88 = .ok (.if_icmp .ge 16, 3) := by decide +kernel
theorem dJ6_getChars_ba4f3_91 : decode cJ6_getChars_ba4f3 91 = .ok (.aload_n 2, 1) := by decide +kernel
theorem dJ6_getChars_ba4f3_92 : decode cJ6_getChars_ba4f3 92 = .ok (.iinc 5 (-1), 3) := by decide +kernel
theorem dJ6_getChars_ba4f3_95 : decode cJ6_getChars_ba4f3 95 = .ok (.iload 5, 2) := by decide +kernel
theorem dJ6_getChars_ba4f3_97 : decode cJ6_getChars_ba4f3 97 = .ok (.getstatic 87, 3) := by decide +kernel
theorem dJ6_getChars_ba4f3_100 : decode cJ6_getChars_ba4f3 100 = .ok (.iload_n 0, 1) := by decide +kernel
theorem dJ6_getChars_ba4f3_101 : decode cJ6_getChars_ba4f3 101 = .ok (.ineg, 1) := by decide +kernel
theorem dJ6_getChars_ba4f3_102 : decode cJ6_getChars_ba4f3 102 = .ok (.baload, 1) := by decide +kernel
theorem dJ6_getChars_ba4f3_103 : decode cJ6_getChars_ba4f3 103 = .ok (.bastore, 1) := by decide +kernel
theorem dJ6_getChars_ba4f3_104 : decode cJ6_getChars_ba4f3 104 = .ok (.iload 6, 2) := by decide +kernel
theorem dJ6_getChars_ba4f3_106 : decode cJ6_getChars_ba4f3 106 = .ok (.ifCond .eq 12, 3) := by decide +kernel
theorem dJ6_getChars_ba4f3_109 : decode cJ6_getChars_ba4f3 109 = .ok (.aload_n 2, 1) := by decide +kernel
theorem dJ6_getChars_ba4f3_110 : decode cJ6_getChars_ba4f3 110 = .ok (.iinc 5 (-1), 3) := by decide +kernel
theorem dJ6_getChars_ba4f3_113 : decode cJ6_getChars_ba4f3 113 = .ok (.iload 5, 2) := by decide +kernel
theorem dJ6_getChars_ba4f3_115 : decode cJ6_getChars_ba4f3 115 = .ok (.bipush 45, 2) := by decide +kernel
theorem dJ6_getChars_ba4f3_117 : decode cJ6_getChars_ba4f3 117 = .ok (.bastore, 1) := by decide +kernel
theorem dJ6_getChars_ba4f3_118 : decode cJ6_getChars_ba4f3 118 = .ok (.iload 5, 2) := by decide +kernel
theorem dJ6_getChars_ba4f3_120 : decode cJ6_getChars_ba4f3 120 = .ok (.ireturn, 1) := by decide +kernel
theorem dJ6_stringSize_0f7a4_0 : decode cJ6_stringSize_0f7a4 0 = .ok (.iconst 1, 1) := by decide +kernel
theorem dJ6_stringSize_0f7a4_1 : decode cJ6_stringSize_0f7a4 1 = .ok (.istore_n 1, 1) := by decide +kernel
theorem dJ6_stringSize_0f7a4_2 : decode cJ6_stringSize_0f7a4 2 = .ok (.iload_n 0, 1) := by decide +kernel
theorem dJ6_stringSize_0f7a4_3 : decode cJ6_stringSize_0f7a4 3 = .ok (.ifCond .lt 8, 3) := by decide +kernel
theorem dJ6_stringSize_0f7a4_6 : decode cJ6_stringSize_0f7a4 6 = .ok (.iconst 0, 1) := by decide +kernel
theorem dJ6_stringSize_0f7a4_7 : decode cJ6_stringSize_0f7a4 7 = .ok (.istore_n 1, 1) := by decide +kernel
theorem dJ6_stringSize_0f7a4_8 : decode cJ6_stringSize_0f7a4 8 = .ok (.iload_n 0, 1) := by decide +kernel
theorem dJ6_stringSize_0f7a4_9 : decode cJ6_stringSize_0f7a4 9 = .ok (.ineg, 1) := by decide +kernel
theorem dJ6_stringSize_0f7a4_10 : decode cJ6_stringSize_0f7a4 10 = .ok (.istore_n 0, 1) := by decide +kernel
theorem dJ6_stringSize_0f7a4_11 : decode cJ6_stringSize_0f7a4 11 = .ok (.bipush (-10), 2) := by decide +kernel
theorem dJ6_stringSize_0f7a4_13 : decode cJ6_stringSize_0f7a4 13 = .ok (.istore_n 2, 1) := by decide +kernel
theorem dJ6_stringSize_0f7a4_14 : decode cJ6_stringSize_0f7a4 14 = .ok (.iconst 1, 1) := by decide +kernel
theorem dJ6_stringSize_0f7a4_15 : decode cJ6_stringSize_0f7a4 15 = .ok (.istore_n 3, 1) := by decide +kernel
theorem dJ6_stringSize_0f7a4_16 : decode cJ6_stringSize_0f7a4 16 = .ok (.iload_n 3, 1) := by decide +kernel
theorem dJ6_stringSize_0f7a4_17 : decode cJ6_stringSize_0f7a4 17 = .ok (.bipush 10, 2) := by decide +kernel
theorem dJ6_stringSize_0f7a4_19 : decode cJ6_stringSize_0f7a4 19 = .ok (.if_icmp .ge 23, 3) := by decide +kernel
theorem dJ6_stringSize_0f7a4_22 : decode cJ6_stringSize_0f7a4 22 = .ok (.iload_n 0, 1) := by decide +kernel
theorem dJ6_stringSize_0f7a4_23 : decode cJ6_stringSize_0f7a4 23 = .ok (.iload_n 2, 1) := by decide +kernel
theorem dJ6_stringSize_0f7a4_24 : decode cJ6_stringSize_0f7a4 24 = .ok (.if_icmp .le 7, 3) := by decide +kernel
theorem dJ6_stringSize_0f7a4_27 : decode cJ6_stringSize_0f7a4 27 = .ok (.iload_n 3, 1) := by decide +kernel
theorem dJ6_stringSize_0f7a4_28 : decode cJ6_stringSize_0f7a4 28 = .ok (.iload_n 1, 1) := by decide +kernel
theorem dJ6_stringSize_0f7a4_29 : decode cJ6_stringSize_0f7a4 29 = .ok (.iadd, 1) := by decide +kernel
theorem dJ6_stringSize_0f7a4_30 : decode cJ6_stringSize_0f7a4 30 = .ok (.ireturn, 1) := by decide +kernel
theorem dJ6_stringSize_0f7a4_31 : decode cJ6_stringSize_0f7a4 31 = .ok (.bipush 10, 2) := by decide +kernel
theorem dJ6_stringSize_0f7a4_33 : decode cJ6_stringSize_0f7a4 33 = .ok (.iload_n 2, 1) := by decide +kernel
theorem dJ6_stringSize_0f7a4_34 : decode cJ6_stringSize_0f7a4 34 = .ok (.imul, 1) := by decide +kernel
theorem dJ6_stringSize_0f7a4_35 : decode cJ6_stringSize_0f7a4 35 = .ok (.istore_n 2, 1) := by decide +kernel
theorem dJ6_stringSize_0f7a4_36 : decode cJ6_stringSize_0f7a4 36 = .ok (.iinc 3 1, 3) := by decide +kernel
theorem dJ6_stringSize_0f7a4_39 : decode cJ6_stringSize_0f7a4 39 = .ok (.goto (-23), 3) := by decide +kernel
theorem dJ6_stringSize_0f7a4_42 : decode cJ6_stringSize_0f7a4 42 = .ok (.bipush 10, 2) := by decide +kernel
theorem dJ6_stringSize_0f7a4_44 : decode cJ6_stringSize_0f7a4 44 = .ok (.iload_n 1, 1) := by decide +kernel
theorem dJ6_stringSize_0f7a4_45 : decode cJ6_stringSize_0f7a4 45 = .ok (.iadd, 1) := by decide +kernel
theorem dJ6_stringSize_0f7a4_46 : decode cJ6_stringSize_0f7a4 46 = .ok (.ireturn, 1) := by decide +kernel
theorem dJ6_bitCount_0f7a4_0 : decode cJ6_bitCount_0f7a4 0 = .ok (.iload_n 0, 1) := by decide +kernel
theorem dJ6_bitCount_0f7a4_1 : decode cJ6_bitCount_0f7a4 1 = .ok (.iload_n 0, 1) := by decide +kernel
theorem dJ6_bitCount_0f7a4_2 : decode cJ6_bitCount_0f7a4 2 = .ok (.iconst 1, 1) := by decide +kernel
theorem dJ6_bitCount_0f7a4_3 : decode cJ6_bitCount_0f7a4 3 = .ok (.iushr, 1) := by decide +kernel
theorem dJ6_bitCount_0f7a4_4 : decode cJ6_bitCount_0f7a4 4 = .ok (.ldc_w 265, 3) := by decide +kernel
theorem dJ6_bitCount_0f7a4_7 : decode cJ6_bitCount_0f7a4 7 = .ok (.iand, 1) := by decide +kernel
theorem dJ6_bitCount_0f7a4_8 : decode cJ6_bitCount_0f7a4 8 = .ok (.isub, 1) := by decide +kernel
theorem dJ6_bitCount_0f7a4_9 : decode cJ6_bitCount_0f7a4 9 = .ok (.istore_n 0, 1) := by decide +kernel
theorem dJ6_bitCount_0f7a4_10 : decode cJ6_bitCount_0f7a4 10 = .ok (.iload_n 0, 1) := by decide +kernel
theorem dJ6_bitCount_0f7a4_11 : decode cJ6_bitCount_0f7a4 11 = .ok (.ldc_w 266, 3) := by decide +kernel
theorem dJ6_bitCount_0f7a4_14 : decode cJ6_bitCount_0f7a4 14 = .ok (.iand, 1) := by decide +kernel
theorem dJ6_bitCount_0f7a4_15 : decode cJ6_bitCount_0f7a4 15 = .ok (.iload_n 0, 1) := by decide +kernel
theorem dJ6_bitCount_0f7a4_16 : decode cJ6_bitCount_0f7a4 16 = .ok (.iconst 2, 1) := by decide +kernel
theorem dJ6_bitCount_0f7a4_17 : decode cJ6_bitCount_0f7a4 17 = .ok (.iushr, 1) := by decide +kernel
theorem dJ6_bitCount_0f7a4_18 : decode cJ6_bitCount_0f7a4 18 = .ok (.ldc_w 266, 3) := by decide +kernel
theorem dJ6_bitCount_0f7a4_21 : decode cJ6_bitCount_0f7a4 21 = .ok (.iand, 1) := by decide +kernel
theorem dJ6_bitCount_0f7a4_22 : decode cJ6_bitCount_0f7a4 22 = .ok (.iadd, 1) := by decide +kernel
theorem dJ6_bitCount_0f7a4_23 : decode cJ6_bitCount_0f7a4 23 = .ok (.istore_n 0, 1) := by decide +kernel
theorem dJ6_bitCount_0f7a4_24 : decode cJ6_bitCount_0f7a4 24 = .ok (.iload_n 0, 1) := by decide +kernel
theorem dJ6_bitCount_0f7a4_25 : decode cJ6_bitCount_0f7a4 25 = .ok (.iload_n 0, 1) := by decide +kernel
theorem dJ6_bitCount_0f7a4_26 : decode cJ6_bitCount_0f7a4 26 = .ok (.iconst 4, 1) := by decide +kernel
theorem dJ6_bitCount_0f7a4_27 : decode cJ6_bitCount_0f7a4 27 = .ok (.iushr, 1) := by decide +kernel
theorem dJ6_bitCount_0f7a4_28 : decode cJ6_bitCount_0f7a4 28 = .ok (.iadd, 1) := by decide +kernel
theorem dJ6_bitCount_0f7a4_29 : decode cJ6_bitCount_0f7a4 29 = .ok (.ldc_w 267, 3) := by decide +kernel
theorem dJ6_bitCount_0f7a4_32 : decode cJ6_bitCount_0f7a4 32 = .ok (.iand, 1) := by decide +kernel
theorem dJ6_bitCount_0f7a4_33 : decode cJ6_bitCount_0f7a4 33 = .ok (.istore_n 0, 1) := by decide +kernel
theorem dJ6_bitCount_0f7a4_34 : decode cJ6_bitCount_0f7a4 34 = .ok (.iload_n 0, 1) := by decide +kernel
theorem dJ6_bitCount_0f7a4_35 : decode cJ6_bitCount_0f7a4 35 = .ok (.iload_n 0, 1) := by decide +kernel
theorem dJ6_bitCount_0f7a4_36 : decode cJ6_bitCount_0f7a4 36 = .ok (.bipush 8, 2) := by decide +kernel
theorem dJ6_bitCount_0f7a4_38 : decode cJ6_bitCount_0f7a4 38 = .ok (.iushr, 1) := by decide +kernel
theorem dJ6_bitCount_0f7a4_39 : decode cJ6_bitCount_0f7a4 39 = .ok (.iadd, 1) := by decide +kernel
theorem dJ6_bitCount_0f7a4_40 : decode cJ6_bitCount_0f7a4 40 = .ok (.istore_n 0, 1) := by decide +kernel
theorem dJ6_bitCount_0f7a4_41 : decode cJ6_bitCount_0f7a4 41 = .ok (.iload_n 0, 1) := by decide +kernel
theorem dJ6_bitCount_0f7a4_42 : decode cJ6_bitCount_0f7a4 42 = .ok (.iload_n 0, 1) := by decide +kernel
theorem dJ6_bitCount_0f7a4_43 : decode cJ6_bitCount_0f7a4 43 = .ok (.bipush 16, 2) := by decide +kernel
theorem dJ6_bitCount_0f7a4_45 : decode cJ6_bitCount_0f7a4 45 = .ok (.iushr, 1) := by decide +kernel
theorem dJ6_bitCount_0f7a4_46 : decode cJ6_bitCount_0f7a4 46 = .ok (.iadd, 1) := by decide +kernel
theorem dJ6_bitCount_0f7a4_47 : decode cJ6_bitCount_0f7a4 47 = .ok (.istore_n 0, 1) := by decide +kernel
theorem dJ6_bitCount_0f7a4_48 : decode cJ6_bitCount_0f7a4 48 = .ok (.iload_n 0, 1) := by decide +kernel
theorem dJ6_bitCount_0f7a4_49 : decode cJ6_bitCount_0f7a4 49 = .ok (.bipush 63, 2) := by decide +kernel
theorem dJ6_bitCount_0f7a4_51 : decode cJ6_bitCount_0f7a4 51 = .ok (.iand, 1) := by decide +kernel
theorem dJ6_bitCount_0f7a4_52 : decode cJ6_bitCount_0f7a4 52 = .ok (.ireturn, 1) := by decide +kernel
theorem dJxa1e45_init_da8c8_0 : decode cJxa1e45_init_da8c8 0 = .ok (.aload_n 0, 1) := by decide +kernel
theorem dJxa1e45_init_da8c8_1 : decode cJxa1e45_init_da8c8 1 = .ok (.invokespecial 1, 3) := by decide +kernel
theorem dJxa1e45_init_da8c8_4 : decode cJxa1e45_init_da8c8 4 = .ok (.return_, 1) := by decide +kernel
theorem dJxc12de_init_da8c8_0 : decode cJxc12de_init_da8c8 0 = .ok (.aload_n 0, 1) := by decide +kernel
theorem dJxc12de_init_da8c8_1 : decode cJxc12de_init_da8c8 1 = .ok (.invokespecial 1, 3) := by decide +kernel
theorem dJxc12de_init_da8c8_4 : decode cJxc12de_init_da8c8 4 = .ok (.aload_n 0, 1) := by decide +kernel
theorem dJxc12de_init_da8c8_5 : decode cJxc12de_init_da8c8 5 = .ok (.iconst 0, 1) := by decide +kernel
theorem dJxc12de_init_da8c8_6 : decode cJxc12de_init_da8c8 6 = .ok (.putfield 7, 3) := by decide +kernel
theorem dJxc12de_init_da8c8_9 : decode cJxc12de_init_da8c8 9 = .ok (.return_, 1) := by decide +kernel
theorem dJx4a65c_init_da8c8_0 : decode cJx4a65c_init_da8c8 0 = .ok (.aload_n 0, 1) := by decide +kernel
theorem dJx4a65c_init_da8c8_1 : decode cJx4a65c_init_da8c8 1 = .ok (.invokespecial 1, 3) := by decide +kernel
theorem dJx4a65c_init_da8c8_4 : decode cJx4a65c_init_da8c8 4 = .ok (.aload_n 0, 1) := by decide +kernel
theorem dJx4a65c_init_da8c8_5 : decode cJx4a65c_init_da8c8 5 = .ok (.getstatic 39, 3) := by decide +kernel
theorem dJx4a65c_init_da8c8_8 : decode cJx4a65c_init_da8c8 8 = .ok (.putfield 9, 3) := by decide +kernel
theorem dJx4a65c_init_da8c8_11 : decode cJx4a65c_init_da8c8 11 = .ok (.return_, 1) := by decide +kernel
theorem dJx4a65c_grow_92f84_0 : decode cJx4a65c_grow_92f84 0 = .ok (.aload_n 0, 1) := by decide +kernel
theorem dJx4a65c_grow_92f84_1 : decode cJx4a65c_grow_92f84 1 = .ok (.getfield 9, 3) := by decide +kernel
theorem dJx4a65c_grow_92f84_4 : decode cJx4a65c_grow_92f84 4 = .ok (.arraylength, 1) := by decide +kernel
theorem dJx4a65c_grow_92f84_5 : decode cJx4a65c_grow_92f84 5 = .ok (.istore_n 2, 1) := by decide +kernel
theorem dJx4a65c_grow_92f84_6 : decode cJx4a65c_grow_92f84 6 = .ok (.iload_n 2, 1) := by decide +kernel
theorem dJx4a65c_grow_92f84_7 : decode cJx4a65c_grow_92f84 7 = .ok (.ifCond .gt 13, 3) := by decide +kernel
theorem dJx4a65c_grow_92f84_10 : decode cJx4a65c_grow_92f84 10 = .ok (.aload_n 0, 1) := by decide +kernel
theorem dJx4a65c_grow_92f84_11 : decode cJx4a65c_grow_92f84 11 = .ok (.getfield 9, 3) := by decide +kernel
theorem dJx4a65c_grow_92f84_14 : decode cJx4a65c_grow_92f84 14 = .ok (.getstatic 39, 3) := by decide +kernel
theorem dJx4a65c_grow_92f84_17 : decode cJx4a65c_grow_92f84 17 = .ok (.if_acmp .eq 28, 3) := by decide +kernel
theorem dJx4a65c_grow_92f84_20 : decode cJx4a65c_grow_92f84 20 = .ok (.iload_n 2, 1) := by decide +kernel
theorem dJx4a65c_grow_92f84_21 : decode cJx4a65c_grow_92f84 21 = .ok (.iload_n 1, 1) := by decide +kernel
theorem dJx4a65c_grow_92f84_22 : decode cJx4a65c_grow_92f84 22 = .ok (.iload_n 2, 1) := by decide +kernel
theorem dJx4a65c_grow_92f84_23 : decode cJx4a65c_grow_92f84 23 = .ok (.isub, 1) := by decide +kernel
theorem dJx4a65c_grow_92f84_24 : decode cJx4a65c_grow_92f84 24 = .ok (.iload_n 2, 1) := by decide +kernel
theorem dJx4a65c_grow_92f84_25 : decode cJx4a65c_grow_92f84 25 = .ok (.iconst 1, 1) := by decide +kernel
theorem dJx4a65c_grow_92f84_26 : decode cJx4a65c_grow_92f84 26 = .ok (.ishr, 1) := by decide +kernel
theorem dJx4a65c_grow_92f84_27 : decode cJx4a65c_grow_92f84 27 = .ok (.invokestatic 73, 3) := by decide +kernel
theorem dJx4a65c_grow_92f84_30 : decode cJx4a65c_grow_92f84 30 = .ok (.istore_n 3, 1) := by decide +kernel
theorem dJx4a65c_grow_92f84_31 : decode cJx4a65c_grow_92f84 31 = .ok (.aload_n 0, 1) := by decide +kernel
theorem dJx4a65c_grow_92f84_32 : decode cJx4a65c_grow_92f84 32 = .ok (.aload_n 0, 1) := by decide +kernel
theorem dJx4a65c_grow_92f84_33 : decode cJx4a65c_grow_92f84 33 = .ok (.getfield 9, 3) := by decide +kernel
theorem dJx4a65c_grow_92f84_36 : decode cJx4a65c_grow_92f84 36 = .ok (.iload_n 3, 1) := by decide +kernel
theorem dJx4a65c_grow_92f84_37 : decode cJx4a65c_grow_92f84 37 = .ok (.invokestatic 66, 3) := by decide +kernel
theorem dJx4a65c_grow_92f84_40 : decode cJx4a65c_grow_92f84 40 = .ok (.dup_x1, 1) := by decide +kernel
theorem dJx4a65c_grow_92f84_41 : decode cJx4a65c_grow_92f84 41 = .ok (.putfield 9, 3) := by decide +kernel
theorem dJx4a65c_grow_92f84_44 : decode cJx4a65c_grow_92f84 44 = .ok (.areturn, 1) := by decide +kernel
theorem dJx4a65c_grow_92f84_45 : decode cJx4a65c_grow_92f84 45 = .ok (.aload_n 0, 1) := by decide +kernel
theorem dJx4a65c_grow_92f84_46 : decode cJx4a65c_grow_92f84 46 = .ok (.bipush 10, 2) := by decide +kernel
theorem dJx4a65c_grow_92f84_48 : decode cJx4a65c_grow_92f84 48 = .ok (.iload_n 1, 1) := by decide +kernel
theorem dJx4a65c_grow_92f84_49 : decode cJx4a65c_grow_92f84 49 = .ok (.invokestatic 79, 3) := by decide +kernel
theorem dJx4a65c_grow_92f84_52 : decode cJx4a65c_grow_92f84 52 = .ok (.anewarray 7, 3) := by decide +kernel
theorem dJx4a65c_grow_92f84_55 : decode cJx4a65c_grow_92f84 55 = .ok (.dup_x1, 1) := by decide +kernel
theorem dJx4a65c_grow_92f84_56 : decode cJx4a65c_grow_92f84 56 = .ok (.putfield 9, 3) := by decide +kernel
theorem dJx4a65c_grow_92f84_59 : decode cJx4a65c_grow_92f84 59 = .ok (.areturn, 1) := by decide +kernel
theorem dJx4a65c_grow_d5877_0 : decode cJx4a65c_grow_d5877 0 = .ok (.aload_n 0, 1) := by decide +kernel
theorem dJx4a65c_grow_d5877_1 : decode cJx4a65c_grow_d5877 1 = .ok (.aload_n 0, 1) := by decide +kernel
theorem dJx4a65c_grow_d5877_2 : decode cJx4a65c_grow_d5877 2 = .ok (.getfield 48, 3) := by decide +kernel
theorem dJx4a65c_grow_d5877_5 : decode cJx4a65c_grow_d5877 5 = .ok (.iconst 1, 1) := by decide +kernel
theorem dJx4a65c_grow_d5877_6 : decode cJx4a65c_grow_d5877 6 = .ok (.iadd, 1) := by decide +kernel
theorem dJx4a65c_grow_d5877_7 : decode cJx4a65c_grow_d5877 7 = .ok (.invokevirtual 69, 3) := by decide +kernel
theorem dJx4a65c_grow_d5877_10 : decode cJx4a65c_grow_d5877 10 = .ok (.areturn, 1) := by decide +kernel
theorem dJx4a65c_size_8abf5_0 : decode cJx4a65c_size_8abf5 0 = .ok (.aload_n 0, 1) := by decide +kernel
theorem dJx4a65c_size_8abf5_1 : decode cJx4a65c_size_8abf5 1 = .ok (.getfield 48, 3) := by decide +kernel
theorem dJx4a65c_size_8abf5_4 : decode cJx4a65c_size_8abf5 4 = .ok (.ireturn, 1) := by decide +kernel
theorem dJx4a65c_isEmpty_aae02_0 : decode cJx4a65c_isEmpty_aae02 0 = .ok (.aload_n 0, 1) := by decide +kernel
theorem dJx4a65c_isEmpty_aae02_1 : decode cJx4a65c_isEmpty_aae02 1 = .ok (.getfield 48, 3) := by decide +kernel
theorem dJx4a65c_isEmpty_aae02_4 : decode cJx4a65c_isEmpty_aae02 4 = .ok (.ifCond .ne 7, 3) := by decide +kernel
theorem dJx4a65c_isEmpty_aae02_7 : decode cJx4a65c_isEmpty_aae02 7 = .ok (.iconst 1, 1) := by decide +kernel
theorem dJx4a65c_isEmpty_aae02_8 : decode cJx4a65c_isEmpty_aae02 8 = .ok (.goto 4, 3) := by decide +kernel
theorem dJx4a65c_isEmpty_aae02_11 : decode cJx4a65c_isEmpty_aae02 11 = .ok (.iconst 0, 1) := by decide +kernel
theorem dJx4a65c_isEmpty_aae02_12 : decode cJx4a65c_isEmpty_aae02 12 = .ok (.ireturn, 1) := by decide +kernel
theorem dJx4a65c_elementData_915e3_0 : decode cJx4a65c_elementData_915e3 0 = .ok (.aload_n 0, 1) := by decide +kernel
theorem dJx4a65c_elementData_915e3_1 : decode cJx4a65c_elementData_915e3 1 = .ok (.getfield 9, 3) := by decide +kernel
theorem dJx4a65c_elementData_915e3_4 : decode cJx4a65c_elementData_915e3 4 = .ok (.iload_n 1, 1) := by decide +kernel
theorem dJx4a65c_elementData_915e3_5 : decode cJx4a65c_elementData_915e3 5 = .ok (.aaload, 1) := by decide +kernel
theorem dJx4a65c_elementData_915e3_6 : decode cJx4a65c_elementData_915e3 6 = .ok (.areturn, 1) := by decide +kernel
theorem dJx4a65c_get_915e3_0 : decode cJx4a65c_get_915e3 0 = .ok (.iload_n 1, 1) := by decide +kernel
theorem dJx4a65c_get_915e3_1 : decode cJx4a65c_get_915e3 1 = .ok (.aload_n 0, 1) := by decide +kernel
theorem dJx4a65c_get_915e3_2 : decode cJx4a65c_get_915e3 2 = .ok (.getfield 48, 3) := by decide +kernel
theorem dJx4a65c_get_915e3_5 : decode cJx4a65c_get_915e3 5 = .ok (.invokestatic 118, 3) := by decide +kernel
theorem dJx4a65c_get_915e3_8 : decode cJx4a65c_get_915e3 8 = .ok (.pop, 1) := by decide +kernel
theorem dJx4a65c_get_915e3_9 : decode cJx4a65c_get_915e3 9 = .ok (.aload_n 0, 1) := by decide +kernel
theorem dJx4a65c_get_915e3_10 : decode cJx4a65c_get_915e3 10 = .ok (.iload_n 1, 1) := by decide +kernel
theorem dJx4a65c_get_915e3_11 : decode cJx4a65c_get_915e3 11 = .ok (.invokevirtual 123, 3) := by decide +kernel
theorem dJx4a65c_get_915e3_14 : decode cJx4a65c_get_915e3 14 = .ok (.areturn, 1) := by decide +kernel
theorem dJx4a65c_add_72be8_0 : decode cJx4a65c_add_72be8 0 = .ok (.iload_n 3, 1) := by decide +kernel
theorem dJx4a65c_add_72be8_1 : decode cJx4a65c_add_72be8 1 = .ok (.aload_n 2, 1) := by decide +kernel
theorem dJx4a65c_add_72be8_2 : decode cJx4a65c_add_72be8 2 = .ok (.arraylength, 1) := by decide +kernel
theorem dJx4a65c_add_72be8_3 : decode cJx4a65c_add_72be8 3 = .ok (.if_icmp .ne 8, 3) := by decide +kernel
theorem dJx4a65c_add_72be8_6 : decode cJx4a65c_add_72be8 6 = .ok (.aload_n 0, 1) := by decide +kernel
theorem dJx4a65c_add_72be8_7 : decode cJx4a65c_add_72be8 7 = .ok (.invokevirtual 129, 3) := by decide +kernel
theorem dJx4a65c_add_72be8_10 : decode cJx4a65c_add_72be8 10 = .ok (.astore_n 2, 1) := by decide +kernel
theorem dJx4a65c_add_72be8_11 : decode cJx4a65c_add_72be8 11 = .ok (.aload_n 2, 1) := by decide +kernel
theorem dJx4a65c_add_72be8_12 : decode cJx4a65c_add_72be8 12 = .ok (.iload_n 3, 1) := by decide +kernel
theorem dJx4a65c_add_72be8_13 : decode cJx4a65c_add_72be8 13 = .ok (.aload_n 1, 1) := by decide +kernel
theorem dJx4a65c_add_72be8_14 : decode cJx4a65c_add_72be8 14 = .ok (.aastore, 1) := by decide +kernel
theorem dJx4a65c_add_72be8_15 : decode cJx4a65c_add_72be8 15 = .ok (.aload_n 0, 1) := by decide +kernel
theorem dJx4a65c_add_72be8_16 : decode cJx4a65c_add_72be8 16 = .ok (.iload_n 3, 1) := by decide +kernel
theorem dJx4a65c_add_72be8_17 : decode cJx4a65c_add_72be8 17 = .ok (.iconst 1, 1) := by decide +kernel
theorem dJx4a65c_add_72be8_18 : decode cJx4a65c_add_72be8 18 = .ok (.iadd, 1) := by decide +kernel
theorem dJx4a65c_add_72be8_19 : decode cJx4a65c_add_72be8 19 = .ok (.putfield 48, 3) := by decide +kernel
theorem dJx4a65c_add_72be8_22 : decode cJx4a65c_add_72be8 22 = .ok (.return_, 1) := by decide +kernel
theorem dJx4a65c_add_9ea2d_0 : decode cJx4a65c_add_9ea2d 0 = .ok (.aload_n 0, 1) := by decide +kernel
theorem dJx4a65c_add_9ea2d_1 : decode cJx4a65c_add_9ea2d 1 = .ok (.dup, 1) := by decide +kernel
theorem dJx4a65c_add_9ea2d_2 : decode cJx4a65c_add_9ea2d 2 = .ok (.getfield 63, 3) := by decide +kernel
theorem dJx4a65c_add_9ea2d_5 : decode cJx4a65c_add_9ea2d 5 = .ok (.iconst 1, 1) := by decide +kernel
theorem dJx4a65c_add_9ea2d_6 : decode cJx4a65c_add_9ea2d 6 = .ok (.iadd, 1) := by decide +kernel
theorem dJx4a65c_add_9ea2d_7 : decode cJx4a65c_add_9ea2d 7 = .ok (.putfield 63, 3) := by decide +kernel
theorem dJx4a65c_add_9ea2d_10 : decode cJx4a65c_add_9ea2d 10 = .ok (.aload_n 0, 1) := by decide +kernel
theorem dJx4a65c_add_9ea2d_11 : decode cJx4a65c_add_9ea2d 11 = .ok (.aload_n 1, 1) := by decide +kernel
theorem dJx4a65c_add_9ea2d_12 : decode cJx4a65c_add_9ea2d 12 = .ok (.aload_n 0, 1) := by decide +kernel
theorem dJx4a65c_add_9ea2d_13 : decode cJx4a65c_add_9ea2d 13 = .ok (.getfield 9, 3) := by decide +kernel
theorem dJx4a65c_add_9ea2d_16 : decode cJx4a65c_add_9ea2d 16 = .ok (.aload_n 0, 1) := by decide +kernel
theorem dJx4a65c_add_9ea2d_17 : decode cJx4a65c_add_9ea2d 17 = .ok (.getfield 48, 3) := by decide +kernel
theorem dJx4a65c_add_9ea2d_20 : decode cJx4a65c_add_9ea2d 20 = .ok (.invokevirtual 131, 3) := by decide +kernel
theorem dJx4a65c_add_9ea2d_23 : decode cJx4a65c_add_9ea2d 23 = .ok (.iconst 1, 1) := by decide +kernel
theorem dJx4a65c_add_9ea2d_24 : decode cJx4a65c_add_9ea2d 24 = .ok (.ireturn, 1) := by decide +kernel
theorem dJx4a65c_add_7a177_0 : decode cJx4a65c_add_7a177 0 = .ok (.aload_n 0, 1) := by decide +kernel
theorem dJx4a65c_add_7a177_1 : decode cJx4a65c_add_7a177 1 = .ok (.iload_n 1, 1) := by decide +kernel
theorem dJx4a65c_add_7a177_2 : decode cJx4a65c_add_7a177 2 = .ok (.invokevirtual 135, 3) := by decide +kernel
theorem dJx4a65c_add_7a177_5 : decode cJx4a65c_add_7a177 5 = .ok (.aload_n 0, 1) := by decide +kernel
theorem dJx4a65c_add_7a177_6 : decode cJx4a65c_add_7a177 6 = .ok (.dup, 1) := by decide +kernel
theorem dJx4a65c_add_7a177_7 : decode cJx4a65c_add_7a177 7 = .ok (.getfield 63, 3) := by decide +kernel
theorem dJx4a65c_add_7a177_10 : decode cJx4a65c_add_7a177 10 = .ok (.iconst 1, 1) := by decide +kernel
theorem dJx4a65c_add_7a177_11 : decode cJx4a65c_add_7a177 11 = .ok (.iadd, 1) := by decide +kernel
theorem dJx4a65c_add_7a177_12 : decode cJx4a65c_add_7a177 12 = .ok (.putfield 63, 3) := by decide +kernel
theorem dJx4a65c_add_7a177_15 : decode cJx4a65c_add_7a177 15 = .ok (.aload_n 0, 1) := by decide +kernel
theorem dJx4a65c_add_7a177_16 : decode cJx4a65c_add_7a177 16 = .ok (.getfield 48, 3) := by decide +kernel
theorem dJx4a65c_add_7a177_19 : decode cJx4a65c_add_7a177 19 = .ok (.dup, 1) := by decide +kernel
theorem dJx4a65c_add_7a177_20 : decode cJx4a65c_add_7a177 20 = .ok (.istore_n 3, 1) := by decide +kernel
theorem dJx4a65c_add_7a177_21 : decode cJx4a65c_add_7a177 21 = .ok (.aload_n 0, 1) := by decide +kernel
theorem dJx4a65c_add_7a177_22 : decode cJx4a65c_add_7a177 22 = .ok (.getfield 9, 3) := by decide +kernel
theorem dJx4a65c_add_7a177_25 : decode cJx4a65c_add_7a177 25 = .ok (.dup, 1) := by decide +kernel
theorem dJx4a65c_add_7a177_26 : decode cJx4a65c_add_7a177 26 = .ok (.astore 4, 2) := by decide +kernel
theorem dJx4a65c_add_7a177_28 : decode cJx4a65c_add_7a177 28 = .ok (.arraylength, 1) := by decide +kernel
theorem dJx4a65c_add_7a177_29 : decode cJx4a65c_add_7a177 29 = .ok (.if_icmp .ne 9, 3) := by decide +kernel
theorem dJx4a65c_add_7a177_32 : decode cJx4a65c_add_7a177 32 = .ok (.aload_n 0, 1) := by decide +kernel
theorem dJx4a65c_add_7a177_33 : decode cJx4a65c_add_7a177 33 = .ok (.invokevirtual 129, 3) := by decide +kernel
theorem dJx4a65c_add_7a177_36 : decode cJx4a65c_add_7a177 36 = .ok (.astore 4, 2) := by decide +kernel
theorem dJx4a65c_add_7a177_38 : decode cJx4a65c_add_7a177 38 = .ok (.aload 4, 2) := by decide +kernel
theorem dJx4a65c_add_7a177_40 : decode cJx4a65c_add_7a177 40 = .ok (.iload_n 1, 1) := by decide +kernel
theorem dJx4a65c_add_7a177_41 : decode cJx4a65c_add_7a177 41 = .ok (.aload 4, 2) := by decide +kernel
theorem dJx4a65c_add_7a177_43 : decode cJx4a65c_add_7a177 43 = .ok (.iload_n 1, 1) := by decide +kernel
theorem dJx4a65c_add_7a177_44 : decode cJx4a65c_add_7a177 44 = .ok (.iconst 1, 1) := by decide +kernel
theorem dJx4a65c_add_7a177_45 : decode cJx4a65c_add_7a177 45 = .ok (.iadd, 1) := by decide +kernel
theorem dJx4a65c_add_7a177_46 : decode cJx4a65c_add_7a177 46 = .ok (.iload_n 3, 1) := by decide +kernel
theorem dJx4a65c_add_7a177_47 : decode cJx4a65c_add_7a177 47 = .ok (.iload_n 1, 1) := by decide +kernel
theorem dJx4a65c_add_7a177_48 : decode cJx4a65c_add_7a177 48 = .ok (.isub, 1) := by decide +kernel
theorem dJx4a65c_add_7a177_49 : decode cJx4a65c_add_7a177 49 = .ok (.invokestatic 112, 3) := by decide +kernel
theorem dJx4a65c_add_7a177_52 : decode cJx4a65c_add_7a177 52 = .ok (.aload 4, 2) := by decide +kernel
theorem dJx4a65c_add_7a177_54 : decode cJx4a65c_add_7a177 54 = .ok (.iload_n 1, 1) := by decide +kernel
theorem dJx4a65c_add_7a177_55 : decode cJx4a65c_add_7a177 55 = .ok (.aload_n 2, 1) := by decide +kernel
theorem dJx4a65c_add_7a177_56 : decode cJx4a65c_add_7a177 56 = .ok (.aastore, 1) := by decide +kernel
theorem dJx4a65c_add_7a177_57 : decode cJx4a65c_add_7a177 57 = .ok (.aload_n 0, 1) := by decide +kernel
theorem dJx4a65c_add_7a177_58 : decode cJx4a65c_add_7a177 58 = .ok (.iload_n 3, 1) := by decide +kernel
theorem dJx4a65c_add_7a177_59 : decode cJx4a65c_add_7a177 59 = .ok (.iconst 1, 1) := by decide +kernel
theorem dJx4a65c_add_7a177_60 : decode cJx4a65c_add_7a177 60 = .ok (.iadd, 1) := by decide +kernel
theorem dJx4a65c_add_7a177_61 : decode cJx4a65c_add_7a177 61 = .ok (.putfield 48, 3) := by decide +kernel
theorem dJx4a65c_add_7a177_64 : decode cJx4a65c_add_7a177 64 = .ok (.return_, 1) := by decide +kernel
theorem dJx4a65c_remove_915e3_0 : decode cJx4a65c_remove_915e3 0 = .ok (.iload_n 1, 1) := by decide +kernel
theorem dJx4a65c_remove_915e3_1 : decode cJx4a65c_remove_915e3 1 = .ok (.aload_n 0, 1) := by decide +kernel
theorem dJx4a65c_remove_915e3_2 : decode cJx4a65c_remove_915e3 2 = .ok (.getfield 48, 3) := by decide +kernel
theorem dJx4a65c_remove_915e3_5 : decode cJx4a65c_remove_915e3 5 = .ok (.invokestatic 118, 3) := by decide +kernel
theorem dJx4a65c_remove_915e3_8 : decode cJx4a65c_remove_915e3 8 = .ok (.pop, 1) := by decide +kernel
theorem dJx4a65c_remove_915e3_9 : decode cJx4a65c_remove_915e3 9 = .ok (.aload_n 0, 1) := by decide +kernel
theorem dJx4a65c_remove_915e3_10 : decode cJx4a65c_remove_915e3 10 = .ok (.getfield 9, 3) := by decide +kernel
theorem dJx4a65c_remove_915e3_13 : decode cJx4a65c_remove_915e3 13 = .ok (.astore_n 2, 1) := by decide +kernel
theorem dJx4a65c_remove_915e3_14 : decode cJx4a65c_remove_915e3 14 = .ok (.aload_n 2, 1) := by decide +kernel
theorem dJx4a65c_remove_915e3_15 : decode cJx4a65c_remove_915e3 15 = .ok (.iload_n 1, 1) := by decide +kernel
theorem dJx4a65c_remove_915e3_16 : decode cJx4a65c_remove_915e3 16 = .ok (.aaload, 1) := by decide +kernel
theorem dJx4a65c_remove_915e3_17 : decode cJx4a65c_remove_915e3 17 = .ok (.astore_n 3, 1) := by decide +kernel
theorem dJx4a65c_remove_915e3_18 : decode cJx4a65c_remove_915e3 18 = .ok (.aload_n 0, 1) := by decide +kernel
theorem dJx4a65c_remove_915e3_19 : decode cJx4a65c_remove_915e3 19 = .ok (.aload_n 2, 1) := by decide +kernel
theorem dJx4a65c_remove_915e3_20 : decode cJx4a65c_remove_915e3 20 = .ok (.iload_n 1, 1) := by decide +kernel
theorem dJx4a65c_remove_915e3_21 : decode cJx4a65c_remove_915e3 21 = .ok (.invokevirtual 144, 3) := by decide +kernel
theorem dJx4a65c_remove_915e3_24 : decode cJx4a65c_remove_915e3 24 = .ok (.aload_n 3, 1) := by decide +kernel
theorem dJx4a65c_remove_915e3_25 : decode cJx4a65c_remove_915e3 25 = .ok (.areturn, 1) := by decide +kernel
theorem dJx4a65c_fastRemove_b59b0_0 : decode cJx4a65c_fastRemove_b59b0 0 = .ok (.aload_n 0, 1) := by decide +kernel
theorem dJx4a65c_fastRemove_b59b0_1 : decode cJx4a65c_fastRemove_b59b0 1 = .ok (.dup, 1) := by decide +kernel
theorem dJx4a65c_fastRemove_b59b0_2 : decode cJx4a65c_fastRemove_b59b0 2 = .ok (.getfield 63, 3) := by decide +kernel
theorem dJx4a65c_fastRemove_b59b0_5 : decode cJx4a65c_fastRemove_b59b0 5 = .ok (.iconst 1, 1) := by decide +kernel
theorem dJx4a65c_fastRemove_b59b0_6 : decode cJx4a65c_fastRemove_b59b0 6 = .ok (.iadd, 1) := by decide +kernel
theorem dJx4a65c_fastRemove_b59b0_7 : decode cJx4a65c_fastRemove_b59b0 7 = .ok (.putfield 63, 3) := by decide +kernel
theorem dJx4a65c_fastRemove_b59b0_10 : decode cJx4a65c_fastRemove_b59b0 10 = .ok (.aload_n 0, 1) := by decide +kernel
theorem dJx4a65c_fastRemove_b59b0_11 : decode cJx4a65c_fastRemove_b59b0 11 = .ok (.getfield 48, 3) := by decide +kernel
theorem dJx4a65c_fastRemove_b59b0_14 : decode cJx4a65c_fastRemove_b59b0 14 = .ok (.iconst 1, 1) := by decide +kernel
theorem dJx4a65c_fastRemove_b59b0_15 : decode cJx4a65c_fastRemove_b59b0 15 = .ok (.isub, 1) := by decide +kernel
theorem dJx4a65c_fastRemove_b59b0_16 : decode cJx4a65c_fastRemove_b59b0 16 = .ok (.dup, 1) := by decide +kernel
theorem dJx4a65c_fastRemove_b59b0_17 : decode cJx4a65c_fastRemove_b59b0 17 = .ok (.istore_n 3, 1) := by decide +kernel
theorem dJx4a65c_fastRemove_b59b0_18 : decode cJx4a65c_fastRemove_b59b0 18 = .ok (.iload_n 2, 1) := by decide +kernel
theorem dJx4a65c_fastRemove_b59b0_19 : decode cJx4a65c_fastRemove_b59b0 19 = .ok (.if_icmp .le 15, 3) := by decide +kernel
theorem dJx4a65c_fastRemove_b59b0_22 : decode cJx4a65c_fastRemove_b59b0 22 = .ok (.aload_n 1, 1) := by decide +kernel
theorem dJx4a65c_fastRemove_b59b0_23 : decode cJx4a65c_fastRemove_b59b0 23 = .ok (.iload_n 2, 1) := by decide +kernel
theorem dJx4a65c_fastRemove_b59b0_24 : decode cJx4a65c_fastRemove_b59b0 24 = .ok (.iconst 1, 1) := by decide +kernel
theorem dJx4a65c_fastRemove_b59b0_25 : decode cJx4a65c_fastRemove_b59b0 25 = .ok (.iadd, 1) := by decide +kernel
theorem dJx4a65c_fastRemove_b59b0_26 : decode cJx4a65c_fastRemove_b59b0 26 = .ok (.aload_n 1, 1) := by decide +kernel
theorem dJx4a65c_fastRemove_b59b0_27 : decode cJx4a65c_fastRemove_b59b0 27 = .ok (.iload_n 2, 1) := by decide +kernel
theorem dJx4a65c_fastRemove_b59b0_28 : decode cJx4a65c_fastRemove_b59b0 28 = .ok (.iload_n 3, 1) := by decide +kernel
theorem dJx4a65c_fastRemove_b59b0_29 : decode cJx4a65c_fastRemove_b59b0 29 = .ok (.iload_n 2, 1) := by decide +kernel
theorem dJx4a65c_fastRemove_b59b0_30 : decode cJx4a65c_fastRemove_b59b0 30 = .ok (.isub, 1) := by decide +kernel
theorem dJx4a65c_fastRemove_b59b0_31 : decode cJx4a65c_fastRemove_b59b0 31 = .ok (.invokestatic 112, 3) := by decide +kernel
theorem dJx4a65c_fastRemove_b59b0_34 : decode cJx4a65c_fastRemove_b59b0 34 = .ok (.aload_n 1, 1) := by decide +kernel
theorem dJx4a65c_fastRemove_b59b0_35 : decode cJx4a65c_fastRemove_b59b0 35 = .ok (.aload_n 0, 1) := by decide +kernel
theorem dJx4a65c_fastRemove_b59b0_36 : decode cJx4a65c_fastRemove_b59b0 36 = .ok (.iload_n 3, 1) := by decide +kernel
theorem dJx4a65c_fastRemove_b59b0_37 : decode cJx4a65c_fastRemove_b59b0 37 = .ok (.dup_x1, 1) := by decide +kernel
theorem dJx4a65c_fastRemove_b59b0_38 : decode cJx4a65c_fastRemove_b59b0 38 = .ok (.putfield 48, 3) := by decide +kernel
theorem dJx4a65c_fastRemove_b59b0_41 : decode cJx4a65c_fastRemove_b59b0 41 = .ok (.aconst_null, 1) := by decide +kernel
theorem dJx4a65c_fastRemove_b59b0_42 : decode cJx4a65c_fastRemove_b59b0 42 = .ok (.aastore, 1) := by decide +kernel
theorem dJx4a65c_fastRemove_b59b0_43 : decode cJx4a65c_fastRemove_b59b0 43 = .ok (.return_, 1) := by decide +kernel
theorem dJx4a65c_rangeCheckForAdd_d00df_0 : decode cJx4a65c_rangeCheckForAdd_d00df 0 = .ok (.iload_n 1, 1) := by decide +kernel
theorem dJx4a65c_rangeCheckForAdd_d00df_1 : decode cJx4a65c_rangeCheckForAdd_d00df 1 = .ok (.aload_n 0, 1) := by decide +kernel
theorem dJx4a65c_rangeCheckForAdd_d00df_2 : decode cJx4a65c_rangeCheckForAdd_d00df 2 = .ok (.getfield 48, 3) := by decide +kernel
theorem dJx4a65c_rangeCheckForAdd_d00df_5 : decode cJx4a65c_rangeCheckForAdd_d00df 5 = .ok (.if_icmp .gt 7, 3) := by decide +kernel
theorem dJx4a65c_rangeCheckForAdd_d00df_8 : decode cJx4a65c_rangeCheckForAdd_d00df 8 = .ok (.iload_n 1, 1) := by decide +kernel
theorem dJx4a65c_rangeCheckForAdd_d00df_9 : decode cJx4a65c_rangeCheckForAdd_d00df 9 = .ok (.ifCond .ge 16, 3) := by decide +kernel
theorem dJx4a65c_rangeCheckForAdd_d00df_12 : decode cJx4a65c_rangeCheckForAdd_d00df 12 = .ok (.new 187, 3) := by decide +kernel
theorem dJx4a65c_rangeCheckForAdd_d00df_15 : decode cJx4a65c_rangeCheckForAdd_d00df 15 = .ok (.dup, 1) := by decide +kernel
theorem dJx4a65c_rangeCheckForAdd_d00df_16 : decode cJx4a65c_rangeCheckForAdd_d00df 16 = .ok (.aload_n 0, 1) := by decide +kernel
theorem dJx4a65c_rangeCheckForAdd_d00df_17 : decode cJx4a65c_rangeCheckForAdd_d00df 17 = .ok (.iload_n 1, 1) := by decide +kernel
theorem dJx4a65c_rangeCheckForAdd_d00df_18 : decode cJx4a65c_rangeCheckForAdd_d00df 18 = .ok (.invokevirtual 198, 3) := by decide +kernel
theorem dJx4a65c_rangeCheckForAdd_d00df_21 : decode cJx4a65c_rangeCheckForAdd_d00df 21 = .ok (.invokespecial 193, 3) := by decide +kernel
theorem dJx4a65c_rangeCheckForAdd_d00df_24 : decode cJx4a65c_rangeCheckForAdd_d00df 24 = .ok (.athrow, 1) := by decide +kernel
theorem dJx4a65c_rangeCheckForAdd_d00df_25 : decode cJx4a65c_rangeCheckForAdd_d00df 25 = .ok (.return_, 1) := by decide +kernel
theorem dJx4a65c_outOfBoundsMsg_b52d3_0 : decode cJx4a65c_outOfBoundsMsg_b52d3 0 = .ok (.new 20, 3) := by decide +kernel
theorem dJx4a65c_outOfBoundsMsg_b52d3_3 : decode cJx4a65c_outOfBoundsMsg_b52d3 3 = .ok (.dup, 1) := by decide +kernel
theorem dJx4a65c_outOfBoundsMsg_b52d3_4 : decode cJx4a65c_outOfBoundsMsg_b52d3 4 = .ok (.invokespecial 22, 3) := by decide +kernel
theorem dJx4a65c_outOfBoundsMsg_b52d3_7 : decode cJx4a65c_outOfBoundsMsg_b52d3 7 = .ok (.ldc 201, 2) := by decide +kernel
theorem dJx4a65c_outOfBoundsMsg_b52d3_9 : decode cJx4a65c_outOfBoundsMsg_b52d3 9 = .ok (.invokevirtual 25, 3) := by decide +kernel
theorem dJx4a65c_outOfBoundsMsg_b52d3_12 : decode cJx4a65c_outOfBoundsMsg_b52d3 12 = .ok (.iload_n 1, 1) := by decide +kernel
theorem dJx4a65c_outOfBoundsMsg_b52d3_13 : decode cJx4a65c_outOfBoundsMsg_b52d3 13 = .ok (.invokevirtual 29, 3) := by decide +kernel
theorem dJx4a65c_outOfBoundsMsg_b52d3_16 : decode cJx4a65c_outOfBoundsMsg_b52d3 16 = .ok (.ldc 203, 2) := by decide +kernel
theorem dJx4a65c_outOfBoundsMsg_b52d3_18 : decode cJx4a65c_outOfBoundsMsg_b52d3 18 = .ok (.invokevirtual 25, 3) := by decide +kernel
theorem dJx4a65c_outOfBoundsMsg_b52d3_21 : decode cJx4a65c_outOfBoundsMsg_b52d3 21 = .ok (.aload_n 0, 1) := by decide +kernel
theorem dJx4a65c_outOfBoundsMsg_b52d3_22 : decode cJx4a65c_outOfBoundsMsg_b52d3 22 = .ok (.getfield 48, 3) := by decide +kernel
theorem dJx4a65c_outOfBoundsMsg_b52d3_25 : decode cJx4a65c_outOfBoundsMsg_b52d3 25 = .ok (.invokevirtual 29, 3) := by decide +kernel
theorem dJx4a65c_outOfBoundsMsg_b52d3_28 : decode cJx4a65c_outOfBoundsMsg_b52d3 28 = .ok (.invokevirtual 32, 3) := by decide +kernel
theorem dJx4a65c_outOfBoundsMsg_b52d3_31 : decode cJx4a65c_outOfBoundsMsg_b52d3 31 = .ok (.areturn, 1) := by decide +kernel
theorem dJ7_copyOf_1904c_0 : decode cJ7_copyOf_1904c 0 = .ok (.aload_n 0, 1) := by decide +kernel
theorem dJ7_copyOf_1904c_1 : decode cJ7_copyOf_1904c 1 = .ok (.iload_n 1, 1) := by decide +kernel
theorem dJ7_copyOf_1904c_2 : decode cJ7_copyOf_1904c 2 = .ok (.aload_n 0, 1) := by decide +kernel
theorem dJ7_copyOf_1904c_3 : decode cJ7_copyOf_1904c 3 = .ok (.invokevirtual 86, 3) := by decide +kernel
theorem dJ7_copyOf_1904c_6 : decode cJ7_copyOf_1904c 6 = .ok (.invokestatic 300, 3) := by decide +kernel
theorem dJ7_copyOf_1904c_9 : decode cJ7_copyOf_1904c 9 = .ok (.areturn, 1) := by decide +kernel
theorem dJ7_copyOf_6403c_0 : decode cJ7_copyOf_6403c 0 = .ok (.aload_n 2, 1) := by decide +kernel
theorem dJ7_copyOf_6403c_1 : decode cJ7_copyOf_6403c 1 = .ok (.ldc 110, 2) := by decide +kernel
theorem dJ7_copyOf_6403c_3 : decode cJ7_copyOf_6403c 3 = .ok (.if_acmp .ne 10, 3) := by decide +kernel
theorem dJ7_copyOf_6403c_6 : decode cJ7_copyOf_6403c 6 = .ok (.iload_n 1, 1) := by decide +kernel
theorem dJ7_copyOf_6403c_7 : decode cJ7_copyOf_6403c 7 = .ok (.anewarray 2, 3) := by decide +kernel
theorem dJ7_copyOf_6403c_10 : decode cJ7_copyOf_6403c 10 = .ok (.goto 14, 3) := by decide +kernel
theorem dJ7_copyOf_6403c_13 : decode cJ7_copyOf_6403c 13 = .ok (.aload_n 2, 1) := by decide +kernel
theorem dJ7_copyOf_6403c_14 : decode cJ7_copyOf_6403c 14 = .ok (.invokevirtual 90, 3) := by decide +kernel
theorem dJ7_copyOf_6403c_17 : decode cJ7_copyOf_6403c 17 = .ok (.iload_n 1, 1) := by decide +kernel
theorem dJ7_copyOf_6403c_18 : decode cJ7_copyOf_6403c 18 = .ok (.invokestatic 95, 3) := by decide +kernel
theorem dJ7_copyOf_6403c_21 : decode cJ7_copyOf_6403c 21 = .ok (.checkcast 110, 3) := by decide +kernel
theorem dJ7_copyOf_6403c_24 : decode cJ7_copyOf_6403c 24 = .ok (.astore_n 3, 1) := by decide +kernel
theorem dJ7_copyOf_6403c_25 : decode cJ7_copyOf_6403c 25 = .ok (.aload_n 0, 1) := by decide +kernel
theorem dJ7_copyOf_6403c_26 : decode cJ7_copyOf_6403c 26 = .ok (.iconst 0, 1) := by decide +kernel
theorem dJ7_copyOf_6403c_27 : decode cJ7_copyOf_6403c 27 = .ok (.aload_n 3, 1) := by decide +kernel
theorem dJ7_copyOf_6403c_28 : decode cJ7_copyOf_6403c 28 = .ok (.iconst 0, 1) := by decide +kernel
theorem dJ7_copyOf_6403c_29 : decode cJ7_copyOf_6403c 29 = .ok (.aload_n 0, 1) := by decide +kernel
theorem dJ7_copyOf_6403c_30 : decode cJ7_copyOf_6403c 30 = .ok (.arraylength, 1) := by decide +kernel
theorem dJ7_copyOf_6403c_31 : decode cJ7_copyOf_6403c 31 = .ok (.iload_n 1, 1) := by decide +kernel
theorem dJ7_copyOf_6403c_32 : decode cJ7_copyOf_6403c 32 = .ok (.invokestatic 304, 3) := by decide +kernel
theorem dJ7_copyOf_6403c_35 : decode cJ7_copyOf_6403c 35 = .ok (.invokestatic 150, 3) := by decide +kernel
theorem dJ7_copyOf_6403c_38 : decode cJ7_copyOf_6403c 38 = .ok (.aload_n 3, 1) := by decide +kernel
theorem dJ7_copyOf_6403c_39 : decode cJ7_copyOf_6403c 39 = .ok (.areturn, 1) := by decide +kernel
theorem dJ7_copyOf_9075b_0 : decode cJ7_copyOf_9075b 0 = .ok (.iload_n 1, 1) := by decide +kernel
theorem dJ7_copyOf_9075b_1 : decode cJ7_copyOf_9075b 1 = .ok (.aload_n 0, 1) := by decide +kernel
theorem dJ7_copyOf_9075b_2 : decode cJ7_copyOf_9075b 2 = .ok (.arraylength, 1) := by decide +kernel
theorem dJ7_copyOf_9075b_3 : decode cJ7_copyOf_9075b 3 = .ok (.if_icmp .ne 11, 3) := by decide +kernel
theorem dJ7_copyOf_9075b_6 : decode cJ7_copyOf_9075b 6 = .ok (.aload_n 0, 1) := by decide +kernel
theorem dJ7_copyOf_9075b_7 : decode cJ7_copyOf_9075b 7 = .ok (.invokevirtual 310, 3) := by decide +kernel
theorem dJ7_copyOf_9075b_10 : decode cJ7_copyOf_9075b 10 = .ok (.checkcast 311, 3) := by decide +kernel
theorem dJ7_copyOf_9075b_13 : decode cJ7_copyOf_9075b 13 = .ok (.areturn, 1) := by decide +kernel
theorem dJ7_copyOf_9075b_14 : decode cJ7_copyOf_9075b 14 = .ok (.iload_n 1, 1) := by decide +kernel
theorem dJ7_copyOf_9075b_15 : decode cJ7_copyOf_9075b 15 = .ok (.newarray .byte, 2) := by decide +kernel
theorem dJ7_copyOf_9075b_17 : decode cJ7_copyOf_9075b 17 = .ok (.astore_n 2, 1) := by decide +kernel
theorem dJ7_copyOf_9075b_18 : decode cJ7_copyOf_9075b 18 = .ok (.aload_n 0, 1) := by decide +kernel
theorem dJ7_copyOf_9075b_19 : decode cJ7_copyOf_9075b 19 = .ok (.iconst 0, 1) := by decide +kernel
theorem dJ7_copyOf_9075b_20 : decode cJ7_copyOf_9075b 20 = .ok (.aload_n 2, 1) := by decide +kernel
theorem dJ7_copyOf_9075b_21 : decode cJ7_copyOf_9075b 21 = .ok (.iconst 0, 1) := by decide +kernel
theorem dJ7_copyOf_9075b_22 : decode cJ7_copyOf_9075b 22 = .ok (.aload_n 0, 1) := by decide +kernel
theorem dJ7_copyOf_9075b_23 : decode cJ7_copyOf_9075b 23 = .ok (.arraylength, 1) := by decide +kernel
theorem dJ7_copyOf_9075b_24 : decode cJ7_copyOf_9075b 24 = .ok (.iload_n 1, 1) := by decide +kernel
theorem dJ7_copyOf_9075b_25 : decode cJ7_copyOf_9075b 25 = .ok (.invokestatic 304, 3) := by decide +kernel
theorem dJ7_copyOf_9075b_28 : decode cJ7_copyOf_9075b 28 = .ok (.invokestatic 150, 3) := by decide +kernel
theorem dJ7_copyOf_9075b_31 : decode cJ7_copyOf_9075b 31 = .ok (.aload_n 2, 1) := by decide +kernel
theorem dJ7_copyOf_9075b_32 : decode cJ7_copyOf_9075b 32 = .ok (.areturn, 1) := by decide +kernel
theorem dJ7_checkLength_df160_0 : decode cJ7_checkLength_df160 0 = .ok (.iload_n 1, 1) := by decide +kernel
theorem dJ7_checkLength_df160_1 : decode cJ7_checkLength_df160 1 = .ok (.iload_n 0, 1) := by decide +kernel
theorem dJ7_checkLength_df160_2 : decode cJ7_checkLength_df160 2 = .ok (.if_icmp .ge 35, 3) := by decide +kernel
theorem dJ7_checkLength_df160_5 : decode cJ7_checkLength_df160 5 = .ok (.new 43, 3) := by decide +kernel
theorem dJ7_checkLength_df160_8 : decode cJ7_checkLength_df160 8 = .ok (.dup, 1) := by decide +kernel
theorem dJ7_checkLength_df160_9 : decode cJ7_checkLength_df160 9 = .ok (.new 45, 3) := by decide +kernel
theorem dJ7_checkLength_df160_12 : decode cJ7_checkLength_df160 12 = .ok (.dup, 1) := by decide +kernel
theorem dJ7_checkLength_df160_13 : decode cJ7_checkLength_df160 13 = .ok (.invokespecial 47, 3) := by decide +kernel
theorem dJ7_checkLength_df160_16 : decode cJ7_checkLength_df160 16 = .ok (.iload_n 0, 1) := by decide +kernel
theorem dJ7_checkLength_df160_17 : decode cJ7_checkLength_df160 17 = .ok (.invokevirtual 54, 3) := by decide +kernel
theorem dJ7_checkLength_df160_20 : decode cJ7_checkLength_df160 20 = .ok (.ldc_w 337, 3) := by decide +kernel
theorem dJ7_checkLength_df160_23 : decode cJ7_checkLength_df160 23 = .ok (.invokevirtual 50, 3) := by decide +kernel
theorem dJ7_checkLength_df160_26 : decode cJ7_checkLength_df160 26 = .ok (.iload_n 1, 1) := by decide +kernel
theorem dJ7_checkLength_df160_27 : decode cJ7_checkLength_df160 27 = .ok (.invokevirtual 54, 3) := by decide +kernel
theorem dJ7_checkLength_df160_30 : decode cJ7_checkLength_df160 30 = .ok (.invokevirtual 61, 3) := by decide +kernel
theorem dJ7_checkLength_df160_33 : decode cJ7_checkLength_df160 33 = .ok (.invokespecial 65, 3) := by decide +kernel
theorem dJ7_checkLength_df160_36 : decode cJ7_checkLength_df160 36 = .ok (.athrow, 1) := by decide +kernel
theorem dJ7_checkLength_df160_37 : decode cJ7_checkLength_df160 37 = .ok (.return_, 1) := by decide +kernel
theorem dJ7_copyOfRange_39247_0 : decode cJ7_copyOfRange_39247 0 = .ok (.iload_n 1, 1) := by decide +kernel
theorem dJ7_copyOfRange_39247_1 : decode cJ7_copyOfRange_39247 1 = .ok (.ifCond .ne 9, 3) := by decide +kernel
theorem dJ7_copyOfRange_39247_4 : decode cJ7_copyOfRange_39247 4 = .ok (.iload_n 2, 1) := by decide +kernel
theorem dJ7_copyOfRange_39247_5 : decode cJ7_copyOfRange_39247 5 = .ok (.aload_n 0, 1) := by decide +kernel
theorem dJ7_copyOfRange_39247_6 : decode cJ7_copyOfRange_39247 6 = .ok (.arraylength, 1) := by decide +kernel
theorem dJ7_copyOfRange_39247_7 : decode cJ7_copyOfRange_39247 7 = .ok (.if_icmp .eq 10, 3) := by decide +kernel
theorem dJ7_copyOfRange_39247_10 : decode cJ7_copyOfRange_39247 10 = .ok (.aload_n 0, 1) := by decide +kernel
theorem dJ7_copyOfRange_39247_11 : decode cJ7_copyOfRange_39247 11 = .ok (.iload_n 1, 1) := by decide +kernel
theorem dJ7_copyOfRange_39247_12 : decode cJ7_copyOfRange_39247 12 = .ok (.iload_n 2, 1) := by decide +kernel
theorem dJ7_copyOfRange_39247_13 : decode cJ7_copyOfRange_39247 13 = .ok (.invokestatic 339, 3) := by decide +kernel
theorem dJ7_copyOfRange_39247_16 : decode cJ7_copyOfRange_39247 16 = .ok (.areturn, 1) := by decide +kernel
theorem dJ7_copyOfRange_39247_17 : decode cJ7_copyOfRange_39247 17 = .ok (.aload_n 0, 1) := by decide +kernel
theorem dJ7_copyOfRange_39247_18 : decode cJ7_copyOfRange_39247 18 = .ok (.invokevirtual 310, 3) := by decide +kernel
theorem dJ7_copyOfRange_39247_21 : decode cJ7_copyOfRange_39247 21 = .ok (.checkcast 311, 3) := by decide +kernel
theorem dJ7_copyOfRange_39247_24 : decode cJ7_copyOfRange_39247 24 = .ok (.areturn, 1) := by decide +kernel
theorem dJ7_copyOfRangeByte_39247_0 : decode cJ7_copyOfRangeByte_39247 0 = .ok (.iload_n 1, 1) := by decide +kernel
theorem dJ7_copyOfRangeByte_39247_1 : decode cJ7_copyOfRangeByte_39247 1 = .ok (.iload_n 2, 1) := by decide +kernel
theorem dJ7_copyOfRangeByte_39247_2 : decode cJ7_copyOfRangeByte_39247 2 = .ok (.invokestatic 343, 3) := by decide +kernel
theorem dJ7_copyOfRangeByte_39247_5 : decode cJ7_copyOfRangeByte_39247 5 = .ok (.iload_n 2, 1) := by decide +kernel
theorem dJ7_copyOfRangeByte_39247_6 : decode cJ7_copyOfRangeByte_39247 6 = .ok (.iload_n 1, 1) := by decide +kernel
theorem dJ7_copyOfRangeByte_39247_7 : decode cJ7_copyOfRangeByte_39247 7 = .ok (.isub, 1) := by decide +kernel
theorem dJ7_copyOfRangeByte_39247_8 : decode cJ7_copyOfRangeByte_39247 8 = .ok (.istore_n 3, 1) := by decide +kernel
theorem dJ7_copyOfRangeByte_39247_9 : decode cJ7_copyOfRangeByte_39247 9 = .ok (.iload_n 3, 1) := by decide +kernel
theorem dJ7_copyOfRangeByte_39247_10 : decode cJ7_copyOfRangeByte_39247 10 = .ok (.newarray .byte, 2) := by decide +kernel
theorem dJ7_copyOfRangeByte_39247_12 : decode cJ7_copyOfRangeByte_39247 12 = .ok (.astore 4, 2) := by decide +kernel
theorem dJ7_copyOfRangeByte_39247_14 : decode cJ7_copyOfRangeByte_39247 14 = .ok (.aload_n 0, 1) := by decide +kernel
theorem dJ7_copyOfRangeByte_39247_15 : decode cJ7_copyOfRangeByte_39247 15 = .ok (.iload_n 1, 1) := by decide +kernel
theorem dJ7_copyOfRangeByte_39247_16 : decode cJ7_copyOfRangeByte_39247 16 = .ok (.aload 4, 2) := by decide +kernel
theorem dJ7_copyOfRangeByte_39247_18 : decode cJ7_copyOfRangeByte_39247 18 = .ok (.iconst 0, 1) := by decide +kernel
theorem dJ7_copyOfRangeByte_39247_19 : decode cJ7_copyOfRangeByte_39247 19 = .ok (.aload_n 0, 1) := by decide +kernel
theorem dJ7_copyOfRangeByte_39247_20 : decode cJ7_copyOfRangeByte_39247 20 = .ok (.arraylength, 1) := by decide +kernel
theorem dJ7_copyOfRangeByte_39247_21 : decode cJ7_copyOfRangeByte_39247 21 = .ok (.iload_n 1, 1) := by decide +kernel
theorem dJ7_copyOfRangeByte_39247_22 : decode cJ7_copyOfRangeByte_39247 22 = .ok (.isub, 1) := by decide +kernel
theorem dJ7_copyOfRangeByte_39247_23 : decode cJ7_copyOfRangeByte_39247 23 = .ok (.iload_n 3, 1) := by decide +kernel
theorem dJ7_copyOfRangeByte_39247_24 : decode cJ7_copyOfRangeByte_39247 24 = .ok (.invokestatic 304, 3) := by decide +kernel
theorem dJ7_copyOfRangeByte_39247_27 : decode cJ7_copyOfRangeByte_39247 27 = .ok (.invokestatic 150, 3) := by decide +kernel
theorem dJ7_copyOfRangeByte_39247_30 : decode cJ7_copyOfRangeByte_39247 30 = .ok (.aload 4, 2) := by decide +kernel
theorem dJ7_copyOfRangeByte_39247_32 : decode cJ7_copyOfRangeByte_39247 32 = .ok (.areturn, 1) := by decide +kernel
theorem dJ15_checkIndex_7cf53_0 : decode cJ15_checkIndex_7cf53 0 = .ok (.iload_n 0, 1) := by decide +kernel
theorem dJ15_checkIndex_7cf53_1 : decode cJ15_checkIndex_7cf53 1 = .ok (.iload_n 1, 1) := by decide +kernel
theorem dJ15_checkIndex_7cf53_2 : decode cJ15_checkIndex_7cf53 2 = .ok (.aconst_null, 1) := by decide +kernel
theorem dJ15_checkIndex_7cf53_3 : decode cJ15_checkIndex_7cf53 3 = .ok (.invokestatic 105, 3) := by decide +kernel
theorem dJ15_checkIndex_7cf53_6 : decode cJ15_checkIndex_7cf53 6 = .ok (.ireturn, 1) := by decide +kernel
theorem dJ8_newLength_cabcc_0 : decode cJ8_newLength_cabcc 0 = .ok (.iload_n 0, 1) := by decide +kernel
theorem dJ8_newLength_cabcc_1 : decode cJ8_newLength_cabcc 1 = .ok (.iload_n 1, 1) := by decide +kernel
theorem dJ8_newLength_cabcc_2 : decode cJ8_newLength_cabcc 2 = .ok (.iload_n 2, 1) := by decide +kernel
theorem dJ8_newLength_cabcc_3 : decode cJ8_newLength_cabcc 3 = .ok (.invokestatic 194, 3) := by decide +kernel
theorem dJ8_newLength_cabcc_6 : decode cJ8_newLength_cabcc 6 = .ok (.iadd, 1) := by decide +kernel
theorem dJ8_newLength_cabcc_7 : decode cJ8_newLength_cabcc 7 = .ok (.istore_n 3, 1) := by decide +kernel
theorem dJ8_newLength_cabcc_8 : decode cJ8_newLength_cabcc 8 = .ok (.iconst 0, 1) := by decide +kernel
theorem dJ8_newLength_cabcc_9 : decode cJ8_newLength_cabcc 9 = .ok (.iload_n 3, 1) := by decide +kernel
theorem dJ8_newLength_cabcc_10 : decode cJ8_newLength_cabcc 10 = .ok (.if_icmp .ge 11, 3) := by decide +kernel
theorem dJ8_newLength_cabcc_13 : decode cJ8_newLength_cabcc 13 = .ok (.iload_n 3, 1) := by decide +kernel
theorem dJ8_newLength_cabcc_14 : decode cJ8_newLength_cabcc 14 = .ok (.ldc 200, 2) := by decide +kernel
theorem dJ8_newLength_cabcc_16 : decode cJ8_newLength_cabcc 16 = .ok (.if_icmp .gt 5, 3) := by decide +kernel
theorem dJ8_newLength_cabcc_19 : decode cJ8_newLength_cabcc 19 = .ok (.iload_n 3, 1) := by decide +kernel
theorem dJ8_newLength_cabcc_20 : decode cJ8_newLength_cabcc 20 = .ok (.ireturn, 1) := by decide +kernel
theorem dJ8_newLength_cabcc_21 : decode cJ8_newLength_cabcc 21 = .ok (.iload_n 0, 1) := by decide +kernel
theorem dJ8_newLength_cabcc_22 : decode cJ8_newLength_cabcc 22 = .ok (.iload_n 1, 1) := by decide +kernel
theorem dJ8_newLength_cabcc_23 : decode cJ8_newLength_cabcc 23 = .ok (.invokestatic 201, 3) := by decide +kernel
theorem dJ8_newLength_cabcc_26 : decode cJ8_newLength_cabcc 26 = .ok (.ireturn, 1) := by decide +kernel
theorem dJ8_hugeLength_7cf53_0 : decode cJ8_hugeLength_7cf53 0 = .ok (.iload_n 0, 1) := by decide +kernel
theorem dJ8_hugeLength_7cf53_1 : decode cJ8_hugeLength_7cf53 1 = .ok (.iload_n 1, 1) := by decide +kernel
theorem dJ8_hugeLength_7cf53_2 : decode cJ8_hugeLength_7cf53 2 = .ok (.iadd, 1) := by decide +kernel
theorem dJ8_hugeLength_7cf53_3 : decode cJ8_hugeLength_7cf53 3 = .ok (.istore_n 2, 1) := by decide +kernel
theorem dJ8_hugeLength_7cf53_4 : decode cJ8_hugeLength_7cf53 4 = .ok (.iload_n 2, 1) := by decide +kernel
theorem dJ8_hugeLength_7cf53_5 : decode cJ8_hugeLength_7cf53 5 = .ok (.ifCond .ge 44, 3) := by decide +kernel
theorem dJ8_hugeLength_7cf53_8 : decode cJ8_hugeLength_7cf53 8 = .ok (.new 204, 3) := by decide +kernel
theorem dJ8_hugeLength_7cf53_11 : decode cJ8_hugeLength_7cf53 11 = .ok (.dup, 1) := by decide +kernel
theorem dJ8_hugeLength_7cf53_12 : decode cJ8_hugeLength_7cf53 12 = .ok (.new 89, 3) := by decide +kernel
theorem dJ8_hugeLength_7cf53_15 : decode cJ8_hugeLength_7cf53 15 = .ok (.dup, 1) := by decide +kernel
theorem dJ8_hugeLength_7cf53_16 : decode cJ8_hugeLength_7cf53 16 = .ok (.invokespecial 91, 3) := by decide +kernel
theorem dJ8_hugeLength_7cf53_19 : decode cJ8_hugeLength_7cf53 19 = .ok (.ldc 206, 2) := by decide +kernel
theorem dJ8_hugeLength_7cf53_21 : decode cJ8_hugeLength_7cf53 21 = .ok (.invokevirtual 94, 3) := by decide +kernel
theorem dJ8_hugeLength_7cf53_24 : decode cJ8_hugeLength_7cf53 24 = .ok (.iload_n 0, 1) := by decide +kernel
theorem dJ8_hugeLength_7cf53_25 : decode cJ8_hugeLength_7cf53 25 = .ok (.invokevirtual 98, 3) := by decide +kernel
theorem dJ8_hugeLength_7cf53_28 : decode cJ8_hugeLength_7cf53 28 = .ok (.ldc 208, 2) := by decide +kernel
theorem dJ8_hugeLength_7cf53_30 : decode cJ8_hugeLength_7cf53 30 = .ok (.invokevirtual 94, 3) := by decide +kernel
theorem dJ8_hugeLength_7cf53_33 : decode cJ8_hugeLength_7cf53 33 = .ok (.iload_n 1, 1) := by decide +kernel
theorem dJ8_hugeLength_7cf53_34 : decode cJ8_hugeLength_7cf53 34 = .ok (.invokevirtual 98, 3) := by decide +kernel
theorem dJ8_hugeLength_7cf53_37 : decode cJ8_hugeLength_7cf53 37 = .ok (.ldc 210, 2) := by decide +kernel
theorem dJ8_hugeLength_7cf53_39 : decode cJ8_hugeLength_7cf53 39 = .ok (.invokevirtual 94, 3) := by decide +kernel
theorem dJ8_hugeLength_7cf53_42 : decode cJ8_hugeLength_7cf53 42 = .ok (.invokevirtual 101, 3) := by decide +kernel
theorem dJ8_hugeLength_7cf53_45 : decode cJ8_hugeLength_7cf53 45 = .ok (.invokespecial 212, 3) := by decide +kernel
theorem dJ8_hugeLength_7cf53_48 : decode cJ8_hugeLength_7cf53 48 = .ok (.athrow, 1) := by decide +kernel
theorem dJ8_hugeLength_7cf53_49 : decode cJ8_hugeLength_7cf53 49 = .ok (.iload_n 2, 1) := by decide +kernel
theorem dJ8_hugeLength_7cf53_50 : decode cJ8_hugeLength_7cf53 50 = .ok (.ldc 200, 2) := by decide +kernel
theorem dJ8_hugeLength_7cf53_52 : decode cJ8_hugeLength_7cf53 52 = .ok (.if_icmp .gt 6, 3) := by decide +kernel
theorem dJ8_hugeLength_7cf53_55 : decode cJ8_hugeLength_7cf53 55 = .ok (.ldc 200, 2) := by decide +kernel
theorem dJ8_hugeLength_7cf53_57 : decode cJ8_hugeLength_7cf53 57 = .ok (.ireturn, 1) := by decide +kernel
theorem dJ8_hugeLength_7cf53_58 : decode cJ8_hugeLength_7cf53 58 = .ok (.iload_n 2, 1) := by decide +kernel
theorem dJ8_hugeLength_7cf53_59 : decode cJ8_hugeLength_7cf53 59 = .ok (.ireturn, 1) := by decide +kernel
theorem dJ3_checkIndex_8e157_0 : decode cJ3_checkIndex_8e157 0 = .ok (.iload_n 0, 1) := by decide +kernel
theorem dJ3_checkIndex_8e157_1 : decode cJ3_checkIndex_8e157 1 = .ok (.ifCond .lt 8, 3) := by decide +kernel
theorem dJ3_checkIndex_8e157_4 : decode cJ3_checkIndex_8e157 4 = .ok (.iload_n 0, 1) := by decide +kernel
theorem dJ3_checkIndex_8e157_5 : decode cJ3_checkIndex_8e157 5 = .ok (.iload_n 1, 1) := by decide +kernel
theorem dJ3_checkIndex_8e157_6 : decode cJ3_checkIndex_8e157 6 = .ok (.if_icmp .lt 10, 3) := by decide +kernel
theorem dJ3_checkIndex_8e157_9 : decode cJ3_checkIndex_8e157 9 = .ok (.aload_n 2, 1) := by decide +kernel
theorem dJ3_checkIndex_8e157_10 : decode cJ3_checkIndex_8e157 10 = .ok (.iload_n 0, 1) := by decide +kernel
theorem dJ3_checkIndex_8e157_11 : decode cJ3_checkIndex_8e157 11 = .ok (.iload_n 1, 1) := by decide +kernel
theorem dJ3_checkIndex_8e157_12 : decode cJ3_checkIndex_8e157 12 = .ok (.invokestatic 95, 3) := by decide +kernel
theorem dJ3_checkIndex_8e157_15 : decode cJ3_checkIndex_8e157 15 = .ok (.athrow, 1) := by decide +kernel
theorem dJ3_checkIndex_8e157_16 : decode cJ3_checkIndex_8e157 16 = .ok (.iload_n 0, 1) := by decide +kernel
theorem dJ3_checkIndex_8e157_17 : decode cJ3_checkIndex_8e157 17 = .ok (.ireturn, 1) := by decide +kernel
theorem dJ3_checkFromToIndex_8c36e_0 : decode cJ3_checkFromToIndex_8c36e 0 = .ok (.iload_n 0, 1) := by decide +kernel
theorem dJ3_checkFromToIndex_8c36e_1 : decode cJ3_checkFromToIndex_8c36e 1 = .ok (.ifCond .lt 13, 3) := by decide +kernel
theorem dJ3_checkFromToIndex_8c36e_4 : decode cJ3_checkFromToIndex_8c36e 4 = .ok (.iload_n 0, 1) := by decide +kernel
theorem dJ3_checkFromToIndex_8c36e_5 : decode cJ3_checkFromToIndex_8c36e 5 = .ok (.iload_n 1, 1) := by decide +kernel
theorem dJ3_checkFromToIndex_8c36e_6 : decode cJ3_checkFromToIndex_8c36e 6 = .ok (.if_icmp .gt 8, 3) := by decide +kernel
theorem dJ3_checkFromToIndex_8c36e_9 : decode cJ3_checkFromToIndex_8c36e 9 = .ok (.iload_n 1, 1) := by decide +kernel
theorem dJ3_checkFromToIndex_8c36e_10 : decode cJ3_checkFromToIndex_8c36e 10 = .ok (.iload_n 2, 1) := by decide +kernel
theorem dJ3_checkFromToIndex_8c36e_11 : decode cJ3_checkFromToIndex_8c36e 11 = .ok (.if_icmp .le 11, 3) := by decide +kernel
theorem dJ3_checkFromToIndex_8c36e_14 : decode cJ3_checkFromToIndex_8c36e 14 = .ok (.aload_n 3, 1) := by decide +kernel
theorem dJ3_checkFromToIndex_8c36e_15 : decode cJ3_checkFromToIndex_8c36e 15 = .ok (.iload_n 0, 1) := by decide +kernel
theorem dJ3_checkFromToIndex_8c36e_16 : decode cJ3_checkFromToIndex_8c36e 16 = .ok (.iload_n 1, 1) := by decide +kernel
theorem dJ3_checkFromToIndex_8c36e_17 : decode cJ3_checkFromToIndex_8c36e 17 = .ok (.iload_n 2, 1) := by decide +kernel
theorem dJ3_checkFromToIndex_8c36e_18 : decode cJ3_checkFromToIndex_8c36e 18 = .ok (.invokestatic 99, 3) := by decide +kernel
theorem dJ3_checkFromToIndex_8c36e_21 : decode cJ3_checkFromToIndex_8c36e 21 = .ok (.athrow, 1) := by decide +kernel
theorem dJ3_checkFromToIndex_8c36e_22 : decode cJ3_checkFromToIndex_8c36e 22 = .ok (.iload_n 0, 1) := by decide +kernel
theorem dJ3_checkFromToIndex_8c36e_23 : decode cJ3_checkFromToIndex_8c36e 23 = .ok (.ireturn, 1) := by decide +kernel
theorem dJ3_checkFromIndexSize_8c36e_0 : decode cJ3_checkFromIndexSize_8c36e 0 = .ok (.iload_n 2, 1) := by decide +kernel
theorem dJ3_checkFromIndexSize_8c36e_1 : decode cJ3_checkFromIndexSize_8c36e 1 = .ok (.iload_n 0, 1) := by decide +kernel
theorem dJ3_checkFromIndexSize_8c36e_2 : decode cJ3_checkFromIndexSize_8c36e 2 = .ok (.ior, 1) := by decide +kernel
theorem dJ3_checkFromIndexSize_8c36e_3 : decode cJ3_checkFromIndexSize_8c36e 3 = .ok (.iload_n 1, 1) := by decide +kernel
theorem dJ3_checkFromIndexSize_8c36e_4 : decode cJ3_checkFromIndexSize_8c36e 4 = .ok (.ior, 1) := by decide +kernel
theorem dJ3_checkFromIndexSize_8c36e_5 : decode cJ3_checkFromIndexSize_8c36e 5 = .ok (.ifCond .lt 10, 3) := by decide +kernel
theorem dJ3_checkFromIndexSize_8c36e_8 : decode cJ3_checkFromIndexSize_8c36e 8 = .ok (.iload_n 1, 1) := by decide +kernel
theorem dJ3_checkFromIndexSize_8c36e_9 : decode cJ3_checkFromIndexSize_8c36e 9 = .ok (.iload_n 2, 1) := by decide +kernel
theorem dJ3_checkFromIndexSize_8c36e_10 : decode cJ3_checkFromIndexSize_8c36e 10 = .ok (.iload_n 0, 1) := by decide +kernel
theorem dJ3_checkFromIndexSize_8c36e_11 : decode cJ3_checkFromIndexSize_8c36e 11 = .ok (.isub, 1) := by decide +kernel
theorem dJ3_checkFromIndexSize_8c36e_12 : decode cJ3_checkFromIndexSize_8c36e 12 = .ok (.if_icmp .le 11, 3) := by decide +kernel
theorem dJ3_checkFromIndexSize_8c36e_15 : decode cJ3_checkFromIndexSize_8c36e 15 = .ok (.aload_n 3, 1) := by decide +kernel
theorem dJ3_checkFromIndexSize_8c36e_16 : decode cJ3_checkFromIndexSize_8c36e 16 = .ok (.iload_n 0, 1) := by decide +kernel
theorem dJ3_checkFromIndexSize_8c36e_17 : decode cJ3_checkFromIndexSize_8c36e 17 = .ok (.iload_n 1, 1) := by decide +kernel
theorem dJ3_checkFromIndexSize_8c36e_18 : decode cJ3_checkFromIndexSize_8c36e 18 = .ok (.iload_n 2, 1) := by decide +kernel
theorem dJ3_checkFromIndexSize_8c36e_19 : decode cJ3_checkFromIndexSize_8c36e 19 = .ok (.invokestatic 103, 3) := by decide +kernel
theorem dJ3_checkFromIndexSize_8c36e_22 : decode cJ3_checkFromIndexSize_8c36e 22 = .ok (.athrow, 1) := by decide +kernel
theorem dJ3_checkFromIndexSize_8c36e_23 : decode cJ3_checkFromIndexSize_8c36e 23 = .ok (.iload_n 0, 1) := by decide +kernel
theorem dJ3_checkFromIndexSize_8c36e_24 : decode cJ3_checkFromIndexSize_8c36e 24 = .ok (.ireturn, 1) := by decide +kernel
theorem dL_cell_0 : decode cL_cell 0 = .ok (.iload_n 1, 1) := by decide +kernel
theorem dL_cell_1 : decode cL_cell 1 = .ok (.aload_n 0, 1) := by decide +kernel
theorem dL_cell_2 : decode cL_cell 2 = .ok (.arraylength, 1) := by decide +kernel
theorem dL_cell_3 : decode cL_cell 3 = .ok (.if_icmp .ge 9, 3) := by decide +kernel
theorem dL_cell_6 : decode cL_cell 6 = .ok (.aload_n 0, 1) := by decide +kernel
theorem dL_cell_7 : decode cL_cell 7 = .ok (.iload_n 1, 1) := by decide +kernel
theorem dL_cell_8 : decode cL_cell 8 = .ok (.iaload, 1) := by decide +kernel
theorem dL_cell_9 : decode cL_cell 9 = .ok (.goto 18, 3) := by decide +kernel
theorem dL_cell_12 : decode cL_cell 12 = .ok (.sipush 7919, 3) := by decide +kernel
theorem dL_cell_15 : decode cL_cell 15 = .ok (.iload_n 1, 1) := by decide +kernel
theorem dL_cell_16 : decode cL_cell 16 = .ok (.sipush 1439, 3) := by decide +kernel
theorem dL_cell_19 : decode cL_cell 19 = .ok (.iadd, 1) := by decide +kernel
theorem dL_cell_20 : decode cL_cell 20 = .ok (.imul, 1) := by decide +kernel
theorem dL_cell_21 : decode cL_cell 21 = .ok (.iload_n 1, 1) := by decide +kernel
theorem dL_cell_22 : decode cL_cell 22 = .ok (.sipush 3911, 3) := by decide +kernel
theorem dL_cell_25 : decode cL_cell 25 = .ok (.iadd, 1) := by decide +kernel
theorem dL_cell_26 : decode cL_cell 26 = .ok (.imul, 1) := by decide +kernel
theorem dL_cell_27 : decode cL_cell 27 = .ok (.ireturn, 1) := by decide +kernel
theorem dL_low_0 : decode cL_low 0 = .ok (.iload_n 0, 1) := by decide +kernel
theorem dL_low_1 : decode cL_low 1 = .ok (.ldc 7, 2) := by decide +kernel
theorem dL_low_3 : decode cL_low 3 = .ok (.iand, 1) := by decide +kernel
theorem dL_low_4 : decode cL_low 4 = .ok (.iload_n 1, 1) := by decide +kernel
theorem dL_low_5 : decode cL_low 5 = .ok (.irem, 1) := by decide +kernel
theorem dL_low_6 : decode cL_low 6 = .ok (.ireturn, 1) := by decide +kernel
theorem dL_does_0 : decode cL_does 0 = .ok (.iload_n 1, 1) := by decide +kernel
theorem dL_does_1 : decode cL_does 1 = .ok (.bipush 8, 2) := by decide +kernel
theorem dL_does_3 : decode cL_does 3 = .ok (.if_icmp .ge 17, 3) := by decide +kernel
theorem dL_does_6 : decode cL_does 6 = .ok (.aload_n 0, 1) := by decide +kernel
theorem dL_does_7 : decode cL_does 7 = .ok (.iload_n 1, 1) := by decide +kernel
theorem dL_does_8 : decode cL_does 8 = .ok (.iload_n 2, 1) := by decide +kernel
theorem dL_does_9 : decode cL_does 9 = .ok (.iload_n 3, 1) := by decide +kernel
theorem dL_does_10 : decode cL_does 10 = .ok (.iload 4, 2) := by decide +kernel
theorem dL_does_12 : decode cL_does 12 = .ok (.lload 5, 2) := by decide +kernel
theorem dL_does_14 : decode cL_does 14 = .ok (.invokestatic 8, 3) := by decide +kernel
theorem dL_does_17 : decode cL_does 17 = .ok (.goto 236, 3) := by decide +kernel
theorem dL_does_20 : decode cL_does 20 = .ok (.iload_n 1, 1) := by decide +kernel
theorem dL_does_21 : decode cL_does 21 = .ok (.bipush 19, 2) := by decide +kernel
theorem dL_does_23 : decode cL_does 23 = .ok (.if_icmp .ge 17, 3) := by decide +kernel
theorem dL_does_26 : decode cL_does 26 = .ok (.aload_n 0, 1) := by decide +kernel
theorem dL_does_27 : decode cL_does 27 = .ok (.iload_n 1, 1) := by decide +kernel
theorem dL_does_28 : decode cL_does 28 = .ok (.iload_n 2, 1) := by decide +kernel
theorem dL_does_29 : decode cL_does 29 = .ok (.iload_n 3, 1) := by decide +kernel
theorem dL_does_30 : decode cL_does 30 = .ok (.iload 4, 2) := by decide +kernel
theorem dL_does_32 : decode cL_does 32 = .ok (.lload 5, 2) := by decide +kernel
theorem dL_does_34 : decode cL_does 34 = .ok (.invokestatic 14, 3) := by decide +kernel
theorem dL_does_37 : decode cL_does 37 = .ok (.goto 216, 3) := by decide +kernel
theorem dL_does_40 : decode cL_does 40 = .ok (.iload_n 1, 1) := by decide +kernel
theorem dL_does_41 : decode cL_does 41 = .ok (.bipush 19, 2) := by decide +kernel
theorem dL_does_43 : decode cL_does 43 = .ok (.if_icmp .ne 15, 3) := by decide +kernel
theorem dL_does_46 : decode cL_does 46 = .ok (.aload_n 0, 1) := by decide +kernel
theorem dL_does_47 : decode cL_does 47 = .ok (.iload_n 2, 1) := by decide +kernel
theorem dL_does_48 : decode cL_does 48 = .ok (.iload_n 3, 1) := by decide +kernel
theorem dL_does_49 : decode cL_does 49 = .ok (.iload 4, 2) := by decide +kernel
theorem dL_does_51 : decode cL_does 51 = .ok (.invokevirtual 17, 3) := by decide +kernel
theorem dL_does_54 : decode cL_does 54 = .ok (.i2l, 1) := by decide +kernel
theorem dL_does_55 : decode cL_does 55 = .ok (.goto 198, 3) := by decide +kernel
theorem dL_does_58 : decode cL_does 58 = .ok (.iload_n 1, 1) := by decide +kernel
theorem dL_does_59 : decode cL_does 59 = .ok (.bipush 20, 2) := by decide +kernel
theorem dL_does_61 : decode cL_does 61 = .ok (.if_icmp .ne 13, 3) := by decide +kernel
theorem dL_does_64 : decode cL_does 64 = .ok (.aload_n 0, 1) := by decide +kernel
theorem dL_does_65 : decode cL_does 65 = .ok (.lload 5, 2) := by decide +kernel
theorem dL_does_67 : decode cL_does 67 = .ok (.iload_n 2, 1) := by decide +kernel
theorem dL_does_68 : decode cL_does 68 = .ok (.invokevirtual 23, 3) := by decide +kernel
theorem dL_does_71 : decode cL_does 71 = .ok (.goto 182, 3) := by decide +kernel
theorem dL_does_74 : decode cL_does 74 = .ok (.iload_n 1, 1) := by decide +kernel
theorem dL_does_75 : decode cL_does 75 = .ok (.bipush 21, 2) := by decide +kernel
theorem dL_does_77 : decode cL_does 77 = .ok (.if_icmp .ne 13, 3) := by decide +kernel
theorem dL_does_80 : decode cL_does 80 = .ok (.aload_n 0, 1) := by decide +kernel
theorem dL_does_81 : decode cL_does 81 = .ok (.lload 5, 2) := by decide +kernel
theorem dL_does_83 : decode cL_does 83 = .ok (.iload_n 2, 1) := by decide +kernel
theorem dL_does_84 : decode cL_does 84 = .ok (.invokevirtual 27, 3) := by decide +kernel
theorem dL_does_87 : decode cL_does 87 = .ok (.goto 166, 3) := by decide +kernel
theorem dL_does_90 : decode cL_does 90 = .ok (.iload_n 1, 1) := by decide +kernel
theorem dL_does_91 : decode cL_does 91 = .ok (.bipush 22, 2) := by decide +kernel
theorem dL_does_93 : decode cL_does 93 = .ok (.if_icmp .ne 12, 3) := by decide +kernel
theorem dL_does_96 : decode cL_does 96 = .ok (.aload_n 0, 1) := by decide +kernel
theorem dL_does_97 : decode cL_does 97 = .ok (.iload_n 2, 1) := by decide +kernel
theorem dL_does_98 : decode cL_does 98 = .ok (.invokevirtual 30, 3) := by decide +kernel
theorem dL_does_101 : decode cL_does 101 = .ok (.i2l, 1) := by decide +kernel
theorem dL_does_102 : decode cL_does 102 = .ok (.goto 151, 3) := by decide +kernel
theorem dL_does_105 : decode cL_does 105 = .ok (.iload_n 1, 1) := by decide +kernel
theorem dL_does_106 : decode cL_does 106 = .ok (.bipush 23, 2) := by decide +kernel
theorem dL_does_108 : decode cL_does 108 = .ok (.if_icmp .ne 21, 3) := by decide +kernel
theorem dL_does_111 : decode cL_does 111 = .ok (.aload_n 0, 1) := by decide +kernel
theorem dL_does_112 : decode cL_does 112 = .ok (.lload 5, 2) := by decide +kernel
theorem dL_does_114 : decode cL_does 114 = .ok (.iload_n 3, 1) := by decide +kernel
theorem dL_does_115 : decode cL_does 115 = .ok (.bipush 100, 2) := by decide +kernel
theorem dL_does_117 : decode cL_does 117 = .ok (.idiv, 1) := by decide +kernel
theorem dL_does_118 : decode cL_does 118 = .ok (.iload_n 3, 1) := by decide +kernel
theorem dL_does_119 : decode cL_does 119 = .ok (.bipush 100, 2) := by decide +kernel
theorem dL_does_121 : decode cL_does 121 = .ok (.irem, 1) := by decide +kernel
theorem dL_does_122 : decode cL_does 122 = .ok (.invokevirtual 34, 3) := by decide +kernel
theorem dL_does_125 : decode cL_does 125 = .ok (.i2l, 1) := by decide +kernel
theorem dL_does_126 : decode cL_does 126 = .ok (.goto 127, 3) := by decide +kernel
theorem dL_does_129 : decode cL_does 129 = .ok (.iload_n 1, 1) := by decide +kernel
theorem dL_does_130 : decode cL_does 130 = .ok (.bipush 24, 2) := by decide +kernel
theorem dL_does_132 : decode cL_does 132 = .ok (.if_icmp .ne 13, 3) := by decide +kernel
theorem dL_does_135 : decode cL_does 135 = .ok (.aload_n 0, 1) := by decide +kernel
theorem dL_does_136 : decode cL_does 136 = .ok (.iload_n 2, 1) := by decide +kernel
theorem dL_does_137 : decode cL_does 137 = .ok (.iload_n 3, 1) := by decide +kernel
theorem dL_does_138 : decode cL_does 138 = .ok (.invokevirtual 38, 3) := by decide +kernel
theorem dL_does_141 : decode cL_does 141 = .ok (.i2l, 1) := by decide +kernel
theorem dL_does_142 : decode cL_does 142 = .ok (.goto 111, 3) := by decide +kernel
theorem dL_does_145 : decode cL_does 145 = .ok (.iload_n 1, 1) := by decide +kernel
theorem dL_does_146 : decode cL_does 146 = .ok (.bipush 25, 2) := by decide +kernel
theorem dL_does_148 : decode cL_does 148 = .ok (.if_icmp .ne 23, 3) := by decide +kernel
theorem dL_does_151 : decode cL_does 151 = .ok (.aload_n 0, 1) := by decide +kernel
theorem dL_does_152 : decode cL_does 152 = .ok (.lload 5, 2) := by decide +kernel
theorem dL_does_154 : decode cL_does 154 = .ok (.iload_n 3, 1) := by decide +kernel
theorem dL_does_155 : decode cL_does 155 = .ok (.bipush 100, 2) := by decide +kernel
theorem dL_does_157 : decode cL_does 157 = .ok (.idiv, 1) := by decide +kernel
theorem dL_does_158 : decode cL_does 158 = .ok (.iload_n 3, 1) := by decide +kernel
theorem dL_does_159 : decode cL_does 159 = .ok (.bipush 100, 2) := by decide +kernel
theorem dL_does_161 : decode cL_does 161 = .ok (.irem, 1) := by decide +kernel
theorem dL_does_162 : decode cL_does 162 = .ok (.iload 4, 2) := by decide +kernel
theorem dL_does_164 : decode cL_does 164 = .ok (.invokevirtual 42, 3) := by decide +kernel
theorem dL_does_167 : decode cL_does 167 = .ok (.i2l, 1) := by decide +kernel
theorem dL_does_168 : decode cL_does 168 = .ok (.goto 85, 3) := by decide +kernel
theorem dL_does_171 : decode cL_does 171 = .ok (.iload_n 1, 1) := by decide +kernel
theorem dL_does_172 : decode cL_does 172 = .ok (.bipush 26, 2) := by decide +kernel
theorem dL_does_174 : decode cL_does 174 = .ok (.if_icmp .ne 12, 3) := by decide +kernel
theorem dL_does_177 : decode cL_does 177 = .ok (.aload_n 0, 1) := by decide +kernel
theorem dL_does_178 : decode cL_does 178 = .ok (.iload_n 2, 1) := by decide +kernel
theorem dL_does_179 : decode cL_does 179 = .ok (.invokevirtual 46, 3) := by decide +kernel
theorem dL_does_182 : decode cL_does 182 = .ok (.i2l, 1) := by decide +kernel
theorem dL_does_183 : decode cL_does 183 = .ok (.goto 70, 3) := by decide +kernel
theorem dL_does_186 : decode cL_does 186 = .ok (.iload_n 1, 1) := by decide +kernel
theorem dL_does_187 : decode cL_does 187 = .ok (.bipush 27, 2) := by decide +kernel
theorem dL_does_189 : decode cL_does 189 = .ok (.if_icmp .ne 14, 3) := by decide +kernel
theorem dL_does_192 : decode cL_does 192 = .ok (.aload_n 0, 1) := by decide +kernel
theorem dL_does_193 : decode cL_does 193 = .ok (.iload_n 2, 1) := by decide +kernel
theorem dL_does_194 : decode cL_does 194 = .ok (.iload_n 3, 1) := by decide +kernel
theorem dL_does_195 : decode cL_does 195 = .ok (.iload 4, 2) := by decide +kernel
theorem dL_does_197 : decode cL_does 197 = .ok (.invokevirtual 49, 3) := by decide +kernel
theorem dL_does_200 : decode cL_does 200 = .ok (.goto 53, 3) := by decide +kernel
theorem dL_does_203 : decode cL_does 203 = .ok (.iload_n 1, 1) := by decide +kernel
theorem dL_does_204 : decode cL_does 204 = .ok (.bipush 28, 2) := by decide +kernel
theorem dL_does_206 : decode cL_does 206 = .ok (.if_icmp .ne 12, 3) := by decide +kernel
theorem dL_does_209 : decode cL_does 209 = .ok (.aload_n 0, 1) := by decide +kernel
theorem dL_does_210 : decode cL_does 210 = .ok (.iload_n 2, 1) := by decide +kernel
theorem dL_does_211 : decode cL_does 211 = .ok (.invokevirtual 53, 3) := by decide +kernel
theorem dL_does_214 : decode cL_does 214 = .ok (.i2l, 1) := by decide +kernel
theorem dL_does_215 : decode cL_does 215 = .ok (.goto 38, 3) := by decide +kernel
theorem dL_does_218 : decode cL_does 218 = .ok (.iload_n 1, 1) := by decide +kernel
theorem dL_does_219 : decode cL_does 219 = .ok (.bipush 29, 2) := by decide +kernel
theorem dL_does_221 : decode cL_does 221 = .ok (.if_icmp .ne 12, 3) := by decide +kernel
theorem dL_does_224 : decode cL_does 224 = .ok (.aload_n 0, 1) := by decide +kernel
theorem dL_does_225 : decode cL_does 225 = .ok (.iload_n 2, 1) := by decide +kernel
theorem dL_does_226 : decode cL_does 226 = .ok (.invokevirtual 56, 3) := by decide +kernel
theorem dL_does_229 : decode cL_does 229 = .ok (.i2l, 1) := by decide +kernel
theorem dL_does_230 : decode cL_does 230 = .ok (.goto 23, 3) := by decide +kernel
theorem dL_does_233 : decode cL_does 233 = .ok (.iload_n 1, 1) := by decide +kernel
theorem dL_does_234 : decode cL_does 234 = .ok (.bipush 30, 2) := by decide +kernel
theorem dL_does_236 : decode cL_does 236 = .ok (.if_icmp .ne 11, 3) := by decide +kernel
theorem dL_does_239 : decode cL_does 239 = .ok (.aload_n 0, 1) := by decide +kernel
theorem dL_does_240 : decode cL_does 240 = .ok (.iload_n 2, 1) := by decide +kernel
theorem dL_does_241 : decode cL_does 241 = .ok (.invokevirtual 59, 3) := by decide +kernel
theorem dL_does_244 : decode cL_does 244 = .ok (.goto 9, 3) := by decide +kernel
theorem dL_does_247 : decode cL_does 247 = .ok (.aload_n 0, 1) := by decide +kernel
theorem dL_does_248 : decode cL_does 248 = .ok (.iload_n 2, 1) := by decide +kernel
theorem dL_does_249 : decode cL_does 249 = .ok (.invokevirtual 63, 3) := by decide +kernel
theorem dL_does_252 : decode cL_does 252 = .ok (.i2l, 1) := by decide +kernel
theorem dL_does_253 : decode cL_does 253 = .ok (.lreturn, 1) := by decide +kernel
theorem dL_does_254 : decode cL_does 254 = .ok (.astore 7, 2) := by decide +kernel
theorem dL_does_256 : decode cL_does 256 = .ok (.ldc2_w 68, 3) := by decide +kernel
theorem dL_does_259 : decode cL_does 259 = .ok (.lreturn, 1) := by decide +kernel
theorem dL_does_260 : decode cL_does 260 = .ok (.astore 7, 2) := by decide +kernel
theorem dL_does_262 : decode cL_does 262 = .ok (.ldc2_w 68, 3) := by decide +kernel
theorem dL_does_265 : decode cL_does 265 = .ok (.lreturn, 1) := by decide +kernel
theorem dL_does_266 : decode cL_does 266 = .ok (.astore 7, 2) := by decide +kernel
theorem dL_does_268 : decode cL_does 268 = .ok (.ldc2_w 68, 3) := by decide +kernel
theorem dL_does_271 : decode cL_does 271 = .ok (.lreturn, 1) := by decide +kernel
theorem dL_lands_0 : decode cL_lands 0 = .ok (.iload_n 1, 1) := by decide +kernel
theorem dL_lands_1 : decode cL_lands 1 = .ok (.iconst 1, 1) := by decide +kernel
theorem dL_lands_2 : decode cL_lands 2 = .ok (.if_icmp .ne 21, 3) := by decide +kernel
theorem dL_lands_5 : decode cL_lands 5 = .ok (.aload_n 0, 1) := by decide +kernel
theorem dL_lands_6 : decode cL_lands 6 = .ok (.iload_n 2, 1) := by decide +kernel
theorem dL_lands_7 : decode cL_lands 7 = .ok (.iload_n 3, 1) := by decide +kernel
theorem dL_lands_8 : decode cL_lands 8 = .ok (.bipush 100, 2) := by decide +kernel
theorem dL_lands_10 : decode cL_lands 10 = .ok (.idiv, 1) := by decide +kernel
theorem dL_lands_11 : decode cL_lands 11 = .ok (.iload_n 3, 1) := by decide +kernel
theorem dL_lands_12 : decode cL_lands 12 = .ok (.bipush 100, 2) := by decide +kernel
theorem dL_lands_14 : decode cL_lands 14 = .ok (.irem, 1) := by decide +kernel
theorem dL_lands_15 : decode cL_lands 15 = .ok (.iload 4, 2) := by decide +kernel
theorem dL_lands_17 : decode cL_lands 17 = .ok (.invokevirtual 74, 3) := by decide +kernel
theorem dL_lands_20 : decode cL_lands 20 = .ok (.goto 141, 3) := by decide +kernel
theorem dL_lands_23 : decode cL_lands 23 = .ok (.iload_n 1, 1) := by decide +kernel
theorem dL_lands_24 : decode cL_lands 24 = .ok (.iconst 2, 1) := by decide +kernel
theorem dL_lands_25 : decode cL_lands 25 = .ok (.if_icmp .ne 14, 3) := by decide +kernel
theorem dL_lands_28 : decode cL_lands 28 = .ok (.aload_n 0, 1) := by decide +kernel
theorem dL_lands_29 : decode cL_lands 29 = .ok (.iload_n 2, 1) := by decide +kernel
theorem dL_lands_30 : decode cL_lands 30 = .ok (.iload_n 3, 1) := by decide +kernel
theorem dL_lands_31 : decode cL_lands 31 = .ok (.iload 4, 2) := by decide +kernel
theorem dL_lands_33 : decode cL_lands 33 = .ok (.invokevirtual 78, 3) := by decide +kernel
theorem dL_lands_36 : decode cL_lands 36 = .ok (.goto 125, 3) := by decide +kernel
theorem dL_lands_39 : decode cL_lands 39 = .ok (.iload_n 1, 1) := by decide +kernel
theorem dL_lands_40 : decode cL_lands 40 = .ok (.iconst 3, 1) := by decide +kernel
theorem dL_lands_41 : decode cL_lands 41 = .ok (.if_icmp .ne 14, 3) := by decide +kernel
theorem dL_lands_44 : decode cL_lands 44 = .ok (.aload_n 0, 1) := by decide +kernel
theorem dL_lands_45 : decode cL_lands 45 = .ok (.iload_n 2, 1) := by decide +kernel
theorem dL_lands_46 : decode cL_lands 46 = .ok (.iload_n 3, 1) := by decide +kernel
theorem dL_lands_47 : decode cL_lands 47 = .ok (.iload 4, 2) := by decide +kernel
theorem dL_lands_49 : decode cL_lands 49 = .ok (.invokevirtual 82, 3) := by decide +kernel
theorem dL_lands_52 : decode cL_lands 52 = .ok (.goto 109, 3) := by decide +kernel
theorem dL_lands_55 : decode cL_lands 55 = .ok (.iload_n 1, 1) := by decide +kernel
theorem dL_lands_56 : decode cL_lands 56 = .ok (.bipush 7, 2) := by decide +kernel
theorem dL_lands_58 : decode cL_lands 58 = .ok (.if_icmp .ne 14, 3) := by decide +kernel
theorem dL_lands_61 : decode cL_lands 61 = .ok (.aload_n 0, 1) := by decide +kernel
theorem dL_lands_62 : decode cL_lands 62 = .ok (.iload_n 2, 1) := by decide +kernel
theorem dL_lands_63 : decode cL_lands 63 = .ok (.iload_n 3, 1) := by decide +kernel
theorem dL_lands_64 : decode cL_lands 64 = .ok (.iload 4, 2) := by decide +kernel
theorem dL_lands_66 : decode cL_lands 66 = .ok (.invokevirtual 85, 3) := by decide +kernel
theorem dL_lands_69 : decode cL_lands 69 = .ok (.goto 92, 3) := by decide +kernel
theorem dL_lands_72 : decode cL_lands 72 = .ok (.iload_n 1, 1) := by decide +kernel
theorem dL_lands_73 : decode cL_lands 73 = .ok (.ifCond .ne 15, 3) := by decide +kernel
theorem dL_lands_76 : decode cL_lands 76 = .ok (.aload_n 0, 1) := by decide +kernel
theorem dL_lands_77 : decode cL_lands 77 = .ok (.iload_n 2, 1) := by decide +kernel
theorem dL_lands_78 : decode cL_lands 78 = .ok (.iload_n 3, 1) := by decide +kernel
theorem dL_lands_79 : decode cL_lands 79 = .ok (.iload 4, 2) := by decide +kernel
theorem dL_lands_81 : decode cL_lands 81 = .ok (.invokevirtual 88, 3) := by decide +kernel
theorem dL_lands_84 : decode cL_lands 84 = .ok (.i2l, 1) := by decide +kernel
theorem dL_lands_85 : decode cL_lands 85 = .ok (.goto 75, 3) := by decide +kernel
theorem dL_lands_88 : decode cL_lands 88 = .ok (.iload_n 1, 1) := by decide +kernel
theorem dL_lands_89 : decode cL_lands 89 = .ok (.iconst 4, 1) := by decide +kernel
theorem dL_lands_90 : decode cL_lands 90 = .ok (.if_icmp .ne 25, 3) := by decide +kernel
theorem dL_lands_93 : decode cL_lands 93 = .ok (.aload_n 0, 1) := by decide +kernel
theorem dL_lands_94 : decode cL_lands 94 = .ok (.iload_n 2, 1) := by decide +kernel
theorem dL_lands_95 : decode cL_lands 95 = .ok (.iload_n 3, 1) := by decide +kernel
theorem dL_lands_96 : decode cL_lands 96 = .ok (.iload 4, 2) := by decide +kernel
theorem dL_lands_98 : decode cL_lands 98 = .ok (.sipush 10000, 3) := by decide +kernel
theorem dL_lands_101 : decode cL_lands 101 = .ok (.idiv, 1) := by decide +kernel
theorem dL_lands_102 : decode cL_lands 102 = .ok (.iload 4, 2) := by decide +kernel
theorem dL_lands_104 : decode cL_lands 104 = .ok (.sipush 10000, 3) := by decide +kernel
theorem dL_lands_107 : decode cL_lands 107 = .ok (.irem, 1) := by decide +kernel
theorem dL_lands_108 : decode cL_lands 108 = .ok (.invokevirtual 91, 3) := by decide +kernel
theorem dL_lands_111 : decode cL_lands 111 = .ok (.i2l, 1) := by decide +kernel
theorem dL_lands_112 : decode cL_lands 112 = .ok (.goto 48, 3) := by decide +kernel
theorem dL_lands_115 : decode cL_lands 115 = .ok (.iload_n 1, 1) := by decide +kernel
theorem dL_lands_116 : decode cL_lands 116 = .ok (.iconst 5, 1) := by decide +kernel
theorem dL_lands_117 : decode cL_lands 117 = .ok (.if_icmp .ne 17, 3) := by decide +kernel
theorem dL_lands_120 : decode cL_lands 120 = .ok (.aload_n 0, 1) := by decide +kernel
theorem dL_lands_121 : decode cL_lands 121 = .ok (.iload_n 2, 1) := by decide +kernel
theorem dL_lands_122 : decode cL_lands 122 = .ok (.iload_n 3, 1) := by decide +kernel
theorem dL_lands_123 : decode cL_lands 123 = .ok (.lload 5, 2) := by decide +kernel
theorem dL_lands_125 : decode cL_lands 125 = .ok (.iload 4, 2) := by decide +kernel
theorem dL_lands_127 : decode cL_lands 127 = .ok (.invokevirtual 95, 3) := by decide +kernel
theorem dL_lands_130 : decode cL_lands 130 = .ok (.i2l, 1) := by decide +kernel
theorem dL_lands_131 : decode cL_lands 131 = .ok (.goto 29, 3) := by decide +kernel
theorem dL_lands_134 : decode cL_lands 134 = .ok (.aload_n 0, 1) := by decide +kernel
theorem dL_lands_135 : decode cL_lands 135 = .ok (.iload_n 2, 1) := by decide +kernel
theorem dL_lands_136 : decode cL_lands 136 = .ok (.iload_n 3, 1) := by decide +kernel
theorem dL_lands_137 : decode cL_lands 137 = .ok (.iload 4, 2) := by decide +kernel
theorem dL_lands_139 : decode cL_lands 139 = .ok (.bipush 100, 2) := by decide +kernel
theorem dL_lands_141 : decode cL_lands 141 = .ok (.irem, 1) := by decide +kernel
theorem dL_lands_142 : decode cL_lands 142 = .ok (.iload 4, 2) := by decide +kernel
theorem dL_lands_144 : decode cL_lands 144 = .ok (.bipush 100, 2) := by decide +kernel
theorem dL_lands_146 : decode cL_lands 146 = .ok (.idiv, 1) := by decide +kernel
theorem dL_lands_147 : decode cL_lands 147 = .ok (.bipush 100, 2) := by decide +kernel
theorem dL_lands_149 : decode cL_lands 149 = .ok (.irem, 1) := by decide +kernel
theorem dL_lands_150 : decode cL_lands 150 = .ok (.iload 4, 2) := by decide +kernel
theorem dL_lands_152 : decode cL_lands 152 = .ok (.sipush 10000, 3) := by decide +kernel
theorem dL_lands_155 : decode cL_lands 155 = .ok (.idiv, 1) := by decide +kernel
theorem dL_lands_156 : decode cL_lands 156 = .ok (.invokevirtual 99, 3) := by decide +kernel
theorem dL_lands_159 : decode cL_lands 159 = .ok (.i2l, 1) := by decide +kernel
theorem dL_lands_160 : decode cL_lands 160 = .ok (.lreturn, 1) := by decide +kernel
theorem dL_lands_161 : decode cL_lands 161 = .ok (.lconst 0, 1) := by decide +kernel
theorem dL_lands_162 : decode cL_lands 162 = .ok (.lreturn, 1) := by decide +kernel
theorem dL_councils_0 : decode cL_councils 0 = .ok (.iload_n 1, 1) := by decide +kernel
theorem dL_councils_1 : decode cL_councils 1 = .ok (.bipush 16, 2) := by decide +kernel
theorem dL_councils_3 : decode cL_councils 3 = .ok (.if_icmp .ne 13, 3) := by decide +kernel
theorem dL_councils_6 : decode cL_councils 6 = .ok (.aload_n 0, 1) := by decide +kernel
theorem dL_councils_7 : decode cL_councils 7 = .ok (.iload_n 2, 1) := by decide +kernel
theorem dL_councils_8 : decode cL_councils 8 = .ok (.iload_n 3, 1) := by decide +kernel
theorem dL_councils_9 : decode cL_councils 9 = .ok (.iload 4, 2) := by decide +kernel
theorem dL_councils_11 : decode cL_councils 11 = .ok (.invokevirtual 103, 3) := by decide +kernel
theorem dL_councils_14 : decode cL_councils 14 = .ok (.lconst 0, 1) := by decide +kernel
theorem dL_councils_15 : decode cL_councils 15 = .ok (.lreturn, 1) := by decide +kernel
theorem dL_councils_16 : decode cL_councils 16 = .ok (.iload_n 1, 1) := by decide +kernel
theorem dL_councils_17 : decode cL_councils 17 = .ok (.bipush 8, 2) := by decide +kernel
theorem dL_councils_19 : decode cL_councils 19 = .ok (.if_icmp .ne 24, 3) := by decide +kernel
theorem dL_councils_22 : decode cL_councils 22 = .ok (.aload_n 0, 1) := by decide +kernel
theorem dL_councils_23 : decode cL_councils 23 = .ok (.iload_n 2, 1) := by decide +kernel
theorem dL_councils_24 : decode cL_councils 24 = .ok (.iload_n 3, 1) := by decide +kernel
theorem dL_councils_25 : decode cL_councils 25 = .ok (.iload 4, 2) := by decide +kernel
theorem dL_councils_27 : decode cL_councils 27 = .ok (.sipush 10000, 3) := by decide +kernel
theorem dL_councils_30 : decode cL_councils 30 = .ok (.idiv, 1) := by decide +kernel
theorem dL_councils_31 : decode cL_councils 31 = .ok (.iload 4, 2) := by decide +kernel
theorem dL_councils_33 : decode cL_councils 33 = .ok (.sipush 10000, 3) := by decide +kernel
theorem dL_councils_36 : decode cL_councils 36 = .ok (.irem, 1) := by decide +kernel
theorem dL_councils_37 : decode cL_councils 37 = .ok (.invokevirtual 106, 3) := by decide +kernel
theorem dL_councils_40 : decode cL_councils 40 = .ok (.goto 159, 3) := by decide +kernel
theorem dL_councils_43 : decode cL_councils 43 = .ok (.iload_n 1, 1) := by decide +kernel
theorem dL_councils_44 : decode cL_councils 44 = .ok (.bipush 9, 2) := by decide +kernel
theorem dL_councils_46 : decode cL_councils 46 = .ok (.if_icmp .ne 17, 3) := by decide +kernel
theorem dL_councils_49 : decode cL_councils 49 = .ok (.aload_n 0, 1) := by decide +kernel
theorem dL_councils_50 : decode cL_councils 50 = .ok (.iload_n 2, 1) := by decide +kernel
theorem dL_councils_51 : decode cL_councils 51 = .ok (.iload_n 3, 1) := by decide +kernel
theorem dL_councils_52 : decode cL_councils 52 = .ok (.lload 5, 2) := by decide +kernel
theorem dL_councils_54 : decode cL_councils 54 = .ok (.iload 4, 2) := by decide +kernel
theorem dL_councils_56 : decode cL_councils 56 = .ok (.invokevirtual 110, 3) := by decide +kernel
theorem dL_councils_59 : decode cL_councils 59 = .ok (.i2l, 1) := by decide +kernel
theorem dL_councils_60 : decode cL_councils 60 = .ok (.goto 139, 3) := by decide +kernel
theorem dL_councils_63 : decode cL_councils 63 = .ok (.iload_n 1, 1) := by decide +kernel
theorem dL_councils_64 : decode cL_councils 64 = .ok (.bipush 10, 2) := by decide +kernel
theorem dL_councils_66 : decode cL_councils 66 = .ok (.if_icmp .ne 24, 3) := by decide +kernel
theorem dL_councils_69 : decode cL_councils 69 = .ok (.aload_n 0, 1) := by decide +kernel
theorem dL_councils_70 : decode cL_councils 70 = .ok (.iload_n 2, 1) := by decide +kernel
theorem dL_councils_71 : decode cL_councils 71 = .ok (.iload_n 3, 1) := by decide +kernel
theorem dL_councils_72 : decode cL_councils 72 = .ok (.iload 4, 2) := by decide +kernel
theorem dL_councils_74 : decode cL_councils 74 = .ok (.iconst 1, 1) := by decide +kernel
theorem dL_councils_75 : decode cL_councils 75 = .ok (.if_icmp .ne 7, 3) := by decide +kernel
theorem dL_councils_78 : decode cL_councils 78 = .ok (.iconst 1, 1) := by decide +kernel
theorem dL_councils_79 : decode cL_councils 79 = .ok (.goto 4, 3) := by decide +kernel
theorem dL_councils_82 : decode cL_councils 82 = .ok (.iconst 0, 1) := by decide +kernel
theorem dL_councils_83 : decode cL_councils 83 = .ok (.invokevirtual 113, 3) := by decide +kernel
theorem dL_councils_86 : decode cL_councils 86 = .ok (.i2l, 1) := by decide +kernel
theorem dL_councils_87 : decode cL_councils 87 = .ok (.goto 112, 3) := by decide +kernel
theorem dL_councils_90 : decode cL_councils 90 = .ok (.iload_n 1, 1) := by decide +kernel
theorem dL_councils_91 : decode cL_councils 91 = .ok (.bipush 11, 2) := by decide +kernel
theorem dL_councils_93 : decode cL_councils 93 = .ok (.if_icmp .ne 20, 3) := by decide +kernel
theorem dL_councils_96 : decode cL_councils 96 = .ok (.aload_n 0, 1) := by decide +kernel
theorem dL_councils_97 : decode cL_councils 97 = .ok (.iload_n 2, 1) := by decide +kernel
theorem dL_councils_98 : decode cL_councils 98 = .ok (.iload_n 3, 1) := by decide +kernel
theorem dL_councils_99 : decode cL_councils 99 = .ok (.invokevirtual 117, 3) := by decide +kernel
theorem dL_councils_102 : decode cL_councils 102 = .ok (.ifCond .eq 7, 3) := by decide +kernel
theorem dL_councils_105 : decode cL_councils 105 = .ok (.lconst 1, 1) := by decide +kernel
theorem dL_councils_106 : decode cL_councils 106 = .ok (.goto 93, 3) := by decide +kernel
theorem dL_councils_109 : decode cL_councils 109 = .ok (.lconst 0, 1) := by decide +kernel
theorem dL_councils_110 : decode cL_councils 110 = .ok (.goto 89, 3) := by decide +kernel
theorem dL_councils_113 : decode cL_councils 113 = .ok (.iload_n 1, 1) := by decide +kernel
theorem dL_councils_114 : decode cL_councils 114 = .ok (.bipush 12, 2) := by decide +kernel
theorem dL_councils_116 : decode cL_councils 116 = .ok (.if_icmp .ne 12, 3) := by decide +kernel
theorem dL_councils_119 : decode cL_councils 119 = .ok (.aload_n 0, 1) := by decide +kernel
theorem dL_councils_120 : decode cL_councils 120 = .ok (.iload_n 2, 1) := by decide +kernel
theorem dL_councils_121 : decode cL_councils 121 = .ok (.invokevirtual 121, 3) := by decide +kernel
theorem dL_councils_124 : decode cL_councils 124 = .ok (.i2l, 1) := by decide +kernel
theorem dL_councils_125 : decode cL_councils 125 = .ok (.goto 74, 3) := by decide +kernel
theorem dL_councils_128 : decode cL_councils 128 = .ok (.iload_n 1, 1) := by decide +kernel
theorem dL_councils_129 : decode cL_councils 129 = .ok (.bipush 13, 2) := by decide +kernel
theorem dL_councils_131 : decode cL_councils 131 = .ok (.if_icmp .ne 12, 3) := by decide +kernel
theorem dL_councils_134 : decode cL_councils 134 = .ok (.aload_n 0, 1) := by decide +kernel
theorem dL_councils_135 : decode cL_councils 135 = .ok (.iload_n 2, 1) := by decide +kernel
theorem dL_councils_136 : decode cL_councils 136 = .ok (.invokevirtual 124, 3) := by decide +kernel
theorem dL_councils_139 : decode cL_councils 139 = .ok (.i2l, 1) := by decide +kernel
theorem dL_councils_140 : decode cL_councils 140 = .ok (.goto 59, 3) := by decide +kernel
theorem dL_councils_143 : decode cL_councils 143 = .ok (.iload_n 1, 1) := by decide +kernel
theorem dL_councils_144 : decode cL_councils 144 = .ok (.bipush 14, 2) := by decide +kernel
theorem dL_councils_146 : decode cL_councils 146 = .ok (.if_icmp .ne 13, 3) := by decide +kernel
theorem dL_councils_149 : decode cL_councils 149 = .ok (.aload_n 0, 1) := by decide +kernel
theorem dL_councils_150 : decode cL_councils 150 = .ok (.iload_n 2, 1) := by decide +kernel
theorem dL_councils_151 : decode cL_councils 151 = .ok (.iload_n 3, 1) := by decide +kernel
theorem dL_councils_152 : decode cL_councils 152 = .ok (.invokevirtual 127, 3) := by decide +kernel
theorem dL_councils_155 : decode cL_councils 155 = .ok (.i2l, 1) := by decide +kernel
theorem dL_councils_156 : decode cL_councils 156 = .ok (.goto 43, 3) := by decide +kernel
theorem dL_councils_159 : decode cL_councils 159 = .ok (.iload_n 1, 1) := by decide +kernel
theorem dL_councils_160 : decode cL_councils 160 = .ok (.bipush 15, 2) := by decide +kernel
theorem dL_councils_162 : decode cL_councils 162 = .ok (.if_icmp .ne 15, 3) := by decide +kernel
theorem dL_councils_165 : decode cL_councils 165 = .ok (.aload_n 0, 1) := by decide +kernel
theorem dL_councils_166 : decode cL_councils 166 = .ok (.iload_n 2, 1) := by decide +kernel
theorem dL_councils_167 : decode cL_councils 167 = .ok (.iload_n 3, 1) := by decide +kernel
theorem dL_councils_168 : decode cL_councils 168 = .ok (.iload 4, 2) := by decide +kernel
theorem dL_councils_170 : decode cL_councils 170 = .ok (.invokevirtual 130, 3) := by decide +kernel
theorem dL_councils_173 : decode cL_councils 173 = .ok (.i2l, 1) := by decide +kernel
theorem dL_councils_174 : decode cL_councils 174 = .ok (.goto 25, 3) := by decide +kernel
theorem dL_councils_177 : decode cL_councils 177 = .ok (.iload_n 1, 1) := by decide +kernel
theorem dL_councils_178 : decode cL_councils 178 = .ok (.bipush 17, 2) := by decide +kernel
theorem dL_councils_180 : decode cL_councils 180 = .ok (.if_icmp .ne 13, 3) := by decide +kernel
theorem dL_councils_183 : decode cL_councils 183 = .ok (.aload_n 0, 1) := by decide +kernel
theorem dL_councils_184 : decode cL_councils 184 = .ok (.iload_n 2, 1) := by decide +kernel
theorem dL_councils_185 : decode cL_councils 185 = .ok (.iload_n 3, 1) := by decide +kernel
theorem dL_councils_186 : decode cL_councils 186 = .ok (.invokevirtual 133, 3) := by decide +kernel
theorem dL_councils_189 : decode cL_councils 189 = .ok (.i2l, 1) := by decide +kernel
theorem dL_councils_190 : decode cL_councils 190 = .ok (.goto 9, 3) := by decide +kernel
theorem dL_councils_193 : decode cL_councils 193 = .ok (.aload_n 0, 1) := by decide +kernel
theorem dL_councils_194 : decode cL_councils 194 = .ok (.iload_n 2, 1) := by decide +kernel
theorem dL_councils_195 : decode cL_councils 195 = .ok (.iload_n 3, 1) := by decide +kernel
theorem dL_councils_196 : decode cL_councils 196 = .ok (.invokevirtual 136, 3) := by decide +kernel
theorem dL_councils_199 : decode cL_councils 199 = .ok (.lreturn, 1) := by decide +kernel
theorem dL_word_0 : decode cL_word 0 = .ok (.iload_n 1, 1) := by decide +kernel
theorem dL_word_1 : decode cL_word 1 = .ok (.ifCond .eq 14, 3) := by decide +kernel
theorem dL_word_4 : decode cL_word 4 = .ok (.iload_n 0, 1) := by decide +kernel
theorem dL_word_5 : decode cL_word 5 = .ok (.iconst 3, 1) := by decide +kernel
theorem dL_word_6 : decode cL_word 6 = .ok (.ishr, 1) := by decide +kernel
theorem dL_word_7 : decode cL_word 7 = .ok (.bipush 10, 2) := by decide +kernel
theorem dL_word_9 : decode cL_word 9 = .ok (.invokestatic 140, 3) := by decide +kernel
theorem dL_word_12 : decode cL_word 12 = .ok (.goto 12, 3) := by decide +kernel
theorem dL_word_15 : decode cL_word 15 = .ok (.iconst 1, 1) := by decide +kernel
theorem dL_word_16 : decode cL_word 16 = .ok (.iload_n 0, 1) := by decide +kernel
theorem dL_word_17 : decode cL_word 17 = .ok (.iconst 3, 1) := by decide +kernel
theorem dL_word_18 : decode cL_word 18 = .ok (.ishr, 1) := by decide +kernel
theorem dL_word_19 : decode cL_word 19 = .ok (.iconst 4, 1) := by decide +kernel
theorem dL_word_20 : decode cL_word 20 = .ok (.invokestatic 140, 3) := by decide +kernel
theorem dL_word_23 : decode cL_word 23 = .ok (.iadd, 1) := by decide +kernel
theorem dL_word_24 : decode cL_word 24 = .ok (.istore_n 2, 1) := by decide +kernel
theorem dL_word_25 : decode cL_word 25 = .ok (.lconst 0, 1) := by decide +kernel
theorem dL_word_26 : decode cL_word 26 = .ok (.lstore_n 3, 1) := by decide +kernel
theorem dL_word_27 : decode cL_word 27 = .ok (.iconst 0, 1) := by decide +kernel
theorem dL_word_28 : decode cL_word 28 = .ok (.istore 5, 2) := by decide +kernel
theorem dL_word_30 : decode cL_word 30 = .ok (.iload 5, 2) := by decide +kernel
theorem dL_word_32 : decode cL_word 32 = .ok (.iload_n 2, 1) := by decide +kernel
theorem dL_word_33 : decode cL_word 33 = .ok (.if_icmp .ge 49, 3) := by decide +kernel
theorem dL_word_36 : decode cL_word 36 = .ok (.ldc2_w 143, 3) := by decide +kernel
theorem dL_word_39 : decode cL_word 39 = .ok (.lload_n 3, 1) := by decide +kernel
theorem dL_word_40 : decode cL_word 40 = .ok (.lmul, 1) := by decide +kernel
theorem dL_word_41 : decode cL_word 41 = .ok (.iload_n 1, 1) := by decide +kernel
theorem dL_word_42 : decode cL_word 42 = .ok (.ifCond .eq 17, 3) := by decide +kernel
theorem dL_word_45 : decode cL_word 45 = .ok (.iload_n 0, 1) := by decide +kernel
theorem dL_word_46 : decode cL_word 46 = .ok (.iload 5, 2) := by decide +kernel
theorem dL_word_48 : decode cL_word 48 = .ok (.iconst 5, 1) := by decide +kernel
theorem dL_word_49 : decode cL_word 49 = .ok (.iadd, 1) := by decide +kernel
theorem dL_word_50 : decode cL_word 50 = .ok (.ishr, 1) := by decide +kernel
theorem dL_word_51 : decode cL_word 51 = .ok (.bipush 27, 2) := by decide +kernel
theorem dL_word_53 : decode cL_word 53 = .ok (.invokestatic 140, 3) := by decide +kernel
theorem dL_word_56 : decode cL_word 56 = .ok (.goto 17, 3) := by decide +kernel
theorem dL_word_59 : decode cL_word 59 = .ok (.iconst 1, 1) := by decide +kernel
theorem dL_word_60 : decode cL_word 60 = .ok (.iload_n 0, 1) := by decide +kernel
theorem dL_word_61 : decode cL_word 61 = .ok (.iconst 2, 1) := by decide +kernel
theorem dL_word_62 : decode cL_word 62 = .ok (.iload 5, 2) := by decide +kernel
theorem dL_word_64 : decode cL_word 64 = .ok (.imul, 1) := by decide +kernel
theorem dL_word_65 : decode cL_word 65 = .ok (.iconst 5, 1) := by decide +kernel
theorem dL_word_66 : decode cL_word 66 = .ok (.iadd, 1) := by decide +kernel
theorem dL_word_67 : decode cL_word 67 = .ok (.ishr, 1) := by decide +kernel
theorem dL_word_68 : decode cL_word 68 = .ok (.iconst 4, 1) := by decide +kernel
theorem dL_word_69 : decode cL_word 69 = .ok (.invokestatic 140, 3) := by decide +kernel
theorem dL_word_72 : decode cL_word 72 = .ok (.iadd, 1) := by decide +kernel
theorem dL_word_73 : decode cL_word 73 = .ok (.i2l, 1) := by decide +kernel
theorem dL_word_74 : decode cL_word 74 = .ok (.ladd, 1) := by decide +kernel
theorem dL_word_75 : decode cL_word 75 = .ok (.lstore_n 3, 1) := by decide +kernel
theorem dL_word_76 : decode cL_word 76 = .ok (.iinc 5 1, 3) := by decide +kernel
theorem dL_word_79 : decode cL_word 79 = .ok (.goto (-49), 3) := by decide +kernel
theorem dL_word_82 : decode cL_word 82 = .ok (.lload_n 3, 1) := by decide +kernel
theorem dL_word_83 : decode cL_word 83 = .ok (.lreturn, 1) := by decide +kernel
theorem dL_act_0 : decode cL_act 0 = .ok (.iload_n 2, 1) := by decide +kernel
theorem dL_act_1 : decode cL_act 1 = .ok (.bipush 18, 2) := by decide +kernel
theorem dL_act_3 : decode cL_act 3 = .ok (.ishr, 1) := by decide +kernel
theorem dL_act_4 : decode cL_act 4 = .ok (.bipush 7, 2) := by decide +kernel
theorem dL_act_6 : decode cL_act 6 = .ok (.iand, 1) := by decide +kernel
theorem dL_act_7 : decode cL_act 7 = .ok (.bipush 7, 2) := by decide +kernel
theorem dL_act_9 : decode cL_act 9 = .ok (.if_icmp .ne 7, 3) := by decide +kernel
theorem dL_act_12 : decode cL_act 12 = .ok (.iconst 1, 1) := by decide +kernel
theorem dL_act_13 : decode cL_act 13 = .ok (.goto 4, 3) := by decide +kernel
theorem dL_act_16 : decode cL_act 16 = .ok (.iconst 0, 1) := by decide +kernel
theorem dL_act_17 : decode cL_act 17 = .ok (.istore_n 3, 1) := by decide +kernel
theorem dL_act_18 : decode cL_act 18 = .ok (.iload_n 2, 1) := by decide +kernel
theorem dL_act_19 : decode cL_act 19 = .ok (.bipush 64, 2) := by decide +kernel
theorem dL_act_21 : decode cL_act 21 = .ok (.invokestatic 140, 3) := by decide +kernel
theorem dL_act_24 : decode cL_act 24 = .ok (.istore 4, 2) := by decide +kernel
theorem dL_act_26 : decode cL_act 26 = .ok (.iload_n 3, 1) := by decide +kernel
theorem dL_act_27 : decode cL_act 27 = .ok (.ifCond .eq 17, 3) := by decide +kernel
theorem dL_act_30 : decode cL_act 30 = .ok (.iload_n 2, 1) := by decide +kernel
theorem dL_act_31 : decode cL_act 31 = .ok (.bipush 6, 2) := by decide +kernel
theorem dL_act_33 : decode cL_act 33 = .ok (.ishr, 1) := by decide +kernel
theorem dL_act_34 : decode cL_act 34 = .ok (.bipush 12, 2) := by decide +kernel
theorem dL_act_36 : decode cL_act 36 = .ok (.invokestatic 140, 3) := by decide +kernel
theorem dL_act_39 : decode cL_act 39 = .ok (.iconst 1, 1) := by decide +kernel
theorem dL_act_40 : decode cL_act 40 = .ok (.isub, 1) := by decide +kernel
theorem dL_act_41 : decode cL_act 41 = .ok (.goto 12, 3) := by decide +kernel
theorem dL_act_44 : decode cL_act 44 = .ok (.iload_n 2, 1) := by decide +kernel
theorem dL_act_45 : decode cL_act 45 = .ok (.bipush 6, 2) := by decide +kernel
theorem dL_act_47 : decode cL_act 47 = .ok (.ishr, 1) := by decide +kernel
theorem dL_act_48 : decode cL_act 48 = .ok (.bipush 8, 2) := by decide +kernel
theorem dL_act_50 : decode cL_act 50 = .ok (.invokestatic 140, 3) := by decide +kernel
theorem dL_act_53 : decode cL_act 53 = .ok (.istore 5, 2) := by decide +kernel
theorem dL_act_55 : decode cL_act 55 = .ok (.iload_n 3, 1) := by decide +kernel
theorem dL_act_56 : decode cL_act 56 = .ok (.ifCond .eq 17, 3) := by decide +kernel
theorem dL_act_59 : decode cL_act 59 = .ok (.iload_n 2, 1) := by decide +kernel
