theorem dX11_isTongue_6 : decode cX11_isTongue 6 = .ok (.ireturn, 1) := by decide +kernel
theorem dX11_isDay_0 : decode cX11_isDay 0 = .ok (.iload_n 0, 1) := by decide +kernel
theorem dX11_isDay_1 : decode cX11_isDay 1 = .ok (.iconst 0, 1) := by decide +kernel
theorem dX11_isDay_2 : decode cX11_isDay 2 = .ok (.sipush 9999, 3) := by decide +kernel
theorem dX11_isDay_5 : decode cX11_isDay 5 = .ok (.invokestatic 189, 3) := by decide +kernel
theorem dX11_isDay_8 : decode cX11_isDay 8 = .ok (.ireturn, 1) := by decide +kernel
theorem dX11_isPlace_0 : decode cX11_isPlace 0 = .ok (.iload_n 0, 1) := by decide +kernel
theorem dX11_isPlace_1 : decode cX11_isPlace 1 = .ok (.iconst 0, 1) := by decide +kernel
theorem dX11_isPlace_2 : decode cX11_isPlace 2 = .ok (.bipush 99, 2) := by decide +kernel
theorem dX11_isPlace_4 : decode cX11_isPlace 4 = .ok (.invokestatic 189, 3) := by decide +kernel
theorem dX11_isPlace_7 : decode cX11_isPlace 7 = .ok (.ifCond .eq 17, 3) := by decide +kernel
theorem dX11_isPlace_10 : decode cX11_isPlace 10 = .ok (.iload_n 1, 1) := by decide +kernel
theorem dX11_isPlace_11 : decode cX11_isPlace 11 = .ok (.iconst 0, 1) := by decide +kernel
theorem dX11_isPlace_12 : decode cX11_isPlace 12 = .ok (.bipush 99, 2) := by decide +kernel
theorem dX11_isPlace_14 : decode cX11_isPlace 14 = .ok (.invokestatic 189, 3) := by decide +kernel
theorem dX11_isPlace_17 : decode cX11_isPlace 17 = .ok (.ifCond .eq 7, 3) := by decide +kernel
theorem dX11_isPlace_20 : decode cX11_isPlace 20 = .ok (.iconst 1, 1) := by decide +kernel
theorem dX11_isPlace_21 : decode cX11_isPlace 21 = .ok (.goto 4, 3) := by decide +kernel
theorem dX11_isPlace_24 : decode cX11_isPlace 24 = .ok (.iconst 0, 1) := by decide +kernel
theorem dX11_isPlace_25 : decode cX11_isPlace 25 = .ok (.ireturn, 1) := by decide +kernel
theorem dX11_isWord_0 : decode cX11_isWord 0 = .ok (.lload_n 0, 1) := by decide +kernel
theorem dX11_isWord_1 : decode cX11_isWord 1 = .ok (.lstore_n 3, 1) := by decide +kernel
theorem dX11_isWord_2 : decode cX11_isWord 2 = .ok (.iconst 0, 1) := by decide +kernel
theorem dX11_isWord_3 : decode cX11_isWord 3 = .ok (.istore 5, 2) := by decide +kernel
theorem dX11_isWord_5 : decode cX11_isWord 5 = .ok (.lload_n 0, 1) := by decide +kernel
theorem dX11_isWord_6 : decode cX11_isWord 6 = .ok (.lconst 0, 1) := by decide +kernel
theorem dX11_isWord_7 : decode cX11_isWord 7 = .ok (.lcmp, 1) := by decide +kernel
theorem dX11_isWord_8 : decode cX11_isWord 8 = .ok (.ifCond .le 7, 3) := by decide +kernel
theorem dX11_isWord_11 : decode cX11_isWord 11 = .ok (.iconst 1, 1) := by decide +kernel
theorem dX11_isWord_12 : decode cX11_isWord 12 = .ok (.goto 4, 3) := by decide +kernel
theorem dX11_isWord_15 : decode cX11_isWord 15 = .ok (.iconst 0, 1) := by decide +kernel
theorem dX11_isWord_16 : decode cX11_isWord 16 = .ok (.istore 6, 2) := by decide +kernel
theorem dX11_isWord_18 : decode cX11_isWord 18 = .ok (.iload 6, 2) := by decide +kernel
theorem dX11_isWord_20 : decode cX11_isWord 20 = .ok (.ifCond .eq 38, 3) := by decide +kernel
theorem dX11_isWord_23 : decode cX11_isWord 23 = .ok (.lload_n 3, 1) := by decide +kernel
theorem dX11_isWord_24 : decode cX11_isWord 24 = .ok (.lconst 0, 1) := by decide +kernel
theorem dX11_isWord_25 : decode cX11_isWord 25 = .ok (.lcmp, 1) := by decide +kernel
theorem dX11_isWord_26 : decode cX11_isWord 26 = .ok (.ifCond .le 32, 3) := by decide +kernel
theorem dX11_isWord_29 : decode cX11_isWord 29 = .ok (.lload_n 3, 1) := by decide +kernel
theorem dX11_isWord_30 : decode cX11_isWord 30 = .ok (.ldc2_w 193, 3) := by decide +kernel
theorem dX11_isWord_33 : decode cX11_isWord 33 = .ok (.lrem, 1) := by decide +kernel
theorem dX11_isWord_34 : decode cX11_isWord 34 = .ok (.lconst 0, 1) := by decide +kernel
theorem dX11_isWord_35 : decode cX11_isWord 35 = .ok (.lcmp, 1) := by decide +kernel
theorem dX11_isWord_36 : decode cX11_isWord 36 = .ok (.ifCond .le 7, 3) := by decide +kernel
theorem dX11_isWord_39 : decode cX11_isWord 39 = .ok (.iconst 1, 1) := by decide +kernel
theorem dX11_isWord_40 : decode cX11_isWord 40 = .ok (.goto 4, 3) := by decide +kernel
theorem dX11_isWord_43 : decode cX11_isWord 43 = .ok (.iconst 0, 1) := by decide +kernel
theorem dX11_isWord_44 : decode cX11_isWord 44 = .ok (.istore 6, 2) := by decide +kernel
theorem dX11_isWord_46 : decode cX11_isWord 46 = .ok (.lload_n 3, 1) := by decide +kernel
theorem dX11_isWord_47 : decode cX11_isWord 47 = .ok (.ldc2_w 193, 3) := by decide +kernel
theorem dX11_isWord_50 : decode cX11_isWord 50 = .ok (.ldiv, 1) := by decide +kernel
theorem dX11_isWord_51 : decode cX11_isWord 51 = .ok (.lstore_n 3, 1) := by decide +kernel
theorem dX11_isWord_52 : decode cX11_isWord 52 = .ok (.iinc 5 1, 3) := by decide +kernel
theorem dX11_isWord_55 : decode cX11_isWord 55 = .ok (.goto (-37), 3) := by decide +kernel
theorem dX11_isWord_58 : decode cX11_isWord 58 = .ok (.iload 6, 2) := by decide +kernel
theorem dX11_isWord_60 : decode cX11_isWord 60 = .ok (.ifCond .eq 13, 3) := by decide +kernel
theorem dX11_isWord_63 : decode cX11_isWord 63 = .ok (.iload 5, 2) := by decide +kernel
theorem dX11_isWord_65 : decode cX11_isWord 65 = .ok (.iload_n 2, 1) := by decide +kernel
theorem dX11_isWord_66 : decode cX11_isWord 66 = .ok (.if_icmp .gt 7, 3) := by decide +kernel
theorem dX11_isWord_69 : decode cX11_isWord 69 = .ok (.iconst 1, 1) := by decide +kernel
theorem dX11_isWord_70 : decode cX11_isWord 70 = .ok (.goto 4, 3) := by decide +kernel
theorem dX11_isWord_73 : decode cX11_isWord 73 = .ok (.iconst 0, 1) := by decide +kernel
theorem dX11_isWord_74 : decode cX11_isWord 74 = .ok (.ireturn, 1) := by decide +kernel
theorem dX11_lays_0 : decode cX11_lays 0 = .ok (.aload_n 0, 1) := by decide +kernel
theorem dX11_lays_1 : decode cX11_lays 1 = .ok (.iconst 0, 1) := by decide +kernel
theorem dX11_lays_2 : decode cX11_lays 2 = .ok (.putfield 195, 3) := by decide +kernel
theorem dX11_lays_5 : decode cX11_lays 5 = .ok (.lload_n 1, 1) := by decide +kernel
theorem dX11_lays_6 : decode cX11_lays 6 = .ok (.lstore_n 3, 1) := by decide +kernel
theorem dX11_lays_7 : decode cX11_lays 7 = .ok (.lload_n 3, 1) := by decide +kernel
theorem dX11_lays_8 : decode cX11_lays 8 = .ok (.lconst 0, 1) := by decide +kernel
theorem dX11_lays_9 : decode cX11_lays 9 = .ok (.lcmp, 1) := by decide +kernel
theorem dX11_lays_10 : decode cX11_lays 10 = .ok (.ifCond .le 22, 3) := by decide +kernel
theorem dX11_lays_13 : decode cX11_lays 13 = .ok (.aload_n 0, 1) := by decide +kernel
theorem dX11_lays_14 : decode cX11_lays 14 = .ok (.dup, 1) := by decide +kernel
theorem dX11_lays_15 : decode cX11_lays 15 = .ok (.getfield 195, 3) := by decide +kernel
theorem dX11_lays_18 : decode cX11_lays 18 = .ok (.iconst 1, 1) := by decide +kernel
theorem dX11_lays_19 : decode cX11_lays 19 = .ok (.iadd, 1) := by decide +kernel
theorem dX11_lays_20 : decode cX11_lays 20 = .ok (.putfield 195, 3) := by decide +kernel
theorem dX11_lays_23 : decode cX11_lays 23 = .ok (.lload_n 3, 1) := by decide +kernel
theorem dX11_lays_24 : decode cX11_lays 24 = .ok (.ldc2_w 193, 3) := by decide +kernel
theorem dX11_lays_27 : decode cX11_lays 27 = .ok (.ldiv, 1) := by decide +kernel
theorem dX11_lays_28 : decode cX11_lays 28 = .ok (.lstore_n 3, 1) := by decide +kernel
theorem dX11_lays_29 : decode cX11_lays 29 = .ok (.goto (-22), 3) := by decide +kernel
theorem dX11_lays_32 : decode cX11_lays 32 = .ok (.lload_n 1, 1) := by decide +kernel
theorem dX11_lays_33 : decode cX11_lays 33 = .ok (.lstore_n 3, 1) := by decide +kernel
theorem dX11_lays_34 : decode cX11_lays 34 = .ok (.aload_n 0, 1) := by decide +kernel
theorem dX11_lays_35 : decode cX11_lays 35 = .ok (.getfield 195, 3) := by decide +kernel
theorem dX11_lays_38 : decode cX11_lays 38 = .ok (.iconst 1, 1) := by decide +kernel
theorem dX11_lays_39 : decode cX11_lays 39 = .ok (.isub, 1) := by decide +kernel
theorem dX11_lays_40 : decode cX11_lays 40 = .ok (.istore 5, 2) := by decide +kernel
theorem dX11_lays_42 : decode cX11_lays 42 = .ok (.iload 5, 2) := by decide +kernel
theorem dX11_lays_44 : decode cX11_lays 44 = .ok (.ifCond .lt 28, 3) := by decide +kernel
theorem dX11_lays_47 : decode cX11_lays 47 = .ok (.aload_n 0, 1) := by decide +kernel
theorem dX11_lays_48 : decode cX11_lays 48 = .ok (.getfield 165, 3) := by decide +kernel
theorem dX11_lays_51 : decode cX11_lays 51 = .ok (.iload 5, 2) := by decide +kernel
theorem dX11_lays_53 : decode cX11_lays 53 = .ok (.lload_n 3, 1) := by decide +kernel
theorem dX11_lays_54 : decode cX11_lays 54 = .ok (.ldc2_w 193, 3) := by decide +kernel
theorem dX11_lays_57 : decode cX11_lays 57 = .ok (.lrem, 1) := by decide +kernel
theorem dX11_lays_58 : decode cX11_lays 58 = .ok (.l2i, 1) := by decide +kernel
theorem dX11_lays_59 : decode cX11_lays 59 = .ok (.iastore, 1) := by decide +kernel
theorem dX11_lays_60 : decode cX11_lays 60 = .ok (.lload_n 3, 1) := by decide +kernel
theorem dX11_lays_61 : decode cX11_lays 61 = .ok (.ldc2_w 193, 3) := by decide +kernel
theorem dX11_lays_64 : decode cX11_lays 64 = .ok (.ldiv, 1) := by decide +kernel
theorem dX11_lays_65 : decode cX11_lays 65 = .ok (.lstore_n 3, 1) := by decide +kernel
theorem dX11_lays_66 : decode cX11_lays 66 = .ok (.iinc 5 (-1), 3) := by decide +kernel
theorem dX11_lays_69 : decode cX11_lays 69 = .ok (.goto (-27), 3) := by decide +kernel
theorem dX11_lays_72 : decode cX11_lays 72 = .ok (.return_, 1) := by decide +kernel
theorem dX11_word_0 : decode cX11_word 0 = .ok (.lconst 0, 1) := by decide +kernel
theorem dX11_word_1 : decode cX11_word 1 = .ok (.lstore_n 1, 1) := by decide +kernel
theorem dX11_word_2 : decode cX11_word 2 = .ok (.iconst 0, 1) := by decide +kernel
theorem dX11_word_3 : decode cX11_word 3 = .ok (.istore_n 3, 1) := by decide +kernel
theorem dX11_word_4 : decode cX11_word 4 = .ok (.iload_n 3, 1) := by decide +kernel
theorem dX11_word_5 : decode cX11_word 5 = .ok (.aload_n 0, 1) := by decide +kernel
theorem dX11_word_6 : decode cX11_word 6 = .ok (.getfield 195, 3) := by decide +kernel
theorem dX11_word_9 : decode cX11_word 9 = .ok (.if_icmp .ge 23, 3) := by decide +kernel
theorem dX11_word_12 : decode cX11_word 12 = .ok (.ldc2_w 193, 3) := by decide +kernel
theorem dX11_word_15 : decode cX11_word 15 = .ok (.lload_n 1, 1) := by decide +kernel
theorem dX11_word_16 : decode cX11_word 16 = .ok (.lmul, 1) := by decide +kernel
theorem dX11_word_17 : decode cX11_word 17 = .ok (.aload_n 0, 1) := by decide +kernel
theorem dX11_word_18 : decode cX11_word 18 = .ok (.getfield 165, 3) := by decide +kernel
theorem dX11_word_21 : decode cX11_word 21 = .ok (.iload_n 3, 1) := by decide +kernel
theorem dX11_word_22 : decode cX11_word 22 = .ok (.iaload, 1) := by decide +kernel
theorem dX11_word_23 : decode cX11_word 23 = .ok (.i2l, 1) := by decide +kernel
theorem dX11_word_24 : decode cX11_word 24 = .ok (.ladd, 1) := by decide +kernel
theorem dX11_word_25 : decode cX11_word 25 = .ok (.lstore_n 1, 1) := by decide +kernel
theorem dX11_word_26 : decode cX11_word 26 = .ok (.iinc 3 1, 3) := by decide +kernel
theorem dX11_word_29 : decode cX11_word 29 = .ok (.goto (-25), 3) := by decide +kernel
theorem dX11_word_32 : decode cX11_word 32 = .ok (.lload_n 1, 1) := by decide +kernel
theorem dX11_word_33 : decode cX11_word 33 = .ok (.lreturn, 1) := by decide +kernel
theorem dX11_placeAt_0 : decode cX11_placeAt 0 = .ok (.iconst (-1), 1) := by decide +kernel
theorem dX11_placeAt_1 : decode cX11_placeAt 1 = .ok (.istore 4, 2) := by decide +kernel
theorem dX11_placeAt_3 : decode cX11_placeAt 3 = .ok (.bipush 40, 2) := by decide +kernel
theorem dX11_placeAt_5 : decode cX11_placeAt 5 = .ok (.iload_n 1, 1) := by decide +kernel
theorem dX11_placeAt_6 : decode cX11_placeAt 6 = .ok (.imul, 1) := by decide +kernel
theorem dX11_placeAt_7 : decode cX11_placeAt 7 = .ok (.istore 5, 2) := by decide +kernel
theorem dX11_placeAt_9 : decode cX11_placeAt 9 = .ok (.iload 5, 2) := by decide +kernel
theorem dX11_placeAt_11 : decode cX11_placeAt 11 = .ok (.bipush 40, 2) := by decide +kernel
theorem dX11_placeAt_13 : decode cX11_placeAt 13 = .ok (.iload_n 1, 1) := by decide +kernel
theorem dX11_placeAt_14 : decode cX11_placeAt 14 = .ok (.imul, 1) := by decide +kernel
theorem dX11_placeAt_15 : decode cX11_placeAt 15 = .ok (.aload_n 0, 1) := by decide +kernel
theorem dX11_placeAt_16 : decode cX11_placeAt 16 = .ok (.getfield 16, 3) := by decide +kernel
theorem dX11_placeAt_19 : decode cX11_placeAt 19 = .ok (.iload_n 1, 1) := by decide +kernel
theorem dX11_placeAt_20 : decode cX11_placeAt 20 = .ok (.iaload, 1) := by decide +kernel
theorem dX11_placeAt_21 : decode cX11_placeAt 21 = .ok (.iadd, 1) := by decide +kernel
theorem dX11_placeAt_22 : decode cX11_placeAt 22 = .ok (.if_icmp .ge 75, 3) := by decide +kernel
theorem dX11_placeAt_25 : decode cX11_placeAt 25 = .ok (.aload_n 0, 1) := by decide +kernel
theorem dX11_placeAt_26 : decode cX11_placeAt 26 = .ok (.getfield 25, 3) := by decide +kernel
theorem dX11_placeAt_29 : decode cX11_placeAt 29 = .ok (.iload 5, 2) := by decide +kernel
theorem dX11_placeAt_31 : decode cX11_placeAt 31 = .ok (.iaload, 1) := by decide +kernel
theorem dX11_placeAt_32 : decode cX11_placeAt 32 = .ok (.iload_n 2, 1) := by decide +kernel
theorem dX11_placeAt_33 : decode cX11_placeAt 33 = .ok (.if_icmp .gt 18, 3) := by decide +kernel
theorem dX11_placeAt_36 : decode cX11_placeAt 36 = .ok (.aload_n 0, 1) := by decide +kernel
theorem dX11_placeAt_37 : decode cX11_placeAt 37 = .ok (.getfield 28, 3) := by decide +kernel
theorem dX11_placeAt_40 : decode cX11_placeAt 40 = .ok (.iload 5, 2) := by decide +kernel
theorem dX11_placeAt_42 : decode cX11_placeAt 42 = .ok (.iaload, 1) := by decide +kernel
theorem dX11_placeAt_43 : decode cX11_placeAt 43 = .ok (.iload_n 3, 1) := by decide +kernel
theorem dX11_placeAt_44 : decode cX11_placeAt 44 = .ok (.if_icmp .gt 7, 3) := by decide +kernel
theorem dX11_placeAt_47 : decode cX11_placeAt 47 = .ok (.iconst 1, 1) := by decide +kernel
theorem dX11_placeAt_48 : decode cX11_placeAt 48 = .ok (.goto 4, 3) := by decide +kernel
theorem dX11_placeAt_51 : decode cX11_placeAt 51 = .ok (.iconst 0, 1) := by decide +kernel
theorem dX11_placeAt_52 : decode cX11_placeAt 52 = .ok (.istore 6, 2) := by decide +kernel
theorem dX11_placeAt_54 : decode cX11_placeAt 54 = .ok (.iload 6, 2) := by decide +kernel
theorem dX11_placeAt_56 : decode cX11_placeAt 56 = .ok (.ifCond .eq 31, 3) := by decide +kernel
theorem dX11_placeAt_59 : decode cX11_placeAt 59 = .ok (.iload 4, 2) := by decide +kernel
theorem dX11_placeAt_61 : decode cX11_placeAt 61 = .ok (.iconst (-1), 1) := by decide +kernel
theorem dX11_placeAt_62 : decode cX11_placeAt 62 = .ok (.if_icmp .eq 20, 3) := by decide +kernel
theorem dX11_placeAt_65 : decode cX11_placeAt 65 = .ok (.aload_n 0, 1) := by decide +kernel
theorem dX11_placeAt_66 : decode cX11_placeAt 66 = .ok (.getfield 25, 3) := by decide +kernel
theorem dX11_placeAt_69 : decode cX11_placeAt 69 = .ok (.iload 5, 2) := by decide +kernel
theorem dX11_placeAt_71 : decode cX11_placeAt 71 = .ok (.iaload, 1) := by decide +kernel
theorem dX11_placeAt_72 : decode cX11_placeAt 72 = .ok (.aload_n 0, 1) := by decide +kernel
theorem dX11_placeAt_73 : decode cX11_placeAt 73 = .ok (.getfield 25, 3) := by decide +kernel
theorem dX11_placeAt_76 : decode cX11_placeAt 76 = .ok (.iload 4, 2) := by decide +kernel
theorem dX11_placeAt_78 : decode cX11_placeAt 78 = .ok (.iaload, 1) := by decide +kernel
theorem dX11_placeAt_79 : decode cX11_placeAt 79 = .ok (.if_icmp .lt 8, 3) := by decide +kernel
theorem dX11_placeAt_82 : decode cX11_placeAt 82 = .ok (.iload 5, 2) := by decide +kernel
theorem dX11_placeAt_84 : decode cX11_placeAt 84 = .ok (.goto 5, 3) := by decide +kernel
theorem dX11_placeAt_87 : decode cX11_placeAt 87 = .ok (.iload 4, 2) := by decide +kernel
theorem dX11_placeAt_89 : decode cX11_placeAt 89 = .ok (.istore 4, 2) := by decide +kernel
theorem dX11_placeAt_91 : decode cX11_placeAt 91 = .ok (.iinc 5 1, 3) := by decide +kernel
theorem dX11_placeAt_94 : decode cX11_placeAt 94 = .ok (.goto (-85), 3) := by decide +kernel
theorem dX11_placeAt_97 : decode cX11_placeAt 97 = .ok (.iload 4, 2) := by decide +kernel
theorem dX11_placeAt_99 : decode cX11_placeAt 99 = .ok (.ireturn, 1) := by decide +kernel
theorem dX11_wholeAt_0 : decode cX11_wholeAt 0 = .ok (.iconst (-1), 1) := by decide +kernel
theorem dX11_wholeAt_1 : decode cX11_wholeAt 1 = .ok (.istore 4, 2) := by decide +kernel
theorem dX11_wholeAt_3 : decode cX11_wholeAt 3 = .ok (.bipush 40, 2) := by decide +kernel
theorem dX11_wholeAt_5 : decode cX11_wholeAt 5 = .ok (.iload_n 1, 1) := by decide +kernel
theorem dX11_wholeAt_6 : decode cX11_wholeAt 6 = .ok (.imul, 1) := by decide +kernel
theorem dX11_wholeAt_7 : decode cX11_wholeAt 7 = .ok (.istore 5, 2) := by decide +kernel
theorem dX11_wholeAt_9 : decode cX11_wholeAt 9 = .ok (.iload 5, 2) := by decide +kernel
theorem dX11_wholeAt_11 : decode cX11_wholeAt 11 = .ok (.bipush 40, 2) := by decide +kernel
theorem dX11_wholeAt_13 : decode cX11_wholeAt 13 = .ok (.iload_n 1, 1) := by decide +kernel
theorem dX11_wholeAt_14 : decode cX11_wholeAt 14 = .ok (.imul, 1) := by decide +kernel
theorem dX11_wholeAt_15 : decode cX11_wholeAt 15 = .ok (.aload_n 0, 1) := by decide +kernel
theorem dX11_wholeAt_16 : decode cX11_wholeAt 16 = .ok (.getfield 31, 3) := by decide +kernel
theorem dX11_wholeAt_19 : decode cX11_wholeAt 19 = .ok (.iload_n 1, 1) := by decide +kernel
theorem dX11_wholeAt_20 : decode cX11_wholeAt 20 = .ok (.iaload, 1) := by decide +kernel
theorem dX11_wholeAt_21 : decode cX11_wholeAt 21 = .ok (.iadd, 1) := by decide +kernel
theorem dX11_wholeAt_22 : decode cX11_wholeAt 22 = .ok (.if_icmp .ge 75, 3) := by decide +kernel
theorem dX11_wholeAt_25 : decode cX11_wholeAt 25 = .ok (.aload_n 0, 1) := by decide +kernel
theorem dX11_wholeAt_26 : decode cX11_wholeAt 26 = .ok (.getfield 37, 3) := by decide +kernel
theorem dX11_wholeAt_29 : decode cX11_wholeAt 29 = .ok (.iload 5, 2) := by decide +kernel
theorem dX11_wholeAt_31 : decode cX11_wholeAt 31 = .ok (.iaload, 1) := by decide +kernel
theorem dX11_wholeAt_32 : decode cX11_wholeAt 32 = .ok (.iload_n 2, 1) := by decide +kernel
theorem dX11_wholeAt_33 : decode cX11_wholeAt 33 = .ok (.if_icmp .gt 18, 3) := by decide +kernel
theorem dX11_wholeAt_36 : decode cX11_wholeAt 36 = .ok (.aload_n 0, 1) := by decide +kernel
theorem dX11_wholeAt_37 : decode cX11_wholeAt 37 = .ok (.getfield 40, 3) := by decide +kernel
theorem dX11_wholeAt_40 : decode cX11_wholeAt 40 = .ok (.iload 5, 2) := by decide +kernel
theorem dX11_wholeAt_42 : decode cX11_wholeAt 42 = .ok (.iaload, 1) := by decide +kernel
theorem dX11_wholeAt_43 : decode cX11_wholeAt 43 = .ok (.iload_n 3, 1) := by decide +kernel
theorem dX11_wholeAt_44 : decode cX11_wholeAt 44 = .ok (.if_icmp .gt 7, 3) := by decide +kernel
theorem dX11_wholeAt_47 : decode cX11_wholeAt 47 = .ok (.iconst 1, 1) := by decide +kernel
theorem dX11_wholeAt_48 : decode cX11_wholeAt 48 = .ok (.goto 4, 3) := by decide +kernel
theorem dX11_wholeAt_51 : decode cX11_wholeAt 51 = .ok (.iconst 0, 1) := by decide +kernel
theorem dX11_wholeAt_52 : decode cX11_wholeAt 52 = .ok (.istore 6, 2) := by decide +kernel
theorem dX11_wholeAt_54 : decode cX11_wholeAt 54 = .ok (.iload 6, 2) := by decide +kernel
theorem dX11_wholeAt_56 : decode cX11_wholeAt 56 = .ok (.ifCond .eq 31, 3) := by decide +kernel
theorem dX11_wholeAt_59 : decode cX11_wholeAt 59 = .ok (.iload 4, 2) := by decide +kernel
theorem dX11_wholeAt_61 : decode cX11_wholeAt 61 = .ok (.iconst (-1), 1) := by decide +kernel
theorem dX11_wholeAt_62 : decode cX11_wholeAt 62 = .ok (.if_icmp .eq 20, 3) := by decide +kernel
theorem dX11_wholeAt_65 : decode cX11_wholeAt 65 = .ok (.aload_n 0, 1) := by decide +kernel
theorem dX11_wholeAt_66 : decode cX11_wholeAt 66 = .ok (.getfield 37, 3) := by decide +kernel
theorem dX11_wholeAt_69 : decode cX11_wholeAt 69 = .ok (.iload 5, 2) := by decide +kernel
theorem dX11_wholeAt_71 : decode cX11_wholeAt 71 = .ok (.iaload, 1) := by decide +kernel
theorem dX11_wholeAt_72 : decode cX11_wholeAt 72 = .ok (.aload_n 0, 1) := by decide +kernel
theorem dX11_wholeAt_73 : decode cX11_wholeAt 73 = .ok (.getfield 37, 3) := by decide +kernel
theorem dX11_wholeAt_76 : decode cX11_wholeAt 76 = .ok (.iload 4, 2) := by decide +kernel
theorem dX11_wholeAt_78 : decode cX11_wholeAt 78 = .ok (.iaload, 1) := by decide +kernel
theorem dX11_wholeAt_79 : decode cX11_wholeAt 79 = .ok (.if_icmp .lt 8, 3) := by decide +kernel
theorem dX11_wholeAt_82 : decode cX11_wholeAt 82 = .ok (.iload 5, 2) := by decide +kernel
theorem dX11_wholeAt_84 : decode cX11_wholeAt 84 = .ok (.goto 5, 3) := by decide +kernel
theorem dX11_wholeAt_87 : decode cX11_wholeAt 87 = .ok (.iload 4, 2) := by decide +kernel
theorem dX11_wholeAt_89 : decode cX11_wholeAt 89 = .ok (.istore 4, 2) := by decide +kernel
theorem dX11_wholeAt_91 : decode cX11_wholeAt 91 = .ok (.iinc 5 1, 3) := by decide +kernel
theorem dX11_wholeAt_94 : decode cX11_wholeAt 94 = .ok (.goto (-85), 3) := by decide +kernel
theorem dX11_wholeAt_97 : decode cX11_wholeAt 97 = .ok (.iload 4, 2) := by decide +kernel
theorem dX11_wholeAt_99 : decode cX11_wholeAt 99 = .ok (.iconst (-1), 1) := by decide +kernel
theorem dX11_wholeAt_100 : decode cX11_wholeAt 100 = .ok (.if_icmp .ne 7, 3) := by decide +kernel
theorem dX11_wholeAt_103 : decode cX11_wholeAt 103 = .ok (.iconst (-1), 1) := by decide +kernel
theorem dX11_wholeAt_104 : decode cX11_wholeAt 104 = .ok (.goto 10, 3) := by decide +kernel
theorem dX11_wholeAt_107 : decode cX11_wholeAt 107 = .ok (.aload_n 0, 1) := by decide +kernel
theorem dX11_wholeAt_108 : decode cX11_wholeAt 108 = .ok (.getfield 34, 3) := by decide +kernel
theorem dX11_wholeAt_111 : decode cX11_wholeAt 111 = .ok (.iload 4, 2) := by decide +kernel
theorem dX11_wholeAt_113 : decode cX11_wholeAt 113 = .ok (.iaload, 1) := by decide +kernel
theorem dX11_wholeAt_114 : decode cX11_wholeAt 114 = .ok (.ireturn, 1) := by decide +kernel
theorem dX11_hasEnded_0 : decode cX11_hasEnded 0 = .ok (.aload_n 0, 1) := by decide +kernel
theorem dX11_hasEnded_1 : decode cX11_hasEnded 1 = .ok (.getfield 43, 3) := by decide +kernel
theorem dX11_hasEnded_4 : decode cX11_hasEnded 4 = .ok (.iload_n 1, 1) := by decide +kernel
theorem dX11_hasEnded_5 : decode cX11_hasEnded 5 = .ok (.iaload, 1) := by decide +kernel
theorem dX11_hasEnded_6 : decode cX11_hasEnded 6 = .ok (.iconst (-1), 1) := by decide +kernel
theorem dX11_hasEnded_7 : decode cX11_hasEnded 7 = .ok (.if_icmp .eq 27, 3) := by decide +kernel
theorem dX11_hasEnded_10 : decode cX11_hasEnded 10 = .ok (.aload_n 0, 1) := by decide +kernel
theorem dX11_hasEnded_11 : decode cX11_hasEnded 11 = .ok (.getfield 49, 3) := by decide +kernel
theorem dX11_hasEnded_14 : decode cX11_hasEnded 14 = .ok (.iload_n 1, 1) := by decide +kernel
theorem dX11_hasEnded_15 : decode cX11_hasEnded 15 = .ok (.iaload, 1) := by decide +kernel
theorem dX11_hasEnded_16 : decode cX11_hasEnded 16 = .ok (.iload_n 3, 1) := by decide +kernel
theorem dX11_hasEnded_17 : decode cX11_hasEnded 17 = .ok (.if_icmp .gt 17, 3) := by decide +kernel
theorem dX11_hasEnded_20 : decode cX11_hasEnded 20 = .ok (.aload_n 0, 1) := by decide +kernel
theorem dX11_hasEnded_21 : decode cX11_hasEnded 21 = .ok (.getfield 43, 3) := by decide +kernel
theorem dX11_hasEnded_24 : decode cX11_hasEnded 24 = .ok (.iload_n 1, 1) := by decide +kernel
theorem dX11_hasEnded_25 : decode cX11_hasEnded 25 = .ok (.iaload, 1) := by decide +kernel
theorem dX11_hasEnded_26 : decode cX11_hasEnded 26 = .ok (.iload_n 2, 1) := by decide +kernel
theorem dX11_hasEnded_27 : decode cX11_hasEnded 27 = .ok (.if_icmp .gt 7, 3) := by decide +kernel
theorem dX11_hasEnded_30 : decode cX11_hasEnded 30 = .ok (.iconst 1, 1) := by decide +kernel
theorem dX11_hasEnded_31 : decode cX11_hasEnded 31 = .ok (.goto 4, 3) := by decide +kernel
theorem dX11_hasEnded_34 : decode cX11_hasEnded 34 = .ok (.iconst 0, 1) := by decide +kernel
theorem dX11_hasEnded_35 : decode cX11_hasEnded 35 = .ok (.ireturn, 1) := by decide +kernel
theorem dX11_isThere_0 : decode cX11_isThere 0 = .ok (.aload_n 0, 1) := by decide +kernel
theorem dX11_isThere_1 : decode cX11_isThere 1 = .ok (.getfield 13, 3) := by decide +kernel
theorem dX11_isThere_4 : decode cX11_isThere 4 = .ok (.iload_n 1, 1) := by decide +kernel
theorem dX11_isThere_5 : decode cX11_isThere 5 = .ok (.iaload, 1) := by decide +kernel
theorem dX11_isThere_6 : decode cX11_isThere 6 = .ok (.iload_n 2, 1) := by decide +kernel
theorem dX11_isThere_7 : decode cX11_isThere 7 = .ok (.if_icmp .gt 27, 3) := by decide +kernel
theorem dX11_isThere_10 : decode cX11_isThere 10 = .ok (.aload_n 0, 1) := by decide +kernel
theorem dX11_isThere_11 : decode cX11_isThere 11 = .ok (.getfield 13, 3) := by decide +kernel
theorem dX11_isThere_14 : decode cX11_isThere 14 = .ok (.iload_n 1, 1) := by decide +kernel
theorem dX11_isThere_15 : decode cX11_isThere 15 = .ok (.iaload, 1) := by decide +kernel
theorem dX11_isThere_16 : decode cX11_isThere 16 = .ok (.iload_n 3, 1) := by decide +kernel
theorem dX11_isThere_17 : decode cX11_isThere 17 = .ok (.if_icmp .gt 17, 3) := by decide +kernel
theorem dX11_isThere_20 : decode cX11_isThere 20 = .ok (.aload_n 0, 1) := by decide +kernel
theorem dX11_isThere_21 : decode cX11_isThere 21 = .ok (.iload_n 1, 1) := by decide +kernel
theorem dX11_isThere_22 : decode cX11_isThere 22 = .ok (.iload_n 2, 1) := by decide +kernel
theorem dX11_isThere_23 : decode cX11_isThere 23 = .ok (.iload_n 3, 1) := by decide +kernel
theorem dX11_isThere_24 : decode cX11_isThere 24 = .ok (.invokevirtual 198, 3) := by decide +kernel
theorem dX11_isThere_27 : decode cX11_isThere 27 = .ok (.ifCond .ne 7, 3) := by decide +kernel
theorem dX11_isThere_30 : decode cX11_isThere 30 = .ok (.iconst 1, 1) := by decide +kernel
theorem dX11_isThere_31 : decode cX11_isThere 31 = .ok (.goto 4, 3) := by decide +kernel
theorem dX11_isThere_34 : decode cX11_isThere 34 = .ok (.iconst 0, 1) := by decide +kernel
theorem dX11_isThere_35 : decode cX11_isThere 35 = .ok (.ireturn, 1) := by decide +kernel
theorem dX11_nameAt_0 : decode cX11_nameAt 0 = .ok (.iconst (-1), 1) := by decide +kernel
theorem dX11_nameAt_1 : decode cX11_nameAt 1 = .ok (.istore 5, 2) := by decide +kernel
theorem dX11_nameAt_3 : decode cX11_nameAt 3 = .ok (.iconst 0, 1) := by decide +kernel
theorem dX11_nameAt_4 : decode cX11_nameAt 4 = .ok (.istore 6, 2) := by decide +kernel
theorem dX11_nameAt_6 : decode cX11_nameAt 6 = .ok (.iload 6, 2) := by decide +kernel
theorem dX11_nameAt_8 : decode cX11_nameAt 8 = .ok (.aload_n 0, 1) := by decide +kernel
theorem dX11_nameAt_9 : decode cX11_nameAt 9 = .ok (.getfield 201, 3) := by decide +kernel
theorem dX11_nameAt_12 : decode cX11_nameAt 12 = .ok (.if_icmp .ge 121, 3) := by decide +kernel
theorem dX11_nameAt_15 : decode cX11_nameAt 15 = .ok (.aload_n 0, 1) := by decide +kernel
theorem dX11_nameAt_16 : decode cX11_nameAt 16 = .ok (.getfield 52, 3) := by decide +kernel
theorem dX11_nameAt_19 : decode cX11_nameAt 19 = .ok (.iload 6, 2) := by decide +kernel
theorem dX11_nameAt_21 : decode cX11_nameAt 21 = .ok (.iaload, 1) := by decide +kernel
theorem dX11_nameAt_22 : decode cX11_nameAt 22 = .ok (.iload_n 1, 1) := by decide +kernel
theorem dX11_nameAt_23 : decode cX11_nameAt 23 = .ok (.if_icmp .ne 64, 3) := by decide +kernel
theorem dX11_nameAt_26 : decode cX11_nameAt 26 = .ok (.aload_n 0, 1) := by decide +kernel
theorem dX11_nameAt_27 : decode cX11_nameAt 27 = .ok (.getfield 55, 3) := by decide +kernel
theorem dX11_nameAt_30 : decode cX11_nameAt 30 = .ok (.iload 6, 2) := by decide +kernel
theorem dX11_nameAt_32 : decode cX11_nameAt 32 = .ok (.iaload, 1) := by decide +kernel
theorem dX11_nameAt_33 : decode cX11_nameAt 33 = .ok (.iload_n 2, 1) := by decide +kernel
theorem dX11_nameAt_34 : decode cX11_nameAt 34 = .ok (.if_icmp .ne 53, 3) := by decide +kernel
theorem dX11_nameAt_37 : decode cX11_nameAt 37 = .ok (.aload_n 0, 1) := by decide +kernel
theorem dX11_nameAt_38 : decode cX11_nameAt 38 = .ok (.getfield 62, 3) := by decide +kernel
theorem dX11_nameAt_41 : decode cX11_nameAt 41 = .ok (.iload 6, 2) := by decide +kernel
theorem dX11_nameAt_43 : decode cX11_nameAt 43 = .ok (.iaload, 1) := by decide +kernel
theorem dX11_nameAt_44 : decode cX11_nameAt 44 = .ok (.iload_n 3, 1) := by decide +kernel
theorem dX11_nameAt_45 : decode cX11_nameAt 45 = .ok (.if_icmp .gt 42, 3) := by decide +kernel
theorem dX11_nameAt_48 : decode cX11_nameAt 48 = .ok (.aload_n 0, 1) := by decide +kernel
theorem dX11_nameAt_49 : decode cX11_nameAt 49 = .ok (.getfield 65, 3) := by decide +kernel
theorem dX11_nameAt_52 : decode cX11_nameAt 52 = .ok (.iload 6, 2) := by decide +kernel
theorem dX11_nameAt_54 : decode cX11_nameAt 54 = .ok (.iaload, 1) := by decide +kernel
theorem dX11_nameAt_55 : decode cX11_nameAt 55 = .ok (.iload 4, 2) := by decide +kernel
theorem dX11_nameAt_57 : decode cX11_nameAt 57 = .ok (.if_icmp .gt 30, 3) := by decide +kernel
theorem dX11_nameAt_60 : decode cX11_nameAt 60 = .ok (.aload_n 0, 1) := by decide +kernel
theorem dX11_nameAt_61 : decode cX11_nameAt 61 = .ok (.getfield 68, 3) := by decide +kernel
theorem dX11_nameAt_64 : decode cX11_nameAt 64 = .ok (.iload 6, 2) := by decide +kernel
theorem dX11_nameAt_66 : decode cX11_nameAt 66 = .ok (.iaload, 1) := by decide +kernel
theorem dX11_nameAt_67 : decode cX11_nameAt 67 = .ok (.iconst (-1), 1) := by decide +kernel
theorem dX11_nameAt_68 : decode cX11_nameAt 68 = .ok (.if_icmp .eq 15, 3) := by decide +kernel
theorem dX11_nameAt_71 : decode cX11_nameAt 71 = .ok (.aload_n 0, 1) := by decide +kernel
theorem dX11_nameAt_72 : decode cX11_nameAt 72 = .ok (.getfield 68, 3) := by decide +kernel
theorem dX11_nameAt_75 : decode cX11_nameAt 75 = .ok (.iload 6, 2) := by decide +kernel
theorem dX11_nameAt_77 : decode cX11_nameAt 77 = .ok (.iaload, 1) := by decide +kernel
theorem dX11_nameAt_78 : decode cX11_nameAt 78 = .ok (.iload 4, 2) := by decide +kernel
theorem dX11_nameAt_80 : decode cX11_nameAt 80 = .ok (.if_icmp .le 7, 3) := by decide +kernel
theorem dX11_nameAt_83 : decode cX11_nameAt 83 = .ok (.iconst 1, 1) := by decide +kernel
theorem dX11_nameAt_84 : decode cX11_nameAt 84 = .ok (.goto 4, 3) := by decide +kernel
theorem dX11_nameAt_87 : decode cX11_nameAt 87 = .ok (.iconst 0, 1) := by decide +kernel
theorem dX11_nameAt_88 : decode cX11_nameAt 88 = .ok (.istore 7, 2) := by decide +kernel
theorem dX11_nameAt_90 : decode cX11_nameAt 90 = .ok (.iload 7, 2) := by decide +kernel
theorem dX11_nameAt_92 : decode cX11_nameAt 92 = .ok (.ifCond .eq 31, 3) := by decide +kernel
theorem dX11_nameAt_95 : decode cX11_nameAt 95 = .ok (.iload 5, 2) := by decide +kernel
theorem dX11_nameAt_97 : decode cX11_nameAt 97 = .ok (.iconst (-1), 1) := by decide +kernel
theorem dX11_nameAt_98 : decode cX11_nameAt 98 = .ok (.if_icmp .eq 20, 3) := by decide +kernel
theorem dX11_nameAt_101 : decode cX11_nameAt 101 = .ok (.aload_n 0, 1) := by decide +kernel
theorem dX11_nameAt_102 : decode cX11_nameAt 102 = .ok (.getfield 62, 3) := by decide +kernel
theorem dX11_nameAt_105 : decode cX11_nameAt 105 = .ok (.iload 6, 2) := by decide +kernel
theorem dX11_nameAt_107 : decode cX11_nameAt 107 = .ok (.iaload, 1) := by decide +kernel
theorem dX11_nameAt_108 : decode cX11_nameAt 108 = .ok (.aload_n 0, 1) := by decide +kernel
theorem dX11_nameAt_109 : decode cX11_nameAt 109 = .ok (.getfield 62, 3) := by decide +kernel
theorem dX11_nameAt_112 : decode cX11_nameAt 112 = .ok (.iload 5, 2) := by decide +kernel
theorem dX11_nameAt_114 : decode cX11_nameAt 114 = .ok (.iaload, 1) := by decide +kernel
theorem dX11_nameAt_115 : decode cX11_nameAt 115 = .ok (.if_icmp .lt 8, 3) := by decide +kernel
theorem dX11_nameAt_118 : decode cX11_nameAt 118 = .ok (.iload 6, 2) := by decide +kernel
theorem dX11_nameAt_120 : decode cX11_nameAt 120 = .ok (.goto 5, 3) := by decide +kernel
theorem dX11_nameAt_123 : decode cX11_nameAt 123 = .ok (.iload 5, 2) := by decide +kernel
theorem dX11_nameAt_125 : decode cX11_nameAt 125 = .ok (.istore 5, 2) := by decide +kernel
theorem dX11_nameAt_127 : decode cX11_nameAt 127 = .ok (.iinc 6 1, 3) := by decide +kernel
theorem dX11_nameAt_130 : decode cX11_nameAt 130 = .ok (.goto (-124), 3) := by decide +kernel
theorem dX11_nameAt_133 : decode cX11_nameAt 133 = .ok (.iload 5, 2) := by decide +kernel
theorem dX11_nameAt_135 : decode cX11_nameAt 135 = .ok (.ireturn, 1) := by decide +kernel
theorem dX11_exceptedFrom_0 : decode cX11_exceptedFrom 0 = .ok (.sipush 10000, 3) := by decide +kernel
theorem dX11_exceptedFrom_3 : decode cX11_exceptedFrom 3 = .ok (.istore 4, 2) := by decide +kernel
theorem dX11_exceptedFrom_5 : decode cX11_exceptedFrom 5 = .ok (.iconst 0, 1) := by decide +kernel
theorem dX11_exceptedFrom_6 : decode cX11_exceptedFrom 6 = .ok (.istore 5, 2) := by decide +kernel
theorem dX11_exceptedFrom_8 : decode cX11_exceptedFrom 8 = .ok (.iload 5, 2) := by decide +kernel
theorem dX11_exceptedFrom_10 : decode cX11_exceptedFrom 10 = .ok (.aload_n 0, 1) := by decide +kernel
theorem dX11_exceptedFrom_11 : decode cX11_exceptedFrom 11 = .ok (.getfield 204, 3) := by decide +kernel
theorem dX11_exceptedFrom_14 : decode cX11_exceptedFrom 14 = .ok (.if_icmp .ge 80, 3) := by decide +kernel
theorem dX11_exceptedFrom_17 : decode cX11_exceptedFrom 17 = .ok (.aload_n 0, 1) := by decide +kernel
theorem dX11_exceptedFrom_18 : decode cX11_exceptedFrom 18 = .ok (.getfield 89, 3) := by decide +kernel
theorem dX11_exceptedFrom_21 : decode cX11_exceptedFrom 21 = .ok (.iload 5, 2) := by decide +kernel
theorem dX11_exceptedFrom_23 : decode cX11_exceptedFrom 23 = .ok (.iaload, 1) := by decide +kernel
theorem dX11_exceptedFrom_24 : decode cX11_exceptedFrom 24 = .ok (.iload_n 1, 1) := by decide +kernel
theorem dX11_exceptedFrom_25 : decode cX11_exceptedFrom 25 = .ok (.if_icmp .ne 29, 3) := by decide +kernel
theorem dX11_exceptedFrom_28 : decode cX11_exceptedFrom 28 = .ok (.aload_n 0, 1) := by decide +kernel
theorem dX11_exceptedFrom_29 : decode cX11_exceptedFrom 29 = .ok (.getfield 92, 3) := by decide +kernel
theorem dX11_exceptedFrom_32 : decode cX11_exceptedFrom 32 = .ok (.iload 5, 2) := by decide +kernel
theorem dX11_exceptedFrom_34 : decode cX11_exceptedFrom 34 = .ok (.iaload, 1) := by decide +kernel
theorem dX11_exceptedFrom_35 : decode cX11_exceptedFrom 35 = .ok (.iload_n 2, 1) := by decide +kernel
theorem dX11_exceptedFrom_36 : decode cX11_exceptedFrom 36 = .ok (.if_icmp .ne 18, 3) := by decide +kernel
theorem dX11_exceptedFrom_39 : decode cX11_exceptedFrom 39 = .ok (.aload_n 0, 1) := by decide +kernel
theorem dX11_exceptedFrom_40 : decode cX11_exceptedFrom 40 = .ok (.getfield 98, 3) := by decide +kernel
theorem dX11_exceptedFrom_43 : decode cX11_exceptedFrom 43 = .ok (.iload 5, 2) := by decide +kernel
theorem dX11_exceptedFrom_45 : decode cX11_exceptedFrom 45 = .ok (.iaload, 1) := by decide +kernel
theorem dX11_exceptedFrom_46 : decode cX11_exceptedFrom 46 = .ok (.iload_n 3, 1) := by decide +kernel
theorem dX11_exceptedFrom_47 : decode cX11_exceptedFrom 47 = .ok (.if_icmp .gt 7, 3) := by decide +kernel
theorem dX11_exceptedFrom_50 : decode cX11_exceptedFrom 50 = .ok (.iconst 1, 1) := by decide +kernel
theorem dX11_exceptedFrom_51 : decode cX11_exceptedFrom 51 = .ok (.goto 4, 3) := by decide +kernel
theorem dX11_exceptedFrom_54 : decode cX11_exceptedFrom 54 = .ok (.iconst 0, 1) := by decide +kernel
theorem dX11_exceptedFrom_55 : decode cX11_exceptedFrom 55 = .ok (.istore 6, 2) := by decide +kernel
theorem dX11_exceptedFrom_57 : decode cX11_exceptedFrom 57 = .ok (.iload 6, 2) := by decide +kernel
theorem dX11_exceptedFrom_59 : decode cX11_exceptedFrom 59 = .ok (.ifCond .eq 25, 3) := by decide +kernel
theorem dX11_exceptedFrom_62 : decode cX11_exceptedFrom 62 = .ok (.aload_n 0, 1) := by decide +kernel
theorem dX11_exceptedFrom_63 : decode cX11_exceptedFrom 63 = .ok (.getfield 95, 3) := by decide +kernel
theorem dX11_exceptedFrom_66 : decode cX11_exceptedFrom 66 = .ok (.iload 5, 2) := by decide +kernel
theorem dX11_exceptedFrom_68 : decode cX11_exceptedFrom 68 = .ok (.iaload, 1) := by decide +kernel
theorem dX11_exceptedFrom_69 : decode cX11_exceptedFrom 69 = .ok (.iload 4, 2) := by decide +kernel
theorem dX11_exceptedFrom_71 : decode cX11_exceptedFrom 71 = .ok (.if_icmp .ge 13, 3) := by decide +kernel
theorem dX11_exceptedFrom_74 : decode cX11_exceptedFrom 74 = .ok (.aload_n 0, 1) := by decide +kernel
theorem dX11_exceptedFrom_75 : decode cX11_exceptedFrom 75 = .ok (.getfield 95, 3) := by decide +kernel
theorem dX11_exceptedFrom_78 : decode cX11_exceptedFrom 78 = .ok (.iload 5, 2) := by decide +kernel
theorem dX11_exceptedFrom_80 : decode cX11_exceptedFrom 80 = .ok (.iaload, 1) := by decide +kernel
theorem dX11_exceptedFrom_81 : decode cX11_exceptedFrom 81 = .ok (.goto 5, 3) := by decide +kernel
theorem dX11_exceptedFrom_84 : decode cX11_exceptedFrom 84 = .ok (.iload 4, 2) := by decide +kernel
theorem dX11_exceptedFrom_86 : decode cX11_exceptedFrom 86 = .ok (.istore 4, 2) := by decide +kernel
theorem dX11_exceptedFrom_88 : decode cX11_exceptedFrom 88 = .ok (.iinc 5 1, 3) := by decide +kernel
theorem dX11_exceptedFrom_91 : decode cX11_exceptedFrom 91 = .ok (.goto (-83), 3) := by decide +kernel
theorem dX11_exceptedFrom_94 : decode cX11_exceptedFrom 94 = .ok (.iload 4, 2) := by decide +kernel
theorem dX11_exceptedFrom_96 : decode cX11_exceptedFrom 96 = .ok (.ireturn, 1) := by decide +kernel
theorem dX11_applies_0 : decode cX11_applies 0 = .ok (.iconst 0, 1) := by decide +kernel
theorem dX11_applies_1 : decode cX11_applies 1 = .ok (.istore_n 2, 1) := by decide +kernel
theorem dX11_applies_2 : decode cX11_applies 2 = .ok (.iconst 0, 1) := by decide +kernel
theorem dX11_applies_3 : decode cX11_applies 3 = .ok (.istore_n 3, 1) := by decide +kernel
theorem dX11_applies_4 : decode cX11_applies 4 = .ok (.iload_n 3, 1) := by decide +kernel
theorem dX11_applies_5 : decode cX11_applies 5 = .ok (.aload_n 0, 1) := by decide +kernel
theorem dX11_applies_6 : decode cX11_applies 6 = .ok (.getfield 195, 3) := by decide +kernel
theorem dX11_applies_9 : decode cX11_applies 9 = .ok (.if_icmp .ge 95, 3) := by decide +kernel
theorem dX11_applies_12 : decode cX11_applies 12 = .ok (.aload_n 0, 1) := by decide +kernel
theorem dX11_applies_13 : decode cX11_applies 13 = .ok (.getfield 165, 3) := by decide +kernel
theorem dX11_applies_16 : decode cX11_applies 16 = .ok (.iload_n 3, 1) := by decide +kernel
theorem dX11_applies_17 : decode cX11_applies 17 = .ok (.iaload, 1) := by decide +kernel
theorem dX11_applies_18 : decode cX11_applies 18 = .ok (.aload_n 0, 1) := by decide +kernel
theorem dX11_applies_19 : decode cX11_applies 19 = .ok (.getfield 77, 3) := by decide +kernel
theorem dX11_applies_22 : decode cX11_applies 22 = .ok (.iload_n 1, 1) := by decide +kernel
theorem dX11_applies_23 : decode cX11_applies 23 = .ok (.iaload, 1) := by decide +kernel
theorem dX11_applies_24 : decode cX11_applies 24 = .ok (.if_icmp .eq 21, 3) := by decide +kernel
theorem dX11_applies_27 : decode cX11_applies 27 = .ok (.aload_n 0, 1) := by decide +kernel
theorem dX11_applies_28 : decode cX11_applies 28 = .ok (.getfield 168, 3) := by decide +kernel
theorem dX11_applies_31 : decode cX11_applies 31 = .ok (.iload_n 2, 1) := by decide +kernel
theorem dX11_applies_32 : decode cX11_applies 32 = .ok (.aload_n 0, 1) := by decide +kernel
theorem dX11_applies_33 : decode cX11_applies 33 = .ok (.getfield 165, 3) := by decide +kernel
theorem dX11_applies_36 : decode cX11_applies 36 = .ok (.iload_n 3, 1) := by decide +kernel
theorem dX11_applies_37 : decode cX11_applies 37 = .ok (.iaload, 1) := by decide +kernel
theorem dX11_applies_38 : decode cX11_applies 38 = .ok (.iastore, 1) := by decide +kernel
theorem dX11_applies_39 : decode cX11_applies 39 = .ok (.iinc 2 1, 3) := by decide +kernel
theorem dX11_applies_42 : decode cX11_applies 42 = .ok (.goto 56, 3) := by decide +kernel
theorem dX11_applies_45 : decode cX11_applies 45 = .ok (.aload_n 0, 1) := by decide +kernel
theorem dX11_applies_46 : decode cX11_applies 46 = .ok (.getfield 80, 3) := by decide +kernel
theorem dX11_applies_49 : decode cX11_applies 49 = .ok (.iload_n 1, 1) := by decide +kernel
theorem dX11_applies_50 : decode cX11_applies 50 = .ok (.iaload, 1) := by decide +kernel
theorem dX11_applies_51 : decode cX11_applies 51 = .ok (.ifCond .le 47, 3) := by decide +kernel
theorem dX11_applies_54 : decode cX11_applies 54 = .ok (.aload_n 0, 1) := by decide +kernel
theorem dX11_applies_55 : decode cX11_applies 55 = .ok (.getfield 168, 3) := by decide +kernel
theorem dX11_applies_58 : decode cX11_applies 58 = .ok (.iload_n 2, 1) := by decide +kernel
theorem dX11_applies_59 : decode cX11_applies 59 = .ok (.aload_n 0, 1) := by decide +kernel
theorem dX11_applies_60 : decode cX11_applies 60 = .ok (.getfield 80, 3) := by decide +kernel
theorem dX11_applies_63 : decode cX11_applies 63 = .ok (.iload_n 1, 1) := by decide +kernel
theorem dX11_applies_64 : decode cX11_applies 64 = .ok (.iaload, 1) := by decide +kernel
theorem dX11_applies_65 : decode cX11_applies 65 = .ok (.iastore, 1) := by decide +kernel
theorem dX11_applies_66 : decode cX11_applies 66 = .ok (.iinc 2 1, 3) := by decide +kernel
theorem dX11_applies_69 : decode cX11_applies 69 = .ok (.aload_n 0, 1) := by decide +kernel
theorem dX11_applies_70 : decode cX11_applies 70 = .ok (.getfield 168, 3) := by decide +kernel
theorem dX11_applies_73 : decode cX11_applies 73 = .ok (.iload_n 2, 1) := by decide +kernel
theorem dX11_applies_74 : decode cX11_applies 74 = .ok (.aload_n 0, 1) := by decide +kernel
theorem dX11_applies_75 : decode cX11_applies 75 = .ok (.getfield 83, 3) := by decide +kernel
theorem dX11_applies_78 : decode cX11_applies 78 = .ok (.iload_n 1, 1) := by decide +kernel
theorem dX11_applies_79 : decode cX11_applies 79 = .ok (.iaload, 1) := by decide +kernel
theorem dX11_applies_80 : decode cX11_applies 80 = .ok (.iastore, 1) := by decide +kernel
theorem dX11_applies_81 : decode cX11_applies 81 = .ok (.iload_n 2, 1) := by decide +kernel
theorem dX11_applies_82 : decode cX11_applies 82 = .ok (.aload_n 0, 1) := by decide +kernel
theorem dX11_applies_83 : decode cX11_applies 83 = .ok (.getfield 83, 3) := by decide +kernel
theorem dX11_applies_86 : decode cX11_applies 86 = .ok (.iload_n 1, 1) := by decide +kernel
theorem dX11_applies_87 : decode cX11_applies 87 = .ok (.iaload, 1) := by decide +kernel
theorem dX11_applies_88 : decode cX11_applies 88 = .ok (.ifCond .le 7, 3) := by decide +kernel
theorem dX11_applies_91 : decode cX11_applies 91 = .ok (.iconst 1, 1) := by decide +kernel
theorem dX11_applies_92 : decode cX11_applies 92 = .ok (.goto 4, 3) := by decide +kernel
theorem dX11_applies_95 : decode cX11_applies 95 = .ok (.iconst 0, 1) := by decide +kernel
theorem dX11_applies_96 : decode cX11_applies 96 = .ok (.iadd, 1) := by decide +kernel
theorem dX11_applies_97 : decode cX11_applies 97 = .ok (.istore_n 2, 1) := by decide +kernel
theorem dX11_applies_98 : decode cX11_applies 98 = .ok (.iinc 3 1, 3) := by decide +kernel
theorem dX11_applies_101 : decode cX11_applies 101 = .ok (.goto (-97), 3) := by decide +kernel
theorem dX11_applies_104 : decode cX11_applies 104 = .ok (.aload_n 0, 1) := by decide +kernel
theorem dX11_applies_105 : decode cX11_applies 105 = .ok (.iload_n 2, 1) := by decide +kernel
theorem dX11_applies_106 : decode cX11_applies 106 = .ok (.bipush 12, 2) := by decide +kernel
theorem dX11_applies_108 : decode cX11_applies 108 = .ok (.if_icmp .ge 7, 3) := by decide +kernel
theorem dX11_applies_111 : decode cX11_applies 111 = .ok (.iload_n 2, 1) := by decide +kernel
theorem dX11_applies_112 : decode cX11_applies 112 = .ok (.goto 5, 3) := by decide +kernel
theorem dX11_applies_115 : decode cX11_applies 115 = .ok (.bipush 12, 2) := by decide +kernel
theorem dX11_applies_117 : decode cX11_applies 117 = .ok (.putfield 195, 3) := by decide +kernel
theorem dX11_applies_120 : decode cX11_applies 120 = .ok (.iconst 0, 1) := by decide +kernel
theorem dX11_applies_121 : decode cX11_applies 121 = .ok (.istore_n 3, 1) := by decide +kernel
theorem dX11_applies_122 : decode cX11_applies 122 = .ok (.iload_n 3, 1) := by decide +kernel
theorem dX11_applies_123 : decode cX11_applies 123 = .ok (.aload_n 0, 1) := by decide +kernel
theorem dX11_applies_124 : decode cX11_applies 124 = .ok (.getfield 195, 3) := by decide +kernel
theorem dX11_applies_127 : decode cX11_applies 127 = .ok (.if_icmp .ge 21, 3) := by decide +kernel
theorem dX11_applies_130 : decode cX11_applies 130 = .ok (.aload_n 0, 1) := by decide +kernel
theorem dX11_applies_131 : decode cX11_applies 131 = .ok (.getfield 165, 3) := by decide +kernel
theorem dX11_applies_134 : decode cX11_applies 134 = .ok (.iload_n 3, 1) := by decide +kernel
theorem dX11_applies_135 : decode cX11_applies 135 = .ok (.aload_n 0, 1) := by decide +kernel
theorem dX11_applies_136 : decode cX11_applies 136 = .ok (.getfield 168, 3) := by decide +kernel
theorem dX11_applies_139 : decode cX11_applies 139 = .ok (.iload_n 3, 1) := by decide +kernel
theorem dX11_applies_140 : decode cX11_applies 140 = .ok (.iaload, 1) := by decide +kernel
theorem dX11_applies_141 : decode cX11_applies 141 = .ok (.iastore, 1) := by decide +kernel
theorem dX11_applies_142 : decode cX11_applies 142 = .ok (.iinc 3 1, 3) := by decide +kernel
theorem dX11_applies_145 : decode cX11_applies 145 = .ok (.goto (-23), 3) := by decide +kernel
theorem dX11_applies_148 : decode cX11_applies 148 = .ok (.return_, 1) := by decide +kernel
theorem dX11_formAt_0 : decode cX11_formAt 0 = .ok (.aload_n 0, 1) := by decide +kernel
theorem dX11_formAt_1 : decode cX11_formAt 1 = .ok (.iload_n 1, 1) := by decide +kernel
theorem dX11_formAt_2 : decode cX11_formAt 2 = .ok (.iload_n 2, 1) := by decide +kernel
theorem dX11_formAt_3 : decode cX11_formAt 3 = .ok (.iload_n 3, 1) := by decide +kernel
theorem dX11_formAt_4 : decode cX11_formAt 4 = .ok (.iload 4, 2) := by decide +kernel
theorem dX11_formAt_6 : decode cX11_formAt 6 = .ok (.invokevirtual 207, 3) := by decide +kernel
theorem dX11_formAt_9 : decode cX11_formAt 9 = .ok (.istore 5, 2) := by decide +kernel
theorem dX11_formAt_11 : decode cX11_formAt 11 = .ok (.iload 5, 2) := by decide +kernel
theorem dX11_formAt_13 : decode cX11_formAt 13 = .ok (.iconst (-1), 1) := by decide +kernel
theorem dX11_formAt_14 : decode cX11_formAt 14 = .ok (.if_icmp .ne 5, 3) := by decide +kernel
theorem dX11_formAt_17 : decode cX11_formAt 17 = .ok (.lconst 0, 1) := by decide +kernel
theorem dX11_formAt_18 : decode cX11_formAt 18 = .ok (.lreturn, 1) := by decide +kernel
theorem dX11_formAt_19 : decode cX11_formAt 19 = .ok (.aload_n 0, 1) := by decide +kernel
theorem dX11_formAt_20 : decode cX11_formAt 20 = .ok (.aload_n 0, 1) := by decide +kernel
theorem dX11_formAt_21 : decode cX11_formAt 21 = .ok (.getfield 58, 3) := by decide +kernel
theorem dX11_formAt_24 : decode cX11_formAt 24 = .ok (.iload 5, 2) := by decide +kernel
theorem dX11_formAt_26 : decode cX11_formAt 26 = .ok (.laload, 1) := by decide +kernel
theorem dX11_formAt_27 : decode cX11_formAt 27 = .ok (.invokevirtual 211, 3) := by decide +kernel
theorem dX11_formAt_30 : decode cX11_formAt 30 = .ok (.aload_n 0, 1) := by decide +kernel
theorem dX11_formAt_31 : decode cX11_formAt 31 = .ok (.iload_n 1, 1) := by decide +kernel
theorem dX11_formAt_32 : decode cX11_formAt 32 = .ok (.iload_n 2, 1) := by decide +kernel
theorem dX11_formAt_33 : decode cX11_formAt 33 = .ok (.iload 4, 2) := by decide +kernel
theorem dX11_formAt_35 : decode cX11_formAt 35 = .ok (.invokevirtual 215, 3) := by decide +kernel
theorem dX11_formAt_38 : decode cX11_formAt 38 = .ok (.istore 6, 2) := by decide +kernel
theorem dX11_formAt_40 : decode cX11_formAt 40 = .ok (.iconst (-1), 1) := by decide +kernel
theorem dX11_formAt_41 : decode cX11_formAt 41 = .ok (.istore 7, 2) := by decide +kernel
theorem dX11_formAt_43 : decode cX11_formAt 43 = .ok (.iconst 1, 1) := by decide +kernel
theorem dX11_formAt_44 : decode cX11_formAt 44 = .ok (.istore 8, 2) := by decide +kernel
theorem dX11_formAt_46 : decode cX11_formAt 46 = .ok (.iload 8, 2) := by decide +kernel
theorem dX11_formAt_48 : decode cX11_formAt 48 = .ok (.ifCond .eq 221, 3) := by decide +kernel
theorem dX11_formAt_51 : decode cX11_formAt 51 = .ok (.iconst (-1), 1) := by decide +kernel
theorem dX11_formAt_52 : decode cX11_formAt 52 = .ok (.istore 9, 2) := by decide +kernel
theorem dX11_formAt_54 : decode cX11_formAt 54 = .ok (.iconst 0, 1) := by decide +kernel
theorem dX11_formAt_55 : decode cX11_formAt 55 = .ok (.istore 10, 2) := by decide +kernel
theorem dX11_formAt_57 : decode cX11_formAt 57 = .ok (.iload 10, 2) := by decide +kernel
theorem dX11_formAt_59 : decode cX11_formAt 59 = .ok (.aload_n 0, 1) := by decide +kernel
theorem dX11_formAt_60 : decode cX11_formAt 60 = .ok (.getfield 219, 3) := by decide +kernel
theorem dX11_formAt_63 : decode cX11_formAt 63 = .ok (.if_icmp .ge 175, 3) := by decide +kernel
theorem dX11_formAt_66 : decode cX11_formAt 66 = .ok (.aload_n 0, 1) := by decide +kernel
theorem dX11_formAt_67 : decode cX11_formAt 67 = .ok (.getfield 71, 3) := by decide +kernel
theorem dX11_formAt_70 : decode cX11_formAt 70 = .ok (.iload 10, 2) := by decide +kernel
theorem dX11_formAt_72 : decode cX11_formAt 72 = .ok (.iaload, 1) := by decide +kernel
theorem dX11_formAt_73 : decode cX11_formAt 73 = .ok (.iload_n 2, 1) := by decide +kernel
theorem dX11_formAt_74 : decode cX11_formAt 74 = .ok (.if_icmp .ne 59, 3) := by decide +kernel
theorem dX11_formAt_77 : decode cX11_formAt 77 = .ok (.aload_n 0, 1) := by decide +kernel
theorem dX11_formAt_78 : decode cX11_formAt 78 = .ok (.getfield 86, 3) := by decide +kernel
theorem dX11_formAt_81 : decode cX11_formAt 81 = .ok (.iload 10, 2) := by decide +kernel
theorem dX11_formAt_83 : decode cX11_formAt 83 = .ok (.iaload, 1) := by decide +kernel
theorem dX11_formAt_84 : decode cX11_formAt 84 = .ok (.iload 4, 2) := by decide +kernel
theorem dX11_formAt_86 : decode cX11_formAt 86 = .ok (.if_icmp .gt 47, 3) := by decide +kernel
theorem dX11_formAt_89 : decode cX11_formAt 89 = .ok (.aload_n 0, 1) := by decide +kernel
theorem dX11_formAt_90 : decode cX11_formAt 90 = .ok (.getfield 74, 3) := by decide +kernel
theorem dX11_formAt_93 : decode cX11_formAt 93 = .ok (.iload 10, 2) := by decide +kernel
theorem dX11_formAt_95 : decode cX11_formAt 95 = .ok (.iaload, 1) := by decide +kernel
theorem dX11_formAt_96 : decode cX11_formAt 96 = .ok (.aload_n 0, 1) := by decide +kernel
theorem dX11_formAt_97 : decode cX11_formAt 97 = .ok (.getfield 62, 3) := by decide +kernel
theorem dX11_formAt_100 : decode cX11_formAt 100 = .ok (.iload 5, 2) := by decide +kernel
theorem dX11_formAt_102 : decode cX11_formAt 102 = .ok (.iaload, 1) := by decide +kernel
theorem dX11_formAt_103 : decode cX11_formAt 103 = .ok (.if_icmp .le 30, 3) := by decide +kernel
theorem dX11_formAt_106 : decode cX11_formAt 106 = .ok (.aload_n 0, 1) := by decide +kernel
theorem dX11_formAt_107 : decode cX11_formAt 107 = .ok (.getfield 74, 3) := by decide +kernel
theorem dX11_formAt_110 : decode cX11_formAt 110 = .ok (.iload 10, 2) := by decide +kernel
theorem dX11_formAt_112 : decode cX11_formAt 112 = .ok (.iaload, 1) := by decide +kernel
theorem dX11_formAt_113 : decode cX11_formAt 113 = .ok (.iload_n 3, 1) := by decide +kernel
theorem dX11_formAt_114 : decode cX11_formAt 114 = .ok (.if_icmp .gt 19, 3) := by decide +kernel
theorem dX11_formAt_117 : decode cX11_formAt 117 = .ok (.aload_n 0, 1) := by decide +kernel
theorem dX11_formAt_118 : decode cX11_formAt 118 = .ok (.getfield 74, 3) := by decide +kernel
theorem dX11_formAt_121 : decode cX11_formAt 121 = .ok (.iload 10, 2) := by decide +kernel
theorem dX11_formAt_123 : decode cX11_formAt 123 = .ok (.iaload, 1) := by decide +kernel
theorem dX11_formAt_124 : decode cX11_formAt 124 = .ok (.iload 6, 2) := by decide +kernel
theorem dX11_formAt_126 : decode cX11_formAt 126 = .ok (.if_icmp .ge 7, 3) := by decide +kernel
theorem dX11_formAt_129 : decode cX11_formAt 129 = .ok (.iconst 1, 1) := by decide +kernel
theorem dX11_formAt_130 : decode cX11_formAt 130 = .ok (.goto 4, 3) := by decide +kernel
theorem dX11_formAt_133 : decode cX11_formAt 133 = .ok (.iconst 0, 1) := by decide +kernel
theorem dX11_formAt_134 : decode cX11_formAt 134 = .ok (.istore 11, 2) := by decide +kernel
theorem dX11_formAt_136 : decode cX11_formAt 136 = .ok (.iload 7, 2) := by decide +kernel
theorem dX11_formAt_138 : decode cX11_formAt 138 = .ok (.iconst (-1), 1) := by decide +kernel
theorem dX11_formAt_139 : decode cX11_formAt 139 = .ok (.if_icmp .eq 44, 3) := by decide +kernel
theorem dX11_formAt_142 : decode cX11_formAt 142 = .ok (.aload_n 0, 1) := by decide +kernel
theorem dX11_formAt_143 : decode cX11_formAt 143 = .ok (.getfield 74, 3) := by decide +kernel
theorem dX11_formAt_146 : decode cX11_formAt 146 = .ok (.iload 10, 2) := by decide +kernel
theorem dX11_formAt_148 : decode cX11_formAt 148 = .ok (.iaload, 1) := by decide +kernel
theorem dX11_formAt_149 : decode cX11_formAt 149 = .ok (.aload_n 0, 1) := by decide +kernel
theorem dX11_formAt_150 : decode cX11_formAt 150 = .ok (.getfield 74, 3) := by decide +kernel
theorem dX11_formAt_153 : decode cX11_formAt 153 = .ok (.iload 7, 2) := by decide +kernel
theorem dX11_formAt_155 : decode cX11_formAt 155 = .ok (.iaload, 1) := by decide +kernel
theorem dX11_formAt_156 : decode cX11_formAt 156 = .ok (.if_icmp .gt 27, 3) := by decide +kernel
theorem dX11_formAt_159 : decode cX11_formAt 159 = .ok (.aload_n 0, 1) := by decide +kernel
theorem dX11_formAt_160 : decode cX11_formAt 160 = .ok (.getfield 74, 3) := by decide +kernel
theorem dX11_formAt_163 : decode cX11_formAt 163 = .ok (.iload 10, 2) := by decide +kernel
theorem dX11_formAt_165 : decode cX11_formAt 165 = .ok (.iaload, 1) := by decide +kernel
theorem dX11_formAt_166 : decode cX11_formAt 166 = .ok (.aload_n 0, 1) := by decide +kernel
theorem dX11_formAt_167 : decode cX11_formAt 167 = .ok (.getfield 74, 3) := by decide +kernel
theorem dX11_formAt_170 : decode cX11_formAt 170 = .ok (.iload 7, 2) := by decide +kernel
theorem dX11_formAt_172 : decode cX11_formAt 172 = .ok (.iaload, 1) := by decide +kernel
theorem dX11_formAt_173 : decode cX11_formAt 173 = .ok (.if_icmp .ne 14, 3) := by decide +kernel
theorem dX11_formAt_176 : decode cX11_formAt 176 = .ok (.iload 10, 2) := by decide +kernel
theorem dX11_formAt_178 : decode cX11_formAt 178 = .ok (.iload 7, 2) := by decide +kernel
theorem dX11_formAt_180 : decode cX11_formAt 180 = .ok (.if_icmp .le 7, 3) := by decide +kernel
theorem dX11_formAt_183 : decode cX11_formAt 183 = .ok (.iconst 1, 1) := by decide +kernel
theorem dX11_formAt_184 : decode cX11_formAt 184 = .ok (.goto 4, 3) := by decide +kernel
theorem dX11_formAt_187 : decode cX11_formAt 187 = .ok (.iconst 0, 1) := by decide +kernel
theorem dX11_formAt_188 : decode cX11_formAt 188 = .ok (.istore 12, 2) := by decide +kernel
theorem dX11_formAt_190 : decode cX11_formAt 190 = .ok (.iload 11, 2) := by decide +kernel
theorem dX11_formAt_192 : decode cX11_formAt 192 = .ok (.ifCond .eq 36, 3) := by decide +kernel
theorem dX11_formAt_195 : decode cX11_formAt 195 = .ok (.iload 12, 2) := by decide +kernel
theorem dX11_formAt_197 : decode cX11_formAt 197 = .ok (.ifCond .eq 31, 3) := by decide +kernel
theorem dX11_formAt_200 : decode cX11_formAt 200 = .ok (.iload 9, 2) := by decide +kernel
theorem dX11_formAt_202 : decode cX11_formAt 202 = .ok (.iconst (-1), 1) := by decide +kernel
theorem dX11_formAt_203 : decode cX11_formAt 203 = .ok (.if_icmp .eq 20, 3) := by decide +kernel
theorem dX11_formAt_206 : decode cX11_formAt 206 = .ok (.aload_n 0, 1) := by decide +kernel
theorem dX11_formAt_207 : decode cX11_formAt 207 = .ok (.getfield 74, 3) := by decide +kernel
theorem dX11_formAt_210 : decode cX11_formAt 210 = .ok (.iload 10, 2) := by decide +kernel
theorem dX11_formAt_212 : decode cX11_formAt 212 = .ok (.iaload, 1) := by decide +kernel
theorem dX11_formAt_213 : decode cX11_formAt 213 = .ok (.aload_n 0, 1) := by decide +kernel
theorem dX11_formAt_214 : decode cX11_formAt 214 = .ok (.getfield 74, 3) := by decide +kernel
theorem dX11_formAt_217 : decode cX11_formAt 217 = .ok (.iload 9, 2) := by decide +kernel
theorem dX11_formAt_219 : decode cX11_formAt 219 = .ok (.iaload, 1) := by decide +kernel
theorem dX11_formAt_220 : decode cX11_formAt 220 = .ok (.if_icmp .ge 8, 3) := by decide +kernel
theorem dX11_formAt_223 : decode cX11_formAt 223 = .ok (.iload 10, 2) := by decide +kernel
theorem dX11_formAt_225 : decode cX11_formAt 225 = .ok (.goto 5, 3) := by decide +kernel
theorem dX11_formAt_228 : decode cX11_formAt 228 = .ok (.iload 9, 2) := by decide +kernel
theorem dX11_formAt_230 : decode cX11_formAt 230 = .ok (.istore 9, 2) := by decide +kernel
theorem dX11_formAt_232 : decode cX11_formAt 232 = .ok (.iinc 10 1, 3) := by decide +kernel
theorem dX11_formAt_235 : decode cX11_formAt 235 = .ok (.goto (-178), 3) := by decide +kernel
theorem dX11_formAt_238 : decode cX11_formAt 238 = .ok (.iload 9, 2) := by decide +kernel
theorem dX11_formAt_240 : decode cX11_formAt 240 = .ok (.iconst (-1), 1) := by decide +kernel
theorem dX11_formAt_241 : decode cX11_formAt 241 = .ok (.if_icmp .eq 7, 3) := by decide +kernel
theorem dX11_formAt_244 : decode cX11_formAt 244 = .ok (.iconst 1, 1) := by decide +kernel
theorem dX11_formAt_245 : decode cX11_formAt 245 = .ok (.goto 4, 3) := by decide +kernel
theorem dX11_formAt_248 : decode cX11_formAt 248 = .ok (.iconst 0, 1) := by decide +kernel
theorem dX11_formAt_249 : decode cX11_formAt 249 = .ok (.istore 8, 2) := by decide +kernel
theorem dX11_formAt_251 : decode cX11_formAt 251 = .ok (.iload 9, 2) := by decide +kernel
theorem dX11_formAt_253 : decode cX11_formAt 253 = .ok (.istore 7, 2) := by decide +kernel
theorem dX11_formAt_255 : decode cX11_formAt 255 = .ok (.iload 8, 2) := by decide +kernel
theorem dX11_formAt_257 : decode cX11_formAt 257 = .ok (.ifCond .eq 9, 3) := by decide +kernel
theorem dX11_formAt_260 : decode cX11_formAt 260 = .ok (.aload_n 0, 1) := by decide +kernel
theorem dX11_formAt_261 : decode cX11_formAt 261 = .ok (.iload 9, 2) := by decide +kernel
theorem dX11_formAt_263 : decode cX11_formAt 263 = .ok (.invokevirtual 222, 3) := by decide +kernel
theorem dX11_formAt_266 : decode cX11_formAt 266 = .ok (.goto (-220), 3) := by decide +kernel
theorem dX11_formAt_269 : decode cX11_formAt 269 = .ok (.aload_n 0, 1) := by decide +kernel
theorem dX11_formAt_270 : decode cX11_formAt 270 = .ok (.invokevirtual 226, 3) := by decide +kernel
theorem dX11_formAt_273 : decode cX11_formAt 273 = .ok (.lreturn, 1) := by decide +kernel
theorem dX11_feature_0 : decode cX11_feature 0 = .ok (.aload_n 0, 1) := by decide +kernel
theorem dX11_feature_1 : decode cX11_feature 1 = .ok (.iload_n 1, 1) := by decide +kernel
theorem dX11_feature_2 : decode cX11_feature 2 = .ok (.iconst 0, 1) := by decide +kernel
theorem dX11_feature_3 : decode cX11_feature 3 = .ok (.iconst 5, 1) := by decide +kernel
theorem dX11_feature_4 : decode cX11_feature 4 = .ok (.invokestatic 189, 3) := by decide +kernel
theorem dX11_feature_7 : decode cX11_feature 7 = .ok (.ifCond .eq 11, 3) := by decide +kernel
theorem dX11_feature_10 : decode cX11_feature 10 = .ok (.iload_n 2, 1) := by decide +kernel
theorem dX11_feature_11 : decode cX11_feature 11 = .ok (.iload_n 3, 1) := by decide +kernel
theorem dX11_feature_12 : decode cX11_feature 12 = .ok (.invokestatic 230, 3) := by decide +kernel
theorem dX11_feature_15 : decode cX11_feature 15 = .ok (.ifCond .ne 7, 3) := by decide +kernel
theorem dX11_feature_18 : decode cX11_feature 18 = .ok (.iconst 1, 1) := by decide +kernel
theorem dX11_feature_19 : decode cX11_feature 19 = .ok (.goto 17, 3) := by decide +kernel
theorem dX11_feature_22 : decode cX11_feature 22 = .ok (.aload_n 0, 1) := by decide +kernel
theorem dX11_feature_23 : decode cX11_feature 23 = .ok (.getfield 186, 3) := by decide +kernel
theorem dX11_feature_26 : decode cX11_feature 26 = .ok (.bipush 24, 2) := by decide +kernel
theorem dX11_feature_28 : decode cX11_feature 28 = .ok (.if_icmp .ne 7, 3) := by decide +kernel
theorem dX11_feature_31 : decode cX11_feature 31 = .ok (.iconst 2, 1) := by decide +kernel
theorem dX11_feature_32 : decode cX11_feature 32 = .ok (.goto 4, 3) := by decide +kernel
theorem dX11_feature_35 : decode cX11_feature 35 = .ok (.iconst 0, 1) := by decide +kernel
theorem dX11_feature_36 : decode cX11_feature 36 = .ok (.invokevirtual 234, 3) := by decide +kernel
theorem dX11_feature_39 : decode cX11_feature 39 = .ok (.ifCond .ne 5, 3) := by decide +kernel
theorem dX11_feature_42 : decode cX11_feature 42 = .ok (.iconst 0, 1) := by decide +kernel
theorem dX11_feature_43 : decode cX11_feature 43 = .ok (.ireturn, 1) := by decide +kernel
theorem dX11_feature_44 : decode cX11_feature 44 = .ok (.aload_n 0, 1) := by decide +kernel
theorem dX11_feature_45 : decode cX11_feature 45 = .ok (.getfield 7, 3) := by decide +kernel
theorem dX11_feature_48 : decode cX11_feature 48 = .ok (.aload_n 0, 1) := by decide +kernel
theorem dX11_feature_49 : decode cX11_feature 49 = .ok (.getfield 186, 3) := by decide +kernel
theorem dX11_feature_52 : decode cX11_feature 52 = .ok (.iload_n 1, 1) := by decide +kernel
theorem dX11_feature_53 : decode cX11_feature 53 = .ok (.iastore, 1) := by decide +kernel
theorem dX11_feature_54 : decode cX11_feature 54 = .ok (.aload_n 0, 1) := by decide +kernel
theorem dX11_feature_55 : decode cX11_feature 55 = .ok (.getfield 13, 3) := by decide +kernel
theorem dX11_feature_58 : decode cX11_feature 58 = .ok (.aload_n 0, 1) := by decide +kernel
theorem dX11_feature_59 : decode cX11_feature 59 = .ok (.getfield 186, 3) := by decide +kernel
theorem dX11_feature_62 : decode cX11_feature 62 = .ok (.aload_n 0, 1) := by decide +kernel
theorem dX11_feature_63 : decode cX11_feature 63 = .ok (.getfield 238, 3) := by decide +kernel
theorem dX11_feature_66 : decode cX11_feature 66 = .ok (.iastore, 1) := by decide +kernel
theorem dX11_feature_67 : decode cX11_feature 67 = .ok (.aload_n 0, 1) := by decide +kernel
theorem dX11_feature_68 : decode cX11_feature 68 = .ok (.getfield 43, 3) := by decide +kernel
theorem dX11_feature_71 : decode cX11_feature 71 = .ok (.aload_n 0, 1) := by decide +kernel
theorem dX11_feature_72 : decode cX11_feature 72 = .ok (.getfield 186, 3) := by decide +kernel
theorem dX11_feature_75 : decode cX11_feature 75 = .ok (.iconst (-1), 1) := by decide +kernel
theorem dX11_feature_76 : decode cX11_feature 76 = .ok (.iastore, 1) := by decide +kernel
theorem dX11_feature_77 : decode cX11_feature 77 = .ok (.aload_n 0, 1) := by decide +kernel
theorem dX11_feature_78 : decode cX11_feature 78 = .ok (.dup, 1) := by decide +kernel
theorem dX11_feature_79 : decode cX11_feature 79 = .ok (.getfield 186, 3) := by decide +kernel
theorem dX11_feature_82 : decode cX11_feature 82 = .ok (.iconst 1, 1) := by decide +kernel
theorem dX11_feature_83 : decode cX11_feature 83 = .ok (.iadd, 1) := by decide +kernel
theorem dX11_feature_84 : decode cX11_feature 84 = .ok (.putfield 186, 3) := by decide +kernel
theorem dX11_feature_87 : decode cX11_feature 87 = .ok (.aload_n 0, 1) := by decide +kernel
theorem dX11_feature_88 : decode cX11_feature 88 = .ok (.aload_n 0, 1) := by decide +kernel
theorem dX11_feature_89 : decode cX11_feature 89 = .ok (.getfield 186, 3) := by decide +kernel
theorem dX11_feature_92 : decode cX11_feature 92 = .ok (.iconst 1, 1) := by decide +kernel
theorem dX11_feature_93 : decode cX11_feature 93 = .ok (.isub, 1) := by decide +kernel
theorem dX11_feature_94 : decode cX11_feature 94 = .ok (.iload_n 2, 1) := by decide +kernel
theorem dX11_feature_95 : decode cX11_feature 95 = .ok (.iload_n 3, 1) := by decide +kernel
theorem dX11_feature_96 : decode cX11_feature 96 = .ok (.aload_n 0, 1) := by decide +kernel
theorem dX11_feature_97 : decode cX11_feature 97 = .ok (.getfield 238, 3) := by decide +kernel
theorem dX11_feature_100 : decode cX11_feature 100 = .ok (.invokevirtual 241, 3) := by decide +kernel
theorem dX11_feature_103 : decode cX11_feature 103 = .ok (.aload_n 0, 1) := by decide +kernel
theorem dX11_feature_104 : decode cX11_feature 104 = .ok (.getfield 186, 3) := by decide +kernel
theorem dX11_feature_107 : decode cX11_feature 107 = .ok (.iconst 1, 1) := by decide +kernel
theorem dX11_feature_108 : decode cX11_feature 108 = .ok (.isub, 1) := by decide +kernel
theorem dX11_feature_109 : decode cX11_feature 109 = .ok (.ireturn, 1) := by decide +kernel
theorem dX11_places_0 : decode cX11_places 0 = .ok (.bipush 40, 2) := by decide +kernel
theorem dX11_places_2 : decode cX11_places 2 = .ok (.iload_n 1, 1) := by decide +kernel
theorem dX11_places_3 : decode cX11_places 3 = .ok (.imul, 1) := by decide +kernel
theorem dX11_places_4 : decode cX11_places 4 = .ok (.aload_n 0, 1) := by decide +kernel
theorem dX11_places_5 : decode cX11_places 5 = .ok (.getfield 16, 3) := by decide +kernel
theorem dX11_places_8 : decode cX11_places 8 = .ok (.iload_n 1, 1) := by decide +kernel
theorem dX11_places_9 : decode cX11_places 9 = .ok (.iaload, 1) := by decide +kernel
theorem dX11_places_10 : decode cX11_places 10 = .ok (.iadd, 1) := by decide +kernel
theorem dX11_places_11 : decode cX11_places 11 = .ok (.istore 5, 2) := by decide +kernel
theorem dX11_places_13 : decode cX11_places 13 = .ok (.aload_n 0, 1) := by decide +kernel
theorem dX11_places_14 : decode cX11_places 14 = .ok (.getfield 19, 3) := by decide +kernel
theorem dX11_places_17 : decode cX11_places 17 = .ok (.iload 5, 2) := by decide +kernel
theorem dX11_places_19 : decode cX11_places 19 = .ok (.iload_n 2, 1) := by decide +kernel
theorem dX11_places_20 : decode cX11_places 20 = .ok (.iastore, 1) := by decide +kernel
theorem dX11_places_21 : decode cX11_places 21 = .ok (.aload_n 0, 1) := by decide +kernel
theorem dX11_places_22 : decode cX11_places 22 = .ok (.getfield 22, 3) := by decide +kernel
theorem dX11_places_25 : decode cX11_places 25 = .ok (.iload 5, 2) := by decide +kernel
theorem dX11_places_27 : decode cX11_places 27 = .ok (.iload_n 3, 1) := by decide +kernel
theorem dX11_places_28 : decode cX11_places 28 = .ok (.iastore, 1) := by decide +kernel
theorem dX11_places_29 : decode cX11_places 29 = .ok (.aload_n 0, 1) := by decide +kernel
theorem dX11_places_30 : decode cX11_places 30 = .ok (.getfield 25, 3) := by decide +kernel
theorem dX11_places_33 : decode cX11_places 33 = .ok (.iload 5, 2) := by decide +kernel
theorem dX11_places_35 : decode cX11_places 35 = .ok (.iload 4, 2) := by decide +kernel
theorem dX11_places_37 : decode cX11_places 37 = .ok (.iastore, 1) := by decide +kernel
theorem dX11_places_38 : decode cX11_places 38 = .ok (.aload_n 0, 1) := by decide +kernel
theorem dX11_places_39 : decode cX11_places 39 = .ok (.getfield 28, 3) := by decide +kernel
theorem dX11_places_42 : decode cX11_places 42 = .ok (.iload 5, 2) := by decide +kernel
theorem dX11_places_44 : decode cX11_places 44 = .ok (.aload_n 0, 1) := by decide +kernel
theorem dX11_places_45 : decode cX11_places 45 = .ok (.getfield 238, 3) := by decide +kernel
theorem dX11_places_48 : decode cX11_places 48 = .ok (.iastore, 1) := by decide +kernel
theorem dX11_places_49 : decode cX11_places 49 = .ok (.aload_n 0, 1) := by decide +kernel
theorem dX11_places_50 : decode cX11_places 50 = .ok (.getfield 16, 3) := by decide +kernel
theorem dX11_places_53 : decode cX11_places 53 = .ok (.iload_n 1, 1) := by decide +kernel
theorem dX11_places_54 : decode cX11_places 54 = .ok (.dup2, 1) := by decide +kernel
theorem dX11_places_55 : decode cX11_places 55 = .ok (.iaload, 1) := by decide +kernel
theorem dX11_places_56 : decode cX11_places 56 = .ok (.iconst 1, 1) := by decide +kernel
theorem dX11_places_57 : decode cX11_places 57 = .ok (.iadd, 1) := by decide +kernel
theorem dX11_places_58 : decode cX11_places 58 = .ok (.iastore, 1) := by decide +kernel
theorem dX11_places_59 : decode cX11_places 59 = .ok (.return_, 1) := by decide +kernel
theorem dX11_move_0 : decode cX11_move 0 = .ok (.aload_n 0, 1) := by decide +kernel
theorem dX11_move_1 : decode cX11_move 1 = .ok (.aload_n 0, 1) := by decide +kernel
theorem dX11_move_2 : decode cX11_move 2 = .ok (.iload_n 1, 1) := by decide +kernel
theorem dX11_move_3 : decode cX11_move 3 = .ok (.invokevirtual 245, 3) := by decide +kernel
theorem dX11_move_6 : decode cX11_move 6 = .ok (.ifCond .ne 7, 3) := by decide +kernel
theorem dX11_move_9 : decode cX11_move 9 = .ok (.iconst 1, 1) := by decide +kernel
theorem dX11_move_10 : decode cX11_move 10 = .ok (.goto 39, 3) := by decide +kernel
theorem dX11_move_13 : decode cX11_move 13 = .ok (.iload_n 2, 1) := by decide +kernel
theorem dX11_move_14 : decode cX11_move 14 = .ok (.iload_n 3, 1) := by decide +kernel
theorem dX11_move_15 : decode cX11_move 15 = .ok (.invokestatic 230, 3) := by decide +kernel
theorem dX11_move_18 : decode cX11_move 18 = .ok (.ifCond .eq 11, 3) := by decide +kernel
theorem dX11_move_21 : decode cX11_move 21 = .ok (.iload 4, 2) := by decide +kernel
theorem dX11_move_23 : decode cX11_move 23 = .ok (.invokestatic 248, 3) := by decide +kernel
theorem dX11_move_26 : decode cX11_move 26 = .ok (.ifCond .ne 7, 3) := by decide +kernel
theorem dX11_move_29 : decode cX11_move 29 = .ok (.iconst 2, 1) := by decide +kernel
theorem dX11_move_30 : decode cX11_move 30 = .ok (.goto 19, 3) := by decide +kernel
theorem dX11_move_33 : decode cX11_move 33 = .ok (.aload_n 0, 1) := by decide +kernel
theorem dX11_move_34 : decode cX11_move 34 = .ok (.getfield 16, 3) := by decide +kernel
theorem dX11_move_37 : decode cX11_move 37 = .ok (.iload_n 1, 1) := by decide +kernel
theorem dX11_move_38 : decode cX11_move 38 = .ok (.iaload, 1) := by decide +kernel
theorem dX11_move_39 : decode cX11_move 39 = .ok (.bipush 40, 2) := by decide +kernel
theorem dX11_move_41 : decode cX11_move 41 = .ok (.if_icmp .ne 7, 3) := by decide +kernel
theorem dX11_move_44 : decode cX11_move 44 = .ok (.iconst 3, 1) := by decide +kernel
theorem dX11_move_45 : decode cX11_move 45 = .ok (.goto 4, 3) := by decide +kernel
theorem dX11_move_48 : decode cX11_move 48 = .ok (.iconst 0, 1) := by decide +kernel
theorem dX11_move_49 : decode cX11_move 49 = .ok (.invokevirtual 234, 3) := by decide +kernel
theorem dX11_move_52 : decode cX11_move 52 = .ok (.ifCond .eq 12, 3) := by decide +kernel
theorem dX11_move_55 : decode cX11_move 55 = .ok (.aload_n 0, 1) := by decide +kernel
theorem dX11_move_56 : decode cX11_move 56 = .ok (.iload_n 1, 1) := by decide +kernel
theorem dX11_move_57 : decode cX11_move 57 = .ok (.iload_n 2, 1) := by decide +kernel
theorem dX11_move_58 : decode cX11_move 58 = .ok (.iload_n 3, 1) := by decide +kernel
theorem dX11_move_59 : decode cX11_move 59 = .ok (.iload 4, 2) := by decide +kernel
theorem dX11_move_61 : decode cX11_move 61 = .ok (.invokevirtual 241, 3) := by decide +kernel
theorem dX11_move_64 : decode cX11_move 64 = .ok (.return_, 1) := by decide +kernel
theorem dX11_part_0 : decode cX11_part 0 = .ok (.aload_n 0, 1) := by decide +kernel
theorem dX11_part_1 : decode cX11_part 1 = .ok (.iload_n 1, 1) := by decide +kernel
theorem dX11_part_2 : decode cX11_part 2 = .ok (.invokevirtual 245, 3) := by decide +kernel
theorem dX11_part_5 : decode cX11_part 5 = .ok (.ifCond .eq 20, 3) := by decide +kernel
theorem dX11_part_8 : decode cX11_part 8 = .ok (.iload_n 2, 1) := by decide +kernel
theorem dX11_part_9 : decode cX11_part 9 = .ok (.iconst (-1), 1) := by decide +kernel
theorem dX11_part_10 : decode cX11_part 10 = .ok (.if_icmp .eq 11, 3) := by decide +kernel
theorem dX11_part_13 : decode cX11_part 13 = .ok (.aload_n 0, 1) := by decide +kernel
theorem dX11_part_14 : decode cX11_part 14 = .ok (.iload_n 2, 1) := by decide +kernel
theorem dX11_part_15 : decode cX11_part 15 = .ok (.invokevirtual 245, 3) := by decide +kernel
theorem dX11_part_18 : decode cX11_part 18 = .ok (.ifCond .eq 7, 3) := by decide +kernel
theorem dX11_part_21 : decode cX11_part 21 = .ok (.iconst 1, 1) := by decide +kernel
theorem dX11_part_22 : decode cX11_part 22 = .ok (.goto 4, 3) := by decide +kernel
theorem dX11_part_25 : decode cX11_part 25 = .ok (.iconst 0, 1) := by decide +kernel
theorem dX11_part_26 : decode cX11_part 26 = .ok (.istore 4, 2) := by decide +kernel
theorem dX11_part_28 : decode cX11_part 28 = .ok (.aload_n 0, 1) := by decide +kernel
theorem dX11_part_29 : decode cX11_part 29 = .ok (.iload 4, 2) := by decide +kernel
theorem dX11_part_31 : decode cX11_part 31 = .ok (.ifCond .ne 7, 3) := by decide +kernel
theorem dX11_part_34 : decode cX11_part 34 = .ok (.iconst 1, 1) := by decide +kernel
theorem dX11_part_35 : decode cX11_part 35 = .ok (.goto 35, 3) := by decide +kernel
theorem dX11_part_38 : decode cX11_part 38 = .ok (.iload_n 2, 1) := by decide +kernel
theorem dX11_part_39 : decode cX11_part 39 = .ok (.iload_n 1, 1) := by decide +kernel
theorem dX11_part_40 : decode cX11_part 40 = .ok (.if_icmp .ge 10, 3) := by decide +kernel
theorem dX11_part_43 : decode cX11_part 43 = .ok (.iload_n 3, 1) := by decide +kernel
theorem dX11_part_44 : decode cX11_part 44 = .ok (.invokestatic 248, 3) := by decide +kernel
theorem dX11_part_47 : decode cX11_part 47 = .ok (.ifCond .ne 7, 3) := by decide +kernel
theorem dX11_part_50 : decode cX11_part 50 = .ok (.iconst 2, 1) := by decide +kernel
theorem dX11_part_51 : decode cX11_part 51 = .ok (.goto 19, 3) := by decide +kernel
theorem dX11_part_54 : decode cX11_part 54 = .ok (.aload_n 0, 1) := by decide +kernel
theorem dX11_part_55 : decode cX11_part 55 = .ok (.getfield 31, 3) := by decide +kernel
theorem dX11_part_58 : decode cX11_part 58 = .ok (.iload_n 1, 1) := by decide +kernel
theorem dX11_part_59 : decode cX11_part 59 = .ok (.iaload, 1) := by decide +kernel
theorem dX11_part_60 : decode cX11_part 60 = .ok (.bipush 40, 2) := by decide +kernel
theorem dX11_part_62 : decode cX11_part 62 = .ok (.if_icmp .ne 7, 3) := by decide +kernel
theorem dX11_part_65 : decode cX11_part 65 = .ok (.iconst 3, 1) := by decide +kernel
theorem dX11_part_66 : decode cX11_part 66 = .ok (.goto 4, 3) := by decide +kernel
theorem dX11_part_69 : decode cX11_part 69 = .ok (.iconst 0, 1) := by decide +kernel
theorem dX11_part_70 : decode cX11_part 70 = .ok (.invokevirtual 234, 3) := by decide +kernel
theorem dX11_part_73 : decode cX11_part 73 = .ok (.ifCond .eq 53, 3) := by decide +kernel
theorem dX11_part_76 : decode cX11_part 76 = .ok (.bipush 40, 2) := by decide +kernel
theorem dX11_part_78 : decode cX11_part 78 = .ok (.iload_n 1, 1) := by decide +kernel
theorem dX11_part_79 : decode cX11_part 79 = .ok (.imul, 1) := by decide +kernel
theorem dX11_part_80 : decode cX11_part 80 = .ok (.aload_n 0, 1) := by decide +kernel
theorem dX11_part_81 : decode cX11_part 81 = .ok (.getfield 31, 3) := by decide +kernel
theorem dX11_part_84 : decode cX11_part 84 = .ok (.iload_n 1, 1) := by decide +kernel
theorem dX11_part_85 : decode cX11_part 85 = .ok (.iaload, 1) := by decide +kernel
theorem dX11_part_86 : decode cX11_part 86 = .ok (.iadd, 1) := by decide +kernel
theorem dX11_part_87 : decode cX11_part 87 = .ok (.istore 5, 2) := by decide +kernel
theorem dX11_part_89 : decode cX11_part 89 = .ok (.aload_n 0, 1) := by decide +kernel
theorem dX11_part_90 : decode cX11_part 90 = .ok (.getfield 34, 3) := by decide +kernel
theorem dX11_part_93 : decode cX11_part 93 = .ok (.iload 5, 2) := by decide +kernel
theorem dX11_part_95 : decode cX11_part 95 = .ok (.iload_n 2, 1) := by decide +kernel
theorem dX11_part_96 : decode cX11_part 96 = .ok (.iastore, 1) := by decide +kernel
theorem dX11_part_97 : decode cX11_part 97 = .ok (.aload_n 0, 1) := by decide +kernel
theorem dX11_part_98 : decode cX11_part 98 = .ok (.getfield 37, 3) := by decide +kernel
theorem dX11_part_101 : decode cX11_part 101 = .ok (.iload 5, 2) := by decide +kernel
theorem dX11_part_103 : decode cX11_part 103 = .ok (.iload_n 3, 1) := by decide +kernel
theorem dX11_part_104 : decode cX11_part 104 = .ok (.iastore, 1) := by decide +kernel
theorem dX11_part_105 : decode cX11_part 105 = .ok (.aload_n 0, 1) := by decide +kernel
theorem dX11_part_106 : decode cX11_part 106 = .ok (.getfield 40, 3) := by decide +kernel
theorem dX11_part_109 : decode cX11_part 109 = .ok (.iload 5, 2) := by decide +kernel
theorem dX11_part_111 : decode cX11_part 111 = .ok (.aload_n 0, 1) := by decide +kernel
theorem dX11_part_112 : decode cX11_part 112 = .ok (.getfield 238, 3) := by decide +kernel
theorem dX11_part_115 : decode cX11_part 115 = .ok (.iastore, 1) := by decide +kernel
theorem dX11_part_116 : decode cX11_part 116 = .ok (.aload_n 0, 1) := by decide +kernel
theorem dX11_part_117 : decode cX11_part 117 = .ok (.getfield 31, 3) := by decide +kernel
theorem dX11_part_120 : decode cX11_part 120 = .ok (.iload_n 1, 1) := by decide +kernel
theorem dX11_part_121 : decode cX11_part 121 = .ok (.dup2, 1) := by decide +kernel
theorem dX11_part_122 : decode cX11_part 122 = .ok (.iaload, 1) := by decide +kernel
theorem dX11_part_123 : decode cX11_part 123 = .ok (.iconst 1, 1) := by decide +kernel
theorem dX11_part_124 : decode cX11_part 124 = .ok (.iadd, 1) := by decide +kernel
theorem dX11_part_125 : decode cX11_part 125 = .ok (.iastore, 1) := by decide +kernel
theorem dX11_part_126 : decode cX11_part 126 = .ok (.return_, 1) := by decide +kernel
theorem dX11_end_0 : decode cX11_end 0 = .ok (.aload_n 0, 1) := by decide +kernel
theorem dX11_end_1 : decode cX11_end 1 = .ok (.iload_n 1, 1) := by decide +kernel
theorem dX11_end_2 : decode cX11_end 2 = .ok (.invokevirtual 245, 3) := by decide +kernel
theorem dX11_end_5 : decode cX11_end 5 = .ok (.ifCond .eq 20, 3) := by decide +kernel
theorem dX11_end_8 : decode cX11_end 8 = .ok (.iload_n 2, 1) := by decide +kernel
theorem dX11_end_9 : decode cX11_end 9 = .ok (.iconst (-1), 1) := by decide +kernel
theorem dX11_end_10 : decode cX11_end 10 = .ok (.if_icmp .eq 11, 3) := by decide +kernel
theorem dX11_end_13 : decode cX11_end 13 = .ok (.aload_n 0, 1) := by decide +kernel
theorem dX11_end_14 : decode cX11_end 14 = .ok (.iload_n 2, 1) := by decide +kernel
theorem dX11_end_15 : decode cX11_end 15 = .ok (.invokevirtual 245, 3) := by decide +kernel
theorem dX11_end_18 : decode cX11_end 18 = .ok (.ifCond .eq 7, 3) := by decide +kernel
theorem dX11_end_21 : decode cX11_end 21 = .ok (.iconst 1, 1) := by decide +kernel
theorem dX11_end_22 : decode cX11_end 22 = .ok (.goto 4, 3) := by decide +kernel
theorem dX11_end_25 : decode cX11_end 25 = .ok (.iconst 0, 1) := by decide +kernel
theorem dX11_end_26 : decode cX11_end 26 = .ok (.istore 4, 2) := by decide +kernel
theorem dX11_end_28 : decode cX11_end 28 = .ok (.aload_n 0, 1) := by decide +kernel
theorem dX11_end_29 : decode cX11_end 29 = .ok (.iload 4, 2) := by decide +kernel
theorem dX11_end_31 : decode cX11_end 31 = .ok (.ifCond .ne 7, 3) := by decide +kernel
theorem dX11_end_34 : decode cX11_end 34 = .ok (.iconst 1, 1) := by decide +kernel
theorem dX11_end_35 : decode cX11_end 35 = .ok (.goto 34, 3) := by decide +kernel
theorem dX11_end_38 : decode cX11_end 38 = .ok (.iload_n 1, 1) := by decide +kernel
theorem dX11_end_39 : decode cX11_end 39 = .ok (.iload_n 2, 1) := by decide +kernel
theorem dX11_end_40 : decode cX11_end 40 = .ok (.if_icmp .eq 10, 3) := by decide +kernel
theorem dX11_end_43 : decode cX11_end 43 = .ok (.iload_n 3, 1) := by decide +kernel
theorem dX11_end_44 : decode cX11_end 44 = .ok (.invokestatic 248, 3) := by decide +kernel
theorem dX11_end_47 : decode cX11_end 47 = .ok (.ifCond .ne 7, 3) := by decide +kernel
theorem dX11_end_50 : decode cX11_end 50 = .ok (.iconst 2, 1) := by decide +kernel
theorem dX11_end_51 : decode cX11_end 51 = .ok (.goto 18, 3) := by decide +kernel
theorem dX11_end_54 : decode cX11_end 54 = .ok (.aload_n 0, 1) := by decide +kernel
theorem dX11_end_55 : decode cX11_end 55 = .ok (.getfield 43, 3) := by decide +kernel
theorem dX11_end_58 : decode cX11_end 58 = .ok (.iload_n 1, 1) := by decide +kernel
theorem dX11_end_59 : decode cX11_end 59 = .ok (.iaload, 1) := by decide +kernel
theorem dX11_end_60 : decode cX11_end 60 = .ok (.iconst (-1), 1) := by decide +kernel
theorem dX11_end_61 : decode cX11_end 61 = .ok (.if_icmp .eq 7, 3) := by decide +kernel
theorem dX11_end_64 : decode cX11_end 64 = .ok (.iconst 3, 1) := by decide +kernel
theorem dX11_end_65 : decode cX11_end 65 = .ok (.goto 4, 3) := by decide +kernel
theorem dX11_end_68 : decode cX11_end 68 = .ok (.iconst 0, 1) := by decide +kernel
theorem dX11_end_69 : decode cX11_end 69 = .ok (.invokevirtual 234, 3) := by decide +kernel
theorem dX11_end_72 : decode cX11_end 72 = .ok (.ifCond .eq 27, 3) := by decide +kernel
theorem dX11_end_75 : decode cX11_end 75 = .ok (.aload_n 0, 1) := by decide +kernel
theorem dX11_end_76 : decode cX11_end 76 = .ok (.getfield 43, 3) := by decide +kernel
theorem dX11_end_79 : decode cX11_end 79 = .ok (.iload_n 1, 1) := by decide +kernel
theorem dX11_end_80 : decode cX11_end 80 = .ok (.iload_n 3, 1) := by decide +kernel
theorem dX11_end_81 : decode cX11_end 81 = .ok (.iastore, 1) := by decide +kernel
theorem dX11_end_82 : decode cX11_end 82 = .ok (.aload_n 0, 1) := by decide +kernel
theorem dX11_end_83 : decode cX11_end 83 = .ok (.getfield 46, 3) := by decide +kernel
theorem dX11_end_86 : decode cX11_end 86 = .ok (.iload_n 1, 1) := by decide +kernel
theorem dX11_end_87 : decode cX11_end 87 = .ok (.iload_n 2, 1) := by decide +kernel
theorem dX11_end_88 : decode cX11_end 88 = .ok (.iastore, 1) := by decide +kernel
theorem dX11_end_89 : decode cX11_end 89 = .ok (.aload_n 0, 1) := by decide +kernel
theorem dX11_end_90 : decode cX11_end 90 = .ok (.getfield 49, 3) := by decide +kernel
theorem dX11_end_93 : decode cX11_end 93 = .ok (.iload_n 1, 1) := by decide +kernel
theorem dX11_end_94 : decode cX11_end 94 = .ok (.aload_n 0, 1) := by decide +kernel
theorem dX11_end_95 : decode cX11_end 95 = .ok (.getfield 238, 3) := by decide +kernel
theorem dX11_end_98 : decode cX11_end 98 = .ok (.iastore, 1) := by decide +kernel
theorem dX11_end_99 : decode cX11_end 99 = .ok (.return_, 1) := by decide +kernel
theorem dX11_of_0 : decode cX11_of 0 = .ok (.aload_n 0, 1) := by decide +kernel
theorem dX11_of_1 : decode cX11_of 1 = .ok (.aload_n 0, 1) := by decide +kernel
theorem dX11_of_2 : decode cX11_of 2 = .ok (.iload_n 1, 1) := by decide +kernel
theorem dX11_of_3 : decode cX11_of 3 = .ok (.invokevirtual 245, 3) := by decide +kernel
theorem dX11_of_6 : decode cX11_of 6 = .ok (.ifCond .ne 7, 3) := by decide +kernel
theorem dX11_of_9 : decode cX11_of 9 = .ok (.iconst 1, 1) := by decide +kernel
theorem dX11_of_10 : decode cX11_of 10 = .ok (.goto 32, 3) := by decide +kernel
theorem dX11_of_13 : decode cX11_of 13 = .ok (.iload_n 2, 1) := by decide +kernel
theorem dX11_of_14 : decode cX11_of 14 = .ok (.iconst 0, 1) := by decide +kernel
theorem dX11_of_15 : decode cX11_of 15 = .ok (.iconst 4, 1) := by decide +kernel
theorem dX11_of_16 : decode cX11_of 16 = .ok (.invokestatic 189, 3) := by decide +kernel
theorem dX11_of_19 : decode cX11_of 19 = .ok (.ifCond .eq 22, 3) := by decide +kernel
theorem dX11_of_22 : decode cX11_of 22 = .ok (.iload_n 3, 1) := by decide +kernel
theorem dX11_of_23 : decode cX11_of 23 = .ok (.invokestatic 248, 3) := by decide +kernel
theorem dX11_of_26 : decode cX11_of 26 = .ok (.ifCond .eq 15, 3) := by decide +kernel
theorem dX11_of_29 : decode cX11_of 29 = .ok (.iload 4, 2) := by decide +kernel
theorem dX11_of_31 : decode cX11_of 31 = .ok (.invokestatic 248, 3) := by decide +kernel
theorem dX11_of_34 : decode cX11_of 34 = .ok (.ifCond .eq 7, 3) := by decide +kernel
theorem dX11_of_37 : decode cX11_of 37 = .ok (.iconst 0, 1) := by decide +kernel
theorem dX11_of_38 : decode cX11_of 38 = .ok (.goto 4, 3) := by decide +kernel
theorem dX11_of_41 : decode cX11_of 41 = .ok (.iconst 2, 1) := by decide +kernel
theorem dX11_of_42 : decode cX11_of 42 = .ok (.invokevirtual 234, 3) := by decide +kernel
theorem dX11_of_45 : decode cX11_of 45 = .ok (.ifCond .ne 5, 3) := by decide +kernel
theorem dX11_of_48 : decode cX11_of 48 = .ok (.iconst 0, 1) := by decide +kernel
theorem dX11_of_49 : decode cX11_of 49 = .ok (.ireturn, 1) := by decide +kernel
theorem dX11_of_50 : decode cX11_of 50 = .ok (.aload_n 0, 1) := by decide +kernel
theorem dX11_of_51 : decode cX11_of 51 = .ok (.iload_n 1, 1) := by decide +kernel
theorem dX11_of_52 : decode cX11_of 52 = .ok (.iload_n 3, 1) := by decide +kernel
theorem dX11_of_53 : decode cX11_of 53 = .ok (.iload 4, 2) := by decide +kernel
theorem dX11_of_55 : decode cX11_of 55 = .ok (.invokevirtual 251, 3) := by decide +kernel
theorem dX11_of_58 : decode cX11_of 58 = .ok (.istore 5, 2) := by decide +kernel
theorem dX11_of_60 : decode cX11_of 60 = .ok (.iload_n 2, 1) := by decide +kernel
theorem dX11_of_61 : decode cX11_of 61 = .ok (.iconst 3, 1) := by decide +kernel
theorem dX11_of_62 : decode cX11_of 62 = .ok (.if_icmp .ge 59, 3) := by decide +kernel
theorem dX11_of_65 : decode cX11_of 65 = .ok (.iload_n 2, 1) := by decide +kernel
theorem dX11_of_66 : decode cX11_of 66 = .ok (.ifCond .ne 22, 3) := by decide +kernel
theorem dX11_of_69 : decode cX11_of 69 = .ok (.aload_n 0, 1) := by decide +kernel
theorem dX11_of_70 : decode cX11_of 70 = .ok (.iload_n 1, 1) := by decide +kernel
theorem dX11_of_71 : decode cX11_of 71 = .ok (.iload_n 3, 1) := by decide +kernel
theorem dX11_of_72 : decode cX11_of 72 = .ok (.iload 4, 2) := by decide +kernel
theorem dX11_of_74 : decode cX11_of 74 = .ok (.invokevirtual 254, 3) := by decide +kernel
theorem dX11_of_77 : decode cX11_of 77 = .ok (.ifCond .eq 7, 3) := by decide +kernel
theorem dX11_of_80 : decode cX11_of 80 = .ok (.iconst 1, 1) := by decide +kernel
theorem dX11_of_81 : decode cX11_of 81 = .ok (.goto 39, 3) := by decide +kernel
theorem dX11_of_84 : decode cX11_of 84 = .ok (.iconst 0, 1) := by decide +kernel
theorem dX11_of_85 : decode cX11_of 85 = .ok (.goto 35, 3) := by decide +kernel
theorem dX11_of_88 : decode cX11_of 88 = .ok (.iload 5, 2) := by decide +kernel
theorem dX11_of_90 : decode cX11_of 90 = .ok (.iconst (-1), 1) := by decide +kernel
theorem dX11_of_91 : decode cX11_of 91 = .ok (.if_icmp .ne 7, 3) := by decide +kernel
theorem dX11_of_94 : decode cX11_of 94 = .ok (.iconst (-1), 1) := by decide +kernel
theorem dX11_of_95 : decode cX11_of 95 = .ok (.goto 25, 3) := by decide +kernel
theorem dX11_of_98 : decode cX11_of 98 = .ok (.iload_n 2, 1) := by decide +kernel
theorem dX11_of_99 : decode cX11_of 99 = .ok (.iconst 1, 1) := by decide +kernel
theorem dX11_of_100 : decode cX11_of 100 = .ok (.if_icmp .ne 13, 3) := by decide +kernel
theorem dX11_of_103 : decode cX11_of 103 = .ok (.aload_n 0, 1) := by decide +kernel
theorem dX11_of_104 : decode cX11_of 104 = .ok (.getfield 19, 3) := by decide +kernel
theorem dX11_of_107 : decode cX11_of 107 = .ok (.iload 5, 2) := by decide +kernel
theorem dX11_of_109 : decode cX11_of 109 = .ok (.iaload, 1) := by decide +kernel
theorem dX11_of_110 : decode cX11_of 110 = .ok (.goto 10, 3) := by decide +kernel
theorem dX11_of_113 : decode cX11_of 113 = .ok (.aload_n 0, 1) := by decide +kernel
theorem dX11_of_114 : decode cX11_of 114 = .ok (.getfield 22, 3) := by decide +kernel
theorem dX11_of_117 : decode cX11_of 117 = .ok (.iload 5, 2) := by decide +kernel
theorem dX11_of_119 : decode cX11_of 119 = .ok (.iaload, 1) := by decide +kernel
theorem dX11_of_120 : decode cX11_of 120 = .ok (.ireturn, 1) := by decide +kernel
theorem dX11_of_121 : decode cX11_of 121 = .ok (.iload_n 2, 1) := by decide +kernel
theorem dX11_of_122 : decode cX11_of 122 = .ok (.iconst 3, 1) := by decide +kernel
theorem dX11_of_123 : decode cX11_of 123 = .ok (.if_icmp .ne 14, 3) := by decide +kernel
theorem dX11_of_126 : decode cX11_of 126 = .ok (.aload_n 0, 1) := by decide +kernel
theorem dX11_of_127 : decode cX11_of 127 = .ok (.iload_n 1, 1) := by decide +kernel
theorem dX11_of_128 : decode cX11_of 128 = .ok (.iload_n 3, 1) := by decide +kernel
theorem dX11_of_129 : decode cX11_of 129 = .ok (.iload 4, 2) := by decide +kernel
theorem dX11_of_131 : decode cX11_of 131 = .ok (.invokevirtual 257, 3) := by decide +kernel
theorem dX11_of_134 : decode cX11_of 134 = .ok (.goto 24, 3) := by decide +kernel
theorem dX11_of_137 : decode cX11_of 137 = .ok (.aload_n 0, 1) := by decide +kernel
theorem dX11_of_138 : decode cX11_of 138 = .ok (.iload_n 1, 1) := by decide +kernel
theorem dX11_of_139 : decode cX11_of 139 = .ok (.iload_n 3, 1) := by decide +kernel
theorem dX11_of_140 : decode cX11_of 140 = .ok (.iload 4, 2) := by decide +kernel
theorem dX11_of_142 : decode cX11_of 142 = .ok (.invokevirtual 198, 3) := by decide +kernel
theorem dX11_of_145 : decode cX11_of 145 = .ok (.ifCond .eq 12, 3) := by decide +kernel
theorem dX11_of_148 : decode cX11_of 148 = .ok (.aload_n 0, 1) := by decide +kernel
theorem dX11_of_149 : decode cX11_of 149 = .ok (.getfield 46, 3) := by decide +kernel
theorem dX11_of_152 : decode cX11_of 152 = .ok (.iload_n 1, 1) := by decide +kernel
theorem dX11_of_153 : decode cX11_of 153 = .ok (.iaload, 1) := by decide +kernel
theorem dX11_of_154 : decode cX11_of 154 = .ok (.goto 4, 3) := by decide +kernel
theorem dX11_of_157 : decode cX11_of 157 = .ok (.iconst (-1), 1) := by decide +kernel
theorem dX11_of_158 : decode cX11_of 158 = .ok (.ireturn, 1) := by decide +kernel
theorem dX11_isRefused_0 : decode cX11_isRefused 0 = .ok (.aload_n 0, 1) := by decide +kernel
theorem dX11_isRefused_1 : decode cX11_isRefused 1 = .ok (.iload_n 1, 1) := by decide +kernel
theorem dX11_isRefused_2 : decode cX11_isRefused 2 = .ok (.iload 5, 2) := by decide +kernel
theorem dX11_isRefused_4 : decode cX11_isRefused 4 = .ok (.aload_n 0, 1) := by decide +kernel
theorem dX11_isRefused_5 : decode cX11_isRefused 5 = .ok (.getfield 238, 3) := by decide +kernel
theorem dX11_isRefused_8 : decode cX11_isRefused 8 = .ok (.invokevirtual 257, 3) := by decide +kernel
theorem dX11_isRefused_11 : decode cX11_isRefused 11 = .ok (.istore 6, 2) := by decide +kernel
theorem dX11_isRefused_13 : decode cX11_isRefused 13 = .ok (.iconst 0, 1) := by decide +kernel
theorem dX11_isRefused_14 : decode cX11_isRefused 14 = .ok (.istore 7, 2) := by decide +kernel
theorem dX11_isRefused_16 : decode cX11_isRefused 16 = .ok (.iconst 0, 1) := by decide +kernel
theorem dX11_isRefused_17 : decode cX11_isRefused 17 = .ok (.istore 8, 2) := by decide +kernel
theorem dX11_isRefused_19 : decode cX11_isRefused 19 = .ok (.iload 8, 2) := by decide +kernel
theorem dX11_isRefused_21 : decode cX11_isRefused 21 = .ok (.aload_n 0, 1) := by decide +kernel
theorem dX11_isRefused_22 : decode cX11_isRefused 22 = .ok (.getfield 186, 3) := by decide +kernel
theorem dX11_isRefused_25 : decode cX11_isRefused 25 = .ok (.if_icmp .ge 116, 3) := by decide +kernel
theorem dX11_isRefused_28 : decode cX11_isRefused 28 = .ok (.aload_n 0, 1) := by decide +kernel
theorem dX11_isRefused_29 : decode cX11_isRefused 29 = .ok (.getfield 7, 3) := by decide +kernel
theorem dX11_isRefused_32 : decode cX11_isRefused 32 = .ok (.iload_n 1, 1) := by decide +kernel
theorem dX11_isRefused_33 : decode cX11_isRefused 33 = .ok (.iaload, 1) := by decide +kernel
theorem dX11_isRefused_34 : decode cX11_isRefused 34 = .ok (.iconst 5, 1) := by decide +kernel
theorem dX11_isRefused_35 : decode cX11_isRefused 35 = .ok (.if_icmp .ne 106, 3) := by decide +kernel
theorem dX11_isRefused_38 : decode cX11_isRefused 38 = .ok (.iload 6, 2) := by decide +kernel
theorem dX11_isRefused_40 : decode cX11_isRefused 40 = .ok (.iconst (-1), 1) := by decide +kernel
theorem dX11_isRefused_41 : decode cX11_isRefused 41 = .ok (.if_icmp .eq 100, 3) := by decide +kernel
theorem dX11_isRefused_44 : decode cX11_isRefused 44 = .ok (.iload 8, 2) := by decide +kernel
theorem dX11_isRefused_46 : decode cX11_isRefused 46 = .ok (.iload_n 1, 1) := by decide +kernel
theorem dX11_isRefused_47 : decode cX11_isRefused 47 = .ok (.if_icmp .eq 50, 3) := by decide +kernel
theorem dX11_isRefused_50 : decode cX11_isRefused 50 = .ok (.aload_n 0, 1) := by decide +kernel
theorem dX11_isRefused_51 : decode cX11_isRefused 51 = .ok (.getfield 7, 3) := by decide +kernel
theorem dX11_isRefused_54 : decode cX11_isRefused 54 = .ok (.iload 8, 2) := by decide +kernel
theorem dX11_isRefused_56 : decode cX11_isRefused 56 = .ok (.iaload, 1) := by decide +kernel
theorem dX11_isRefused_57 : decode cX11_isRefused 57 = .ok (.iconst 5, 1) := by decide +kernel
theorem dX11_isRefused_58 : decode cX11_isRefused 58 = .ok (.if_icmp .ne 39, 3) := by decide +kernel
theorem dX11_isRefused_61 : decode cX11_isRefused 61 = .ok (.aload_n 0, 1) := by decide +kernel
theorem dX11_isRefused_62 : decode cX11_isRefused 62 = .ok (.iload 8, 2) := by decide +kernel
theorem dX11_isRefused_64 : decode cX11_isRefused 64 = .ok (.iload 5, 2) := by decide +kernel
theorem dX11_isRefused_66 : decode cX11_isRefused 66 = .ok (.aload_n 0, 1) := by decide +kernel
theorem dX11_isRefused_67 : decode cX11_isRefused 67 = .ok (.getfield 238, 3) := by decide +kernel
theorem dX11_isRefused_70 : decode cX11_isRefused 70 = .ok (.invokevirtual 254, 3) := by decide +kernel
theorem dX11_isRefused_73 : decode cX11_isRefused 73 = .ok (.ifCond .eq 24, 3) := by decide +kernel
theorem dX11_isRefused_76 : decode cX11_isRefused 76 = .ok (.aload_n 0, 1) := by decide +kernel
theorem dX11_isRefused_77 : decode cX11_isRefused 77 = .ok (.iload 8, 2) := by decide +kernel
theorem dX11_isRefused_79 : decode cX11_isRefused 79 = .ok (.iload 5, 2) := by decide +kernel
theorem dX11_isRefused_81 : decode cX11_isRefused 81 = .ok (.aload_n 0, 1) := by decide +kernel
theorem dX11_isRefused_82 : decode cX11_isRefused 82 = .ok (.getfield 238, 3) := by decide +kernel
theorem dX11_isRefused_85 : decode cX11_isRefused 85 = .ok (.invokevirtual 257, 3) := by decide +kernel
theorem dX11_isRefused_88 : decode cX11_isRefused 88 = .ok (.iload 6, 2) := by decide +kernel
theorem dX11_isRefused_90 : decode cX11_isRefused 90 = .ok (.if_icmp .ne 7, 3) := by decide +kernel
theorem dX11_isRefused_93 : decode cX11_isRefused 93 = .ok (.iconst 1, 1) := by decide +kernel
theorem dX11_isRefused_94 : decode cX11_isRefused 94 = .ok (.goto 4, 3) := by decide +kernel
theorem dX11_isRefused_97 : decode cX11_isRefused 97 = .ok (.iconst 0, 1) := by decide +kernel
theorem dX11_isRefused_98 : decode cX11_isRefused 98 = .ok (.istore 9, 2) := by decide +kernel
theorem dX11_isRefused_100 : decode cX11_isRefused 100 = .ok (.iload 7, 2) := by decide +kernel
theorem dX11_isRefused_102 : decode cX11_isRefused 102 = .ok (.ifCond .ne 26, 3) := by decide +kernel
theorem dX11_isRefused_105 : decode cX11_isRefused 105 = .ok (.iload 9, 2) := by decide +kernel
theorem dX11_isRefused_107 : decode cX11_isRefused 107 = .ok (.ifCond .eq 25, 3) := by decide +kernel
theorem dX11_isRefused_110 : decode cX11_isRefused 110 = .ok (.aload_n 0, 1) := by decide +kernel
theorem dX11_isRefused_111 : decode cX11_isRefused 111 = .ok (.iload 8, 2) := by decide +kernel
theorem dX11_isRefused_113 : decode cX11_isRefused 113 = .ok (.iload_n 2, 1) := by decide +kernel
theorem dX11_isRefused_114 : decode cX11_isRefused 114 = .ok (.iload 5, 2) := by decide +kernel
theorem dX11_isRefused_116 : decode cX11_isRefused 116 = .ok (.aload_n 0, 1) := by decide +kernel
theorem dX11_isRefused_117 : decode cX11_isRefused 117 = .ok (.getfield 238, 3) := by decide +kernel
theorem dX11_isRefused_120 : decode cX11_isRefused 120 = .ok (.invokevirtual 260, 3) := by decide +kernel
theorem dX11_isRefused_123 : decode cX11_isRefused 123 = .ok (.lload_n 3, 1) := by decide +kernel
theorem dX11_isRefused_124 : decode cX11_isRefused 124 = .ok (.lcmp, 1) := by decide +kernel
theorem dX11_isRefused_125 : decode cX11_isRefused 125 = .ok (.ifCond .ne 7, 3) := by decide +kernel
theorem dX11_isRefused_128 : decode cX11_isRefused 128 = .ok (.iconst 1, 1) := by decide +kernel
theorem dX11_isRefused_129 : decode cX11_isRefused 129 = .ok (.goto 4, 3) := by decide +kernel
theorem dX11_isRefused_132 : decode cX11_isRefused 132 = .ok (.iconst 0, 1) := by decide +kernel
theorem dX11_isRefused_133 : decode cX11_isRefused 133 = .ok (.istore 7, 2) := by decide +kernel
theorem dX11_isRefused_135 : decode cX11_isRefused 135 = .ok (.iinc 8 1, 3) := by decide +kernel
theorem dX11_isRefused_138 : decode cX11_isRefused 138 = .ok (.goto (-119), 3) := by decide +kernel
theorem dX11_isRefused_141 : decode cX11_isRefused 141 = .ok (.iload 7, 2) := by decide +kernel
theorem dX11_isRefused_143 : decode cX11_isRefused 143 = .ok (.ireturn, 1) := by decide +kernel
theorem dX11_tells_0 : decode cX11_tells 0 = .ok (.aload_n 0, 1) := by decide +kernel
theorem dX11_tells_1 : decode cX11_tells 1 = .ok (.getfield 52, 3) := by decide +kernel
theorem dX11_tells_4 : decode cX11_tells 4 = .ok (.aload_n 0, 1) := by decide +kernel
theorem dX11_tells_5 : decode cX11_tells 5 = .ok (.getfield 201, 3) := by decide +kernel
theorem dX11_tells_8 : decode cX11_tells 8 = .ok (.iload_n 1, 1) := by decide +kernel
theorem dX11_tells_9 : decode cX11_tells 9 = .ok (.iastore, 1) := by decide +kernel
theorem dX11_tells_10 : decode cX11_tells 10 = .ok (.aload_n 0, 1) := by decide +kernel
theorem dX11_tells_11 : decode cX11_tells 11 = .ok (.getfield 55, 3) := by decide +kernel
theorem dX11_tells_14 : decode cX11_tells 14 = .ok (.aload_n 0, 1) := by decide +kernel
theorem dX11_tells_15 : decode cX11_tells 15 = .ok (.getfield 201, 3) := by decide +kernel
theorem dX11_tells_18 : decode cX11_tells 18 = .ok (.iload_n 2, 1) := by decide +kernel
theorem dX11_tells_19 : decode cX11_tells 19 = .ok (.iastore, 1) := by decide +kernel
theorem dX11_tells_20 : decode cX11_tells 20 = .ok (.aload_n 0, 1) := by decide +kernel
theorem dX11_tells_21 : decode cX11_tells 21 = .ok (.getfield 58, 3) := by decide +kernel
theorem dX11_tells_24 : decode cX11_tells 24 = .ok (.aload_n 0, 1) := by decide +kernel
theorem dX11_tells_25 : decode cX11_tells 25 = .ok (.getfield 201, 3) := by decide +kernel
theorem dX11_tells_28 : decode cX11_tells 28 = .ok (.lload_n 3, 1) := by decide +kernel
theorem dX11_tells_29 : decode cX11_tells 29 = .ok (.lastore, 1) := by decide +kernel
theorem dX11_tells_30 : decode cX11_tells 30 = .ok (.aload_n 0, 1) := by decide +kernel
theorem dX11_tells_31 : decode cX11_tells 31 = .ok (.getfield 62, 3) := by decide +kernel
theorem dX11_tells_34 : decode cX11_tells 34 = .ok (.aload_n 0, 1) := by decide +kernel
theorem dX11_tells_35 : decode cX11_tells 35 = .ok (.getfield 201, 3) := by decide +kernel
theorem dX11_tells_38 : decode cX11_tells 38 = .ok (.iload 5, 2) := by decide +kernel
theorem dX11_tells_40 : decode cX11_tells 40 = .ok (.iastore, 1) := by decide +kernel
theorem dX11_tells_41 : decode cX11_tells 41 = .ok (.aload_n 0, 1) := by decide +kernel
theorem dX11_tells_42 : decode cX11_tells 42 = .ok (.getfield 65, 3) := by decide +kernel
theorem dX11_tells_45 : decode cX11_tells 45 = .ok (.aload_n 0, 1) := by decide +kernel
theorem dX11_tells_46 : decode cX11_tells 46 = .ok (.getfield 201, 3) := by decide +kernel
theorem dX11_tells_49 : decode cX11_tells 49 = .ok (.aload_n 0, 1) := by decide +kernel
theorem dX11_tells_50 : decode cX11_tells 50 = .ok (.getfield 238, 3) := by decide +kernel
theorem dX11_tells_53 : decode cX11_tells 53 = .ok (.iastore, 1) := by decide +kernel
theorem dX11_tells_54 : decode cX11_tells 54 = .ok (.aload_n 0, 1) := by decide +kernel
theorem dX11_tells_55 : decode cX11_tells 55 = .ok (.getfield 68, 3) := by decide +kernel
theorem dX11_tells_58 : decode cX11_tells 58 = .ok (.aload_n 0, 1) := by decide +kernel
theorem dX11_tells_59 : decode cX11_tells 59 = .ok (.getfield 201, 3) := by decide +kernel
theorem dX11_tells_62 : decode cX11_tells 62 = .ok (.iconst (-1), 1) := by decide +kernel
theorem dX11_tells_63 : decode cX11_tells 63 = .ok (.iastore, 1) := by decide +kernel
theorem dX11_tells_64 : decode cX11_tells 64 = .ok (.aload_n 0, 1) := by decide +kernel
theorem dX11_tells_65 : decode cX11_tells 65 = .ok (.dup, 1) := by decide +kernel
theorem dX11_tells_66 : decode cX11_tells 66 = .ok (.getfield 201, 3) := by decide +kernel
theorem dX11_tells_69 : decode cX11_tells 69 = .ok (.iconst 1, 1) := by decide +kernel
theorem dX11_tells_70 : decode cX11_tells 70 = .ok (.iadd, 1) := by decide +kernel
theorem dX11_tells_71 : decode cX11_tells 71 = .ok (.putfield 201, 3) := by decide +kernel
theorem dX11_tells_74 : decode cX11_tells 74 = .ok (.aload_n 0, 1) := by decide +kernel
theorem dX11_tells_75 : decode cX11_tells 75 = .ok (.getfield 201, 3) := by decide +kernel
theorem dX11_tells_78 : decode cX11_tells 78 = .ok (.ireturn, 1) := by decide +kernel
theorem dX11_name_0 : decode cX11_name 0 = .ok (.aload_n 0, 1) := by decide +kernel
theorem dX11_name_1 : decode cX11_name 1 = .ok (.iload_n 1, 1) := by decide +kernel
theorem dX11_name_2 : decode cX11_name 2 = .ok (.invokevirtual 245, 3) := by decide +kernel
theorem dX11_name_5 : decode cX11_name 5 = .ok (.ifCond .eq 14, 3) := by decide +kernel
theorem dX11_name_8 : decode cX11_name 8 = .ok (.iload_n 2, 1) := by decide +kernel
theorem dX11_name_9 : decode cX11_name 9 = .ok (.invokestatic 264, 3) := by decide +kernel
theorem dX11_name_12 : decode cX11_name 12 = .ok (.ifCond .eq 7, 3) := by decide +kernel
theorem dX11_name_15 : decode cX11_name 15 = .ok (.iconst 1, 1) := by decide +kernel
theorem dX11_name_16 : decode cX11_name 16 = .ok (.goto 4, 3) := by decide +kernel
theorem dX11_name_19 : decode cX11_name 19 = .ok (.iconst 0, 1) := by decide +kernel
theorem dX11_name_20 : decode cX11_name 20 = .ok (.istore 6, 2) := by decide +kernel
theorem dX11_name_22 : decode cX11_name 22 = .ok (.lload_n 3, 1) := by decide +kernel
theorem dX11_name_23 : decode cX11_name 23 = .ok (.bipush 8, 2) := by decide +kernel
theorem dX11_name_25 : decode cX11_name 25 = .ok (.invokestatic 267, 3) := by decide +kernel
theorem dX11_name_28 : decode cX11_name 28 = .ok (.ifCond .eq 15, 3) := by decide +kernel
theorem dX11_name_31 : decode cX11_name 31 = .ok (.iload 5, 2) := by decide +kernel
theorem dX11_name_33 : decode cX11_name 33 = .ok (.invokestatic 248, 3) := by decide +kernel
theorem dX11_name_36 : decode cX11_name 36 = .ok (.ifCond .eq 7, 3) := by decide +kernel
theorem dX11_name_39 : decode cX11_name 39 = .ok (.iconst 1, 1) := by decide +kernel
theorem dX11_name_40 : decode cX11_name 40 = .ok (.goto 4, 3) := by decide +kernel
theorem dX11_name_43 : decode cX11_name 43 = .ok (.iconst 0, 1) := by decide +kernel
theorem dX11_name_44 : decode cX11_name 44 = .ok (.istore 7, 2) := by decide +kernel
theorem dX11_name_46 : decode cX11_name 46 = .ok (.aload_n 0, 1) := by decide +kernel
theorem dX11_name_47 : decode cX11_name 47 = .ok (.iload 6, 2) := by decide +kernel
theorem dX11_name_49 : decode cX11_name 49 = .ok (.ifCond .ne 7, 3) := by decide +kernel
theorem dX11_name_52 : decode cX11_name 52 = .ok (.iconst 1, 1) := by decide +kernel
theorem dX11_name_53 : decode cX11_name 53 = .ok (.goto 38, 3) := by decide +kernel
theorem dX11_name_56 : decode cX11_name 56 = .ok (.iload 7, 2) := by decide +kernel
theorem dX11_name_58 : decode cX11_name 58 = .ok (.ifCond .ne 7, 3) := by decide +kernel
theorem dX11_name_61 : decode cX11_name 61 = .ok (.iconst 2, 1) := by decide +kernel
theorem dX11_name_62 : decode cX11_name 62 = .ok (.goto 29, 3) := by decide +kernel
theorem dX11_name_65 : decode cX11_name 65 = .ok (.aload_n 0, 1) := by decide +kernel
theorem dX11_name_66 : decode cX11_name 66 = .ok (.getfield 201, 3) := by decide +kernel
theorem dX11_name_69 : decode cX11_name 69 = .ok (.bipush 100, 2) := by decide +kernel
theorem dX11_name_71 : decode cX11_name 71 = .ok (.if_icmp .eq 15, 3) := by decide +kernel
theorem dX11_name_74 : decode cX11_name 74 = .ok (.aload_n 0, 1) := by decide +kernel
theorem dX11_name_75 : decode cX11_name 75 = .ok (.iload_n 1, 1) := by decide +kernel
theorem dX11_name_76 : decode cX11_name 76 = .ok (.iload_n 2, 1) := by decide +kernel
theorem dX11_name_77 : decode cX11_name 77 = .ok (.lload_n 3, 1) := by decide +kernel
theorem dX11_name_78 : decode cX11_name 78 = .ok (.iload 5, 2) := by decide +kernel
theorem dX11_name_80 : decode cX11_name 80 = .ok (.invokevirtual 271, 3) := by decide +kernel
theorem dX11_name_83 : decode cX11_name 83 = .ok (.ifCond .eq 7, 3) := by decide +kernel
theorem dX11_name_86 : decode cX11_name 86 = .ok (.iconst 3, 1) := by decide +kernel
theorem dX11_name_87 : decode cX11_name 87 = .ok (.goto 4, 3) := by decide +kernel
theorem dX11_name_90 : decode cX11_name 90 = .ok (.iconst 0, 1) := by decide +kernel
theorem dX11_name_91 : decode cX11_name 91 = .ok (.invokevirtual 234, 3) := by decide +kernel
theorem dX11_name_94 : decode cX11_name 94 = .ok (.ifCond .ne 5, 3) := by decide +kernel
theorem dX11_name_97 : decode cX11_name 97 = .ok (.iconst 0, 1) := by decide +kernel
theorem dX11_name_98 : decode cX11_name 98 = .ok (.ireturn, 1) := by decide +kernel
theorem dX11_name_99 : decode cX11_name 99 = .ok (.aload_n 0, 1) := by decide +kernel
theorem dX11_name_100 : decode cX11_name 100 = .ok (.iload_n 1, 1) := by decide +kernel
theorem dX11_name_101 : decode cX11_name 101 = .ok (.iload_n 2, 1) := by decide +kernel
theorem dX11_name_102 : decode cX11_name 102 = .ok (.lload_n 3, 1) := by decide +kernel
theorem dX11_name_103 : decode cX11_name 103 = .ok (.iload 5, 2) := by decide +kernel
theorem dX11_name_105 : decode cX11_name 105 = .ok (.invokevirtual 275, 3) := by decide +kernel
theorem dX11_name_108 : decode cX11_name 108 = .ok (.ireturn, 1) := by decide +kernel
theorem dX11_law_0 : decode cX11_law 0 = .ok (.iload_n 2, 1) := by decide +kernel
theorem dX11_law_1 : decode cX11_law 1 = .ok (.invokestatic 248, 3) := by decide +kernel
theorem dX11_law_4 : decode cX11_law 4 = .ok (.ifCond .eq 49, 3) := by decide +kernel
theorem dX11_law_7 : decode cX11_law 7 = .ok (.iload_n 3, 1) := by decide +kernel
theorem dX11_law_8 : decode cX11_law 8 = .ok (.iconst 1, 1) := by decide +kernel
theorem dX11_law_9 : decode cX11_law 9 = .ok (.bipush 26, 2) := by decide +kernel
theorem dX11_law_11 : decode cX11_law 11 = .ok (.invokestatic 189, 3) := by decide +kernel
theorem dX11_law_14 : decode cX11_law 14 = .ok (.ifCond .eq 39, 3) := by decide +kernel
theorem dX11_law_17 : decode cX11_law 17 = .ok (.iload 4, 2) := by decide +kernel
theorem dX11_law_19 : decode cX11_law 19 = .ok (.iconst 0, 1) := by decide +kernel
theorem dX11_law_20 : decode cX11_law 20 = .ok (.bipush 26, 2) := by decide +kernel
theorem dX11_law_22 : decode cX11_law 22 = .ok (.invokestatic 189, 3) := by decide +kernel
theorem dX11_law_25 : decode cX11_law 25 = .ok (.ifCond .eq 28, 3) := by decide +kernel
theorem dX11_law_28 : decode cX11_law 28 = .ok (.iload 5, 2) := by decide +kernel
theorem dX11_law_30 : decode cX11_law 30 = .ok (.iconst 0, 1) := by decide +kernel
theorem dX11_law_31 : decode cX11_law 31 = .ok (.bipush 26, 2) := by decide +kernel
theorem dX11_law_33 : decode cX11_law 33 = .ok (.invokestatic 189, 3) := by decide +kernel
theorem dX11_law_36 : decode cX11_law 36 = .ok (.ifCond .eq 17, 3) := by decide +kernel
theorem dX11_law_39 : decode cX11_law 39 = .ok (.iload 4, 2) := by decide +kernel
theorem dX11_law_41 : decode cX11_law 41 = .ok (.ifCond .gt 8, 3) := by decide +kernel
theorem dX11_law_44 : decode cX11_law 44 = .ok (.iload 5, 2) := by decide +kernel
theorem dX11_law_46 : decode cX11_law 46 = .ok (.ifCond .ne 7, 3) := by decide +kernel
theorem dX11_law_49 : decode cX11_law 49 = .ok (.iconst 1, 1) := by decide +kernel
theorem dX11_law_50 : decode cX11_law 50 = .ok (.goto 4, 3) := by decide +kernel
theorem dX11_law_53 : decode cX11_law 53 = .ok (.iconst 0, 1) := by decide +kernel
theorem dX11_law_54 : decode cX11_law 54 = .ok (.istore 6, 2) := by decide +kernel
theorem dX11_law_56 : decode cX11_law 56 = .ok (.aload_n 0, 1) := by decide +kernel
theorem dX11_law_57 : decode cX11_law 57 = .ok (.iload_n 1, 1) := by decide +kernel
theorem dX11_law_58 : decode cX11_law 58 = .ok (.invokestatic 264, 3) := by decide +kernel
theorem dX11_law_61 : decode cX11_law 61 = .ok (.ifCond .ne 7, 3) := by decide +kernel
theorem dX11_law_64 : decode cX11_law 64 = .ok (.iconst 1, 1) := by decide +kernel
theorem dX11_law_65 : decode cX11_law 65 = .ok (.goto 26, 3) := by decide +kernel
theorem dX11_law_68 : decode cX11_law 68 = .ok (.iload 6, 2) := by decide +kernel
theorem dX11_law_70 : decode cX11_law 70 = .ok (.ifCond .ne 7, 3) := by decide +kernel
theorem dX11_law_73 : decode cX11_law 73 = .ok (.iconst 2, 1) := by decide +kernel
theorem dX11_law_74 : decode cX11_law 74 = .ok (.goto 17, 3) := by decide +kernel
theorem dX11_law_77 : decode cX11_law 77 = .ok (.aload_n 0, 1) := by decide +kernel
theorem dX11_law_78 : decode cX11_law 78 = .ok (.getfield 219, 3) := by decide +kernel
theorem dX11_law_81 : decode cX11_law 81 = .ok (.bipush 12, 2) := by decide +kernel
theorem dX11_law_83 : decode cX11_law 83 = .ok (.if_icmp .ne 7, 3) := by decide +kernel
theorem dX11_law_86 : decode cX11_law 86 = .ok (.iconst 3, 1) := by decide +kernel
theorem dX11_law_87 : decode cX11_law 87 = .ok (.goto 4, 3) := by decide +kernel
theorem dX11_law_90 : decode cX11_law 90 = .ok (.iconst 0, 1) := by decide +kernel
theorem dX11_law_91 : decode cX11_law 91 = .ok (.invokevirtual 234, 3) := by decide +kernel
theorem dX11_law_94 : decode cX11_law 94 = .ok (.ifCond .ne 5, 3) := by decide +kernel
theorem dX11_law_97 : decode cX11_law 97 = .ok (.iconst 0, 1) := by decide +kernel
theorem dX11_law_98 : decode cX11_law 98 = .ok (.ireturn, 1) := by decide +kernel
theorem dX11_law_99 : decode cX11_law 99 = .ok (.aload_n 0, 1) := by decide +kernel
theorem dX11_law_100 : decode cX11_law 100 = .ok (.getfield 71, 3) := by decide +kernel
theorem dX11_law_103 : decode cX11_law 103 = .ok (.aload_n 0, 1) := by decide +kernel
theorem dX11_law_104 : decode cX11_law 104 = .ok (.getfield 219, 3) := by decide +kernel
theorem dX11_law_107 : decode cX11_law 107 = .ok (.iload_n 1, 1) := by decide +kernel
theorem dX11_law_108 : decode cX11_law 108 = .ok (.iastore, 1) := by decide +kernel
theorem dX11_law_109 : decode cX11_law 109 = .ok (.aload_n 0, 1) := by decide +kernel
theorem dX11_law_110 : decode cX11_law 110 = .ok (.getfield 74, 3) := by decide +kernel
theorem dX11_law_113 : decode cX11_law 113 = .ok (.aload_n 0, 1) := by decide +kernel
theorem dX11_law_114 : decode cX11_law 114 = .ok (.getfield 219, 3) := by decide +kernel
theorem dX11_law_117 : decode cX11_law 117 = .ok (.iload_n 2, 1) := by decide +kernel
theorem dX11_law_118 : decode cX11_law 118 = .ok (.iastore, 1) := by decide +kernel
theorem dX11_law_119 : decode cX11_law 119 = .ok (.aload_n 0, 1) := by decide +kernel
theorem dX11_law_120 : decode cX11_law 120 = .ok (.getfield 77, 3) := by decide +kernel
theorem dX11_law_123 : decode cX11_law 123 = .ok (.aload_n 0, 1) := by decide +kernel
theorem dX11_law_124 : decode cX11_law 124 = .ok (.getfield 219, 3) := by decide +kernel
theorem dX11_law_127 : decode cX11_law 127 = .ok (.iload_n 3, 1) := by decide +kernel
theorem dX11_law_128 : decode cX11_law 128 = .ok (.iastore, 1) := by decide +kernel
theorem dX11_law_129 : decode cX11_law 129 = .ok (.aload_n 0, 1) := by decide +kernel
theorem dX11_law_130 : decode cX11_law 130 = .ok (.getfield 80, 3) := by decide +kernel
theorem dX11_law_133 : decode cX11_law 133 = .ok (.aload_n 0, 1) := by decide +kernel
theorem dX11_law_134 : decode cX11_law 134 = .ok (.getfield 219, 3) := by decide +kernel
theorem dX11_law_137 : decode cX11_law 137 = .ok (.iload 4, 2) := by decide +kernel
theorem dX11_law_139 : decode cX11_law 139 = .ok (.iastore, 1) := by decide +kernel
theorem dX11_law_140 : decode cX11_law 140 = .ok (.aload_n 0, 1) := by decide +kernel
theorem dX11_law_141 : decode cX11_law 141 = .ok (.getfield 83, 3) := by decide +kernel
theorem dX11_law_144 : decode cX11_law 144 = .ok (.aload_n 0, 1) := by decide +kernel
theorem dX11_law_145 : decode cX11_law 145 = .ok (.getfield 219, 3) := by decide +kernel
theorem dX11_law_148 : decode cX11_law 148 = .ok (.iload 5, 2) := by decide +kernel
theorem dX11_law_150 : decode cX11_law 150 = .ok (.iastore, 1) := by decide +kernel
theorem dX11_law_151 : decode cX11_law 151 = .ok (.aload_n 0, 1) := by decide +kernel
theorem dX11_law_152 : decode cX11_law 152 = .ok (.getfield 86, 3) := by decide +kernel
theorem dX11_law_155 : decode cX11_law 155 = .ok (.aload_n 0, 1) := by decide +kernel
theorem dX11_law_156 : decode cX11_law 156 = .ok (.getfield 219, 3) := by decide +kernel
theorem dX11_law_159 : decode cX11_law 159 = .ok (.aload_n 0, 1) := by decide +kernel
theorem dX11_law_160 : decode cX11_law 160 = .ok (.getfield 238, 3) := by decide +kernel
theorem dX11_law_163 : decode cX11_law 163 = .ok (.iastore, 1) := by decide +kernel
theorem dX11_law_164 : decode cX11_law 164 = .ok (.aload_n 0, 1) := by decide +kernel
theorem dX11_law_165 : decode cX11_law 165 = .ok (.dup, 1) := by decide +kernel
theorem dX11_law_166 : decode cX11_law 166 = .ok (.getfield 219, 3) := by decide +kernel
theorem dX11_law_169 : decode cX11_law 169 = .ok (.iconst 1, 1) := by decide +kernel
theorem dX11_law_170 : decode cX11_law 170 = .ok (.iadd, 1) := by decide +kernel
theorem dX11_law_171 : decode cX11_law 171 = .ok (.putfield 219, 3) := by decide +kernel
theorem dX11_law_174 : decode cX11_law 174 = .ok (.aload_n 0, 1) := by decide +kernel
theorem dX11_law_175 : decode cX11_law 175 = .ok (.getfield 219, 3) := by decide +kernel
theorem dX11_law_178 : decode cX11_law 178 = .ok (.ireturn, 1) := by decide +kernel
theorem dX11_except_0 : decode cX11_except 0 = .ok (.aload_n 0, 1) := by decide +kernel
theorem dX11_except_1 : decode cX11_except 1 = .ok (.iload_n 1, 1) := by decide +kernel
theorem dX11_except_2 : decode cX11_except 2 = .ok (.invokevirtual 245, 3) := by decide +kernel
theorem dX11_except_5 : decode cX11_except 5 = .ok (.ifCond .eq 14, 3) := by decide +kernel
theorem dX11_except_8 : decode cX11_except 8 = .ok (.iload_n 2, 1) := by decide +kernel
theorem dX11_except_9 : decode cX11_except 9 = .ok (.invokestatic 264, 3) := by decide +kernel
theorem dX11_except_12 : decode cX11_except 12 = .ok (.ifCond .eq 7, 3) := by decide +kernel
theorem dX11_except_15 : decode cX11_except 15 = .ok (.iconst 1, 1) := by decide +kernel
theorem dX11_except_16 : decode cX11_except 16 = .ok (.goto 4, 3) := by decide +kernel
theorem dX11_except_19 : decode cX11_except 19 = .ok (.iconst 0, 1) := by decide +kernel
theorem dX11_except_20 : decode cX11_except 20 = .ok (.istore 4, 2) := by decide +kernel
theorem dX11_except_22 : decode cX11_except 22 = .ok (.aload_n 0, 1) := by decide +kernel
theorem dX11_except_23 : decode cX11_except 23 = .ok (.iload 4, 2) := by decide +kernel
theorem dX11_except_25 : decode cX11_except 25 = .ok (.ifCond .ne 7, 3) := by decide +kernel
theorem dX11_except_28 : decode cX11_except 28 = .ok (.iconst 1, 1) := by decide +kernel
theorem dX11_except_29 : decode cX11_except 29 = .ok (.goto 28, 3) := by decide +kernel
theorem dX11_except_32 : decode cX11_except 32 = .ok (.iload_n 3, 1) := by decide +kernel
theorem dX11_except_33 : decode cX11_except 33 = .ok (.invokestatic 248, 3) := by decide +kernel
theorem dX11_except_36 : decode cX11_except 36 = .ok (.ifCond .ne 7, 3) := by decide +kernel
theorem dX11_except_39 : decode cX11_except 39 = .ok (.iconst 2, 1) := by decide +kernel
theorem dX11_except_40 : decode cX11_except 40 = .ok (.goto 17, 3) := by decide +kernel
theorem dX11_except_43 : decode cX11_except 43 = .ok (.aload_n 0, 1) := by decide +kernel
theorem dX11_except_44 : decode cX11_except 44 = .ok (.getfield 204, 3) := by decide +kernel
theorem dX11_except_47 : decode cX11_except 47 = .ok (.bipush 40, 2) := by decide +kernel
theorem dX11_except_49 : decode cX11_except 49 = .ok (.if_icmp .ne 7, 3) := by decide +kernel
theorem dX11_except_52 : decode cX11_except 52 = .ok (.iconst 3, 1) := by decide +kernel
theorem dX11_except_53 : decode cX11_except 53 = .ok (.goto 4, 3) := by decide +kernel
theorem dX11_except_56 : decode cX11_except 56 = .ok (.iconst 0, 1) := by decide +kernel
theorem dX11_except_57 : decode cX11_except 57 = .ok (.invokevirtual 234, 3) := by decide +kernel
theorem dX11_except_60 : decode cX11_except 60 = .ok (.ifCond .eq 56, 3) := by decide +kernel
theorem dX11_except_63 : decode cX11_except 63 = .ok (.aload_n 0, 1) := by decide +kernel
theorem dX11_except_64 : decode cX11_except 64 = .ok (.getfield 89, 3) := by decide +kernel
theorem dX11_except_67 : decode cX11_except 67 = .ok (.aload_n 0, 1) := by decide +kernel
theorem dX11_except_68 : decode cX11_except 68 = .ok (.getfield 204, 3) := by decide +kernel
theorem dX11_except_71 : decode cX11_except 71 = .ok (.iload_n 1, 1) := by decide +kernel
theorem dX11_except_72 : decode cX11_except 72 = .ok (.iastore, 1) := by decide +kernel
theorem dX11_except_73 : decode cX11_except 73 = .ok (.aload_n 0, 1) := by decide +kernel
theorem dX11_except_74 : decode cX11_except 74 = .ok (.getfield 92, 3) := by decide +kernel
theorem dX11_except_77 : decode cX11_except 77 = .ok (.aload_n 0, 1) := by decide +kernel
theorem dX11_except_78 : decode cX11_except 78 = .ok (.getfield 204, 3) := by decide +kernel
theorem dX11_except_81 : decode cX11_except 81 = .ok (.iload_n 2, 1) := by decide +kernel
theorem dX11_except_82 : decode cX11_except 82 = .ok (.iastore, 1) := by decide +kernel
theorem dX11_except_83 : decode cX11_except 83 = .ok (.aload_n 0, 1) := by decide +kernel
theorem dX11_except_84 : decode cX11_except 84 = .ok (.getfield 95, 3) := by decide +kernel
theorem dX11_except_87 : decode cX11_except 87 = .ok (.aload_n 0, 1) := by decide +kernel
theorem dX11_except_88 : decode cX11_except 88 = .ok (.getfield 204, 3) := by decide +kernel
theorem dX11_except_91 : decode cX11_except 91 = .ok (.iload_n 3, 1) := by decide +kernel
theorem dX11_except_92 : decode cX11_except 92 = .ok (.iastore, 1) := by decide +kernel
theorem dX11_except_93 : decode cX11_except 93 = .ok (.aload_n 0, 1) := by decide +kernel
theorem dX11_except_94 : decode cX11_except 94 = .ok (.getfield 98, 3) := by decide +kernel
theorem dX11_except_97 : decode cX11_except 97 = .ok (.aload_n 0, 1) := by decide +kernel
theorem dX11_except_98 : decode cX11_except 98 = .ok (.getfield 204, 3) := by decide +kernel
theorem dX11_except_101 : decode cX11_except 101 = .ok (.aload_n 0, 1) := by decide +kernel
theorem dX11_except_102 : decode cX11_except 102 = .ok (.getfield 238, 3) := by decide +kernel
theorem dX11_except_105 : decode cX11_except 105 = .ok (.iastore, 1) := by decide +kernel
theorem dX11_except_106 : decode cX11_except 106 = .ok (.aload_n 0, 1) := by decide +kernel
theorem dX11_except_107 : decode cX11_except 107 = .ok (.dup, 1) := by decide +kernel
theorem dX11_except_108 : decode cX11_except 108 = .ok (.getfield 204, 3) := by decide +kernel
theorem dX11_except_111 : decode cX11_except 111 = .ok (.iconst 1, 1) := by decide +kernel
theorem dX11_except_112 : decode cX11_except 112 = .ok (.iadd, 1) := by decide +kernel
theorem dX11_except_113 : decode cX11_except 113 = .ok (.putfield 204, 3) := by decide +kernel
theorem dX11_except_116 : decode cX11_except 116 = .ok (.return_, 1) := by decide +kernel
theorem dX11_form_0 : decode cX11_form 0 = .ok (.aload_n 0, 1) := by decide +kernel
theorem dX11_form_1 : decode cX11_form 1 = .ok (.iload_n 1, 1) := by decide +kernel
theorem dX11_form_2 : decode cX11_form 2 = .ok (.invokevirtual 245, 3) := by decide +kernel
theorem dX11_form_5 : decode cX11_form 5 = .ok (.ifCond .eq 14, 3) := by decide +kernel
theorem dX11_form_8 : decode cX11_form 8 = .ok (.iload_n 2, 1) := by decide +kernel
theorem dX11_form_9 : decode cX11_form 9 = .ok (.invokestatic 264, 3) := by decide +kernel
theorem dX11_form_12 : decode cX11_form 12 = .ok (.ifCond .eq 7, 3) := by decide +kernel
theorem dX11_form_15 : decode cX11_form 15 = .ok (.iconst 1, 1) := by decide +kernel
theorem dX11_form_16 : decode cX11_form 16 = .ok (.goto 4, 3) := by decide +kernel
theorem dX11_form_19 : decode cX11_form 19 = .ok (.iconst 0, 1) := by decide +kernel
theorem dX11_form_20 : decode cX11_form 20 = .ok (.istore 5, 2) := by decide +kernel
theorem dX11_form_22 : decode cX11_form 22 = .ok (.aload_n 0, 1) := by decide +kernel
theorem dX11_form_23 : decode cX11_form 23 = .ok (.iload 5, 2) := by decide +kernel
theorem dX11_form_25 : decode cX11_form 25 = .ok (.ifCond .ne 7, 3) := by decide +kernel
theorem dX11_form_28 : decode cX11_form 28 = .ok (.iconst 1, 1) := by decide +kernel
theorem dX11_form_29 : decode cX11_form 29 = .ok (.goto 23, 3) := by decide +kernel
theorem dX11_form_32 : decode cX11_form 32 = .ok (.iload_n 3, 1) := by decide +kernel
theorem dX11_form_33 : decode cX11_form 33 = .ok (.invokestatic 248, 3) := by decide +kernel
theorem dX11_form_36 : decode cX11_form 36 = .ok (.ifCond .eq 15, 3) := by decide +kernel
theorem dX11_form_39 : decode cX11_form 39 = .ok (.iload 4, 2) := by decide +kernel
theorem dX11_form_41 : decode cX11_form 41 = .ok (.invokestatic 248, 3) := by decide +kernel
theorem dX11_form_44 : decode cX11_form 44 = .ok (.ifCond .eq 7, 3) := by decide +kernel
theorem dX11_form_47 : decode cX11_form 47 = .ok (.iconst 0, 1) := by decide +kernel
theorem dX11_form_48 : decode cX11_form 48 = .ok (.goto 4, 3) := by decide +kernel
theorem dX11_form_51 : decode cX11_form 51 = .ok (.iconst 2, 1) := by decide +kernel
theorem dX11_form_52 : decode cX11_form 52 = .ok (.invokevirtual 234, 3) := by decide +kernel
theorem dX11_form_55 : decode cX11_form 55 = .ok (.ifCond .eq 15, 3) := by decide +kernel
theorem dX11_form_58 : decode cX11_form 58 = .ok (.aload_n 0, 1) := by decide +kernel
theorem dX11_form_59 : decode cX11_form 59 = .ok (.iload_n 1, 1) := by decide +kernel
theorem dX11_form_60 : decode cX11_form 60 = .ok (.iload_n 2, 1) := by decide +kernel
theorem dX11_form_61 : decode cX11_form 61 = .ok (.iload_n 3, 1) := by decide +kernel
theorem dX11_form_62 : decode cX11_form 62 = .ok (.iload 4, 2) := by decide +kernel
theorem dX11_form_64 : decode cX11_form 64 = .ok (.invokevirtual 260, 3) := by decide +kernel
theorem dX11_form_67 : decode cX11_form 67 = .ok (.goto 4, 3) := by decide +kernel
theorem dX11_form_70 : decode cX11_form 70 = .ok (.lconst 0, 1) := by decide +kernel
theorem dX11_form_71 : decode cX11_form 71 = .ok (.lreturn, 1) := by decide +kernel
theorem dX11_isPetition_0 : decode cX11_isPetition 0 = .ok (.iload_n 1, 1) := by decide +kernel
theorem dX11_isPetition_1 : decode cX11_isPetition 1 = .ok (.iconst 0, 1) := by decide +kernel
theorem dX11_isPetition_2 : decode cX11_isPetition 2 = .ok (.aload_n 0, 1) := by decide +kernel
theorem dX11_isPetition_3 : decode cX11_isPetition 3 = .ok (.getfield 279, 3) := by decide +kernel
theorem dX11_isPetition_6 : decode cX11_isPetition 6 = .ok (.iconst 1, 1) := by decide +kernel
theorem dX11_isPetition_7 : decode cX11_isPetition 7 = .ok (.isub, 1) := by decide +kernel
theorem dX11_isPetition_8 : decode cX11_isPetition 8 = .ok (.invokestatic 189, 3) := by decide +kernel
theorem dX11_isPetition_11 : decode cX11_isPetition 11 = .ok (.ireturn, 1) := by decide +kernel
theorem dX11_bits_0 : decode cX11_bits 0 = .ok (.iconst 0, 1) := by decide +kernel
theorem dX11_bits_1 : decode cX11_bits 1 = .ok (.istore_n 1, 1) := by decide +kernel
theorem dX11_bits_2 : decode cX11_bits 2 = .ok (.iload_n 0, 1) := by decide +kernel
theorem dX11_bits_3 : decode cX11_bits 3 = .ok (.istore_n 2, 1) := by decide +kernel
theorem dX11_bits_4 : decode cX11_bits 4 = .ok (.iload_n 2, 1) := by decide +kernel
theorem dX11_bits_5 : decode cX11_bits 5 = .ok (.ifCond .le 15, 3) := by decide +kernel
theorem dX11_bits_8 : decode cX11_bits 8 = .ok (.iinc 1 1, 3) := by decide +kernel
theorem dX11_bits_11 : decode cX11_bits 11 = .ok (.iload_n 2, 1) := by decide +kernel
theorem dX11_bits_12 : decode cX11_bits 12 = .ok (.iload_n 2, 1) := by decide +kernel
theorem dX11_bits_13 : decode cX11_bits 13 = .ok (.iconst 1, 1) := by decide +kernel
theorem dX11_bits_14 : decode cX11_bits 14 = .ok (.isub, 1) := by decide +kernel
theorem dX11_bits_15 : decode cX11_bits 15 = .ok (.iand, 1) := by decide +kernel
theorem dX11_bits_16 : decode cX11_bits 16 = .ok (.istore_n 2, 1) := by decide +kernel
theorem dX11_bits_17 : decode cX11_bits 17 = .ok (.goto (-13), 3) := by decide +kernel
theorem dX11_bits_20 : decode cX11_bits 20 = .ok (.iload_n 1, 1) := by decide +kernel
theorem dX11_bits_21 : decode cX11_bits 21 = .ok (.ireturn, 1) := by decide +kernel
theorem dX11_petition_0 : decode cX11_petition 0 = .ok (.aload_n 0, 1) := by decide +kernel
theorem dX11_petition_1 : decode cX11_petition 1 = .ok (.iload_n 1, 1) := by decide +kernel
theorem dX11_petition_2 : decode cX11_petition 2 = .ok (.invokevirtual 245, 3) := by decide +kernel
theorem dX11_petition_5 : decode cX11_petition 5 = .ok (.ifCond .eq 14, 3) := by decide +kernel
theorem dX11_petition_8 : decode cX11_petition 8 = .ok (.iload_n 2, 1) := by decide +kernel
theorem dX11_petition_9 : decode cX11_petition 9 = .ok (.invokestatic 264, 3) := by decide +kernel
theorem dX11_petition_12 : decode cX11_petition 12 = .ok (.ifCond .eq 7, 3) := by decide +kernel
theorem dX11_petition_15 : decode cX11_petition 15 = .ok (.iconst 1, 1) := by decide +kernel
theorem dX11_petition_16 : decode cX11_petition 16 = .ok (.goto 4, 3) := by decide +kernel
theorem dX11_petition_19 : decode cX11_petition 19 = .ok (.iconst 0, 1) := by decide +kernel
theorem dX11_petition_20 : decode cX11_petition 20 = .ok (.istore 6, 2) := by decide +kernel
theorem dX11_petition_22 : decode cX11_petition 22 = .ok (.lload_n 3, 1) := by decide +kernel
theorem dX11_petition_23 : decode cX11_petition 23 = .ok (.bipush 8, 2) := by decide +kernel
theorem dX11_petition_25 : decode cX11_petition 25 = .ok (.invokestatic 267, 3) := by decide +kernel
theorem dX11_petition_28 : decode cX11_petition 28 = .ok (.ifCond .eq 27, 3) := by decide +kernel
theorem dX11_petition_31 : decode cX11_petition 31 = .ok (.iload 5, 2) := by decide +kernel
theorem dX11_petition_33 : decode cX11_petition 33 = .ok (.invokestatic 248, 3) := by decide +kernel
theorem dX11_petition_36 : decode cX11_petition 36 = .ok (.ifCond .eq 19, 3) := by decide +kernel
theorem dX11_petition_39 : decode cX11_petition 39 = .ok (.iload 5, 2) := by decide +kernel
theorem dX11_petition_41 : decode cX11_petition 41 = .ok (.aload_n 0, 1) := by decide +kernel
theorem dX11_petition_42 : decode cX11_petition 42 = .ok (.getfield 238, 3) := by decide +kernel
theorem dX11_petition_45 : decode cX11_petition 45 = .ok (.bipush 30, 2) := by decide +kernel
theorem dX11_petition_47 : decode cX11_petition 47 = .ok (.iadd, 1) := by decide +kernel
theorem dX11_petition_48 : decode cX11_petition 48 = .ok (.if_icmp .lt 7, 3) := by decide +kernel
theorem dX11_petition_51 : decode cX11_petition 51 = .ok (.iconst 1, 1) := by decide +kernel
theorem dX11_petition_52 : decode cX11_petition 52 = .ok (.goto 4, 3) := by decide +kernel
theorem dX11_petition_55 : decode cX11_petition 55 = .ok (.iconst 0, 1) := by decide +kernel
theorem dX11_petition_56 : decode cX11_petition 56 = .ok (.istore 7, 2) := by decide +kernel
theorem dX11_petition_58 : decode cX11_petition 58 = .ok (.aload_n 0, 1) := by decide +kernel
theorem dX11_petition_59 : decode cX11_petition 59 = .ok (.iload 6, 2) := by decide +kernel
theorem dX11_petition_61 : decode cX11_petition 61 = .ok (.ifCond .ne 7, 3) := by decide +kernel
theorem dX11_petition_64 : decode cX11_petition 64 = .ok (.iconst 1, 1) := by decide +kernel
theorem dX11_petition_65 : decode cX11_petition 65 = .ok (.goto 26, 3) := by decide +kernel
theorem dX11_petition_68 : decode cX11_petition 68 = .ok (.iload 7, 2) := by decide +kernel
theorem dX11_petition_70 : decode cX11_petition 70 = .ok (.ifCond .ne 7, 3) := by decide +kernel
theorem dX11_petition_73 : decode cX11_petition 73 = .ok (.iconst 2, 1) := by decide +kernel
theorem dX11_petition_74 : decode cX11_petition 74 = .ok (.goto 17, 3) := by decide +kernel
theorem dX11_petition_77 : decode cX11_petition 77 = .ok (.aload_n 0, 1) := by decide +kernel
theorem dX11_petition_78 : decode cX11_petition 78 = .ok (.getfield 279, 3) := by decide +kernel
theorem dX11_petition_81 : decode cX11_petition 81 = .ok (.bipush 16, 2) := by decide +kernel
theorem dX11_petition_83 : decode cX11_petition 83 = .ok (.if_icmp .ne 7, 3) := by decide +kernel
theorem dX11_petition_86 : decode cX11_petition 86 = .ok (.iconst 3, 1) := by decide +kernel
theorem dX11_petition_87 : decode cX11_petition 87 = .ok (.goto 4, 3) := by decide +kernel
theorem dX11_petition_90 : decode cX11_petition 90 = .ok (.iconst 0, 1) := by decide +kernel
theorem dX11_petition_91 : decode cX11_petition 91 = .ok (.invokevirtual 234, 3) := by decide +kernel
theorem dX11_petition_94 : decode cX11_petition 94 = .ok (.ifCond .ne 5, 3) := by decide +kernel
theorem dX11_petition_97 : decode cX11_petition 97 = .ok (.iconst 0, 1) := by decide +kernel
theorem dX11_petition_98 : decode cX11_petition 98 = .ok (.ireturn, 1) := by decide +kernel
theorem dX11_petition_99 : decode cX11_petition 99 = .ok (.aload_n 0, 1) := by decide +kernel
theorem dX11_petition_100 : decode cX11_petition 100 = .ok (.getfield 101, 3) := by decide +kernel
theorem dX11_petition_103 : decode cX11_petition 103 = .ok (.aload_n 0, 1) := by decide +kernel
theorem dX11_petition_104 : decode cX11_petition 104 = .ok (.getfield 279, 3) := by decide +kernel
theorem dX11_petition_107 : decode cX11_petition 107 = .ok (.iload_n 1, 1) := by decide +kernel
theorem dX11_petition_108 : decode cX11_petition 108 = .ok (.iastore, 1) := by decide +kernel
theorem dX11_petition_109 : decode cX11_petition 109 = .ok (.aload_n 0, 1) := by decide +kernel
theorem dX11_petition_110 : decode cX11_petition 110 = .ok (.getfield 104, 3) := by decide +kernel
theorem dX11_petition_113 : decode cX11_petition 113 = .ok (.aload_n 0, 1) := by decide +kernel
theorem dX11_petition_114 : decode cX11_petition 114 = .ok (.getfield 279, 3) := by decide +kernel
theorem dX11_petition_117 : decode cX11_petition 117 = .ok (.iload_n 2, 1) := by decide +kernel
theorem dX11_petition_118 : decode cX11_petition 118 = .ok (.iastore, 1) := by decide +kernel
theorem dX11_petition_119 : decode cX11_petition 119 = .ok (.aload_n 0, 1) := by decide +kernel
theorem dX11_petition_120 : decode cX11_petition 120 = .ok (.getfield 107, 3) := by decide +kernel
theorem dX11_petition_123 : decode cX11_petition 123 = .ok (.aload_n 0, 1) := by decide +kernel
theorem dX11_petition_124 : decode cX11_petition 124 = .ok (.getfield 279, 3) := by decide +kernel
theorem dX11_petition_127 : decode cX11_petition 127 = .ok (.lload_n 3, 1) := by decide +kernel
theorem dX11_petition_128 : decode cX11_petition 128 = .ok (.lastore, 1) := by decide +kernel
theorem dX11_petition_129 : decode cX11_petition 129 = .ok (.aload_n 0, 1) := by decide +kernel
theorem dX11_petition_130 : decode cX11_petition 130 = .ok (.getfield 110, 3) := by decide +kernel
theorem dX11_petition_133 : decode cX11_petition 133 = .ok (.aload_n 0, 1) := by decide +kernel
theorem dX11_petition_134 : decode cX11_petition 134 = .ok (.getfield 279, 3) := by decide +kernel
theorem dX11_petition_137 : decode cX11_petition 137 = .ok (.iload 5, 2) := by decide +kernel
theorem dX11_petition_139 : decode cX11_petition 139 = .ok (.iastore, 1) := by decide +kernel
theorem dX11_petition_140 : decode cX11_petition 140 = .ok (.aload_n 0, 1) := by decide +kernel
theorem dX11_petition_141 : decode cX11_petition 141 = .ok (.getfield 125, 3) := by decide +kernel
theorem dX11_petition_144 : decode cX11_petition 144 = .ok (.aload_n 0, 1) := by decide +kernel
theorem dX11_petition_145 : decode cX11_petition 145 = .ok (.getfield 279, 3) := by decide +kernel
theorem dX11_petition_148 : decode cX11_petition 148 = .ok (.iconst (-1), 1) := by decide +kernel
theorem dX11_petition_149 : decode cX11_petition 149 = .ok (.iastore, 1) := by decide +kernel
theorem dX11_petition_150 : decode cX11_petition 150 = .ok (.aload_n 0, 1) := by decide +kernel
theorem dX11_petition_151 : decode cX11_petition 151 = .ok (.dup, 1) := by decide +kernel
theorem dX11_petition_152 : decode cX11_petition 152 = .ok (.getfield 279, 3) := by decide +kernel
theorem dX11_petition_155 : decode cX11_petition 155 = .ok (.iconst 1, 1) := by decide +kernel
theorem dX11_petition_156 : decode cX11_petition 156 = .ok (.iadd, 1) := by decide +kernel
theorem dX11_petition_157 : decode cX11_petition 157 = .ok (.putfield 279, 3) := by decide +kernel
theorem dX11_petition_160 : decode cX11_petition 160 = .ok (.aload_n 0, 1) := by decide +kernel
theorem dX11_petition_161 : decode cX11_petition 161 = .ok (.getfield 279, 3) := by decide +kernel
theorem dX11_petition_164 : decode cX11_petition 164 = .ok (.iconst 1, 1) := by decide +kernel
theorem dX11_petition_165 : decode cX11_petition 165 = .ok (.isub, 1) := by decide +kernel
theorem dX11_petition_166 : decode cX11_petition 166 = .ok (.ireturn, 1) := by decide +kernel
theorem dX11_vote_0 : decode cX11_vote 0 = .ok (.aload_n 0, 1) := by decide +kernel
theorem dX11_vote_1 : decode cX11_vote 1 = .ok (.iload_n 1, 1) := by decide +kernel
theorem dX11_vote_2 : decode cX11_vote 2 = .ok (.invokevirtual 282, 3) := by decide +kernel
theorem dX11_vote_5 : decode cX11_vote 5 = .ok (.ifCond .eq 17, 3) := by decide +kernel
theorem dX11_vote_8 : decode cX11_vote 8 = .ok (.iload_n 2, 1) := by decide +kernel
theorem dX11_vote_9 : decode cX11_vote 9 = .ok (.iconst 0, 1) := by decide +kernel
theorem dX11_vote_10 : decode cX11_vote 10 = .ok (.bipush 8, 2) := by decide +kernel
theorem dX11_vote_12 : decode cX11_vote 12 = .ok (.invokestatic 189, 3) := by decide +kernel
theorem dX11_vote_15 : decode cX11_vote 15 = .ok (.ifCond .eq 7, 3) := by decide +kernel
theorem dX11_vote_18 : decode cX11_vote 18 = .ok (.iconst 1, 1) := by decide +kernel
theorem dX11_vote_19 : decode cX11_vote 19 = .ok (.goto 4, 3) := by decide +kernel
theorem dX11_vote_22 : decode cX11_vote 22 = .ok (.iconst 0, 1) := by decide +kernel
theorem dX11_vote_23 : decode cX11_vote 23 = .ok (.istore 4, 2) := by decide +kernel
theorem dX11_vote_25 : decode cX11_vote 25 = .ok (.iload 4, 2) := by decide +kernel
theorem dX11_vote_27 : decode cX11_vote 27 = .ok (.ifCond .eq 36, 3) := by decide +kernel
theorem dX11_vote_30 : decode cX11_vote 30 = .ok (.aload_n 0, 1) := by decide +kernel
theorem dX11_vote_31 : decode cX11_vote 31 = .ok (.getfield 113, 3) := by decide +kernel
theorem dX11_vote_34 : decode cX11_vote 34 = .ok (.iload_n 1, 1) := by decide +kernel
theorem dX11_vote_35 : decode cX11_vote 35 = .ok (.iaload, 1) := by decide +kernel
theorem dX11_vote_36 : decode cX11_vote 36 = .ok (.ifCond .ne 27, 3) := by decide +kernel
theorem dX11_vote_39 : decode cX11_vote 39 = .ok (.aload_n 0, 1) := by decide +kernel
theorem dX11_vote_40 : decode cX11_vote 40 = .ok (.getfield 116, 3) := by decide +kernel
theorem dX11_vote_43 : decode cX11_vote 43 = .ok (.iload_n 1, 1) := by decide +kernel
theorem dX11_vote_44 : decode cX11_vote 44 = .ok (.iaload, 1) := by decide +kernel
theorem dX11_vote_45 : decode cX11_vote 45 = .ok (.aload_n 0, 1) := by decide +kernel
theorem dX11_vote_46 : decode cX11_vote 46 = .ok (.getfield 119, 3) := by decide +kernel
theorem dX11_vote_49 : decode cX11_vote 49 = .ok (.iload_n 1, 1) := by decide +kernel
theorem dX11_vote_50 : decode cX11_vote 50 = .ok (.iaload, 1) := by decide +kernel
theorem dX11_vote_51 : decode cX11_vote 51 = .ok (.ior, 1) := by decide +kernel
theorem dX11_vote_52 : decode cX11_vote 52 = .ok (.iload_n 2, 1) := by decide +kernel
theorem dX11_vote_53 : decode cX11_vote 53 = .ok (.ishr, 1) := by decide +kernel
theorem dX11_vote_54 : decode cX11_vote 54 = .ok (.iconst 1, 1) := by decide +kernel
theorem dX11_vote_55 : decode cX11_vote 55 = .ok (.iand, 1) := by decide +kernel
theorem dX11_vote_56 : decode cX11_vote 56 = .ok (.ifCond .ne 7, 3) := by decide +kernel
theorem dX11_vote_59 : decode cX11_vote 59 = .ok (.iconst 1, 1) := by decide +kernel
theorem dX11_vote_60 : decode cX11_vote 60 = .ok (.goto 4, 3) := by decide +kernel
theorem dX11_vote_63 : decode cX11_vote 63 = .ok (.iconst 0, 1) := by decide +kernel
theorem dX11_vote_64 : decode cX11_vote 64 = .ok (.istore 5, 2) := by decide +kernel
theorem dX11_vote_66 : decode cX11_vote 66 = .ok (.aload_n 0, 1) := by decide +kernel
theorem dX11_vote_67 : decode cX11_vote 67 = .ok (.iload 4, 2) := by decide +kernel
theorem dX11_vote_69 : decode cX11_vote 69 = .ok (.ifCond .ne 7, 3) := by decide +kernel
theorem dX11_vote_72 : decode cX11_vote 72 = .ok (.iconst 1, 1) := by decide +kernel
theorem dX11_vote_73 : decode cX11_vote 73 = .ok (.goto 13, 3) := by decide +kernel
theorem dX11_vote_76 : decode cX11_vote 76 = .ok (.iload 5, 2) := by decide +kernel
theorem dX11_vote_78 : decode cX11_vote 78 = .ok (.ifCond .eq 7, 3) := by decide +kernel
theorem dX11_vote_81 : decode cX11_vote 81 = .ok (.iconst 0, 1) := by decide +kernel
theorem dX11_vote_82 : decode cX11_vote 82 = .ok (.goto 4, 3) := by decide +kernel
theorem dX11_vote_85 : decode cX11_vote 85 = .ok (.iconst 2, 1) := by decide +kernel
theorem dX11_vote_86 : decode cX11_vote 86 = .ok (.invokevirtual 234, 3) := by decide +kernel
theorem dX11_vote_89 : decode cX11_vote 89 = .ok (.ifCond .ne 5, 3) := by decide +kernel
theorem dX11_vote_92 : decode cX11_vote 92 = .ok (.iconst 0, 1) := by decide +kernel
theorem dX11_vote_93 : decode cX11_vote 93 = .ok (.ireturn, 1) := by decide +kernel
theorem dX11_vote_94 : decode cX11_vote 94 = .ok (.iload_n 3, 1) := by decide +kernel
theorem dX11_vote_95 : decode cX11_vote 95 = .ok (.ifCond .eq 18, 3) := by decide +kernel
theorem dX11_vote_98 : decode cX11_vote 98 = .ok (.aload_n 0, 1) := by decide +kernel
theorem dX11_vote_99 : decode cX11_vote 99 = .ok (.getfield 116, 3) := by decide +kernel
theorem dX11_vote_102 : decode cX11_vote 102 = .ok (.iload_n 1, 1) := by decide +kernel
theorem dX11_vote_103 : decode cX11_vote 103 = .ok (.dup2, 1) := by decide +kernel
theorem dX11_vote_104 : decode cX11_vote 104 = .ok (.iaload, 1) := by decide +kernel
theorem dX11_vote_105 : decode cX11_vote 105 = .ok (.iconst 1, 1) := by decide +kernel
theorem dX11_vote_106 : decode cX11_vote 106 = .ok (.iload_n 2, 1) := by decide +kernel
theorem dX11_vote_107 : decode cX11_vote 107 = .ok (.ishl, 1) := by decide +kernel
theorem dX11_vote_108 : decode cX11_vote 108 = .ok (.ior, 1) := by decide +kernel
theorem dX11_vote_109 : decode cX11_vote 109 = .ok (.iastore, 1) := by decide +kernel
theorem dX11_vote_110 : decode cX11_vote 110 = .ok (.goto 15, 3) := by decide +kernel
theorem dX11_vote_113 : decode cX11_vote 113 = .ok (.aload_n 0, 1) := by decide +kernel
theorem dX11_vote_114 : decode cX11_vote 114 = .ok (.getfield 119, 3) := by decide +kernel
theorem dX11_vote_117 : decode cX11_vote 117 = .ok (.iload_n 1, 1) := by decide +kernel
theorem dX11_vote_118 : decode cX11_vote 118 = .ok (.dup2, 1) := by decide +kernel
theorem dX11_vote_119 : decode cX11_vote 119 = .ok (.iaload, 1) := by decide +kernel
theorem dX11_vote_120 : decode cX11_vote 120 = .ok (.iconst 1, 1) := by decide +kernel
theorem dX11_vote_121 : decode cX11_vote 121 = .ok (.iload_n 2, 1) := by decide +kernel
theorem dX11_vote_122 : decode cX11_vote 122 = .ok (.ishl, 1) := by decide +kernel
theorem dX11_vote_123 : decode cX11_vote 123 = .ok (.ior, 1) := by decide +kernel
theorem dX11_vote_124 : decode cX11_vote 124 = .ok (.iastore, 1) := by decide +kernel
theorem dX11_vote_125 : decode cX11_vote 125 = .ok (.aload_n 0, 1) := by decide +kernel
theorem dX11_vote_126 : decode cX11_vote 126 = .ok (.getfield 116, 3) := by decide +kernel
theorem dX11_vote_129 : decode cX11_vote 129 = .ok (.iload_n 1, 1) := by decide +kernel
theorem dX11_vote_130 : decode cX11_vote 130 = .ok (.iaload, 1) := by decide +kernel
theorem dX11_vote_131 : decode cX11_vote 131 = .ok (.aload_n 0, 1) := by decide +kernel
theorem dX11_vote_132 : decode cX11_vote 132 = .ok (.getfield 119, 3) := by decide +kernel
theorem dX11_vote_135 : decode cX11_vote 135 = .ok (.iload_n 1, 1) := by decide +kernel
theorem dX11_vote_136 : decode cX11_vote 136 = .ok (.iaload, 1) := by decide +kernel
theorem dX11_vote_137 : decode cX11_vote 137 = .ok (.ior, 1) := by decide +kernel
theorem dX11_vote_138 : decode cX11_vote 138 = .ok (.invokestatic 285, 3) := by decide +kernel
theorem dX11_vote_141 : decode cX11_vote 141 = .ok (.ireturn, 1) := by decide +kernel
theorem dX11_protest_0 : decode cX11_protest 0 = .ok (.aload_n 0, 1) := by decide +kernel
theorem dX11_protest_1 : decode cX11_protest 1 = .ok (.iload_n 1, 1) := by decide +kernel
theorem dX11_protest_2 : decode cX11_protest 2 = .ok (.invokevirtual 282, 3) := by decide +kernel
theorem dX11_protest_5 : decode cX11_protest 5 = .ok (.ifCond .eq 17, 3) := by decide +kernel
theorem dX11_protest_8 : decode cX11_protest 8 = .ok (.iload_n 2, 1) := by decide +kernel
theorem dX11_protest_9 : decode cX11_protest 9 = .ok (.iconst 0, 1) := by decide +kernel
theorem dX11_protest_10 : decode cX11_protest 10 = .ok (.bipush 7, 2) := by decide +kernel
theorem dX11_protest_12 : decode cX11_protest 12 = .ok (.invokestatic 189, 3) := by decide +kernel
theorem dX11_protest_15 : decode cX11_protest 15 = .ok (.ifCond .eq 7, 3) := by decide +kernel
theorem dX11_protest_18 : decode cX11_protest 18 = .ok (.iconst 1, 1) := by decide +kernel
theorem dX11_protest_19 : decode cX11_protest 19 = .ok (.goto 4, 3) := by decide +kernel
theorem dX11_protest_22 : decode cX11_protest 22 = .ok (.iconst 0, 1) := by decide +kernel
theorem dX11_protest_23 : decode cX11_protest 23 = .ok (.istore_n 3, 1) := by decide +kernel
theorem dX11_protest_24 : decode cX11_protest 24 = .ok (.aload_n 0, 1) := by decide +kernel
theorem dX11_protest_25 : decode cX11_protest 25 = .ok (.iload_n 3, 1) := by decide +kernel
theorem dX11_protest_26 : decode cX11_protest 26 = .ok (.ifCond .ne 7, 3) := by decide +kernel
theorem dX11_protest_29 : decode cX11_protest 29 = .ok (.iconst 1, 1) := by decide +kernel
theorem dX11_protest_30 : decode cX11_protest 30 = .ok (.goto 17, 3) := by decide +kernel
theorem dX11_protest_33 : decode cX11_protest 33 = .ok (.aload_n 0, 1) := by decide +kernel
theorem dX11_protest_34 : decode cX11_protest 34 = .ok (.getfield 113, 3) := by decide +kernel
theorem dX11_protest_37 : decode cX11_protest 37 = .ok (.iload_n 1, 1) := by decide +kernel
theorem dX11_protest_38 : decode cX11_protest 38 = .ok (.iaload, 1) := by decide +kernel
theorem dX11_protest_39 : decode cX11_protest 39 = .ok (.ifCond .ne 7, 3) := by decide +kernel
theorem dX11_protest_42 : decode cX11_protest 42 = .ok (.iconst 0, 1) := by decide +kernel
theorem dX11_protest_43 : decode cX11_protest 43 = .ok (.goto 4, 3) := by decide +kernel
theorem dX11_protest_46 : decode cX11_protest 46 = .ok (.iconst 2, 1) := by decide +kernel
theorem dX11_protest_47 : decode cX11_protest 47 = .ok (.invokevirtual 234, 3) := by decide +kernel
theorem dX11_protest_50 : decode cX11_protest 50 = .ok (.ifCond .ne 5, 3) := by decide +kernel
theorem dX11_protest_53 : decode cX11_protest 53 = .ok (.iconst 0, 1) := by decide +kernel
theorem dX11_protest_54 : decode cX11_protest 54 = .ok (.ireturn, 1) := by decide +kernel
theorem dX11_protest_55 : decode cX11_protest 55 = .ok (.aload_n 0, 1) := by decide +kernel
theorem dX11_protest_56 : decode cX11_protest 56 = .ok (.getfield 122, 3) := by decide +kernel
theorem dX11_protest_59 : decode cX11_protest 59 = .ok (.iload_n 1, 1) := by decide +kernel
theorem dX11_protest_60 : decode cX11_protest 60 = .ok (.dup2, 1) := by decide +kernel
theorem dX11_protest_61 : decode cX11_protest 61 = .ok (.iaload, 1) := by decide +kernel
theorem dX11_protest_62 : decode cX11_protest 62 = .ok (.iconst 1, 1) := by decide +kernel
theorem dX11_protest_63 : decode cX11_protest 63 = .ok (.iload_n 2, 1) := by decide +kernel
theorem dX11_protest_64 : decode cX11_protest 64 = .ok (.ishl, 1) := by decide +kernel
theorem dX11_protest_65 : decode cX11_protest 65 = .ok (.ixor, 1) := by decide +kernel
theorem dX11_protest_66 : decode cX11_protest 66 = .ok (.iastore, 1) := by decide +kernel
theorem dX11_protest_67 : decode cX11_protest 67 = .ok (.aload_n 0, 1) := by decide +kernel
theorem dX11_protest_68 : decode cX11_protest 68 = .ok (.getfield 122, 3) := by decide +kernel
theorem dX11_protest_71 : decode cX11_protest 71 = .ok (.iload_n 1, 1) := by decide +kernel
theorem dX11_protest_72 : decode cX11_protest 72 = .ok (.iaload, 1) := by decide +kernel
theorem dX11_protest_73 : decode cX11_protest 73 = .ok (.iload_n 2, 1) := by decide +kernel
theorem dX11_protest_74 : decode cX11_protest 74 = .ok (.ishr, 1) := by decide +kernel
theorem dX11_protest_75 : decode cX11_protest 75 = .ok (.iconst 1, 1) := by decide +kernel
theorem dX11_protest_76 : decode cX11_protest 76 = .ok (.iand, 1) := by decide +kernel
theorem dX11_protest_77 : decode cX11_protest 77 = .ok (.iconst 1, 1) := by decide +kernel
theorem dX11_protest_78 : decode cX11_protest 78 = .ok (.if_icmp .ne 7, 3) := by decide +kernel
theorem dX11_protest_81 : decode cX11_protest 81 = .ok (.iconst 1, 1) := by decide +kernel
theorem dX11_protest_82 : decode cX11_protest 82 = .ok (.goto 4, 3) := by decide +kernel
theorem dX11_protest_85 : decode cX11_protest 85 = .ok (.iconst 0, 1) := by decide +kernel
theorem dX11_protest_86 : decode cX11_protest 86 = .ok (.ireturn, 1) := by decide +kernel
theorem dX11_canDecide_0 : decode cX11_canDecide 0 = .ok (.aload_n 0, 1) := by decide +kernel
theorem dX11_canDecide_1 : decode cX11_canDecide 1 = .ok (.getfield 113, 3) := by decide +kernel
theorem dX11_canDecide_4 : decode cX11_canDecide 4 = .ok (.iload_n 1, 1) := by decide +kernel
theorem dX11_canDecide_5 : decode cX11_canDecide 5 = .ok (.iaload, 1) := by decide +kernel
theorem dX11_canDecide_6 : decode cX11_canDecide 6 = .ok (.ifCond .ne 58, 3) := by decide +kernel
theorem dX11_canDecide_9 : decode cX11_canDecide 9 = .ok (.aload_n 0, 1) := by decide +kernel
theorem dX11_canDecide_10 : decode cX11_canDecide 10 = .ok (.getfield 238, 3) := by decide +kernel
theorem dX11_canDecide_13 : decode cX11_canDecide 13 = .ok (.aload_n 0, 1) := by decide +kernel
theorem dX11_canDecide_14 : decode cX11_canDecide 14 = .ok (.getfield 110, 3) := by decide +kernel
theorem dX11_canDecide_17 : decode cX11_canDecide 17 = .ok (.iload_n 1, 1) := by decide +kernel
theorem dX11_canDecide_18 : decode cX11_canDecide 18 = .ok (.iaload, 1) := by decide +kernel
theorem dX11_canDecide_19 : decode cX11_canDecide 19 = .ok (.if_icmp .ge 45, 3) := by decide +kernel
theorem dX11_canDecide_22 : decode cX11_canDecide 22 = .ok (.aload_n 0, 1) := by decide +kernel
theorem dX11_canDecide_23 : decode cX11_canDecide 23 = .ok (.getfield 116, 3) := by decide +kernel
theorem dX11_canDecide_26 : decode cX11_canDecide 26 = .ok (.iload_n 1, 1) := by decide +kernel
theorem dX11_canDecide_27 : decode cX11_canDecide 27 = .ok (.iaload, 1) := by decide +kernel
theorem dX11_canDecide_28 : decode cX11_canDecide 28 = .ok (.aload_n 0, 1) := by decide +kernel
theorem dX11_canDecide_29 : decode cX11_canDecide 29 = .ok (.getfield 119, 3) := by decide +kernel
theorem dX11_canDecide_32 : decode cX11_canDecide 32 = .ok (.iload_n 1, 1) := by decide +kernel
theorem dX11_canDecide_33 : decode cX11_canDecide 33 = .ok (.iaload, 1) := by decide +kernel
theorem dX11_canDecide_34 : decode cX11_canDecide 34 = .ok (.ior, 1) := by decide +kernel
theorem dX11_canDecide_35 : decode cX11_canDecide 35 = .ok (.invokestatic 285, 3) := by decide +kernel
theorem dX11_canDecide_38 : decode cX11_canDecide 38 = .ok (.iconst 5, 1) := by decide +kernel
theorem dX11_canDecide_39 : decode cX11_canDecide 39 = .ok (.if_icmp .lt 25, 3) := by decide +kernel
theorem dX11_canDecide_42 : decode cX11_canDecide 42 = .ok (.aload_n 0, 1) := by decide +kernel
theorem dX11_canDecide_43 : decode cX11_canDecide 43 = .ok (.getfield 122, 3) := by decide +kernel
theorem dX11_canDecide_46 : decode cX11_canDecide 46 = .ok (.iload_n 1, 1) := by decide +kernel
theorem dX11_canDecide_47 : decode cX11_canDecide 47 = .ok (.iaload, 1) := by decide +kernel
theorem dX11_canDecide_48 : decode cX11_canDecide 48 = .ok (.ifCond .ne 16, 3) := by decide +kernel
theorem dX11_canDecide_51 : decode cX11_canDecide 51 = .ok (.aload_n 0, 1) := by decide +kernel
theorem dX11_canDecide_52 : decode cX11_canDecide 52 = .ok (.getfield 201, 3) := by decide +kernel
theorem dX11_canDecide_55 : decode cX11_canDecide 55 = .ok (.bipush 100, 2) := by decide +kernel
theorem dX11_canDecide_57 : decode cX11_canDecide 57 = .ok (.if_icmp .ge 7, 3) := by decide +kernel
theorem dX11_canDecide_60 : decode cX11_canDecide 60 = .ok (.iconst 1, 1) := by decide +kernel
theorem dX11_canDecide_61 : decode cX11_canDecide 61 = .ok (.goto 4, 3) := by decide +kernel
theorem dX11_canDecide_64 : decode cX11_canDecide 64 = .ok (.iconst 0, 1) := by decide +kernel
theorem dX11_canDecide_65 : decode cX11_canDecide 65 = .ok (.ireturn, 1) := by decide +kernel
theorem dX11_decide_0 : decode cX11_decide 0 = .ok (.aload_n 0, 1) := by decide +kernel
theorem dX11_decide_1 : decode cX11_decide 1 = .ok (.iload_n 1, 1) := by decide +kernel
theorem dX11_decide_2 : decode cX11_decide 2 = .ok (.invokevirtual 282, 3) := by decide +kernel
theorem dX11_decide_5 : decode cX11_decide 5 = .ok (.istore_n 2, 1) := by decide +kernel
theorem dX11_decide_6 : decode cX11_decide 6 = .ok (.aload_n 0, 1) := by decide +kernel
theorem dX11_decide_7 : decode cX11_decide 7 = .ok (.iload_n 2, 1) := by decide +kernel
theorem dX11_decide_8 : decode cX11_decide 8 = .ok (.ifCond .ne 7, 3) := by decide +kernel
theorem dX11_decide_11 : decode cX11_decide 11 = .ok (.iconst 1, 1) := by decide +kernel
theorem dX11_decide_12 : decode cX11_decide 12 = .ok (.goto 16, 3) := by decide +kernel
theorem dX11_decide_15 : decode cX11_decide 15 = .ok (.aload_n 0, 1) := by decide +kernel
theorem dX11_decide_16 : decode cX11_decide 16 = .ok (.iload_n 1, 1) := by decide +kernel
theorem dX11_decide_17 : decode cX11_decide 17 = .ok (.invokevirtual 289, 3) := by decide +kernel
theorem dX11_decide_20 : decode cX11_decide 20 = .ok (.ifCond .eq 7, 3) := by decide +kernel
theorem dX11_decide_23 : decode cX11_decide 23 = .ok (.iconst 0, 1) := by decide +kernel
theorem dX11_decide_24 : decode cX11_decide 24 = .ok (.goto 4, 3) := by decide +kernel
theorem dX11_decide_27 : decode cX11_decide 27 = .ok (.iconst 2, 1) := by decide +kernel
theorem dX11_decide_28 : decode cX11_decide 28 = .ok (.invokevirtual 234, 3) := by decide +kernel
theorem dX11_decide_31 : decode cX11_decide 31 = .ok (.ifCond .ne 5, 3) := by decide +kernel
theorem dX11_decide_34 : decode cX11_decide 34 = .ok (.iconst 0, 1) := by decide +kernel
theorem dX11_decide_35 : decode cX11_decide 35 = .ok (.ireturn, 1) := by decide +kernel
theorem dX11_decide_36 : decode cX11_decide 36 = .ok (.aload_n 0, 1) := by decide +kernel
theorem dX11_decide_37 : decode cX11_decide 37 = .ok (.getfield 116, 3) := by decide +kernel
theorem dX11_decide_40 : decode cX11_decide 40 = .ok (.iload_n 1, 1) := by decide +kernel
theorem dX11_decide_41 : decode cX11_decide 41 = .ok (.iaload, 1) := by decide +kernel
theorem dX11_decide_42 : decode cX11_decide 42 = .ok (.invokestatic 285, 3) := by decide +kernel
theorem dX11_decide_45 : decode cX11_decide 45 = .ok (.aload_n 0, 1) := by decide +kernel
theorem dX11_decide_46 : decode cX11_decide 46 = .ok (.getfield 119, 3) := by decide +kernel
theorem dX11_decide_49 : decode cX11_decide 49 = .ok (.iload_n 1, 1) := by decide +kernel
theorem dX11_decide_50 : decode cX11_decide 50 = .ok (.iaload, 1) := by decide +kernel
theorem dX11_decide_51 : decode cX11_decide 51 = .ok (.invokestatic 285, 3) := by decide +kernel
theorem dX11_decide_54 : decode cX11_decide 54 = .ok (.if_icmp .le 7, 3) := by decide +kernel
theorem dX11_decide_57 : decode cX11_decide 57 = .ok (.iconst 1, 1) := by decide +kernel
theorem dX11_decide_58 : decode cX11_decide 58 = .ok (.goto 4, 3) := by decide +kernel
theorem dX11_decide_61 : decode cX11_decide 61 = .ok (.iconst 0, 1) := by decide +kernel
theorem dX11_decide_62 : decode cX11_decide 62 = .ok (.istore_n 3, 1) := by decide +kernel
theorem dX11_decide_63 : decode cX11_decide 63 = .ok (.iload_n 3, 1) := by decide +kernel
theorem dX11_decide_64 : decode cX11_decide 64 = .ok (.ifCond .eq 38, 3) := by decide +kernel
theorem dX11_decide_67 : decode cX11_decide 67 = .ok (.aload_n 0, 1) := by decide +kernel
theorem dX11_decide_68 : decode cX11_decide 68 = .ok (.aload_n 0, 1) := by decide +kernel
theorem dX11_decide_69 : decode cX11_decide 69 = .ok (.getfield 101, 3) := by decide +kernel
theorem dX11_decide_72 : decode cX11_decide 72 = .ok (.iload_n 1, 1) := by decide +kernel
theorem dX11_decide_73 : decode cX11_decide 73 = .ok (.iaload, 1) := by decide +kernel
theorem dX11_decide_74 : decode cX11_decide 74 = .ok (.aload_n 0, 1) := by decide +kernel
theorem dX11_decide_75 : decode cX11_decide 75 = .ok (.getfield 104, 3) := by decide +kernel
theorem dX11_decide_78 : decode cX11_decide 78 = .ok (.iload_n 1, 1) := by decide +kernel
theorem dX11_decide_79 : decode cX11_decide 79 = .ok (.iaload, 1) := by decide +kernel
theorem dX11_decide_80 : decode cX11_decide 80 = .ok (.aload_n 0, 1) := by decide +kernel
theorem dX11_decide_81 : decode cX11_decide 81 = .ok (.getfield 107, 3) := by decide +kernel
theorem dX11_decide_84 : decode cX11_decide 84 = .ok (.iload_n 1, 1) := by decide +kernel
theorem dX11_decide_85 : decode cX11_decide 85 = .ok (.laload, 1) := by decide +kernel
theorem dX11_decide_86 : decode cX11_decide 86 = .ok (.aload_n 0, 1) := by decide +kernel
theorem dX11_decide_87 : decode cX11_decide 87 = .ok (.getfield 110, 3) := by decide +kernel
theorem dX11_decide_90 : decode cX11_decide 90 = .ok (.iload_n 1, 1) := by decide +kernel
theorem dX11_decide_91 : decode cX11_decide 91 = .ok (.iaload, 1) := by decide +kernel
theorem dX11_decide_92 : decode cX11_decide 92 = .ok (.invokevirtual 271, 3) := by decide +kernel
theorem dX11_decide_95 : decode cX11_decide 95 = .ok (.ifCond .ne 7, 3) := by decide +kernel
theorem dX11_decide_98 : decode cX11_decide 98 = .ok (.iconst 1, 1) := by decide +kernel
theorem dX11_decide_99 : decode cX11_decide 99 = .ok (.goto 4, 3) := by decide +kernel
theorem dX11_decide_102 : decode cX11_decide 102 = .ok (.iconst 0, 1) := by decide +kernel
theorem dX11_decide_103 : decode cX11_decide 103 = .ok (.istore 4, 2) := by decide +kernel
theorem dX11_decide_105 : decode cX11_decide 105 = .ok (.aload_n 0, 1) := by decide +kernel
theorem dX11_decide_106 : decode cX11_decide 106 = .ok (.getfield 113, 3) := by decide +kernel
theorem dX11_decide_109 : decode cX11_decide 109 = .ok (.iload_n 1, 1) := by decide +kernel
theorem dX11_decide_110 : decode cX11_decide 110 = .ok (.iload 4, 2) := by decide +kernel
theorem dX11_decide_112 : decode cX11_decide 112 = .ok (.ifCond .eq 7, 3) := by decide +kernel
theorem dX11_decide_115 : decode cX11_decide 115 = .ok (.iconst 1, 1) := by decide +kernel
theorem dX11_decide_116 : decode cX11_decide 116 = .ok (.goto 4, 3) := by decide +kernel
theorem dX11_decide_119 : decode cX11_decide 119 = .ok (.iconst 2, 1) := by decide +kernel
theorem dX11_decide_120 : decode cX11_decide 120 = .ok (.iastore, 1) := by decide +kernel
theorem dX11_decide_121 : decode cX11_decide 121 = .ok (.aload_n 0, 1) := by decide +kernel
theorem dX11_decide_122 : decode cX11_decide 122 = .ok (.getfield 125, 3) := by decide +kernel
theorem dX11_decide_125 : decode cX11_decide 125 = .ok (.iload_n 1, 1) := by decide +kernel
theorem dX11_decide_126 : decode cX11_decide 126 = .ok (.aload_n 0, 1) := by decide +kernel
theorem dX11_decide_127 : decode cX11_decide 127 = .ok (.getfield 238, 3) := by decide +kernel
theorem dX11_decide_130 : decode cX11_decide 130 = .ok (.iastore, 1) := by decide +kernel
theorem dX11_decide_131 : decode cX11_decide 131 = .ok (.iload 4, 2) := by decide +kernel
theorem dX11_decide_133 : decode cX11_decide 133 = .ok (.ifCond .eq 39, 3) := by decide +kernel
theorem dX11_decide_136 : decode cX11_decide 136 = .ok (.aload_n 0, 1) := by decide +kernel
theorem dX11_decide_137 : decode cX11_decide 137 = .ok (.getfield 128, 3) := by decide +kernel
theorem dX11_decide_140 : decode cX11_decide 140 = .ok (.iload_n 1, 1) := by decide +kernel
theorem dX11_decide_141 : decode cX11_decide 141 = .ok (.aload_n 0, 1) := by decide +kernel
theorem dX11_decide_142 : decode cX11_decide 142 = .ok (.aload_n 0, 1) := by decide +kernel
theorem dX11_decide_143 : decode cX11_decide 143 = .ok (.getfield 101, 3) := by decide +kernel
theorem dX11_decide_146 : decode cX11_decide 146 = .ok (.iload_n 1, 1) := by decide +kernel
theorem dX11_decide_147 : decode cX11_decide 147 = .ok (.iaload, 1) := by decide +kernel
theorem dX11_decide_148 : decode cX11_decide 148 = .ok (.aload_n 0, 1) := by decide +kernel
theorem dX11_decide_149 : decode cX11_decide 149 = .ok (.getfield 104, 3) := by decide +kernel
theorem dX11_decide_152 : decode cX11_decide 152 = .ok (.iload_n 1, 1) := by decide +kernel
theorem dX11_decide_153 : decode cX11_decide 153 = .ok (.iaload, 1) := by decide +kernel
theorem dX11_decide_154 : decode cX11_decide 154 = .ok (.aload_n 0, 1) := by decide +kernel
theorem dX11_decide_155 : decode cX11_decide 155 = .ok (.getfield 107, 3) := by decide +kernel
theorem dX11_decide_158 : decode cX11_decide 158 = .ok (.iload_n 1, 1) := by decide +kernel
theorem dX11_decide_159 : decode cX11_decide 159 = .ok (.laload, 1) := by decide +kernel
theorem dX11_decide_160 : decode cX11_decide 160 = .ok (.aload_n 0, 1) := by decide +kernel
theorem dX11_decide_161 : decode cX11_decide 161 = .ok (.getfield 110, 3) := by decide +kernel
theorem dX11_decide_164 : decode cX11_decide 164 = .ok (.iload_n 1, 1) := by decide +kernel
theorem dX11_decide_165 : decode cX11_decide 165 = .ok (.iaload, 1) := by decide +kernel
theorem dX11_decide_166 : decode cX11_decide 166 = .ok (.invokevirtual 275, 3) := by decide +kernel
theorem dX11_decide_169 : decode cX11_decide 169 = .ok (.iconst 1, 1) := by decide +kernel
theorem dX11_decide_170 : decode cX11_decide 170 = .ok (.isub, 1) := by decide +kernel
theorem dX11_decide_171 : decode cX11_decide 171 = .ok (.iastore, 1) := by decide +kernel
theorem dX11_decide_172 : decode cX11_decide 172 = .ok (.aload_n 0, 1) := by decide +kernel
theorem dX11_decide_173 : decode cX11_decide 173 = .ok (.getfield 113, 3) := by decide +kernel
theorem dX11_decide_176 : decode cX11_decide 176 = .ok (.iload_n 1, 1) := by decide +kernel
theorem dX11_decide_177 : decode cX11_decide 177 = .ok (.iaload, 1) := by decide +kernel
theorem dX11_decide_178 : decode cX11_decide 178 = .ok (.ireturn, 1) := by decide +kernel
theorem dX11_appeal_0 : decode cX11_appeal 0 = .ok (.aload_n 0, 1) := by decide +kernel
theorem dX11_appeal_1 : decode cX11_appeal 1 = .ok (.iload_n 1, 1) := by decide +kernel
theorem dX11_appeal_2 : decode cX11_appeal 2 = .ok (.invokevirtual 282, 3) := by decide +kernel
theorem dX11_appeal_5 : decode cX11_appeal 5 = .ok (.istore_n 2, 1) := by decide +kernel
theorem dX11_appeal_6 : decode cX11_appeal 6 = .ok (.aload_n 0, 1) := by decide +kernel
theorem dX11_appeal_7 : decode cX11_appeal 7 = .ok (.iload_n 2, 1) := by decide +kernel
theorem dX11_appeal_8 : decode cX11_appeal 8 = .ok (.ifCond .ne 7, 3) := by decide +kernel
theorem dX11_appeal_11 : decode cX11_appeal 11 = .ok (.iconst 1, 1) := by decide +kernel
theorem dX11_appeal_12 : decode cX11_appeal 12 = .ok (.goto 34, 3) := by decide +kernel
theorem dX11_appeal_15 : decode cX11_appeal 15 = .ok (.aload_n 0, 1) := by decide +kernel
theorem dX11_appeal_16 : decode cX11_appeal 16 = .ok (.getfield 113, 3) := by decide +kernel
theorem dX11_appeal_19 : decode cX11_appeal 19 = .ok (.iload_n 1, 1) := by decide +kernel
theorem dX11_appeal_20 : decode cX11_appeal 20 = .ok (.iaload, 1) := by decide +kernel
theorem dX11_appeal_21 : decode cX11_appeal 21 = .ok (.iconst 1, 1) := by decide +kernel
theorem dX11_appeal_22 : decode cX11_appeal 22 = .ok (.if_icmp .ne 19, 3) := by decide +kernel
theorem dX11_appeal_25 : decode cX11_appeal 25 = .ok (.aload_n 0, 1) := by decide +kernel
theorem dX11_appeal_26 : decode cX11_appeal 26 = .ok (.getfield 238, 3) := by decide +kernel
theorem dX11_appeal_29 : decode cX11_appeal 29 = .ok (.aload_n 0, 1) := by decide +kernel
theorem dX11_appeal_30 : decode cX11_appeal 30 = .ok (.getfield 125, 3) := by decide +kernel
theorem dX11_appeal_33 : decode cX11_appeal 33 = .ok (.iload_n 1, 1) := by decide +kernel
theorem dX11_appeal_34 : decode cX11_appeal 34 = .ok (.iaload, 1) := by decide +kernel
theorem dX11_appeal_35 : decode cX11_appeal 35 = .ok (.isub, 1) := by decide +kernel
theorem dX11_appeal_36 : decode cX11_appeal 36 = .ok (.bipush 60, 2) := by decide +kernel
theorem dX11_appeal_38 : decode cX11_appeal 38 = .ok (.if_icmp .le 7, 3) := by decide +kernel
theorem dX11_appeal_41 : decode cX11_appeal 41 = .ok (.iconst 2, 1) := by decide +kernel
theorem dX11_appeal_42 : decode cX11_appeal 42 = .ok (.goto 4, 3) := by decide +kernel
theorem dX11_appeal_45 : decode cX11_appeal 45 = .ok (.iconst 0, 1) := by decide +kernel
theorem dX11_appeal_46 : decode cX11_appeal 46 = .ok (.invokevirtual 234, 3) := by decide +kernel
theorem dX11_appeal_49 : decode cX11_appeal 49 = .ok (.ifCond .ne 5, 3) := by decide +kernel
theorem dX11_appeal_52 : decode cX11_appeal 52 = .ok (.iconst 0, 1) := by decide +kernel
theorem dX11_appeal_53 : decode cX11_appeal 53 = .ok (.ireturn, 1) := by decide +kernel
theorem dX11_appeal_54 : decode cX11_appeal 54 = .ok (.aload_n 0, 1) := by decide +kernel
theorem dX11_appeal_55 : decode cX11_appeal 55 = .ok (.getfield 113, 3) := by decide +kernel
theorem dX11_appeal_58 : decode cX11_appeal 58 = .ok (.iload_n 1, 1) := by decide +kernel
theorem dX11_appeal_59 : decode cX11_appeal 59 = .ok (.iconst 3, 1) := by decide +kernel
theorem dX11_appeal_60 : decode cX11_appeal 60 = .ok (.iastore, 1) := by decide +kernel
theorem dX11_appeal_61 : decode cX11_appeal 61 = .ok (.aload_n 0, 1) := by decide +kernel
theorem dX11_appeal_62 : decode cX11_appeal 62 = .ok (.getfield 68, 3) := by decide +kernel
theorem dX11_appeal_65 : decode cX11_appeal 65 = .ok (.aload_n 0, 1) := by decide +kernel
theorem dX11_appeal_66 : decode cX11_appeal 66 = .ok (.getfield 128, 3) := by decide +kernel
theorem dX11_appeal_69 : decode cX11_appeal 69 = .ok (.iload_n 1, 1) := by decide +kernel
theorem dX11_appeal_70 : decode cX11_appeal 70 = .ok (.iaload, 1) := by decide +kernel
theorem dX11_appeal_71 : decode cX11_appeal 71 = .ok (.aload_n 0, 1) := by decide +kernel
theorem dX11_appeal_72 : decode cX11_appeal 72 = .ok (.getfield 238, 3) := by decide +kernel
theorem dX11_appeal_75 : decode cX11_appeal 75 = .ok (.iastore, 1) := by decide +kernel
theorem dX11_appeal_76 : decode cX11_appeal 76 = .ok (.aload_n 0, 1) := by decide +kernel
theorem dX11_appeal_77 : decode cX11_appeal 77 = .ok (.getfield 238, 3) := by decide +kernel
theorem dX11_appeal_80 : decode cX11_appeal 80 = .ok (.aload_n 0, 1) := by decide +kernel
theorem dX11_appeal_81 : decode cX11_appeal 81 = .ok (.getfield 125, 3) := by decide +kernel
theorem dX11_appeal_84 : decode cX11_appeal 84 = .ok (.iload_n 1, 1) := by decide +kernel
theorem dX11_appeal_85 : decode cX11_appeal 85 = .ok (.iaload, 1) := by decide +kernel
theorem dX11_appeal_86 : decode cX11_appeal 86 = .ok (.isub, 1) := by decide +kernel
theorem dX11_appeal_87 : decode cX11_appeal 87 = .ok (.ireturn, 1) := by decide +kernel
theorem dX11_petitionOf_0 : decode cX11_petitionOf 0 = .ok (.aload_n 0, 1) := by decide +kernel
theorem dX11_petitionOf_1 : decode cX11_petitionOf 1 = .ok (.aload_n 0, 1) := by decide +kernel
theorem dX11_petitionOf_2 : decode cX11_petitionOf 2 = .ok (.iload_n 1, 1) := by decide +kernel
theorem dX11_petitionOf_3 : decode cX11_petitionOf 3 = .ok (.invokevirtual 282, 3) := by decide +kernel
theorem dX11_petitionOf_6 : decode cX11_petitionOf 6 = .ok (.ifCond .ne 7, 3) := by decide +kernel
theorem dX11_petitionOf_9 : decode cX11_petitionOf 9 = .ok (.iconst 1, 1) := by decide +kernel
theorem dX11_petitionOf_10 : decode cX11_petitionOf 10 = .ok (.goto 17, 3) := by decide +kernel
theorem dX11_petitionOf_13 : decode cX11_petitionOf 13 = .ok (.iload_n 2, 1) := by decide +kernel
theorem dX11_petitionOf_14 : decode cX11_petitionOf 14 = .ok (.iconst 0, 1) := by decide +kernel
theorem dX11_petitionOf_15 : decode cX11_petitionOf 15 = .ok (.iconst 4, 1) := by decide +kernel
theorem dX11_petitionOf_16 : decode cX11_petitionOf 16 = .ok (.invokestatic 189, 3) := by decide +kernel
theorem dX11_petitionOf_19 : decode cX11_petitionOf 19 = .ok (.ifCond .eq 7, 3) := by decide +kernel
theorem dX11_petitionOf_22 : decode cX11_petitionOf 22 = .ok (.iconst 0, 1) := by decide +kernel
theorem dX11_petitionOf_23 : decode cX11_petitionOf 23 = .ok (.goto 4, 3) := by decide +kernel
theorem dX11_petitionOf_26 : decode cX11_petitionOf 26 = .ok (.iconst 2, 1) := by decide +kernel
theorem dX11_petitionOf_27 : decode cX11_petitionOf 27 = .ok (.invokevirtual 234, 3) := by decide +kernel
theorem dX11_petitionOf_30 : decode cX11_petitionOf 30 = .ok (.ifCond .ne 5, 3) := by decide +kernel
theorem dX11_petitionOf_33 : decode cX11_petitionOf 33 = .ok (.iconst 0, 1) := by decide +kernel
theorem dX11_petitionOf_34 : decode cX11_petitionOf 34 = .ok (.ireturn, 1) := by decide +kernel
theorem dX11_petitionOf_35 : decode cX11_petitionOf 35 = .ok (.iload_n 2, 1) := by decide +kernel
theorem dX11_petitionOf_36 : decode cX11_petitionOf 36 = .ok (.iconst 3, 1) := by decide +kernel
theorem dX11_petitionOf_37 : decode cX11_petitionOf 37 = .ok (.if_icmp .ge 40, 3) := by decide +kernel
theorem dX11_petitionOf_40 : decode cX11_petitionOf 40 = .ok (.iload_n 2, 1) := by decide +kernel
theorem dX11_petitionOf_41 : decode cX11_petitionOf 41 = .ok (.ifCond .ne 12, 3) := by decide +kernel
theorem dX11_petitionOf_44 : decode cX11_petitionOf 44 = .ok (.aload_n 0, 1) := by decide +kernel
theorem dX11_petitionOf_45 : decode cX11_petitionOf 45 = .ok (.getfield 113, 3) := by decide +kernel
theorem dX11_petitionOf_48 : decode cX11_petitionOf 48 = .ok (.iload_n 1, 1) := by decide +kernel
theorem dX11_petitionOf_49 : decode cX11_petitionOf 49 = .ok (.iaload, 1) := by decide +kernel
theorem dX11_petitionOf_50 : decode cX11_petitionOf 50 = .ok (.goto 26, 3) := by decide +kernel
theorem dX11_petitionOf_53 : decode cX11_petitionOf 53 = .ok (.iload_n 2, 1) := by decide +kernel
theorem dX11_petitionOf_54 : decode cX11_petitionOf 54 = .ok (.iconst 1, 1) := by decide +kernel
theorem dX11_petitionOf_55 : decode cX11_petitionOf 55 = .ok (.if_icmp .ne 12, 3) := by decide +kernel
theorem dX11_petitionOf_58 : decode cX11_petitionOf 58 = .ok (.aload_n 0, 1) := by decide +kernel
theorem dX11_petitionOf_59 : decode cX11_petitionOf 59 = .ok (.getfield 116, 3) := by decide +kernel
theorem dX11_petitionOf_62 : decode cX11_petitionOf 62 = .ok (.iload_n 1, 1) := by decide +kernel
theorem dX11_petitionOf_63 : decode cX11_petitionOf 63 = .ok (.iaload, 1) := by decide +kernel
theorem dX11_petitionOf_64 : decode cX11_petitionOf 64 = .ok (.goto 9, 3) := by decide +kernel
theorem dX11_petitionOf_67 : decode cX11_petitionOf 67 = .ok (.aload_n 0, 1) := by decide +kernel
theorem dX11_petitionOf_68 : decode cX11_petitionOf 68 = .ok (.getfield 119, 3) := by decide +kernel
theorem dX11_petitionOf_71 : decode cX11_petitionOf 71 = .ok (.iload_n 1, 1) := by decide +kernel
theorem dX11_petitionOf_72 : decode cX11_petitionOf 72 = .ok (.iaload, 1) := by decide +kernel
theorem dX11_petitionOf_73 : decode cX11_petitionOf 73 = .ok (.invokestatic 285, 3) := by decide +kernel
theorem dX11_petitionOf_76 : decode cX11_petitionOf 76 = .ok (.ireturn, 1) := by decide +kernel
theorem dX11_petitionOf_77 : decode cX11_petitionOf 77 = .ok (.iload_n 2, 1) := by decide +kernel
theorem dX11_petitionOf_78 : decode cX11_petitionOf 78 = .ok (.iconst 3, 1) := by decide +kernel
theorem dX11_petitionOf_79 : decode cX11_petitionOf 79 = .ok (.if_icmp .ne 15, 3) := by decide +kernel
theorem dX11_petitionOf_82 : decode cX11_petitionOf 82 = .ok (.aload_n 0, 1) := by decide +kernel
theorem dX11_petitionOf_83 : decode cX11_petitionOf 83 = .ok (.getfield 122, 3) := by decide +kernel
theorem dX11_petitionOf_86 : decode cX11_petitionOf 86 = .ok (.iload_n 1, 1) := by decide +kernel
theorem dX11_petitionOf_87 : decode cX11_petitionOf 87 = .ok (.iaload, 1) := by decide +kernel
theorem dX11_petitionOf_88 : decode cX11_petitionOf 88 = .ok (.invokestatic 285, 3) := by decide +kernel
theorem dX11_petitionOf_91 : decode cX11_petitionOf 91 = .ok (.goto 9, 3) := by decide +kernel
theorem dX11_petitionOf_94 : decode cX11_petitionOf 94 = .ok (.aload_n 0, 1) := by decide +kernel
theorem dX11_petitionOf_95 : decode cX11_petitionOf 95 = .ok (.getfield 125, 3) := by decide +kernel
theorem dX11_petitionOf_98 : decode cX11_petitionOf 98 = .ok (.iload_n 1, 1) := by decide +kernel
theorem dX11_petitionOf_99 : decode cX11_petitionOf 99 = .ok (.iaload, 1) := by decide +kernel
theorem dX11_petitionOf_100 : decode cX11_petitionOf 100 = .ok (.ireturn, 1) := by decide +kernel
theorem dX11_census_0 : decode cX11_census 0 = .ok (.aload_n 0, 1) := by decide +kernel
theorem dX11_census_1 : decode cX11_census 1 = .ok (.iload_n 1, 1) := by decide +kernel
theorem dX11_census_2 : decode cX11_census 2 = .ok (.invokevirtual 245, 3) := by decide +kernel
theorem dX11_census_5 : decode cX11_census 5 = .ok (.ifCond .eq 14, 3) := by decide +kernel
theorem dX11_census_8 : decode cX11_census 8 = .ok (.iload_n 2, 1) := by decide +kernel
theorem dX11_census_9 : decode cX11_census 9 = .ok (.invokestatic 264, 3) := by decide +kernel
theorem dX11_census_12 : decode cX11_census 12 = .ok (.ifCond .eq 7, 3) := by decide +kernel
theorem dX11_census_15 : decode cX11_census 15 = .ok (.iconst 1, 1) := by decide +kernel
theorem dX11_census_16 : decode cX11_census 16 = .ok (.goto 4, 3) := by decide +kernel
theorem dX11_census_19 : decode cX11_census 19 = .ok (.iconst 0, 1) := by decide +kernel
theorem dX11_census_20 : decode cX11_census 20 = .ok (.istore 4, 2) := by decide +kernel
theorem dX11_census_22 : decode cX11_census 22 = .ok (.aload_n 0, 1) := by decide +kernel
theorem dX11_census_23 : decode cX11_census 23 = .ok (.iload 4, 2) := by decide +kernel
theorem dX11_census_25 : decode cX11_census 25 = .ok (.ifCond .ne 7, 3) := by decide +kernel
theorem dX11_census_28 : decode cX11_census 28 = .ok (.iconst 1, 1) := by decide +kernel
theorem dX11_census_29 : decode cX11_census 29 = .ok (.goto 18, 3) := by decide +kernel
theorem dX11_census_32 : decode cX11_census 32 = .ok (.iload_n 3, 1) := by decide +kernel
theorem dX11_census_33 : decode cX11_census 33 = .ok (.iconst 0, 1) := by decide +kernel
theorem dX11_census_34 : decode cX11_census 34 = .ok (.bipush 100, 2) := by decide +kernel
theorem dX11_census_36 : decode cX11_census 36 = .ok (.invokestatic 189, 3) := by decide +kernel
theorem dX11_census_39 : decode cX11_census 39 = .ok (.ifCond .eq 7, 3) := by decide +kernel
theorem dX11_census_42 : decode cX11_census 42 = .ok (.iconst 0, 1) := by decide +kernel
theorem dX11_census_43 : decode cX11_census 43 = .ok (.goto 4, 3) := by decide +kernel
theorem dX11_census_46 : decode cX11_census 46 = .ok (.iconst 2, 1) := by decide +kernel
theorem dX11_census_47 : decode cX11_census 47 = .ok (.invokevirtual 234, 3) := by decide +kernel
theorem dX11_census_50 : decode cX11_census 50 = .ok (.ifCond .ne 5, 3) := by decide +kernel
theorem dX11_census_53 : decode cX11_census 53 = .ok (.iconst 0, 1) := by decide +kernel
theorem dX11_census_54 : decode cX11_census 54 = .ok (.ireturn, 1) := by decide +kernel
theorem dX11_census_55 : decode cX11_census 55 = .ok (.aload_n 0, 1) := by decide +kernel
theorem dX11_census_56 : decode cX11_census 56 = .ok (.getfield 131, 3) := by decide +kernel
theorem dX11_census_59 : decode cX11_census 59 = .ok (.iconst 4, 1) := by decide +kernel
theorem dX11_census_60 : decode cX11_census 60 = .ok (.iload_n 1, 1) := by decide +kernel
theorem dX11_census_61 : decode cX11_census 61 = .ok (.imul, 1) := by decide +kernel
theorem dX11_census_62 : decode cX11_census 62 = .ok (.iload_n 2, 1) := by decide +kernel
theorem dX11_census_63 : decode cX11_census 63 = .ok (.iadd, 1) := by decide +kernel
theorem dX11_census_64 : decode cX11_census 64 = .ok (.iaload, 1) := by decide +kernel
theorem dX11_census_65 : decode cX11_census 65 = .ok (.istore 5, 2) := by decide +kernel
theorem dX11_census_67 : decode cX11_census 67 = .ok (.aload_n 0, 1) := by decide +kernel
theorem dX11_census_68 : decode cX11_census 68 = .ok (.getfield 131, 3) := by decide +kernel
theorem dX11_census_71 : decode cX11_census 71 = .ok (.iconst 4, 1) := by decide +kernel
theorem dX11_census_72 : decode cX11_census 72 = .ok (.iload_n 1, 1) := by decide +kernel
theorem dX11_census_73 : decode cX11_census 73 = .ok (.imul, 1) := by decide +kernel
theorem dX11_census_74 : decode cX11_census 74 = .ok (.iload_n 2, 1) := by decide +kernel
theorem dX11_census_75 : decode cX11_census 75 = .ok (.iadd, 1) := by decide +kernel
theorem dX11_census_76 : decode cX11_census 76 = .ok (.iload_n 3, 1) := by decide +kernel
theorem dX11_census_77 : decode cX11_census 77 = .ok (.iastore, 1) := by decide +kernel
theorem dX11_census_78 : decode cX11_census 78 = .ok (.iload 5, 2) := by decide +kernel
theorem dX11_census_80 : decode cX11_census 80 = .ok (.ireturn, 1) := by decide +kernel
theorem dX11_dispute_0 : decode cX11_dispute 0 = .ok (.aload_n 0, 1) := by decide +kernel
theorem dX11_dispute_1 : decode cX11_dispute 1 = .ok (.aload_n 0, 1) := by decide +kernel
theorem dX11_dispute_2 : decode cX11_dispute 2 = .ok (.iload_n 1, 1) := by decide +kernel
theorem dX11_dispute_3 : decode cX11_dispute 3 = .ok (.invokevirtual 245, 3) := by decide +kernel
theorem dX11_dispute_6 : decode cX11_dispute 6 = .ok (.ifCond .eq 21, 3) := by decide +kernel
theorem dX11_dispute_9 : decode cX11_dispute 9 = .ok (.iload_n 2, 1) := by decide +kernel
theorem dX11_dispute_10 : decode cX11_dispute 10 = .ok (.invokestatic 264, 3) := by decide +kernel
theorem dX11_dispute_13 : decode cX11_dispute 13 = .ok (.ifCond .eq 14, 3) := by decide +kernel
theorem dX11_dispute_16 : decode cX11_dispute 16 = .ok (.iload_n 3, 1) := by decide +kernel
theorem dX11_dispute_17 : decode cX11_dispute 17 = .ok (.invokestatic 264, 3) := by decide +kernel
theorem dX11_dispute_20 : decode cX11_dispute 20 = .ok (.ifCond .eq 7, 3) := by decide +kernel
theorem dX11_dispute_23 : decode cX11_dispute 23 = .ok (.iconst 0, 1) := by decide +kernel
theorem dX11_dispute_24 : decode cX11_dispute 24 = .ok (.goto 4, 3) := by decide +kernel
theorem dX11_dispute_27 : decode cX11_dispute 27 = .ok (.iconst 1, 1) := by decide +kernel
theorem dX11_dispute_28 : decode cX11_dispute 28 = .ok (.invokevirtual 234, 3) := by decide +kernel
theorem dX11_dispute_31 : decode cX11_dispute 31 = .ok (.ifCond .eq 17, 3) := by decide +kernel
theorem dX11_dispute_34 : decode cX11_dispute 34 = .ok (.aload_n 0, 1) := by decide +kernel
theorem dX11_dispute_35 : decode cX11_dispute 35 = .ok (.getfield 134, 3) := by decide +kernel
theorem dX11_dispute_38 : decode cX11_dispute 38 = .ok (.iload_n 1, 1) := by decide +kernel
theorem dX11_dispute_39 : decode cX11_dispute 39 = .ok (.iload_n 2, 1) := by decide +kernel
theorem dX11_dispute_40 : decode cX11_dispute 40 = .ok (.iastore, 1) := by decide +kernel
theorem dX11_dispute_41 : decode cX11_dispute 41 = .ok (.aload_n 0, 1) := by decide +kernel
theorem dX11_dispute_42 : decode cX11_dispute 42 = .ok (.getfield 137, 3) := by decide +kernel
theorem dX11_dispute_45 : decode cX11_dispute 45 = .ok (.iload_n 1, 1) := by decide +kernel
theorem dX11_dispute_46 : decode cX11_dispute 46 = .ok (.iload_n 3, 1) := by decide +kernel
theorem dX11_dispute_47 : decode cX11_dispute 47 = .ok (.iastore, 1) := by decide +kernel
theorem dX11_dispute_48 : decode cX11_dispute 48 = .ok (.return_, 1) := by decide +kernel
theorem dX11_shown_0 : decode cX11_shown 0 = .ok (.aload_n 0, 1) := by decide +kernel
theorem dX11_shown_1 : decode cX11_shown 1 = .ok (.aload_n 0, 1) := by decide +kernel
theorem dX11_shown_2 : decode cX11_shown 2 = .ok (.iload_n 1, 1) := by decide +kernel
theorem dX11_shown_3 : decode cX11_shown 3 = .ok (.invokevirtual 245, 3) := by decide +kernel
theorem dX11_shown_6 : decode cX11_shown 6 = .ok (.ifCond .ne 7, 3) := by decide +kernel
theorem dX11_shown_9 : decode cX11_shown 9 = .ok (.iconst 1, 1) := by decide +kernel
theorem dX11_shown_10 : decode cX11_shown 10 = .ok (.goto 15, 3) := by decide +kernel
theorem dX11_shown_13 : decode cX11_shown 13 = .ok (.iload_n 2, 1) := by decide +kernel
theorem dX11_shown_14 : decode cX11_shown 14 = .ok (.invokestatic 248, 3) := by decide +kernel
theorem dX11_shown_17 : decode cX11_shown 17 = .ok (.ifCond .eq 7, 3) := by decide +kernel
theorem dX11_shown_20 : decode cX11_shown 20 = .ok (.iconst 0, 1) := by decide +kernel
theorem dX11_shown_21 : decode cX11_shown 21 = .ok (.goto 4, 3) := by decide +kernel
theorem dX11_shown_24 : decode cX11_shown 24 = .ok (.iconst 2, 1) := by decide +kernel
theorem dX11_shown_25 : decode cX11_shown 25 = .ok (.invokevirtual 234, 3) := by decide +kernel
theorem dX11_shown_28 : decode cX11_shown 28 = .ok (.ifCond .ne 5, 3) := by decide +kernel
theorem dX11_shown_31 : decode cX11_shown 31 = .ok (.iconst 0, 1) := by decide +kernel
theorem dX11_shown_32 : decode cX11_shown 32 = .ok (.ireturn, 1) := by decide +kernel
theorem dX11_shown_33 : decode cX11_shown 33 = .ok (.iconst 0, 1) := by decide +kernel
theorem dX11_shown_34 : decode cX11_shown 34 = .ok (.istore_n 3, 1) := by decide +kernel
theorem dX11_shown_35 : decode cX11_shown 35 = .ok (.iconst (-1), 1) := by decide +kernel
theorem dX11_shown_36 : decode cX11_shown 36 = .ok (.istore 4, 2) := by decide +kernel
theorem dX11_shown_38 : decode cX11_shown 38 = .ok (.iconst 0, 1) := by decide +kernel
theorem dX11_shown_39 : decode cX11_shown 39 = .ok (.istore 5, 2) := by decide +kernel
theorem dX11_shown_41 : decode cX11_shown 41 = .ok (.iload 5, 2) := by decide +kernel
theorem dX11_shown_43 : decode cX11_shown 43 = .ok (.iconst 4, 1) := by decide +kernel
theorem dX11_shown_44 : decode cX11_shown 44 = .ok (.if_icmp .ge 88, 3) := by decide +kernel
theorem dX11_shown_47 : decode cX11_shown 47 = .ok (.aload_n 0, 1) := by decide +kernel
theorem dX11_shown_48 : decode cX11_shown 48 = .ok (.iload_n 1, 1) := by decide +kernel
theorem dX11_shown_49 : decode cX11_shown 49 = .ok (.iload 5, 2) := by decide +kernel
theorem dX11_shown_51 : decode cX11_shown 51 = .ok (.iload_n 2, 1) := by decide +kernel
theorem dX11_shown_52 : decode cX11_shown 52 = .ok (.aload_n 0, 1) := by decide +kernel
theorem dX11_shown_53 : decode cX11_shown 53 = .ok (.getfield 238, 3) := by decide +kernel
theorem dX11_shown_56 : decode cX11_shown 56 = .ok (.invokevirtual 260, 3) := by decide +kernel
theorem dX11_shown_59 : decode cX11_shown 59 = .ok (.lconst 0, 1) := by decide +kernel
theorem dX11_shown_60 : decode cX11_shown 60 = .ok (.lcmp, 1) := by decide +kernel
theorem dX11_shown_61 : decode cX11_shown 61 = .ok (.ifCond .eq 65, 3) := by decide +kernel
theorem dX11_shown_64 : decode cX11_shown 64 = .ok (.aload_n 0, 1) := by decide +kernel
theorem dX11_shown_65 : decode cX11_shown 65 = .ok (.getfield 131, 3) := by decide +kernel
theorem dX11_shown_68 : decode cX11_shown 68 = .ok (.iconst 4, 1) := by decide +kernel
theorem dX11_shown_69 : decode cX11_shown 69 = .ok (.iload_n 1, 1) := by decide +kernel
theorem dX11_shown_70 : decode cX11_shown 70 = .ok (.imul, 1) := by decide +kernel
theorem dX11_shown_71 : decode cX11_shown 71 = .ok (.iload 5, 2) := by decide +kernel
theorem dX11_shown_73 : decode cX11_shown 73 = .ok (.iadd, 1) := by decide +kernel
theorem dX11_shown_74 : decode cX11_shown 74 = .ok (.iaload, 1) := by decide +kernel
theorem dX11_shown_75 : decode cX11_shown 75 = .ok (.istore 6, 2) := by decide +kernel
theorem dX11_shown_77 : decode cX11_shown 77 = .ok (.iload_n 3, 1) := by decide +kernel
theorem dX11_shown_78 : decode cX11_shown 78 = .ok (.iload 6, 2) := by decide +kernel
theorem dX11_shown_80 : decode cX11_shown 80 = .ok (.bipush 20, 2) := by decide +kernel
theorem dX11_shown_82 : decode cX11_shown 82 = .ok (.if_icmp .lt 10, 3) := by decide +kernel
theorem dX11_shown_85 : decode cX11_shown 85 = .ok (.iconst 1, 1) := by decide +kernel
theorem dX11_shown_86 : decode cX11_shown 86 = .ok (.iload 5, 2) := by decide +kernel
theorem dX11_shown_88 : decode cX11_shown 88 = .ok (.ishl, 1) := by decide +kernel
theorem dX11_shown_89 : decode cX11_shown 89 = .ok (.goto 4, 3) := by decide +kernel
theorem dX11_shown_92 : decode cX11_shown 92 = .ok (.iconst 0, 1) := by decide +kernel
theorem dX11_shown_93 : decode cX11_shown 93 = .ok (.ior, 1) := by decide +kernel
theorem dX11_shown_94 : decode cX11_shown 94 = .ok (.istore_n 3, 1) := by decide +kernel
theorem dX11_shown_95 : decode cX11_shown 95 = .ok (.iload 4, 2) := by decide +kernel
theorem dX11_shown_97 : decode cX11_shown 97 = .ok (.iconst (-1), 1) := by decide +kernel
theorem dX11_shown_98 : decode cX11_shown 98 = .ok (.if_icmp .eq 19, 3) := by decide +kernel
theorem dX11_shown_101 : decode cX11_shown 101 = .ok (.iload 6, 2) := by decide +kernel
theorem dX11_shown_103 : decode cX11_shown 103 = .ok (.aload_n 0, 1) := by decide +kernel
theorem dX11_shown_104 : decode cX11_shown 104 = .ok (.getfield 131, 3) := by decide +kernel
theorem dX11_shown_107 : decode cX11_shown 107 = .ok (.iconst 4, 1) := by decide +kernel
theorem dX11_shown_108 : decode cX11_shown 108 = .ok (.iload_n 1, 1) := by decide +kernel
theorem dX11_shown_109 : decode cX11_shown 109 = .ok (.imul, 1) := by decide +kernel
theorem dX11_shown_110 : decode cX11_shown 110 = .ok (.iload 4, 2) := by decide +kernel
theorem dX11_shown_112 : decode cX11_shown 112 = .ok (.iadd, 1) := by decide +kernel
theorem dX11_shown_113 : decode cX11_shown 113 = .ok (.iaload, 1) := by decide +kernel
theorem dX11_shown_114 : decode cX11_shown 114 = .ok (.if_icmp .le 8, 3) := by decide +kernel
theorem dX11_shown_117 : decode cX11_shown 117 = .ok (.iload 5, 2) := by decide +kernel
theorem dX11_shown_119 : decode cX11_shown 119 = .ok (.goto 5, 3) := by decide +kernel
theorem dX11_shown_122 : decode cX11_shown 122 = .ok (.iload 4, 2) := by decide +kernel
theorem dX11_shown_124 : decode cX11_shown 124 = .ok (.istore 4, 2) := by decide +kernel
theorem dX11_shown_126 : decode cX11_shown 126 = .ok (.iinc 5 1, 3) := by decide +kernel
theorem dX11_shown_129 : decode cX11_shown 129 = .ok (.goto (-88), 3) := by decide +kernel
theorem dX11_shown_132 : decode cX11_shown 132 = .ok (.iload_n 3, 1) := by decide +kernel
theorem dX11_shown_133 : decode cX11_shown 133 = .ok (.ifCond .eq 7, 3) := by decide +kernel
theorem dX11_shown_136 : decode cX11_shown 136 = .ok (.iload_n 3, 1) := by decide +kernel
theorem dX11_shown_137 : decode cX11_shown 137 = .ok (.goto 17, 3) := by decide +kernel
theorem dX11_shown_140 : decode cX11_shown 140 = .ok (.iload 4, 2) := by decide +kernel
theorem dX11_shown_142 : decode cX11_shown 142 = .ok (.iconst (-1), 1) := by decide +kernel
theorem dX11_shown_143 : decode cX11_shown 143 = .ok (.if_icmp .ne 7, 3) := by decide +kernel
theorem dX11_shown_146 : decode cX11_shown 146 = .ok (.iconst 0, 1) := by decide +kernel
theorem dX11_shown_147 : decode cX11_shown 147 = .ok (.goto 7, 3) := by decide +kernel
theorem dX11_shown_150 : decode cX11_shown 150 = .ok (.iconst 1, 1) := by decide +kernel
theorem dX11_shown_151 : decode cX11_shown 151 = .ok (.iload 4, 2) := by decide +kernel
theorem dX11_shown_153 : decode cX11_shown 153 = .ok (.ishl, 1) := by decide +kernel
theorem dX11_shown_154 : decode cX11_shown 154 = .ok (.ireturn, 1) := by decide +kernel
theorem dX11_seen_0 : decode cX11_seen 0 = .ok (.aload_n 0, 1) := by decide +kernel
theorem dX11_seen_1 : decode cX11_seen 1 = .ok (.getfield 134, 3) := by decide +kernel
theorem dX11_seen_4 : decode cX11_seen 4 = .ok (.iload_n 1, 1) := by decide +kernel
theorem dX11_seen_5 : decode cX11_seen 5 = .ok (.iaload, 1) := by decide +kernel
theorem dX11_seen_6 : decode cX11_seen 6 = .ok (.istore_n 3, 1) := by decide +kernel
theorem dX11_seen_7 : decode cX11_seen 7 = .ok (.aload_n 0, 1) := by decide +kernel
theorem dX11_seen_8 : decode cX11_seen 8 = .ok (.getfield 137, 3) := by decide +kernel
theorem dX11_seen_11 : decode cX11_seen 11 = .ok (.iload_n 1, 1) := by decide +kernel
theorem dX11_seen_12 : decode cX11_seen 12 = .ok (.iaload, 1) := by decide +kernel
theorem dX11_seen_13 : decode cX11_seen 13 = .ok (.istore 4, 2) := by decide +kernel
theorem dX11_seen_15 : decode cX11_seen 15 = .ok (.iload_n 3, 1) := by decide +kernel
theorem dX11_seen_16 : decode cX11_seen 16 = .ok (.iload 4, 2) := by decide +kernel
theorem dX11_seen_18 : decode cX11_seen 18 = .ok (.if_icmp .eq 48, 3) := by decide +kernel
theorem dX11_seen_21 : decode cX11_seen 21 = .ok (.iload_n 3, 1) := by decide +kernel
theorem dX11_seen_22 : decode cX11_seen 22 = .ok (.iload 4, 2) := by decide +kernel
theorem dX11_seen_24 : decode cX11_seen 24 = .ok (.if_icmp .ge 7, 3) := by decide +kernel
theorem dX11_seen_27 : decode cX11_seen 27 = .ok (.iload_n 3, 1) := by decide +kernel
theorem dX11_seen_28 : decode cX11_seen 28 = .ok (.goto 5, 3) := by decide +kernel
theorem dX11_seen_31 : decode cX11_seen 31 = .ok (.iload 4, 2) := by decide +kernel
theorem dX11_seen_33 : decode cX11_seen 33 = .ok (.istore 5, 2) := by decide +kernel
theorem dX11_seen_35 : decode cX11_seen 35 = .ok (.aload_n 0, 1) := by decide +kernel
theorem dX11_seen_36 : decode cX11_seen 36 = .ok (.iload_n 1, 1) := by decide +kernel
theorem dX11_seen_37 : decode cX11_seen 37 = .ok (.iload_n 2, 1) := by decide +kernel
theorem dX11_seen_38 : decode cX11_seen 38 = .ok (.iload_n 3, 1) := by decide +kernel
theorem dX11_seen_39 : decode cX11_seen 39 = .ok (.if_icmp .eq 9, 3) := by decide +kernel
theorem dX11_seen_42 : decode cX11_seen 42 = .ok (.iload_n 2, 1) := by decide +kernel
theorem dX11_seen_43 : decode cX11_seen 43 = .ok (.iload 4, 2) := by decide +kernel
theorem dX11_seen_45 : decode cX11_seen 45 = .ok (.if_icmp .ne 7, 3) := by decide +kernel
theorem dX11_seen_48 : decode cX11_seen 48 = .ok (.iload_n 2, 1) := by decide +kernel
theorem dX11_seen_49 : decode cX11_seen 49 = .ok (.goto 5, 3) := by decide +kernel
theorem dX11_seen_52 : decode cX11_seen 52 = .ok (.iload 5, 2) := by decide +kernel
theorem dX11_seen_54 : decode cX11_seen 54 = .ok (.aload_n 0, 1) := by decide +kernel
theorem dX11_seen_55 : decode cX11_seen 55 = .ok (.getfield 238, 3) := by decide +kernel
theorem dX11_seen_58 : decode cX11_seen 58 = .ok (.aload_n 0, 1) := by decide +kernel
theorem dX11_seen_59 : decode cX11_seen 59 = .ok (.getfield 238, 3) := by decide +kernel
theorem dX11_seen_62 : decode cX11_seen 62 = .ok (.invokevirtual 260, 3) := by decide +kernel
theorem dX11_seen_65 : decode cX11_seen 65 = .ok (.lreturn, 1) := by decide +kernel
theorem dX11_seen_66 : decode cX11_seen 66 = .ok (.aload_n 0, 1) := by decide +kernel
theorem dX11_seen_67 : decode cX11_seen 67 = .ok (.iload_n 1, 1) := by decide +kernel
theorem dX11_seen_68 : decode cX11_seen 68 = .ok (.iload_n 2, 1) := by decide +kernel
theorem dX11_seen_69 : decode cX11_seen 69 = .ok (.aload_n 0, 1) := by decide +kernel
theorem dX11_seen_70 : decode cX11_seen 70 = .ok (.getfield 238, 3) := by decide +kernel
theorem dX11_seen_73 : decode cX11_seen 73 = .ok (.aload_n 0, 1) := by decide +kernel
theorem dX11_seen_74 : decode cX11_seen 74 = .ok (.getfield 238, 3) := by decide +kernel
theorem dX11_seen_77 : decode cX11_seen 77 = .ok (.invokevirtual 260, 3) := by decide +kernel
theorem dX11_seen_80 : decode cX11_seen 80 = .ok (.lstore 5, 2) := by decide +kernel
theorem dX11_seen_82 : decode cX11_seen 82 = .ok (.iconst 0, 1) := by decide +kernel
theorem dX11_seen_83 : decode cX11_seen 83 = .ok (.istore 7, 2) := by decide +kernel
theorem dX11_seen_85 : decode cX11_seen 85 = .ok (.iload 7, 2) := by decide +kernel
theorem dX11_seen_87 : decode cX11_seen 87 = .ok (.iconst 4, 1) := by decide +kernel
theorem dX11_seen_88 : decode cX11_seen 88 = .ok (.if_icmp .ge 33, 3) := by decide +kernel
theorem dX11_seen_91 : decode cX11_seen 91 = .ok (.lload 5, 2) := by decide +kernel
theorem dX11_seen_93 : decode cX11_seen 93 = .ok (.lconst 0, 1) := by decide +kernel
theorem dX11_seen_94 : decode cX11_seen 94 = .ok (.lcmp, 1) := by decide +kernel
theorem dX11_seen_95 : decode cX11_seen 95 = .ok (.ifCond .ne 26, 3) := by decide +kernel
theorem dX11_seen_98 : decode cX11_seen 98 = .ok (.aload_n 0, 1) := by decide +kernel
theorem dX11_seen_99 : decode cX11_seen 99 = .ok (.iload_n 1, 1) := by decide +kernel
theorem dX11_seen_100 : decode cX11_seen 100 = .ok (.iload 7, 2) := by decide +kernel
theorem dX11_seen_102 : decode cX11_seen 102 = .ok (.aload_n 0, 1) := by decide +kernel
theorem dX11_seen_103 : decode cX11_seen 103 = .ok (.getfield 238, 3) := by decide +kernel
theorem dX11_seen_106 : decode cX11_seen 106 = .ok (.aload_n 0, 1) := by decide +kernel
theorem dX11_seen_107 : decode cX11_seen 107 = .ok (.getfield 238, 3) := by decide +kernel
theorem dX11_seen_110 : decode cX11_seen 110 = .ok (.invokevirtual 260, 3) := by decide +kernel
theorem dX11_seen_113 : decode cX11_seen 113 = .ok (.lstore 5, 2) := by decide +kernel
theorem dX11_seen_115 : decode cX11_seen 115 = .ok (.iinc 7 1, 3) := by decide +kernel
theorem dX11_seen_118 : decode cX11_seen 118 = .ok (.goto (-33), 3) := by decide +kernel
theorem dX11_seen_121 : decode cX11_seen 121 = .ok (.lload 5, 2) := by decide +kernel
theorem dX11_seen_123 : decode cX11_seen 123 = .ok (.lreturn, 1) := by decide +kernel
theorem dX11_display_0 : decode cX11_display 0 = .ok (.aload_n 0, 1) := by decide +kernel
theorem dX11_display_1 : decode cX11_display 1 = .ok (.aload_n 0, 1) := by decide +kernel
theorem dX11_display_2 : decode cX11_display 2 = .ok (.iload_n 1, 1) := by decide +kernel
theorem dX11_display_3 : decode cX11_display 3 = .ok (.invokevirtual 245, 3) := by decide +kernel
theorem dX11_display_6 : decode cX11_display 6 = .ok (.ifCond .eq 14, 3) := by decide +kernel
theorem dX11_display_9 : decode cX11_display 9 = .ok (.iload_n 2, 1) := by decide +kernel
theorem dX11_display_10 : decode cX11_display 10 = .ok (.invokestatic 264, 3) := by decide +kernel
theorem dX11_display_13 : decode cX11_display 13 = .ok (.ifCond .eq 7, 3) := by decide +kernel
theorem dX11_display_16 : decode cX11_display 16 = .ok (.iconst 0, 1) := by decide +kernel
theorem dX11_display_17 : decode cX11_display 17 = .ok (.goto 4, 3) := by decide +kernel
theorem dX11_display_20 : decode cX11_display 20 = .ok (.iconst 1, 1) := by decide +kernel
theorem dX11_display_21 : decode cX11_display 21 = .ok (.invokevirtual 234, 3) := by decide +kernel
theorem dX11_display_24 : decode cX11_display 24 = .ok (.ifCond .eq 12, 3) := by decide +kernel
theorem dX11_display_27 : decode cX11_display 27 = .ok (.aload_n 0, 1) := by decide +kernel
theorem dX11_display_28 : decode cX11_display 28 = .ok (.iload_n 1, 1) := by decide +kernel
theorem dX11_display_29 : decode cX11_display 29 = .ok (.iload_n 2, 1) := by decide +kernel
theorem dX11_display_30 : decode cX11_display 30 = .ok (.invokevirtual 292, 3) := by decide +kernel
theorem dX11_display_33 : decode cX11_display 33 = .ok (.goto 4, 3) := by decide +kernel
theorem dX11_display_36 : decode cX11_display 36 = .ok (.lconst 0, 1) := by decide +kernel
theorem dX11_display_37 : decode cX11_display 37 = .ok (.lreturn, 1) := by decide +kernel
theorem dX11_isTable_0 : decode cX11_isTable 0 = .ok (.iload_n 0, 1) := by decide +kernel
theorem dX11_isTable_1 : decode cX11_isTable 1 = .ok (.iconst 0, 1) := by decide +kernel
theorem dX11_isTable_2 : decode cX11_isTable 2 = .ok (.iconst 3, 1) := by decide +kernel
theorem dX11_isTable_3 : decode cX11_isTable 3 = .ok (.invokestatic 189, 3) := by decide +kernel
theorem dX11_isTable_6 : decode cX11_isTable 6 = .ok (.ireturn, 1) := by decide +kernel
theorem dX11_table_0 : decode cX11_table 0 = .ok (.aload_n 0, 1) := by decide +kernel
theorem dX11_table_1 : decode cX11_table 1 = .ok (.iload_n 1, 1) := by decide +kernel
theorem dX11_table_2 : decode cX11_table 2 = .ok (.invokestatic 296, 3) := by decide +kernel
theorem dX11_table_5 : decode cX11_table 5 = .ok (.ifCond .ne 7, 3) := by decide +kernel
theorem dX11_table_8 : decode cX11_table 8 = .ok (.iconst 1, 1) := by decide +kernel
theorem dX11_table_9 : decode cX11_table 9 = .ok (.goto 28, 3) := by decide +kernel
theorem dX11_table_12 : decode cX11_table 12 = .ok (.iload_n 2, 1) := by decide +kernel
theorem dX11_table_13 : decode cX11_table 13 = .ok (.iconst 1, 1) := by decide +kernel
theorem dX11_table_14 : decode cX11_table 14 = .ok (.bipush 26, 2) := by decide +kernel
theorem dX11_table_16 : decode cX11_table 16 = .ok (.invokestatic 189, 3) := by decide +kernel
theorem dX11_table_19 : decode cX11_table 19 = .ok (.ifCond .eq 17, 3) := by decide +kernel
theorem dX11_table_22 : decode cX11_table 22 = .ok (.iload_n 3, 1) := by decide +kernel
theorem dX11_table_23 : decode cX11_table 23 = .ok (.iconst 1, 1) := by decide +kernel
theorem dX11_table_24 : decode cX11_table 24 = .ok (.bipush 26, 2) := by decide +kernel
theorem dX11_table_26 : decode cX11_table 26 = .ok (.invokestatic 189, 3) := by decide +kernel
theorem dX11_table_29 : decode cX11_table 29 = .ok (.ifCond .eq 7, 3) := by decide +kernel
theorem dX11_table_32 : decode cX11_table 32 = .ok (.iconst 0, 1) := by decide +kernel
theorem dX11_table_33 : decode cX11_table 33 = .ok (.goto 4, 3) := by decide +kernel
theorem dX11_table_36 : decode cX11_table 36 = .ok (.iconst 2, 1) := by decide +kernel
theorem dX11_table_37 : decode cX11_table 37 = .ok (.invokevirtual 234, 3) := by decide +kernel
theorem dX11_table_40 : decode cX11_table 40 = .ok (.ifCond .ne 5, 3) := by decide +kernel
theorem dX11_table_43 : decode cX11_table 43 = .ok (.iconst 0, 1) := by decide +kernel
theorem dX11_table_44 : decode cX11_table 44 = .ok (.ireturn, 1) := by decide +kernel
theorem dX11_table_45 : decode cX11_table 45 = .ok (.aload_n 0, 1) := by decide +kernel
theorem dX11_table_46 : decode cX11_table 46 = .ok (.getfield 140, 3) := by decide +kernel
theorem dX11_table_49 : decode cX11_table 49 = .ok (.bipush 27, 2) := by decide +kernel
theorem dX11_table_51 : decode cX11_table 51 = .ok (.iload_n 1, 1) := by decide +kernel
theorem dX11_table_52 : decode cX11_table 52 = .ok (.imul, 1) := by decide +kernel
theorem dX11_table_53 : decode cX11_table 53 = .ok (.iload_n 2, 1) := by decide +kernel
theorem dX11_table_54 : decode cX11_table 54 = .ok (.iadd, 1) := by decide +kernel
theorem dX11_table_55 : decode cX11_table 55 = .ok (.iaload, 1) := by decide +kernel
theorem dX11_table_56 : decode cX11_table 56 = .ok (.istore 4, 2) := by decide +kernel
theorem dX11_table_58 : decode cX11_table 58 = .ok (.aload_n 0, 1) := by decide +kernel
theorem dX11_table_59 : decode cX11_table 59 = .ok (.getfield 140, 3) := by decide +kernel
theorem dX11_table_62 : decode cX11_table 62 = .ok (.bipush 27, 2) := by decide +kernel
theorem dX11_table_64 : decode cX11_table 64 = .ok (.iload_n 1, 1) := by decide +kernel
theorem dX11_table_65 : decode cX11_table 65 = .ok (.imul, 1) := by decide +kernel
theorem dX11_table_66 : decode cX11_table 66 = .ok (.iload_n 2, 1) := by decide +kernel
theorem dX11_table_67 : decode cX11_table 67 = .ok (.iadd, 1) := by decide +kernel
theorem dX11_table_68 : decode cX11_table 68 = .ok (.iload_n 3, 1) := by decide +kernel
theorem dX11_table_69 : decode cX11_table 69 = .ok (.iastore, 1) := by decide +kernel
theorem dX11_table_70 : decode cX11_table 70 = .ok (.iload 4, 2) := by decide +kernel
theorem dX11_table_72 : decode cX11_table 72 = .ok (.ireturn, 1) := by decide +kernel
theorem dX11_write_0 : decode cX11_write 0 = .ok (.aload_n 0, 1) := by decide +kernel
theorem dX11_write_1 : decode cX11_write 1 = .ok (.iload_n 3, 1) := by decide +kernel
theorem dX11_write_2 : decode cX11_write 2 = .ok (.invokestatic 296, 3) := by decide +kernel
theorem dX11_write_5 : decode cX11_write 5 = .ok (.ifCond .ne 7, 3) := by decide +kernel
theorem dX11_write_8 : decode cX11_write 8 = .ok (.iconst 1, 1) := by decide +kernel
theorem dX11_write_9 : decode cX11_write 9 = .ok (.goto 17, 3) := by decide +kernel
theorem dX11_write_12 : decode cX11_write 12 = .ok (.lload_n 1, 1) := by decide +kernel
theorem dX11_write_13 : decode cX11_write 13 = .ok (.bipush 12, 2) := by decide +kernel
theorem dX11_write_15 : decode cX11_write 15 = .ok (.invokestatic 267, 3) := by decide +kernel
theorem dX11_write_18 : decode cX11_write 18 = .ok (.ifCond .eq 7, 3) := by decide +kernel
theorem dX11_write_21 : decode cX11_write 21 = .ok (.iconst 0, 1) := by decide +kernel
theorem dX11_write_22 : decode cX11_write 22 = .ok (.goto 4, 3) := by decide +kernel
theorem dX11_write_25 : decode cX11_write 25 = .ok (.iconst 2, 1) := by decide +kernel
theorem dX11_write_26 : decode cX11_write 26 = .ok (.invokevirtual 234, 3) := by decide +kernel
theorem dX11_write_29 : decode cX11_write 29 = .ok (.ifCond .ne 5, 3) := by decide +kernel
theorem dX11_write_32 : decode cX11_write 32 = .ok (.lconst 0, 1) := by decide +kernel
theorem dX11_write_33 : decode cX11_write 33 = .ok (.lreturn, 1) := by decide +kernel
theorem dX11_write_34 : decode cX11_write 34 = .ok (.aload_n 0, 1) := by decide +kernel
theorem dX11_write_35 : decode cX11_write 35 = .ok (.lload_n 1, 1) := by decide +kernel
theorem dX11_write_36 : decode cX11_write 36 = .ok (.invokevirtual 211, 3) := by decide +kernel
theorem dX11_write_39 : decode cX11_write 39 = .ok (.iconst 0, 1) := by decide +kernel
theorem dX11_write_40 : decode cX11_write 40 = .ok (.istore 4, 2) := by decide +kernel
theorem dX11_write_42 : decode cX11_write 42 = .ok (.iload 4, 2) := by decide +kernel
theorem dX11_write_44 : decode cX11_write 44 = .ok (.aload_n 0, 1) := by decide +kernel
theorem dX11_write_45 : decode cX11_write 45 = .ok (.getfield 195, 3) := by decide +kernel
theorem dX11_write_48 : decode cX11_write 48 = .ok (.if_icmp .ge 33, 3) := by decide +kernel
theorem dX11_write_51 : decode cX11_write 51 = .ok (.aload_n 0, 1) := by decide +kernel
theorem dX11_write_52 : decode cX11_write 52 = .ok (.getfield 165, 3) := by decide +kernel
theorem dX11_write_55 : decode cX11_write 55 = .ok (.iload 4, 2) := by decide +kernel
theorem dX11_write_57 : decode cX11_write 57 = .ok (.aload_n 0, 1) := by decide +kernel
theorem dX11_write_58 : decode cX11_write 58 = .ok (.getfield 140, 3) := by decide +kernel
theorem dX11_write_61 : decode cX11_write 61 = .ok (.bipush 27, 2) := by decide +kernel
theorem dX11_write_63 : decode cX11_write 63 = .ok (.iload_n 3, 1) := by decide +kernel
theorem dX11_write_64 : decode cX11_write 64 = .ok (.imul, 1) := by decide +kernel
theorem dX11_write_65 : decode cX11_write 65 = .ok (.aload_n 0, 1) := by decide +kernel
theorem dX11_write_66 : decode cX11_write 66 = .ok (.getfield 165, 3) := by decide +kernel
theorem dX11_write_69 : decode cX11_write 69 = .ok (.iload 4, 2) := by decide +kernel
theorem dX11_write_71 : decode cX11_write 71 = .ok (.iaload, 1) := by decide +kernel
theorem dX11_write_72 : decode cX11_write 72 = .ok (.iadd, 1) := by decide +kernel
theorem dX11_write_73 : decode cX11_write 73 = .ok (.iaload, 1) := by decide +kernel
theorem dX11_write_74 : decode cX11_write 74 = .ok (.iastore, 1) := by decide +kernel
theorem dX11_write_75 : decode cX11_write 75 = .ok (.iinc 4 1, 3) := by decide +kernel
theorem dX11_write_78 : decode cX11_write 78 = .ok (.goto (-36), 3) := by decide +kernel
theorem dX11_write_81 : decode cX11_write 81 = .ok (.aload_n 0, 1) := by decide +kernel
theorem dX11_write_82 : decode cX11_write 82 = .ok (.invokevirtual 226, 3) := by decide +kernel
theorem dX11_write_85 : decode cX11_write 85 = .ok (.lreturn, 1) := by decide +kernel
theorem dX11_readBack_0 : decode cX11_readBack 0 = .ok (.iconst 0, 1) := by decide +kernel
theorem dX11_readBack_1 : decode cX11_readBack 1 = .ok (.istore_n 3, 1) := by decide +kernel
theorem dX11_readBack_2 : decode cX11_readBack 2 = .ok (.iconst 0, 1) := by decide +kernel
theorem dX11_readBack_3 : decode cX11_readBack 3 = .ok (.istore 4, 2) := by decide +kernel
theorem dX11_readBack_5 : decode cX11_readBack 5 = .ok (.iconst 1, 1) := by decide +kernel
theorem dX11_readBack_6 : decode cX11_readBack 6 = .ok (.istore 5, 2) := by decide +kernel
theorem dX11_readBack_8 : decode cX11_readBack 8 = .ok (.iload 5, 2) := by decide +kernel
theorem dX11_readBack_10 : decode cX11_readBack 10 = .ok (.bipush 26, 2) := by decide +kernel
theorem dX11_readBack_12 : decode cX11_readBack 12 = .ok (.if_icmp .gt 31, 3) := by decide +kernel
theorem dX11_readBack_15 : decode cX11_readBack 15 = .ok (.aload_n 0, 1) := by decide +kernel
theorem dX11_readBack_16 : decode cX11_readBack 16 = .ok (.getfield 140, 3) := by decide +kernel
theorem dX11_readBack_19 : decode cX11_readBack 19 = .ok (.bipush 27, 2) := by decide +kernel
theorem dX11_readBack_21 : decode cX11_readBack 21 = .ok (.iload_n 1, 1) := by decide +kernel
theorem dX11_readBack_22 : decode cX11_readBack 22 = .ok (.imul, 1) := by decide +kernel
theorem dX11_readBack_23 : decode cX11_readBack 23 = .ok (.iload 5, 2) := by decide +kernel
theorem dX11_readBack_25 : decode cX11_readBack 25 = .ok (.iadd, 1) := by decide +kernel
theorem dX11_readBack_26 : decode cX11_readBack 26 = .ok (.iaload, 1) := by decide +kernel
theorem dX11_readBack_27 : decode cX11_readBack 27 = .ok (.iload_n 2, 1) := by decide +kernel
theorem dX11_readBack_28 : decode cX11_readBack 28 = .ok (.if_icmp .ne 9, 3) := by decide +kernel
theorem dX11_readBack_31 : decode cX11_readBack 31 = .ok (.iload 5, 2) := by decide +kernel
theorem dX11_readBack_33 : decode cX11_readBack 33 = .ok (.istore_n 3, 1) := by decide +kernel
theorem dX11_readBack_34 : decode cX11_readBack 34 = .ok (.iinc 4 1, 3) := by decide +kernel
theorem dX11_readBack_37 : decode cX11_readBack 37 = .ok (.iinc 5 1, 3) := by decide +kernel
theorem dX11_readBack_40 : decode cX11_readBack 40 = .ok (.goto (-32), 3) := by decide +kernel
theorem dX11_readBack_43 : decode cX11_readBack 43 = .ok (.iload 4, 2) := by decide +kernel
theorem dX11_readBack_45 : decode cX11_readBack 45 = .ok (.iconst 1, 1) := by decide +kernel
theorem dX11_readBack_46 : decode cX11_readBack 46 = .ok (.if_icmp .ne 7, 3) := by decide +kernel
theorem dX11_readBack_49 : decode cX11_readBack 49 = .ok (.iload_n 3, 1) := by decide +kernel
theorem dX11_readBack_50 : decode cX11_readBack 50 = .ok (.goto 4, 3) := by decide +kernel
theorem dX11_readBack_53 : decode cX11_readBack 53 = .ok (.iconst 0, 1) := by decide +kernel
theorem dX11_readBack_54 : decode cX11_readBack 54 = .ok (.ireturn, 1) := by decide +kernel
theorem dX11_back_0 : decode cX11_back 0 = .ok (.aload_n 0, 1) := by decide +kernel
theorem dX11_back_1 : decode cX11_back 1 = .ok (.iload_n 3, 1) := by decide +kernel
theorem dX11_back_2 : decode cX11_back 2 = .ok (.invokestatic 296, 3) := by decide +kernel
theorem dX11_back_5 : decode cX11_back 5 = .ok (.ifCond .ne 7, 3) := by decide +kernel
theorem dX11_back_8 : decode cX11_back 8 = .ok (.iconst 1, 1) := by decide +kernel
theorem dX11_back_9 : decode cX11_back 9 = .ok (.goto 17, 3) := by decide +kernel
theorem dX11_back_12 : decode cX11_back 12 = .ok (.lload_n 1, 1) := by decide +kernel
theorem dX11_back_13 : decode cX11_back 13 = .ok (.bipush 12, 2) := by decide +kernel
theorem dX11_back_15 : decode cX11_back 15 = .ok (.invokestatic 267, 3) := by decide +kernel
theorem dX11_back_18 : decode cX11_back 18 = .ok (.ifCond .eq 7, 3) := by decide +kernel
theorem dX11_back_21 : decode cX11_back 21 = .ok (.iconst 0, 1) := by decide +kernel
theorem dX11_back_22 : decode cX11_back 22 = .ok (.goto 4, 3) := by decide +kernel
theorem dX11_back_25 : decode cX11_back 25 = .ok (.iconst 2, 1) := by decide +kernel
theorem dX11_back_26 : decode cX11_back 26 = .ok (.invokevirtual 234, 3) := by decide +kernel
theorem dX11_back_29 : decode cX11_back 29 = .ok (.ifCond .ne 5, 3) := by decide +kernel
theorem dX11_back_32 : decode cX11_back 32 = .ok (.lconst 0, 1) := by decide +kernel
theorem dX11_back_33 : decode cX11_back 33 = .ok (.lreturn, 1) := by decide +kernel
theorem dX11_back_34 : decode cX11_back 34 = .ok (.aload_n 0, 1) := by decide +kernel
theorem dX11_back_35 : decode cX11_back 35 = .ok (.lload_n 1, 1) := by decide +kernel
theorem dX11_back_36 : decode cX11_back 36 = .ok (.invokevirtual 211, 3) := by decide +kernel
theorem dX11_back_39 : decode cX11_back 39 = .ok (.iconst 1, 1) := by decide +kernel
theorem dX11_back_40 : decode cX11_back 40 = .ok (.istore 4, 2) := by decide +kernel
theorem dX11_back_42 : decode cX11_back 42 = .ok (.iconst 0, 1) := by decide +kernel
theorem dX11_back_43 : decode cX11_back 43 = .ok (.istore 5, 2) := by decide +kernel
theorem dX11_back_45 : decode cX11_back 45 = .ok (.iload 5, 2) := by decide +kernel
theorem dX11_back_47 : decode cX11_back 47 = .ok (.aload_n 0, 1) := by decide +kernel
theorem dX11_back_48 : decode cX11_back 48 = .ok (.getfield 195, 3) := by decide +kernel
theorem dX11_back_51 : decode cX11_back 51 = .ok (.if_icmp .ge 50, 3) := by decide +kernel
theorem dX11_back_54 : decode cX11_back 54 = .ok (.aload_n 0, 1) := by decide +kernel
theorem dX11_back_55 : decode cX11_back 55 = .ok (.getfield 165, 3) := by decide +kernel
theorem dX11_back_58 : decode cX11_back 58 = .ok (.iload 5, 2) := by decide +kernel
theorem dX11_back_60 : decode cX11_back 60 = .ok (.aload_n 0, 1) := by decide +kernel
theorem dX11_back_61 : decode cX11_back 61 = .ok (.iload_n 3, 1) := by decide +kernel
theorem dX11_back_62 : decode cX11_back 62 = .ok (.aload_n 0, 1) := by decide +kernel
theorem dX11_back_63 : decode cX11_back 63 = .ok (.getfield 165, 3) := by decide +kernel
theorem dX11_back_66 : decode cX11_back 66 = .ok (.iload 5, 2) := by decide +kernel
theorem dX11_back_68 : decode cX11_back 68 = .ok (.iaload, 1) := by decide +kernel
theorem dX11_back_69 : decode cX11_back 69 = .ok (.invokevirtual 299, 3) := by decide +kernel
theorem dX11_back_72 : decode cX11_back 72 = .ok (.iastore, 1) := by decide +kernel
theorem dX11_back_73 : decode cX11_back 73 = .ok (.iload 4, 2) := by decide +kernel
theorem dX11_back_75 : decode cX11_back 75 = .ok (.ifCond .eq 17, 3) := by decide +kernel
theorem dX11_back_78 : decode cX11_back 78 = .ok (.aload_n 0, 1) := by decide +kernel
theorem dX11_back_79 : decode cX11_back 79 = .ok (.getfield 165, 3) := by decide +kernel
theorem dX11_back_82 : decode cX11_back 82 = .ok (.iload 5, 2) := by decide +kernel
theorem dX11_back_84 : decode cX11_back 84 = .ok (.iaload, 1) := by decide +kernel
theorem dX11_back_85 : decode cX11_back 85 = .ok (.ifCond .le 7, 3) := by decide +kernel
theorem dX11_back_88 : decode cX11_back 88 = .ok (.iconst 1, 1) := by decide +kernel
theorem dX11_back_89 : decode cX11_back 89 = .ok (.goto 4, 3) := by decide +kernel
theorem dX11_back_92 : decode cX11_back 92 = .ok (.iconst 0, 1) := by decide +kernel
theorem dX11_back_93 : decode cX11_back 93 = .ok (.istore 4, 2) := by decide +kernel
theorem dX11_back_95 : decode cX11_back 95 = .ok (.iinc 5 1, 3) := by decide +kernel
theorem dX11_back_98 : decode cX11_back 98 = .ok (.goto (-53), 3) := by decide +kernel
theorem dX11_back_101 : decode cX11_back 101 = .ok (.iload 4, 2) := by decide +kernel
theorem dX11_back_103 : decode cX11_back 103 = .ok (.ifCond .eq 10, 3) := by decide +kernel
theorem dX11_back_106 : decode cX11_back 106 = .ok (.aload_n 0, 1) := by decide +kernel
theorem dX11_back_107 : decode cX11_back 107 = .ok (.invokevirtual 226, 3) := by decide +kernel
theorem dX11_back_110 : decode cX11_back 110 = .ok (.goto 6, 3) := by decide +kernel
theorem dX11_back_113 : decode cX11_back 113 = .ok (.ldc2_w 303, 3) := by decide +kernel
theorem dX11_back_116 : decode cX11_back 116 = .ok (.lreturn, 1) := by decide +kernel
theorem dX11_loss_0 : decode cX11_loss 0 = .ok (.aload_n 0, 1) := by decide +kernel
theorem dX11_loss_1 : decode cX11_loss 1 = .ok (.iload_n 1, 1) := by decide +kernel
theorem dX11_loss_2 : decode cX11_loss 2 = .ok (.invokestatic 296, 3) := by decide +kernel
theorem dX11_loss_5 : decode cX11_loss 5 = .ok (.ifCond .eq 7, 3) := by decide +kernel
theorem dX11_loss_8 : decode cX11_loss 8 = .ok (.iconst 0, 1) := by decide +kernel
theorem dX11_loss_9 : decode cX11_loss 9 = .ok (.goto 4, 3) := by decide +kernel
theorem dX11_loss_12 : decode cX11_loss 12 = .ok (.iconst 1, 1) := by decide +kernel
theorem dX11_loss_13 : decode cX11_loss 13 = .ok (.invokevirtual 234, 3) := by decide +kernel
theorem dX11_loss_16 : decode cX11_loss 16 = .ok (.ifCond .ne 5, 3) := by decide +kernel
theorem dX11_loss_19 : decode cX11_loss 19 = .ok (.iconst 0, 1) := by decide +kernel
theorem dX11_loss_20 : decode cX11_loss 20 = .ok (.ireturn, 1) := by decide +kernel
theorem dX11_loss_21 : decode cX11_loss 21 = .ok (.iconst 0, 1) := by decide +kernel
theorem dX11_loss_22 : decode cX11_loss 22 = .ok (.istore_n 2, 1) := by decide +kernel
theorem dX11_loss_23 : decode cX11_loss 23 = .ok (.iconst 1, 1) := by decide +kernel
theorem dX11_loss_24 : decode cX11_loss 24 = .ok (.istore_n 3, 1) := by decide +kernel
theorem dX11_loss_25 : decode cX11_loss 25 = .ok (.iload_n 3, 1) := by decide +kernel
theorem dX11_loss_26 : decode cX11_loss 26 = .ok (.bipush 26, 2) := by decide +kernel
theorem dX11_loss_28 : decode cX11_loss 28 = .ok (.if_icmp .gt 25, 3) := by decide +kernel
theorem dX11_loss_31 : decode cX11_loss 31 = .ok (.iload_n 2, 1) := by decide +kernel
theorem dX11_loss_32 : decode cX11_loss 32 = .ok (.iconst 1, 1) := by decide +kernel
theorem dX11_loss_33 : decode cX11_loss 33 = .ok (.aload_n 0, 1) := by decide +kernel
theorem dX11_loss_34 : decode cX11_loss 34 = .ok (.getfield 140, 3) := by decide +kernel
theorem dX11_loss_37 : decode cX11_loss 37 = .ok (.bipush 27, 2) := by decide +kernel
theorem dX11_loss_39 : decode cX11_loss 39 = .ok (.iload_n 1, 1) := by decide +kernel
theorem dX11_loss_40 : decode cX11_loss 40 = .ok (.imul, 1) := by decide +kernel
theorem dX11_loss_41 : decode cX11_loss 41 = .ok (.iload_n 3, 1) := by decide +kernel
theorem dX11_loss_42 : decode cX11_loss 42 = .ok (.iadd, 1) := by decide +kernel
theorem dX11_loss_43 : decode cX11_loss 43 = .ok (.iaload, 1) := by decide +kernel
theorem dX11_loss_44 : decode cX11_loss 44 = .ok (.ishl, 1) := by decide +kernel
theorem dX11_loss_45 : decode cX11_loss 45 = .ok (.ior, 1) := by decide +kernel
theorem dX11_loss_46 : decode cX11_loss 46 = .ok (.istore_n 2, 1) := by decide +kernel
theorem dX11_loss_47 : decode cX11_loss 47 = .ok (.iinc 3 1, 3) := by decide +kernel
theorem dX11_loss_50 : decode cX11_loss 50 = .ok (.goto (-25), 3) := by decide +kernel
theorem dX11_loss_53 : decode cX11_loss 53 = .ok (.bipush 26, 2) := by decide +kernel
theorem dX11_loss_55 : decode cX11_loss 55 = .ok (.iload_n 2, 1) := by decide +kernel
theorem dX11_loss_56 : decode cX11_loss 56 = .ok (.invokestatic 285, 3) := by decide +kernel
theorem dX11_loss_59 : decode cX11_loss 59 = .ok (.isub, 1) := by decide +kernel
theorem dX11_loss_60 : decode cX11_loss 60 = .ok (.ireturn, 1) := by decide +kernel
theorem dX11_reading_0 : decode cX11_reading 0 = .ok (.aload_n 0, 1) := by decide +kernel
theorem dX11_reading_1 : decode cX11_reading 1 = .ok (.lload_n 1, 1) := by decide +kernel
theorem dX11_reading_2 : decode cX11_reading 2 = .ok (.bipush 8, 2) := by decide +kernel
theorem dX11_reading_4 : decode cX11_reading 4 = .ok (.invokestatic 267, 3) := by decide +kernel
theorem dX11_reading_7 : decode cX11_reading 7 = .ok (.ifCond .eq 12, 3) := by decide +kernel
theorem dX11_reading_10 : decode cX11_reading 10 = .ok (.iload_n 3, 1) := by decide +kernel
theorem dX11_reading_11 : decode cX11_reading 11 = .ok (.iload 4, 2) := by decide +kernel
theorem dX11_reading_13 : decode cX11_reading 13 = .ok (.invokestatic 230, 3) := by decide +kernel
theorem dX11_reading_16 : decode cX11_reading 16 = .ok (.ifCond .ne 7, 3) := by decide +kernel
theorem dX11_reading_19 : decode cX11_reading 19 = .ok (.iconst 1, 1) := by decide +kernel
theorem dX11_reading_20 : decode cX11_reading 20 = .ok (.goto 16, 3) := by decide +kernel
theorem dX11_reading_23 : decode cX11_reading 23 = .ok (.aload_n 0, 1) := by decide +kernel
theorem dX11_reading_24 : decode cX11_reading 24 = .ok (.getfield 305, 3) := by decide +kernel
theorem dX11_reading_27 : decode cX11_reading 27 = .ok (.iconst 4, 1) := by decide +kernel
theorem dX11_reading_28 : decode cX11_reading 28 = .ok (.if_icmp .ne 7, 3) := by decide +kernel
theorem dX11_reading_31 : decode cX11_reading 31 = .ok (.iconst 2, 1) := by decide +kernel
theorem dX11_reading_32 : decode cX11_reading 32 = .ok (.goto 4, 3) := by decide +kernel
theorem dX11_reading_35 : decode cX11_reading 35 = .ok (.iconst 0, 1) := by decide +kernel
theorem dX11_reading_36 : decode cX11_reading 36 = .ok (.invokevirtual 234, 3) := by decide +kernel
theorem dX11_reading_39 : decode cX11_reading 39 = .ok (.ifCond .ne 5, 3) := by decide +kernel
theorem dX11_reading_42 : decode cX11_reading 42 = .ok (.iconst 0, 1) := by decide +kernel
theorem dX11_reading_43 : decode cX11_reading 43 = .ok (.ireturn, 1) := by decide +kernel
theorem dX11_reading_44 : decode cX11_reading 44 = .ok (.aload_n 0, 1) := by decide +kernel
theorem dX11_reading_45 : decode cX11_reading 45 = .ok (.getfield 143, 3) := by decide +kernel
theorem dX11_reading_48 : decode cX11_reading 48 = .ok (.aload_n 0, 1) := by decide +kernel
theorem dX11_reading_49 : decode cX11_reading 49 = .ok (.getfield 305, 3) := by decide +kernel
theorem dX11_reading_52 : decode cX11_reading 52 = .ok (.lload_n 1, 1) := by decide +kernel
theorem dX11_reading_53 : decode cX11_reading 53 = .ok (.lastore, 1) := by decide +kernel
theorem dX11_reading_54 : decode cX11_reading 54 = .ok (.aload_n 0, 1) := by decide +kernel
theorem dX11_reading_55 : decode cX11_reading 55 = .ok (.getfield 146, 3) := by decide +kernel
theorem dX11_reading_58 : decode cX11_reading 58 = .ok (.aload_n 0, 1) := by decide +kernel
theorem dX11_reading_59 : decode cX11_reading 59 = .ok (.getfield 305, 3) := by decide +kernel
theorem dX11_reading_62 : decode cX11_reading 62 = .ok (.iload_n 3, 1) := by decide +kernel
theorem dX11_reading_63 : decode cX11_reading 63 = .ok (.iastore, 1) := by decide +kernel
theorem dX11_reading_64 : decode cX11_reading 64 = .ok (.aload_n 0, 1) := by decide +kernel
theorem dX11_reading_65 : decode cX11_reading 65 = .ok (.getfield 149, 3) := by decide +kernel
theorem dX11_reading_68 : decode cX11_reading 68 = .ok (.aload_n 0, 1) := by decide +kernel
theorem dX11_reading_69 : decode cX11_reading 69 = .ok (.getfield 305, 3) := by decide +kernel
theorem dX11_reading_72 : decode cX11_reading 72 = .ok (.iload 4, 2) := by decide +kernel
theorem dX11_reading_74 : decode cX11_reading 74 = .ok (.iastore, 1) := by decide +kernel
theorem dX11_reading_75 : decode cX11_reading 75 = .ok (.aload_n 0, 1) := by decide +kernel
theorem dX11_reading_76 : decode cX11_reading 76 = .ok (.dup, 1) := by decide +kernel
theorem dX11_reading_77 : decode cX11_reading 77 = .ok (.getfield 305, 3) := by decide +kernel
theorem dX11_reading_80 : decode cX11_reading 80 = .ok (.iconst 1, 1) := by decide +kernel
theorem dX11_reading_81 : decode cX11_reading 81 = .ok (.iadd, 1) := by decide +kernel
theorem dX11_reading_82 : decode cX11_reading 82 = .ok (.putfield 305, 3) := by decide +kernel
theorem dX11_reading_85 : decode cX11_reading 85 = .ok (.aload_n 0, 1) := by decide +kernel
theorem dX11_reading_86 : decode cX11_reading 86 = .ok (.getfield 305, 3) := by decide +kernel
theorem dX11_reading_89 : decode cX11_reading 89 = .ok (.iconst 1, 1) := by decide +kernel
theorem dX11_reading_90 : decode cX11_reading 90 = .ok (.isub, 1) := by decide +kernel
theorem dX11_reading_91 : decode cX11_reading 91 = .ok (.ireturn, 1) := by decide +kernel
theorem dX11_awayOf_0 : decode cX11_awayOf 0 = .ok (.aload_n 0, 1) := by decide +kernel
theorem dX11_awayOf_1 : decode cX11_awayOf 1 = .ok (.iload_n 1, 1) := by decide +kernel
theorem dX11_awayOf_2 : decode cX11_awayOf 2 = .ok (.aload_n 0, 1) := by decide +kernel
theorem dX11_awayOf_3 : decode cX11_awayOf 3 = .ok (.getfield 238, 3) := by decide +kernel
theorem dX11_awayOf_6 : decode cX11_awayOf 6 = .ok (.aload_n 0, 1) := by decide +kernel
theorem dX11_awayOf_7 : decode cX11_awayOf 7 = .ok (.getfield 238, 3) := by decide +kernel
theorem dX11_awayOf_10 : decode cX11_awayOf 10 = .ok (.invokevirtual 251, 3) := by decide +kernel
theorem dX11_awayOf_13 : decode cX11_awayOf 13 = .ok (.istore 4, 2) := by decide +kernel
theorem dX11_awayOf_15 : decode cX11_awayOf 15 = .ok (.aload_n 0, 1) := by decide +kernel
theorem dX11_awayOf_16 : decode cX11_awayOf 16 = .ok (.getfield 19, 3) := by decide +kernel
theorem dX11_awayOf_19 : decode cX11_awayOf 19 = .ok (.iload 4, 2) := by decide +kernel
theorem dX11_awayOf_21 : decode cX11_awayOf 21 = .ok (.iaload, 1) := by decide +kernel
theorem dX11_awayOf_22 : decode cX11_awayOf 22 = .ok (.iload_n 2, 1) := by decide +kernel
theorem dX11_awayOf_23 : decode cX11_awayOf 23 = .ok (.isub, 1) := by decide +kernel
theorem dX11_awayOf_24 : decode cX11_awayOf 24 = .ok (.istore 5, 2) := by decide +kernel
theorem dX11_awayOf_26 : decode cX11_awayOf 26 = .ok (.aload_n 0, 1) := by decide +kernel
theorem dX11_awayOf_27 : decode cX11_awayOf 27 = .ok (.getfield 22, 3) := by decide +kernel
theorem dX11_awayOf_30 : decode cX11_awayOf 30 = .ok (.iload 4, 2) := by decide +kernel
theorem dX11_awayOf_32 : decode cX11_awayOf 32 = .ok (.iaload, 1) := by decide +kernel
theorem dX11_awayOf_33 : decode cX11_awayOf 33 = .ok (.iload_n 3, 1) := by decide +kernel
theorem dX11_awayOf_34 : decode cX11_awayOf 34 = .ok (.isub, 1) := by decide +kernel
theorem dX11_awayOf_35 : decode cX11_awayOf 35 = .ok (.istore 6, 2) := by decide +kernel
theorem dX11_awayOf_37 : decode cX11_awayOf 37 = .ok (.iload 5, 2) := by decide +kernel
theorem dX11_awayOf_39 : decode cX11_awayOf 39 = .ok (.ifCond .ge 9, 3) := by decide +kernel
theorem dX11_awayOf_42 : decode cX11_awayOf 42 = .ok (.iload 5, 2) := by decide +kernel
theorem dX11_awayOf_44 : decode cX11_awayOf 44 = .ok (.ineg, 1) := by decide +kernel
theorem dX11_awayOf_45 : decode cX11_awayOf 45 = .ok (.goto 5, 3) := by decide +kernel
theorem dX11_awayOf_48 : decode cX11_awayOf 48 = .ok (.iload 5, 2) := by decide +kernel
theorem dX11_awayOf_50 : decode cX11_awayOf 50 = .ok (.iload 6, 2) := by decide +kernel
theorem dX11_awayOf_52 : decode cX11_awayOf 52 = .ok (.ifCond .ge 9, 3) := by decide +kernel
theorem dX11_awayOf_55 : decode cX11_awayOf 55 = .ok (.iload 6, 2) := by decide +kernel
theorem dX11_awayOf_57 : decode cX11_awayOf 57 = .ok (.ineg, 1) := by decide +kernel
theorem dX11_awayOf_58 : decode cX11_awayOf 58 = .ok (.goto 5, 3) := by decide +kernel
theorem dX11_awayOf_61 : decode cX11_awayOf 61 = .ok (.iload 6, 2) := by decide +kernel
theorem dX11_awayOf_63 : decode cX11_awayOf 63 = .ok (.iadd, 1) := by decide +kernel
theorem dX11_awayOf_64 : decode cX11_awayOf 64 = .ok (.ireturn, 1) := by decide +kernel
theorem dX11_changes_0 : decode cX11_changes 0 = .ok (.aload_n 0, 1) := by decide +kernel
theorem dX11_changes_1 : decode cX11_changes 1 = .ok (.iconst 0, 1) := by decide +kernel
theorem dX11_changes_2 : decode cX11_changes 2 = .ok (.putfield 308, 3) := by decide +kernel
theorem dX11_changes_5 : decode cX11_changes 5 = .ok (.lload_n 1, 1) := by decide +kernel
theorem dX11_changes_6 : decode cX11_changes 6 = .ok (.lstore_n 3, 1) := by decide +kernel
theorem dX11_changes_7 : decode cX11_changes 7 = .ok (.lload_n 3, 1) := by decide +kernel
theorem dX11_changes_8 : decode cX11_changes 8 = .ok (.lconst 0, 1) := by decide +kernel
theorem dX11_changes_9 : decode cX11_changes 9 = .ok (.lcmp, 1) := by decide +kernel
theorem dX11_changes_10 : decode cX11_changes 10 = .ok (.ifCond .le 37, 3) := by decide +kernel
theorem dX11_changes_13 : decode cX11_changes 13 = .ok (.aload_n 0, 1) := by decide +kernel
theorem dX11_changes_14 : decode cX11_changes 14 = .ok (.getfield 171, 3) := by decide +kernel
theorem dX11_changes_17 : decode cX11_changes 17 = .ok (.aload_n 0, 1) := by decide +kernel
theorem dX11_changes_18 : decode cX11_changes 18 = .ok (.getfield 308, 3) := by decide +kernel
theorem dX11_changes_21 : decode cX11_changes 21 = .ok (.lload_n 3, 1) := by decide +kernel
theorem dX11_changes_22 : decode cX11_changes 22 = .ok (.ldc2_w 193, 3) := by decide +kernel
theorem dX11_changes_25 : decode cX11_changes 25 = .ok (.lrem, 1) := by decide +kernel
theorem dX11_changes_26 : decode cX11_changes 26 = .ok (.l2i, 1) := by decide +kernel
theorem dX11_changes_27 : decode cX11_changes 27 = .ok (.iastore, 1) := by decide +kernel
theorem dX11_changes_28 : decode cX11_changes 28 = .ok (.aload_n 0, 1) := by decide +kernel
theorem dX11_changes_29 : decode cX11_changes 29 = .ok (.dup, 1) := by decide +kernel
theorem dX11_changes_30 : decode cX11_changes 30 = .ok (.getfield 308, 3) := by decide +kernel
theorem dX11_changes_33 : decode cX11_changes 33 = .ok (.iconst 1, 1) := by decide +kernel
theorem dX11_changes_34 : decode cX11_changes 34 = .ok (.iadd, 1) := by decide +kernel
theorem dX11_changes_35 : decode cX11_changes 35 = .ok (.putfield 308, 3) := by decide +kernel
theorem dX11_changes_38 : decode cX11_changes 38 = .ok (.lload_n 3, 1) := by decide +kernel
theorem dX11_changes_39 : decode cX11_changes 39 = .ok (.ldc2_w 193, 3) := by decide +kernel
theorem dX11_changes_42 : decode cX11_changes 42 = .ok (.ldiv, 1) := by decide +kernel
theorem dX11_changes_43 : decode cX11_changes 43 = .ok (.lstore_n 3, 1) := by decide +kernel
theorem dX11_changes_44 : decode cX11_changes 44 = .ok (.goto (-37), 3) := by decide +kernel
theorem dX11_changes_47 : decode cX11_changes 47 = .ok (.iconst 0, 1) := by decide +kernel
theorem dX11_changes_48 : decode cX11_changes 48 = .ok (.istore_n 3, 1) := by decide +kernel
theorem dX11_changes_49 : decode cX11_changes 49 = .ok (.iload_n 3, 1) := by decide +kernel
theorem dX11_changes_50 : decode cX11_changes 50 = .ok (.aload_n 0, 1) := by decide +kernel
theorem dX11_changes_51 : decode cX11_changes 51 = .ok (.getfield 308, 3) := by decide +kernel
theorem dX11_changes_54 : decode cX11_changes 54 = .ok (.if_icmp .gt 16, 3) := by decide +kernel
theorem dX11_changes_57 : decode cX11_changes 57 = .ok (.aload_n 0, 1) := by decide +kernel
theorem dX11_changes_58 : decode cX11_changes 58 = .ok (.getfield 174, 3) := by decide +kernel
theorem dX11_changes_61 : decode cX11_changes 61 = .ok (.iload_n 3, 1) := by decide +kernel
theorem dX11_changes_62 : decode cX11_changes 62 = .ok (.iload_n 3, 1) := by decide +kernel
theorem dX11_changes_63 : decode cX11_changes 63 = .ok (.iastore, 1) := by decide +kernel
theorem dX11_changes_64 : decode cX11_changes 64 = .ok (.iinc 3 1, 3) := by decide +kernel
theorem dX11_changes_67 : decode cX11_changes 67 = .ok (.goto (-18), 3) := by decide +kernel
theorem dX11_changes_70 : decode cX11_changes 70 = .ok (.iconst 1, 1) := by decide +kernel
theorem dX11_changes_71 : decode cX11_changes 71 = .ok (.istore_n 3, 1) := by decide +kernel
theorem dX11_changes_72 : decode cX11_changes 72 = .ok (.iload_n 3, 1) := by decide +kernel
theorem dX11_changes_73 : decode cX11_changes 73 = .ok (.aload_n 0, 1) := by decide +kernel
theorem dX11_changes_74 : decode cX11_changes 74 = .ok (.getfield 195, 3) := by decide +kernel
theorem dX11_changes_77 : decode cX11_changes 77 = .ok (.if_icmp .gt 157, 3) := by decide +kernel
theorem dX11_changes_80 : decode cX11_changes 80 = .ok (.aload_n 0, 1) := by decide +kernel
theorem dX11_changes_81 : decode cX11_changes 81 = .ok (.getfield 174, 3) := by decide +kernel
theorem dX11_changes_84 : decode cX11_changes 84 = .ok (.iconst 0, 1) := by decide +kernel
theorem dX11_changes_85 : decode cX11_changes 85 = .ok (.iaload, 1) := by decide +kernel
theorem dX11_changes_86 : decode cX11_changes 86 = .ok (.istore 4, 2) := by decide +kernel
theorem dX11_changes_88 : decode cX11_changes 88 = .ok (.aload_n 0, 1) := by decide +kernel
theorem dX11_changes_89 : decode cX11_changes 89 = .ok (.getfield 174, 3) := by decide +kernel
theorem dX11_changes_92 : decode cX11_changes 92 = .ok (.iconst 0, 1) := by decide +kernel
theorem dX11_changes_93 : decode cX11_changes 93 = .ok (.iload_n 3, 1) := by decide +kernel
theorem dX11_changes_94 : decode cX11_changes 94 = .ok (.iastore, 1) := by decide +kernel
theorem dX11_changes_95 : decode cX11_changes 95 = .ok (.iconst 1, 1) := by decide +kernel
theorem dX11_changes_96 : decode cX11_changes 96 = .ok (.istore 5, 2) := by decide +kernel
theorem dX11_changes_98 : decode cX11_changes 98 = .ok (.iload 5, 2) := by decide +kernel
theorem dX11_changes_100 : decode cX11_changes 100 = .ok (.aload_n 0, 1) := by decide +kernel
theorem dX11_changes_101 : decode cX11_changes 101 = .ok (.getfield 308, 3) := by decide +kernel
theorem dX11_changes_104 : decode cX11_changes 104 = .ok (.if_icmp .gt 124, 3) := by decide +kernel
theorem dX11_changes_107 : decode cX11_changes 107 = .ok (.iload 4, 2) := by decide +kernel
theorem dX11_changes_109 : decode cX11_changes 109 = .ok (.aload_n 0, 1) := by decide +kernel
theorem dX11_changes_110 : decode cX11_changes 110 = .ok (.getfield 165, 3) := by decide +kernel
theorem dX11_changes_113 : decode cX11_changes 113 = .ok (.iload_n 3, 1) := by decide +kernel
theorem dX11_changes_114 : decode cX11_changes 114 = .ok (.iconst 1, 1) := by decide +kernel
theorem dX11_changes_115 : decode cX11_changes 115 = .ok (.isub, 1) := by decide +kernel
theorem dX11_changes_116 : decode cX11_changes 116 = .ok (.iaload, 1) := by decide +kernel
theorem dX11_changes_117 : decode cX11_changes 117 = .ok (.aload_n 0, 1) := by decide +kernel
theorem dX11_changes_118 : decode cX11_changes 118 = .ok (.getfield 171, 3) := by decide +kernel
theorem dX11_changes_121 : decode cX11_changes 121 = .ok (.aload_n 0, 1) := by decide +kernel
theorem dX11_changes_122 : decode cX11_changes 122 = .ok (.getfield 308, 3) := by decide +kernel
theorem dX11_changes_125 : decode cX11_changes 125 = .ok (.iload 5, 2) := by decide +kernel
theorem dX11_changes_127 : decode cX11_changes 127 = .ok (.isub, 1) := by decide +kernel
theorem dX11_changes_128 : decode cX11_changes 128 = .ok (.iaload, 1) := by decide +kernel
theorem dX11_changes_129 : decode cX11_changes 129 = .ok (.if_icmp .ne 7, 3) := by decide +kernel
theorem dX11_changes_132 : decode cX11_changes 132 = .ok (.iconst 0, 1) := by decide +kernel
theorem dX11_changes_133 : decode cX11_changes 133 = .ok (.goto 4, 3) := by decide +kernel
theorem dX11_changes_136 : decode cX11_changes 136 = .ok (.iconst 1, 1) := by decide +kernel
theorem dX11_changes_137 : decode cX11_changes 137 = .ok (.iadd, 1) := by decide +kernel
theorem dX11_changes_138 : decode cX11_changes 138 = .ok (.istore 6, 2) := by decide +kernel
theorem dX11_changes_140 : decode cX11_changes 140 = .ok (.aload_n 0, 1) := by decide +kernel
theorem dX11_changes_141 : decode cX11_changes 141 = .ok (.getfield 174, 3) := by decide +kernel
theorem dX11_changes_144 : decode cX11_changes 144 = .ok (.iload 5, 2) := by decide +kernel
theorem dX11_changes_146 : decode cX11_changes 146 = .ok (.iaload, 1) := by decide +kernel
theorem dX11_changes_147 : decode cX11_changes 147 = .ok (.iconst 1, 1) := by decide +kernel
theorem dX11_changes_148 : decode cX11_changes 148 = .ok (.iadd, 1) := by decide +kernel
theorem dX11_changes_149 : decode cX11_changes 149 = .ok (.iload 6, 2) := by decide +kernel
theorem dX11_changes_151 : decode cX11_changes 151 = .ok (.if_icmp .ge 15, 3) := by decide +kernel
theorem dX11_changes_154 : decode cX11_changes 154 = .ok (.aload_n 0, 1) := by decide +kernel
theorem dX11_changes_155 : decode cX11_changes 155 = .ok (.getfield 174, 3) := by decide +kernel
theorem dX11_changes_158 : decode cX11_changes 158 = .ok (.iload 5, 2) := by decide +kernel
theorem dX11_changes_160 : decode cX11_changes 160 = .ok (.iaload, 1) := by decide +kernel
theorem dX11_changes_161 : decode cX11_changes 161 = .ok (.iconst 1, 1) := by decide +kernel
theorem dX11_changes_162 : decode cX11_changes 162 = .ok (.iadd, 1) := by decide +kernel
theorem dX11_changes_163 : decode cX11_changes 163 = .ok (.goto 5, 3) := by decide +kernel
theorem dX11_changes_166 : decode cX11_changes 166 = .ok (.iload 6, 2) := by decide +kernel
theorem dX11_changes_168 : decode cX11_changes 168 = .ok (.istore 6, 2) := by decide +kernel
theorem dX11_changes_170 : decode cX11_changes 170 = .ok (.aload_n 0, 1) := by decide +kernel
theorem dX11_changes_171 : decode cX11_changes 171 = .ok (.getfield 174, 3) := by decide +kernel
theorem dX11_changes_174 : decode cX11_changes 174 = .ok (.iload 5, 2) := by decide +kernel
theorem dX11_changes_176 : decode cX11_changes 176 = .ok (.iconst 1, 1) := by decide +kernel
theorem dX11_changes_177 : decode cX11_changes 177 = .ok (.isub, 1) := by decide +kernel
theorem dX11_changes_178 : decode cX11_changes 178 = .ok (.iaload, 1) := by decide +kernel
theorem dX11_changes_179 : decode cX11_changes 179 = .ok (.iconst 1, 1) := by decide +kernel
theorem dX11_changes_180 : decode cX11_changes 180 = .ok (.iadd, 1) := by decide +kernel
theorem dX11_changes_181 : decode cX11_changes 181 = .ok (.iload 6, 2) := by decide +kernel
theorem dX11_changes_183 : decode cX11_changes 183 = .ok (.if_icmp .ge 17, 3) := by decide +kernel
theorem dX11_changes_186 : decode cX11_changes 186 = .ok (.aload_n 0, 1) := by decide +kernel
theorem dX11_changes_187 : decode cX11_changes 187 = .ok (.getfield 174, 3) := by decide +kernel
theorem dX11_changes_190 : decode cX11_changes 190 = .ok (.iload 5, 2) := by decide +kernel
theorem dX11_changes_192 : decode cX11_changes 192 = .ok (.iconst 1, 1) := by decide +kernel
theorem dX11_changes_193 : decode cX11_changes 193 = .ok (.isub, 1) := by decide +kernel
theorem dX11_changes_194 : decode cX11_changes 194 = .ok (.iaload, 1) := by decide +kernel
theorem dX11_changes_195 : decode cX11_changes 195 = .ok (.iconst 1, 1) := by decide +kernel
theorem dX11_changes_196 : decode cX11_changes 196 = .ok (.iadd, 1) := by decide +kernel
theorem dX11_changes_197 : decode cX11_changes 197 = .ok (.goto 5, 3) := by decide +kernel
theorem dX11_changes_200 : decode cX11_changes 200 = .ok (.iload 6, 2) := by decide +kernel
theorem dX11_changes_202 : decode cX11_changes 202 = .ok (.istore 6, 2) := by decide +kernel
theorem dX11_changes_204 : decode cX11_changes 204 = .ok (.aload_n 0, 1) := by decide +kernel
theorem dX11_changes_205 : decode cX11_changes 205 = .ok (.getfield 174, 3) := by decide +kernel
theorem dX11_changes_208 : decode cX11_changes 208 = .ok (.iload 5, 2) := by decide +kernel
theorem dX11_changes_210 : decode cX11_changes 210 = .ok (.iaload, 1) := by decide +kernel
theorem dX11_changes_211 : decode cX11_changes 211 = .ok (.istore 4, 2) := by decide +kernel
theorem dX11_changes_213 : decode cX11_changes 213 = .ok (.aload_n 0, 1) := by decide +kernel
theorem dX11_changes_214 : decode cX11_changes 214 = .ok (.getfield 174, 3) := by decide +kernel
theorem dX11_changes_217 : decode cX11_changes 217 = .ok (.iload 5, 2) := by decide +kernel
theorem dX11_changes_219 : decode cX11_changes 219 = .ok (.iload 6, 2) := by decide +kernel
theorem dX11_changes_221 : decode cX11_changes 221 = .ok (.iastore, 1) := by decide +kernel
theorem dX11_changes_222 : decode cX11_changes 222 = .ok (.iinc 5 1, 3) := by decide +kernel
theorem dX11_changes_225 : decode cX11_changes 225 = .ok (.goto (-127), 3) := by decide +kernel
theorem dX11_changes_228 : decode cX11_changes 228 = .ok (.iinc 3 1, 3) := by decide +kernel
theorem dX11_changes_231 : decode cX11_changes 231 = .ok (.goto (-159), 3) := by decide +kernel
theorem dX11_changes_234 : decode cX11_changes 234 = .ok (.aload_n 0, 1) := by decide +kernel
theorem dX11_changes_235 : decode cX11_changes 235 = .ok (.getfield 174, 3) := by decide +kernel
theorem dX11_changes_238 : decode cX11_changes 238 = .ok (.aload_n 0, 1) := by decide +kernel
theorem dX11_changes_239 : decode cX11_changes 239 = .ok (.getfield 308, 3) := by decide +kernel
theorem dX11_changes_242 : decode cX11_changes 242 = .ok (.iaload, 1) := by decide +kernel
theorem dX11_changes_243 : decode cX11_changes 243 = .ok (.ireturn, 1) := by decide +kernel
theorem dX11_costs_0 : decode cX11_costs 0 = .ok (.iconst (-1), 1) := by decide +kernel
theorem dX11_costs_1 : decode cX11_costs 1 = .ok (.istore_n 3, 1) := by decide +kernel
theorem dX11_costs_2 : decode cX11_costs 2 = .ok (.aload_n 0, 1) := by decide +kernel
theorem dX11_costs_3 : decode cX11_costs 3 = .ok (.aload_n 0, 1) := by decide +kernel
theorem dX11_costs_4 : decode cX11_costs 4 = .ok (.getfield 143, 3) := by decide +kernel
theorem dX11_costs_7 : decode cX11_costs 7 = .ok (.iload_n 1, 1) := by decide +kernel
theorem dX11_costs_8 : decode cX11_costs 8 = .ok (.laload, 1) := by decide +kernel
theorem dX11_costs_9 : decode cX11_costs 9 = .ok (.invokevirtual 211, 3) := by decide +kernel
theorem dX11_costs_12 : decode cX11_costs 12 = .ok (.iconst 0, 1) := by decide +kernel
theorem dX11_costs_13 : decode cX11_costs 13 = .ok (.istore 4, 2) := by decide +kernel
theorem dX11_costs_15 : decode cX11_costs 15 = .ok (.iload 4, 2) := by decide +kernel
theorem dX11_costs_17 : decode cX11_costs 17 = .ok (.aload_n 0, 1) := by decide +kernel
theorem dX11_costs_18 : decode cX11_costs 18 = .ok (.getfield 201, 3) := by decide +kernel
theorem dX11_costs_21 : decode cX11_costs 21 = .ok (.if_icmp .ge 51, 3) := by decide +kernel
theorem dX11_costs_24 : decode cX11_costs 24 = .ok (.aload_n 0, 1) := by decide +kernel
theorem dX11_costs_25 : decode cX11_costs 25 = .ok (.getfield 52, 3) := by decide +kernel
theorem dX11_costs_28 : decode cX11_costs 28 = .ok (.iload 4, 2) := by decide +kernel
theorem dX11_costs_30 : decode cX11_costs 30 = .ok (.iaload, 1) := by decide +kernel
theorem dX11_costs_31 : decode cX11_costs 31 = .ok (.iload_n 2, 1) := by decide +kernel
theorem dX11_costs_32 : decode cX11_costs 32 = .ok (.if_icmp .ne 34, 3) := by decide +kernel
theorem dX11_costs_35 : decode cX11_costs 35 = .ok (.aload_n 0, 1) := by decide +kernel
theorem dX11_costs_36 : decode cX11_costs 36 = .ok (.aload_n 0, 1) := by decide +kernel
theorem dX11_costs_37 : decode cX11_costs 37 = .ok (.getfield 58, 3) := by decide +kernel
theorem dX11_costs_40 : decode cX11_costs 40 = .ok (.iload 4, 2) := by decide +kernel
theorem dX11_costs_42 : decode cX11_costs 42 = .ok (.laload, 1) := by decide +kernel
theorem dX11_costs_43 : decode cX11_costs 43 = .ok (.invokevirtual 311, 3) := by decide +kernel
theorem dX11_costs_46 : decode cX11_costs 46 = .ok (.istore 5, 2) := by decide +kernel
theorem dX11_costs_48 : decode cX11_costs 48 = .ok (.iload_n 3, 1) := by decide +kernel
theorem dX11_costs_49 : decode cX11_costs 49 = .ok (.iconst (-1), 1) := by decide +kernel
theorem dX11_costs_50 : decode cX11_costs 50 = .ok (.if_icmp .eq 9, 3) := by decide +kernel
theorem dX11_costs_53 : decode cX11_costs 53 = .ok (.iload 5, 2) := by decide +kernel
theorem dX11_costs_55 : decode cX11_costs 55 = .ok (.iload_n 3, 1) := by decide +kernel
theorem dX11_costs_56 : decode cX11_costs 56 = .ok (.if_icmp .ge 8, 3) := by decide +kernel
theorem dX11_costs_59 : decode cX11_costs 59 = .ok (.iload 5, 2) := by decide +kernel
theorem dX11_costs_61 : decode cX11_costs 61 = .ok (.goto 4, 3) := by decide +kernel
theorem dX11_costs_64 : decode cX11_costs 64 = .ok (.iload_n 3, 1) := by decide +kernel
theorem dX11_costs_65 : decode cX11_costs 65 = .ok (.istore_n 3, 1) := by decide +kernel
theorem dX11_costs_66 : decode cX11_costs 66 = .ok (.iinc 4 1, 3) := by decide +kernel
theorem dX11_costs_69 : decode cX11_costs 69 = .ok (.goto (-54), 3) := by decide +kernel
theorem dX11_costs_72 : decode cX11_costs 72 = .ok (.iload_n 3, 1) := by decide +kernel
theorem dX11_costs_73 : decode cX11_costs 73 = .ok (.iconst (-1), 1) := by decide +kernel
theorem dX11_costs_74 : decode cX11_costs 74 = .ok (.if_icmp .eq 19, 3) := by decide +kernel
theorem dX11_costs_77 : decode cX11_costs 77 = .ok (.aload_n 0, 1) := by decide +kernel
theorem dX11_costs_78 : decode cX11_costs 78 = .ok (.iload_n 2, 1) := by decide +kernel
theorem dX11_costs_79 : decode cX11_costs 79 = .ok (.aload_n 0, 1) := by decide +kernel
theorem dX11_costs_80 : decode cX11_costs 80 = .ok (.getfield 238, 3) := by decide +kernel
theorem dX11_costs_83 : decode cX11_costs 83 = .ok (.aload_n 0, 1) := by decide +kernel
theorem dX11_costs_84 : decode cX11_costs 84 = .ok (.getfield 238, 3) := by decide +kernel
theorem dX11_costs_87 : decode cX11_costs 87 = .ok (.invokevirtual 254, 3) := by decide +kernel
theorem dX11_costs_90 : decode cX11_costs 90 = .ok (.ifCond .ne 5, 3) := by decide +kernel
theorem dX11_costs_93 : decode cX11_costs 93 = .ok (.iconst (-1), 1) := by decide +kernel
theorem dX11_costs_94 : decode cX11_costs 94 = .ok (.ireturn, 1) := by decide +kernel
theorem dX11_costs_95 : decode cX11_costs 95 = .ok (.bipush 10, 2) := by decide +kernel
theorem dX11_costs_97 : decode cX11_costs 97 = .ok (.iload_n 3, 1) := by decide +kernel
theorem dX11_costs_98 : decode cX11_costs 98 = .ok (.imul, 1) := by decide +kernel
theorem dX11_costs_99 : decode cX11_costs 99 = .ok (.aload_n 0, 1) := by decide +kernel
theorem dX11_costs_100 : decode cX11_costs 100 = .ok (.iload_n 2, 1) := by decide +kernel
theorem dX11_costs_101 : decode cX11_costs 101 = .ok (.aload_n 0, 1) := by decide +kernel
theorem dX11_costs_102 : decode cX11_costs 102 = .ok (.getfield 146, 3) := by decide +kernel
theorem dX11_costs_105 : decode cX11_costs 105 = .ok (.iload_n 1, 1) := by decide +kernel
theorem dX11_costs_106 : decode cX11_costs 106 = .ok (.iaload, 1) := by decide +kernel
theorem dX11_costs_107 : decode cX11_costs 107 = .ok (.aload_n 0, 1) := by decide +kernel
theorem dX11_costs_108 : decode cX11_costs 108 = .ok (.getfield 149, 3) := by decide +kernel
theorem dX11_costs_111 : decode cX11_costs 111 = .ok (.iload_n 1, 1) := by decide +kernel
theorem dX11_costs_112 : decode cX11_costs 112 = .ok (.iaload, 1) := by decide +kernel
theorem dX11_costs_113 : decode cX11_costs 113 = .ok (.invokevirtual 315, 3) := by decide +kernel
theorem dX11_costs_116 : decode cX11_costs 116 = .ok (.iadd, 1) := by decide +kernel
theorem dX11_costs_117 : decode cX11_costs 117 = .ok (.istore 4, 2) := by decide +kernel
theorem dX11_costs_119 : decode cX11_costs 119 = .ok (.iload 4, 2) := by decide +kernel
theorem dX11_costs_121 : decode cX11_costs 121 = .ok (.bipush 60, 2) := by decide +kernel
theorem dX11_costs_123 : decode cX11_costs 123 = .ok (.if_icmp .gt 8, 3) := by decide +kernel
theorem dX11_costs_126 : decode cX11_costs 126 = .ok (.iload 4, 2) := by decide +kernel
theorem dX11_costs_128 : decode cX11_costs 128 = .ok (.goto 4, 3) := by decide +kernel
theorem dX11_costs_131 : decode cX11_costs 131 = .ok (.iconst (-1), 1) := by decide +kernel
theorem dX11_costs_132 : decode cX11_costs 132 = .ok (.ireturn, 1) := by decide +kernel
theorem dX11_cost_0 : decode cX11_cost 0 = .ok (.aload_n 0, 1) := by decide +kernel
theorem dX11_cost_1 : decode cX11_cost 1 = .ok (.iload_n 1, 1) := by decide +kernel
theorem dX11_cost_2 : decode cX11_cost 2 = .ok (.iconst 0, 1) := by decide +kernel
theorem dX11_cost_3 : decode cX11_cost 3 = .ok (.aload_n 0, 1) := by decide +kernel
theorem dX11_cost_4 : decode cX11_cost 4 = .ok (.getfield 305, 3) := by decide +kernel
theorem dX11_cost_7 : decode cX11_cost 7 = .ok (.iconst 1, 1) := by decide +kernel
theorem dX11_cost_8 : decode cX11_cost 8 = .ok (.isub, 1) := by decide +kernel
theorem dX11_cost_9 : decode cX11_cost 9 = .ok (.invokestatic 189, 3) := by decide +kernel
theorem dX11_cost_12 : decode cX11_cost 12 = .ok (.ifCond .eq 15, 3) := by decide +kernel
theorem dX11_cost_15 : decode cX11_cost 15 = .ok (.aload_n 0, 1) := by decide +kernel
theorem dX11_cost_16 : decode cX11_cost 16 = .ok (.iload_n 2, 1) := by decide +kernel
theorem dX11_cost_17 : decode cX11_cost 17 = .ok (.invokevirtual 245, 3) := by decide +kernel
theorem dX11_cost_20 : decode cX11_cost 20 = .ok (.ifCond .eq 7, 3) := by decide +kernel
theorem dX11_cost_23 : decode cX11_cost 23 = .ok (.iconst 0, 1) := by decide +kernel
theorem dX11_cost_24 : decode cX11_cost 24 = .ok (.goto 4, 3) := by decide +kernel
theorem dX11_cost_27 : decode cX11_cost 27 = .ok (.iconst 1, 1) := by decide +kernel
theorem dX11_cost_28 : decode cX11_cost 28 = .ok (.invokevirtual 234, 3) := by decide +kernel
theorem dX11_cost_31 : decode cX11_cost 31 = .ok (.ifCond .eq 12, 3) := by decide +kernel
theorem dX11_cost_34 : decode cX11_cost 34 = .ok (.aload_n 0, 1) := by decide +kernel
theorem dX11_cost_35 : decode cX11_cost 35 = .ok (.iload_n 1, 1) := by decide +kernel
theorem dX11_cost_36 : decode cX11_cost 36 = .ok (.iload_n 2, 1) := by decide +kernel
theorem dX11_cost_37 : decode cX11_cost 37 = .ok (.invokevirtual 318, 3) := by decide +kernel
theorem dX11_cost_40 : decode cX11_cost 40 = .ok (.goto 4, 3) := by decide +kernel
theorem dX11_cost_43 : decode cX11_cost 43 = .ok (.iconst 0, 1) := by decide +kernel
theorem dX11_cost_44 : decode cX11_cost 44 = .ok (.ireturn, 1) := by decide +kernel
theorem dX11_assigns_0 : decode cX11_assigns 0 = .ok (.iconst 0, 1) := by decide +kernel
theorem dX11_assigns_1 : decode cX11_assigns 1 = .ok (.istore_n 1, 1) := by decide +kernel
theorem dX11_assigns_2 : decode cX11_assigns 2 = .ok (.iload_n 1, 1) := by decide +kernel
theorem dX11_assigns_3 : decode cX11_assigns 3 = .ok (.bipush 16, 2) := by decide +kernel
theorem dX11_assigns_5 : decode cX11_assigns 5 = .ok (.if_icmp .ge 23, 3) := by decide +kernel
theorem dX11_assigns_8 : decode cX11_assigns 8 = .ok (.aload_n 0, 1) := by decide +kernel
theorem dX11_assigns_9 : decode cX11_assigns 9 = .ok (.getfield 177, 3) := by decide +kernel
theorem dX11_assigns_12 : decode cX11_assigns 12 = .ok (.iload_n 1, 1) := by decide +kernel
theorem dX11_assigns_13 : decode cX11_assigns 13 = .ok (.iconst (-1), 1) := by decide +kernel
theorem dX11_assigns_14 : decode cX11_assigns 14 = .ok (.iastore, 1) := by decide +kernel
theorem dX11_assigns_15 : decode cX11_assigns 15 = .ok (.aload_n 0, 1) := by decide +kernel
theorem dX11_assigns_16 : decode cX11_assigns 16 = .ok (.getfield 180, 3) := by decide +kernel
theorem dX11_assigns_19 : decode cX11_assigns 19 = .ok (.iload_n 1, 1) := by decide +kernel
theorem dX11_assigns_20 : decode cX11_assigns 20 = .ok (.iconst 0, 1) := by decide +kernel
theorem dX11_assigns_21 : decode cX11_assigns 21 = .ok (.iastore, 1) := by decide +kernel
theorem dX11_assigns_22 : decode cX11_assigns 22 = .ok (.iinc 1 1, 3) := by decide +kernel
theorem dX11_assigns_25 : decode cX11_assigns 25 = .ok (.goto (-23), 3) := by decide +kernel
theorem dX11_assigns_28 : decode cX11_assigns 28 = .ok (.aload_n 0, 1) := by decide +kernel
theorem dX11_assigns_29 : decode cX11_assigns 29 = .ok (.getfield 177, 3) := by decide +kernel
theorem dX11_assigns_32 : decode cX11_assigns 32 = .ok (.iconst 0, 1) := by decide +kernel
theorem dX11_assigns_33 : decode cX11_assigns 33 = .ok (.iconst 0, 1) := by decide +kernel
theorem dX11_assigns_34 : decode cX11_assigns 34 = .ok (.iastore, 1) := by decide +kernel
theorem dX11_assigns_35 : decode cX11_assigns 35 = .ok (.aload_n 0, 1) := by decide +kernel
theorem dX11_assigns_36 : decode cX11_assigns 36 = .ok (.getfield 180, 3) := by decide +kernel
theorem dX11_assigns_39 : decode cX11_assigns 39 = .ok (.iconst 0, 1) := by decide +kernel
theorem dX11_assigns_40 : decode cX11_assigns 40 = .ok (.iconst 1, 1) := by decide +kernel
theorem dX11_assigns_41 : decode cX11_assigns 41 = .ok (.iastore, 1) := by decide +kernel
theorem dX11_assigns_42 : decode cX11_assigns 42 = .ok (.iconst 0, 1) := by decide +kernel
theorem dX11_assigns_43 : decode cX11_assigns 43 = .ok (.istore_n 1, 1) := by decide +kernel
theorem dX11_assigns_44 : decode cX11_assigns 44 = .ok (.iload_n 1, 1) := by decide +kernel
theorem dX11_assigns_45 : decode cX11_assigns 45 = .ok (.aload_n 0, 1) := by decide +kernel
theorem dX11_assigns_46 : decode cX11_assigns 46 = .ok (.getfield 186, 3) := by decide +kernel
theorem dX11_assigns_49 : decode cX11_assigns 49 = .ok (.if_icmp .ge 136, 3) := by decide +kernel
theorem dX11_assigns_52 : decode cX11_assigns 52 = .ok (.aload_n 0, 1) := by decide +kernel
theorem dX11_assigns_53 : decode cX11_assigns 53 = .ok (.getfield 305, 3) := by decide +kernel
theorem dX11_assigns_56 : decode cX11_assigns 56 = .ok (.ifCond .le 12, 3) := by decide +kernel
theorem dX11_assigns_59 : decode cX11_assigns 59 = .ok (.aload_n 0, 1) := by decide +kernel
theorem dX11_assigns_60 : decode cX11_assigns 60 = .ok (.iconst 0, 1) := by decide +kernel
theorem dX11_assigns_61 : decode cX11_assigns 61 = .ok (.iload_n 1, 1) := by decide +kernel
theorem dX11_assigns_62 : decode cX11_assigns 62 = .ok (.invokevirtual 318, 3) := by decide +kernel
theorem dX11_assigns_65 : decode cX11_assigns 65 = .ok (.goto 4, 3) := by decide +kernel
theorem dX11_assigns_68 : decode cX11_assigns 68 = .ok (.iconst (-1), 1) := by decide +kernel
theorem dX11_assigns_69 : decode cX11_assigns 69 = .ok (.istore_n 2, 1) := by decide +kernel
theorem dX11_assigns_70 : decode cX11_assigns 70 = .ok (.aload_n 0, 1) := by decide +kernel
theorem dX11_assigns_71 : decode cX11_assigns 71 = .ok (.getfield 305, 3) := by decide +kernel
theorem dX11_assigns_74 : decode cX11_assigns 74 = .ok (.iconst 1, 1) := by decide +kernel
theorem dX11_assigns_75 : decode cX11_assigns 75 = .ok (.if_icmp .le 12, 3) := by decide +kernel
theorem dX11_assigns_78 : decode cX11_assigns 78 = .ok (.aload_n 0, 1) := by decide +kernel
theorem dX11_assigns_79 : decode cX11_assigns 79 = .ok (.iconst 1, 1) := by decide +kernel
theorem dX11_assigns_80 : decode cX11_assigns 80 = .ok (.iload_n 1, 1) := by decide +kernel
theorem dX11_assigns_81 : decode cX11_assigns 81 = .ok (.invokevirtual 318, 3) := by decide +kernel
theorem dX11_assigns_84 : decode cX11_assigns 84 = .ok (.goto 4, 3) := by decide +kernel
theorem dX11_assigns_87 : decode cX11_assigns 87 = .ok (.iconst (-1), 1) := by decide +kernel
theorem dX11_assigns_88 : decode cX11_assigns 88 = .ok (.istore_n 3, 1) := by decide +kernel
theorem dX11_assigns_89 : decode cX11_assigns 89 = .ok (.aload_n 0, 1) := by decide +kernel
theorem dX11_assigns_90 : decode cX11_assigns 90 = .ok (.getfield 305, 3) := by decide +kernel
theorem dX11_assigns_93 : decode cX11_assigns 93 = .ok (.iconst 2, 1) := by decide +kernel
theorem dX11_assigns_94 : decode cX11_assigns 94 = .ok (.if_icmp .le 12, 3) := by decide +kernel
theorem dX11_assigns_97 : decode cX11_assigns 97 = .ok (.aload_n 0, 1) := by decide +kernel
theorem dX11_assigns_98 : decode cX11_assigns 98 = .ok (.iconst 2, 1) := by decide +kernel
theorem dX11_assigns_99 : decode cX11_assigns 99 = .ok (.iload_n 1, 1) := by decide +kernel
theorem dX11_assigns_100 : decode cX11_assigns 100 = .ok (.invokevirtual 318, 3) := by decide +kernel
theorem dX11_assigns_103 : decode cX11_assigns 103 = .ok (.goto 4, 3) := by decide +kernel
theorem dX11_assigns_106 : decode cX11_assigns 106 = .ok (.iconst (-1), 1) := by decide +kernel
theorem dX11_assigns_107 : decode cX11_assigns 107 = .ok (.istore 4, 2) := by decide +kernel
theorem dX11_assigns_109 : decode cX11_assigns 109 = .ok (.aload_n 0, 1) := by decide +kernel
theorem dX11_assigns_110 : decode cX11_assigns 110 = .ok (.getfield 305, 3) := by decide +kernel
theorem dX11_assigns_113 : decode cX11_assigns 113 = .ok (.iconst 3, 1) := by decide +kernel
theorem dX11_assigns_114 : decode cX11_assigns 114 = .ok (.if_icmp .le 12, 3) := by decide +kernel
theorem dX11_assigns_117 : decode cX11_assigns 117 = .ok (.aload_n 0, 1) := by decide +kernel
theorem dX11_assigns_118 : decode cX11_assigns 118 = .ok (.iconst 3, 1) := by decide +kernel
theorem dX11_assigns_119 : decode cX11_assigns 119 = .ok (.iload_n 1, 1) := by decide +kernel
theorem dX11_assigns_120 : decode cX11_assigns 120 = .ok (.invokevirtual 318, 3) := by decide +kernel
theorem dX11_assigns_123 : decode cX11_assigns 123 = .ok (.goto 4, 3) := by decide +kernel
theorem dX11_assigns_126 : decode cX11_assigns 126 = .ok (.iconst (-1), 1) := by decide +kernel
theorem dX11_assigns_127 : decode cX11_assigns 127 = .ok (.istore 5, 2) := by decide +kernel
theorem dX11_assigns_129 : decode cX11_assigns 129 = .ok (.bipush 15, 2) := by decide +kernel
theorem dX11_assigns_131 : decode cX11_assigns 131 = .ok (.istore 6, 2) := by decide +kernel
theorem dX11_assigns_133 : decode cX11_assigns 133 = .ok (.iload 6, 2) := by decide +kernel
theorem dX11_assigns_135 : decode cX11_assigns 135 = .ok (.ifCond .le 44, 3) := by decide +kernel
theorem dX11_assigns_138 : decode cX11_assigns 138 = .ok (.aload_n 0, 1) := by decide +kernel
theorem dX11_assigns_139 : decode cX11_assigns 139 = .ok (.iload 6, 2) := by decide +kernel
theorem dX11_assigns_141 : decode cX11_assigns 141 = .ok (.iconst 1, 1) := by decide +kernel
theorem dX11_assigns_142 : decode cX11_assigns 142 = .ok (.iload_n 2, 1) := by decide +kernel
theorem dX11_assigns_143 : decode cX11_assigns 143 = .ok (.invokevirtual 321, 3) := by decide +kernel
theorem dX11_assigns_146 : decode cX11_assigns 146 = .ok (.aload_n 0, 1) := by decide +kernel
theorem dX11_assigns_147 : decode cX11_assigns 147 = .ok (.iload 6, 2) := by decide +kernel
theorem dX11_assigns_149 : decode cX11_assigns 149 = .ok (.iconst 2, 1) := by decide +kernel
theorem dX11_assigns_150 : decode cX11_assigns 150 = .ok (.iload_n 3, 1) := by decide +kernel
theorem dX11_assigns_151 : decode cX11_assigns 151 = .ok (.invokevirtual 321, 3) := by decide +kernel
theorem dX11_assigns_154 : decode cX11_assigns 154 = .ok (.aload_n 0, 1) := by decide +kernel
theorem dX11_assigns_155 : decode cX11_assigns 155 = .ok (.iload 6, 2) := by decide +kernel
theorem dX11_assigns_157 : decode cX11_assigns 157 = .ok (.iconst 4, 1) := by decide +kernel
theorem dX11_assigns_158 : decode cX11_assigns 158 = .ok (.iload 4, 2) := by decide +kernel
theorem dX11_assigns_160 : decode cX11_assigns 160 = .ok (.invokevirtual 321, 3) := by decide +kernel
theorem dX11_assigns_163 : decode cX11_assigns 163 = .ok (.aload_n 0, 1) := by decide +kernel
theorem dX11_assigns_164 : decode cX11_assigns 164 = .ok (.iload 6, 2) := by decide +kernel
theorem dX11_assigns_166 : decode cX11_assigns 166 = .ok (.bipush 8, 2) := by decide +kernel
theorem dX11_assigns_168 : decode cX11_assigns 168 = .ok (.iload 5, 2) := by decide +kernel
theorem dX11_assigns_170 : decode cX11_assigns 170 = .ok (.invokevirtual 321, 3) := by decide +kernel
theorem dX11_assigns_173 : decode cX11_assigns 173 = .ok (.iinc 6 (-1), 3) := by decide +kernel
theorem dX11_assigns_176 : decode cX11_assigns 176 = .ok (.goto (-43), 3) := by decide +kernel
theorem dX11_assigns_179 : decode cX11_assigns 179 = .ok (.iinc 1 1, 3) := by decide +kernel
theorem dX11_assigns_182 : decode cX11_assigns 182 = .ok (.goto (-138), 3) := by decide +kernel
theorem dX11_assigns_185 : decode cX11_assigns 185 = .ok (.return_, 1) := by decide +kernel
theorem dX11_joins_0 : decode cX11_joins 0 = .ok (.iload_n 1, 1) := by decide +kernel
theorem dX11_joins_1 : decode cX11_joins 1 = .ok (.iload_n 2, 1) := by decide +kernel
theorem dX11_joins_2 : decode cX11_joins 2 = .ok (.iconst (-1), 1) := by decide +kernel
theorem dX11_joins_3 : decode cX11_joins 3 = .ok (.ixor, 1) := by decide +kernel
theorem dX11_joins_4 : decode cX11_joins 4 = .ok (.iand, 1) := by decide +kernel
theorem dX11_joins_5 : decode cX11_joins 5 = .ok (.istore 4, 2) := by decide +kernel
theorem dX11_joins_7 : decode cX11_joins 7 = .ok (.iload_n 3, 1) := by decide +kernel
theorem dX11_joins_8 : decode cX11_joins 8 = .ok (.iconst (-1), 1) := by decide +kernel
theorem dX11_joins_9 : decode cX11_joins 9 = .ok (.if_icmp .eq 19, 3) := by decide +kernel
theorem dX11_joins_12 : decode cX11_joins 12 = .ok (.iload 4, 2) := by decide +kernel
theorem dX11_joins_14 : decode cX11_joins 14 = .ok (.iload_n 1, 1) := by decide +kernel
theorem dX11_joins_15 : decode cX11_joins 15 = .ok (.if_icmp .eq 13, 3) := by decide +kernel
theorem dX11_joins_18 : decode cX11_joins 18 = .ok (.aload_n 0, 1) := by decide +kernel
theorem dX11_joins_19 : decode cX11_joins 19 = .ok (.getfield 180, 3) := by decide +kernel
theorem dX11_joins_22 : decode cX11_joins 22 = .ok (.iload 4, 2) := by decide +kernel
theorem dX11_joins_24 : decode cX11_joins 24 = .ok (.iaload, 1) := by decide +kernel
theorem dX11_joins_25 : decode cX11_joins 25 = .ok (.ifCond .ne 4, 3) := by decide +kernel
theorem dX11_joins_28 : decode cX11_joins 28 = .ok (.return_, 1) := by decide +kernel
theorem dX11_joins_29 : decode cX11_joins 29 = .ok (.aload_n 0, 1) := by decide +kernel
theorem dX11_joins_30 : decode cX11_joins 30 = .ok (.getfield 180, 3) := by decide +kernel
theorem dX11_joins_33 : decode cX11_joins 33 = .ok (.iload_n 1, 1) := by decide +kernel
theorem dX11_joins_34 : decode cX11_joins 34 = .ok (.dup2, 1) := by decide +kernel
theorem dX11_joins_35 : decode cX11_joins 35 = .ok (.iaload, 1) := by decide +kernel
theorem dX11_joins_36 : decode cX11_joins 36 = .ok (.aload_n 0, 1) := by decide +kernel
theorem dX11_joins_37 : decode cX11_joins 37 = .ok (.getfield 180, 3) := by decide +kernel
theorem dX11_joins_40 : decode cX11_joins 40 = .ok (.iload 4, 2) := by decide +kernel
theorem dX11_joins_42 : decode cX11_joins 42 = .ok (.iaload, 1) := by decide +kernel
theorem dX11_joins_43 : decode cX11_joins 43 = .ok (.iadd, 1) := by decide +kernel
theorem dX11_joins_44 : decode cX11_joins 44 = .ok (.iastore, 1) := by decide +kernel
theorem dX11_joins_45 : decode cX11_joins 45 = .ok (.aload_n 0, 1) := by decide +kernel
theorem dX11_joins_46 : decode cX11_joins 46 = .ok (.getfield 177, 3) := by decide +kernel
theorem dX11_joins_49 : decode cX11_joins 49 = .ok (.iload_n 1, 1) := by decide +kernel
theorem dX11_joins_50 : decode cX11_joins 50 = .ok (.aload_n 0, 1) := by decide +kernel
theorem dX11_joins_51 : decode cX11_joins 51 = .ok (.getfield 177, 3) := by decide +kernel
theorem dX11_joins_54 : decode cX11_joins 54 = .ok (.iload_n 1, 1) := by decide +kernel
theorem dX11_joins_55 : decode cX11_joins 55 = .ok (.iaload, 1) := by decide +kernel
theorem dX11_joins_56 : decode cX11_joins 56 = .ok (.iconst (-1), 1) := by decide +kernel
theorem dX11_joins_57 : decode cX11_joins 57 = .ok (.if_icmp .eq 21, 3) := by decide +kernel
theorem dX11_joins_60 : decode cX11_joins 60 = .ok (.aload_n 0, 1) := by decide +kernel
theorem dX11_joins_61 : decode cX11_joins 61 = .ok (.getfield 177, 3) := by decide +kernel
theorem dX11_joins_64 : decode cX11_joins 64 = .ok (.iload 4, 2) := by decide +kernel
theorem dX11_joins_66 : decode cX11_joins 66 = .ok (.iaload, 1) := by decide +kernel
theorem dX11_joins_67 : decode cX11_joins 67 = .ok (.iload_n 3, 1) := by decide +kernel
theorem dX11_joins_68 : decode cX11_joins 68 = .ok (.iadd, 1) := by decide +kernel
theorem dX11_joins_69 : decode cX11_joins 69 = .ok (.aload_n 0, 1) := by decide +kernel
theorem dX11_joins_70 : decode cX11_joins 70 = .ok (.getfield 177, 3) := by decide +kernel
theorem dX11_joins_73 : decode cX11_joins 73 = .ok (.iload_n 1, 1) := by decide +kernel
theorem dX11_joins_74 : decode cX11_joins 74 = .ok (.iaload, 1) := by decide +kernel
theorem dX11_joins_75 : decode cX11_joins 75 = .ok (.if_icmp .ge 15, 3) := by decide +kernel
theorem dX11_joins_78 : decode cX11_joins 78 = .ok (.aload_n 0, 1) := by decide +kernel
theorem dX11_joins_79 : decode cX11_joins 79 = .ok (.getfield 177, 3) := by decide +kernel
theorem dX11_joins_82 : decode cX11_joins 82 = .ok (.iload 4, 2) := by decide +kernel
theorem dX11_joins_84 : decode cX11_joins 84 = .ok (.iaload, 1) := by decide +kernel
theorem dX11_joins_85 : decode cX11_joins 85 = .ok (.iload_n 3, 1) := by decide +kernel
theorem dX11_joins_86 : decode cX11_joins 86 = .ok (.iadd, 1) := by decide +kernel
theorem dX11_joins_87 : decode cX11_joins 87 = .ok (.goto 9, 3) := by decide +kernel
theorem dX11_joins_90 : decode cX11_joins 90 = .ok (.aload_n 0, 1) := by decide +kernel
theorem dX11_joins_91 : decode cX11_joins 91 = .ok (.getfield 177, 3) := by decide +kernel
theorem dX11_joins_94 : decode cX11_joins 94 = .ok (.iload_n 1, 1) := by decide +kernel
theorem dX11_joins_95 : decode cX11_joins 95 = .ok (.iaload, 1) := by decide +kernel
theorem dX11_joins_96 : decode cX11_joins 96 = .ok (.iastore, 1) := by decide +kernel
theorem dX11_joins_97 : decode cX11_joins 97 = .ok (.return_, 1) := by decide +kernel
theorem dX11_assign_0 : decode cX11_assign 0 = .ok (.aload_n 0, 1) := by decide +kernel
theorem dX11_assign_1 : decode cX11_assign 1 = .ok (.iconst 0, 1) := by decide +kernel
theorem dX11_assign_2 : decode cX11_assign 2 = .ok (.putfield 183, 3) := by decide +kernel
theorem dX11_assign_5 : decode cX11_assign 5 = .ok (.aload_n 0, 1) := by decide +kernel
theorem dX11_assign_6 : decode cX11_assign 6 = .ok (.invokevirtual 325, 3) := by decide +kernel
theorem dX11_assign_9 : decode cX11_assign 9 = .ok (.aload_n 0, 1) := by decide +kernel
theorem dX11_assign_10 : decode cX11_assign 10 = .ok (.getfield 177, 3) := by decide +kernel
theorem dX11_assign_13 : decode cX11_assign 13 = .ok (.iconst 1, 1) := by decide +kernel
theorem dX11_assign_14 : decode cX11_assign 14 = .ok (.aload_n 0, 1) := by decide +kernel
theorem dX11_assign_15 : decode cX11_assign 15 = .ok (.getfield 305, 3) := by decide +kernel
theorem dX11_assign_18 : decode cX11_assign 18 = .ok (.ishl, 1) := by decide +kernel
theorem dX11_assign_19 : decode cX11_assign 19 = .ok (.iconst 1, 1) := by decide +kernel
theorem dX11_assign_20 : decode cX11_assign 20 = .ok (.isub, 1) := by decide +kernel
theorem dX11_assign_21 : decode cX11_assign 21 = .ok (.iaload, 1) := by decide +kernel
theorem dX11_assign_22 : decode cX11_assign 22 = .ok (.ireturn, 1) := by decide +kernel
theorem dX11_ways_0 : decode cX11_ways 0 = .ok (.aload_n 0, 1) := by decide +kernel
theorem dX11_ways_1 : decode cX11_ways 1 = .ok (.iconst 0, 1) := by decide +kernel
theorem dX11_ways_2 : decode cX11_ways 2 = .ok (.putfield 183, 3) := by decide +kernel
theorem dX11_ways_5 : decode cX11_ways 5 = .ok (.aload_n 0, 1) := by decide +kernel
theorem dX11_ways_6 : decode cX11_ways 6 = .ok (.invokevirtual 325, 3) := by decide +kernel
theorem dX11_ways_9 : decode cX11_ways 9 = .ok (.aload_n 0, 1) := by decide +kernel
theorem dX11_ways_10 : decode cX11_ways 10 = .ok (.getfield 180, 3) := by decide +kernel
theorem dX11_ways_13 : decode cX11_ways 13 = .ok (.iconst 1, 1) := by decide +kernel
theorem dX11_ways_14 : decode cX11_ways 14 = .ok (.aload_n 0, 1) := by decide +kernel
theorem dX11_ways_15 : decode cX11_ways 15 = .ok (.getfield 305, 3) := by decide +kernel
theorem dX11_ways_18 : decode cX11_ways 18 = .ok (.ishl, 1) := by decide +kernel
theorem dX11_ways_19 : decode cX11_ways 19 = .ok (.iconst 1, 1) := by decide +kernel
theorem dX11_ways_20 : decode cX11_ways 20 = .ok (.isub, 1) := by decide +kernel
theorem dX11_ways_21 : decode cX11_ways 21 = .ok (.iaload, 1) := by decide +kernel
theorem dX11_ways_22 : decode cX11_ways 22 = .ok (.ireturn, 1) := by decide +kernel
theorem dX11_isFormNow_0 : decode cX11_isFormNow 0 = .ok (.iconst 0, 1) := by decide +kernel
theorem dX11_isFormNow_1 : decode cX11_isFormNow 1 = .ok (.istore 4, 2) := by decide +kernel
theorem dX11_isFormNow_3 : decode cX11_isFormNow 3 = .ok (.iconst 0, 1) := by decide +kernel
theorem dX11_isFormNow_4 : decode cX11_isFormNow 4 = .ok (.istore 5, 2) := by decide +kernel
theorem dX11_isFormNow_6 : decode cX11_isFormNow 6 = .ok (.iload 5, 2) := by decide +kernel
theorem dX11_isFormNow_8 : decode cX11_isFormNow 8 = .ok (.iconst 4, 1) := by decide +kernel
theorem dX11_isFormNow_9 : decode cX11_isFormNow 9 = .ok (.if_icmp .ge 41, 3) := by decide +kernel
theorem dX11_isFormNow_12 : decode cX11_isFormNow 12 = .ok (.iload 4, 2) := by decide +kernel
theorem dX11_isFormNow_14 : decode cX11_isFormNow 14 = .ok (.ifCond .ne 23, 3) := by decide +kernel
theorem dX11_isFormNow_17 : decode cX11_isFormNow 17 = .ok (.aload_n 0, 1) := by decide +kernel
theorem dX11_isFormNow_18 : decode cX11_isFormNow 18 = .ok (.iload_n 1, 1) := by decide +kernel
theorem dX11_isFormNow_19 : decode cX11_isFormNow 19 = .ok (.iload 5, 2) := by decide +kernel
theorem dX11_isFormNow_21 : decode cX11_isFormNow 21 = .ok (.aload_n 0, 1) := by decide +kernel
theorem dX11_isFormNow_22 : decode cX11_isFormNow 22 = .ok (.getfield 238, 3) := by decide +kernel
theorem dX11_isFormNow_25 : decode cX11_isFormNow 25 = .ok (.aload_n 0, 1) := by decide +kernel
theorem dX11_isFormNow_26 : decode cX11_isFormNow 26 = .ok (.getfield 238, 3) := by decide +kernel
theorem dX11_isFormNow_29 : decode cX11_isFormNow 29 = .ok (.invokevirtual 260, 3) := by decide +kernel
theorem dX11_isFormNow_32 : decode cX11_isFormNow 32 = .ok (.lload_n 2, 1) := by decide +kernel
theorem dX11_isFormNow_33 : decode cX11_isFormNow 33 = .ok (.lcmp, 1) := by decide +kernel
theorem dX11_isFormNow_34 : decode cX11_isFormNow 34 = .ok (.ifCond .ne 7, 3) := by decide +kernel
theorem dX11_isFormNow_37 : decode cX11_isFormNow 37 = .ok (.iconst 1, 1) := by decide +kernel
theorem dX11_isFormNow_38 : decode cX11_isFormNow 38 = .ok (.goto 4, 3) := by decide +kernel
theorem dX11_isFormNow_41 : decode cX11_isFormNow 41 = .ok (.iconst 0, 1) := by decide +kernel
theorem dX11_isFormNow_42 : decode cX11_isFormNow 42 = .ok (.istore 4, 2) := by decide +kernel
theorem dX11_isFormNow_44 : decode cX11_isFormNow 44 = .ok (.iinc 5 1, 3) := by decide +kernel
theorem dX11_isFormNow_47 : decode cX11_isFormNow 47 = .ok (.goto (-41), 3) := by decide +kernel
theorem dX11_isFormNow_50 : decode cX11_isFormNow 50 = .ok (.iload 4, 2) := by decide +kernel
theorem dX11_isFormNow_52 : decode cX11_isFormNow 52 = .ok (.ireturn, 1) := by decide +kernel
theorem dX11_wasTold_0 : decode cX11_wasTold 0 = .ok (.iconst 0, 1) := by decide +kernel
theorem dX11_wasTold_1 : decode cX11_wasTold 1 = .ok (.istore 4, 2) := by decide +kernel
theorem dX11_wasTold_3 : decode cX11_wasTold 3 = .ok (.iconst 0, 1) := by decide +kernel
theorem dX11_wasTold_4 : decode cX11_wasTold 4 = .ok (.istore 5, 2) := by decide +kernel
theorem dX11_wasTold_6 : decode cX11_wasTold 6 = .ok (.iload 5, 2) := by decide +kernel
theorem dX11_wasTold_8 : decode cX11_wasTold 8 = .ok (.aload_n 0, 1) := by decide +kernel
theorem dX11_wasTold_9 : decode cX11_wasTold 9 = .ok (.getfield 201, 3) := by decide +kernel
theorem dX11_wasTold_12 : decode cX11_wasTold 12 = .ok (.if_icmp .ge 44, 3) := by decide +kernel
theorem dX11_wasTold_15 : decode cX11_wasTold 15 = .ok (.iload 4, 2) := by decide +kernel
theorem dX11_wasTold_17 : decode cX11_wasTold 17 = .ok (.ifCond .ne 26, 3) := by decide +kernel
theorem dX11_wasTold_20 : decode cX11_wasTold 20 = .ok (.aload_n 0, 1) := by decide +kernel
theorem dX11_wasTold_21 : decode cX11_wasTold 21 = .ok (.getfield 52, 3) := by decide +kernel
theorem dX11_wasTold_24 : decode cX11_wasTold 24 = .ok (.iload 5, 2) := by decide +kernel
theorem dX11_wasTold_26 : decode cX11_wasTold 26 = .ok (.iaload, 1) := by decide +kernel
theorem dX11_wasTold_27 : decode cX11_wasTold 27 = .ok (.iload_n 1, 1) := by decide +kernel
theorem dX11_wasTold_28 : decode cX11_wasTold 28 = .ok (.if_icmp .ne 19, 3) := by decide +kernel
theorem dX11_wasTold_31 : decode cX11_wasTold 31 = .ok (.aload_n 0, 1) := by decide +kernel
theorem dX11_wasTold_32 : decode cX11_wasTold 32 = .ok (.getfield 58, 3) := by decide +kernel
theorem dX11_wasTold_35 : decode cX11_wasTold 35 = .ok (.iload 5, 2) := by decide +kernel
theorem dX11_wasTold_37 : decode cX11_wasTold 37 = .ok (.laload, 1) := by decide +kernel
theorem dX11_wasTold_38 : decode cX11_wasTold 38 = .ok (.lload_n 2, 1) := by decide +kernel
theorem dX11_wasTold_39 : decode cX11_wasTold 39 = .ok (.lcmp, 1) := by decide +kernel
theorem dX11_wasTold_40 : decode cX11_wasTold 40 = .ok (.ifCond .ne 7, 3) := by decide +kernel
theorem dX11_wasTold_43 : decode cX11_wasTold 43 = .ok (.iconst 1, 1) := by decide +kernel
theorem dX11_wasTold_44 : decode cX11_wasTold 44 = .ok (.goto 4, 3) := by decide +kernel
theorem dX11_wasTold_47 : decode cX11_wasTold 47 = .ok (.iconst 0, 1) := by decide +kernel
theorem dX11_wasTold_48 : decode cX11_wasTold 48 = .ok (.istore 4, 2) := by decide +kernel
theorem dX11_wasTold_50 : decode cX11_wasTold 50 = .ok (.iinc 5 1, 3) := by decide +kernel
theorem dX11_wasTold_53 : decode cX11_wasTold 53 = .ok (.goto (-47), 3) := by decide +kernel
theorem dX11_wasTold_56 : decode cX11_wasTold 56 = .ok (.iload 4, 2) := by decide +kernel
theorem dX11_wasTold_58 : decode cX11_wasTold 58 = .ok (.ireturn, 1) := by decide +kernel
theorem dX11_rankOf_0 : decode cX11_rankOf 0 = .ok (.aload_n 0, 1) := by decide +kernel
theorem dX11_rankOf_1 : decode cX11_rankOf 1 = .ok (.iload_n 1, 1) := by decide +kernel
theorem dX11_rankOf_2 : decode cX11_rankOf 2 = .ok (.lload_n 2, 1) := by decide +kernel
theorem dX11_rankOf_3 : decode cX11_rankOf 3 = .ok (.invokevirtual 328, 3) := by decide +kernel
theorem dX11_rankOf_6 : decode cX11_rankOf 6 = .ok (.istore 6, 2) := by decide +kernel
theorem dX11_rankOf_8 : decode cX11_rankOf 8 = .ok (.iload 6, 2) := by decide +kernel
theorem dX11_rankOf_10 : decode cX11_rankOf 10 = .ok (.ifCond .ne 12, 3) := by decide +kernel
theorem dX11_rankOf_13 : decode cX11_rankOf 13 = .ok (.aload_n 0, 1) := by decide +kernel
theorem dX11_rankOf_14 : decode cX11_rankOf 14 = .ok (.iload_n 1, 1) := by decide +kernel
theorem dX11_rankOf_15 : decode cX11_rankOf 15 = .ok (.lload_n 2, 1) := by decide +kernel
theorem dX11_rankOf_16 : decode cX11_rankOf 16 = .ok (.invokevirtual 332, 3) := by decide +kernel
theorem dX11_rankOf_19 : decode cX11_rankOf 19 = .ok (.ifCond .eq 33, 3) := by decide +kernel
theorem dX11_rankOf_22 : decode cX11_rankOf 22 = .ok (.iload 6, 2) := by decide +kernel
theorem dX11_rankOf_24 : decode cX11_rankOf 24 = .ok (.ifCond .eq 7, 3) := by decide +kernel
theorem dX11_rankOf_27 : decode cX11_rankOf 27 = .ok (.iconst 0, 1) := by decide +kernel
theorem dX11_rankOf_28 : decode cX11_rankOf 28 = .ok (.goto 6, 3) := by decide +kernel
theorem dX11_rankOf_31 : decode cX11_rankOf 31 = .ok (.ldc_w 335, 3) := by decide +kernel
theorem dX11_rankOf_34 : decode cX11_rankOf 34 = .ok (.bipush 100, 2) := by decide +kernel
theorem dX11_rankOf_36 : decode cX11_rankOf 36 = .ok (.aload_n 0, 1) := by decide +kernel
theorem dX11_rankOf_37 : decode cX11_rankOf 37 = .ok (.iload_n 1, 1) := by decide +kernel
theorem dX11_rankOf_38 : decode cX11_rankOf 38 = .ok (.iload 4, 2) := by decide +kernel
theorem dX11_rankOf_40 : decode cX11_rankOf 40 = .ok (.iload 5, 2) := by decide +kernel
theorem dX11_rankOf_42 : decode cX11_rankOf 42 = .ok (.invokevirtual 315, 3) := by decide +kernel
theorem dX11_rankOf_45 : decode cX11_rankOf 45 = .ok (.imul, 1) := by decide +kernel
theorem dX11_rankOf_46 : decode cX11_rankOf 46 = .ok (.iadd, 1) := by decide +kernel
theorem dX11_rankOf_47 : decode cX11_rankOf 47 = .ok (.iload_n 1, 1) := by decide +kernel
theorem dX11_rankOf_48 : decode cX11_rankOf 48 = .ok (.iadd, 1) := by decide +kernel
theorem dX11_rankOf_49 : decode cX11_rankOf 49 = .ok (.goto 4, 3) := by decide +kernel
theorem dX11_rankOf_52 : decode cX11_rankOf 52 = .ok (.iconst (-1), 1) := by decide +kernel
theorem dX11_rankOf_53 : decode cX11_rankOf 53 = .ok (.ireturn, 1) := by decide +kernel
theorem dX11_find_0 : decode cX11_find 0 = .ok (.aload_n 0, 1) := by decide +kernel
theorem dX11_find_1 : decode cX11_find 1 = .ok (.iload 5, 2) := by decide +kernel
theorem dX11_find_3 : decode cX11_find 3 = .ok (.ifCond .ge 7, 3) := by decide +kernel
theorem dX11_find_6 : decode cX11_find 6 = .ok (.iconst 1, 1) := by decide +kernel
theorem dX11_find_7 : decode cX11_find 7 = .ok (.goto 26, 3) := by decide +kernel
theorem dX11_find_10 : decode cX11_find 10 = .ok (.lload_n 1, 1) := by decide +kernel
theorem dX11_find_11 : decode cX11_find 11 = .ok (.bipush 12, 2) := by decide +kernel
theorem dX11_find_13 : decode cX11_find 13 = .ok (.invokestatic 267, 3) := by decide +kernel
theorem dX11_find_16 : decode cX11_find 16 = .ok (.ifCond .eq 12, 3) := by decide +kernel
theorem dX11_find_19 : decode cX11_find 19 = .ok (.iload_n 3, 1) := by decide +kernel
theorem dX11_find_20 : decode cX11_find 20 = .ok (.iload 4, 2) := by decide +kernel
theorem dX11_find_22 : decode cX11_find 22 = .ok (.invokestatic 230, 3) := by decide +kernel
theorem dX11_find_25 : decode cX11_find 25 = .ok (.ifCond .ne 7, 3) := by decide +kernel
theorem dX11_find_28 : decode cX11_find 28 = .ok (.iconst 2, 1) := by decide +kernel
theorem dX11_find_29 : decode cX11_find 29 = .ok (.goto 4, 3) := by decide +kernel
theorem dX11_find_32 : decode cX11_find 32 = .ok (.iconst 0, 1) := by decide +kernel
theorem dX11_find_33 : decode cX11_find 33 = .ok (.invokevirtual 234, 3) := by decide +kernel
theorem dX11_find_36 : decode cX11_find 36 = .ok (.ifCond .ne 5, 3) := by decide +kernel
theorem dX11_find_39 : decode cX11_find 39 = .ok (.iconst 0, 1) := by decide +kernel
theorem dX11_find_40 : decode cX11_find 40 = .ok (.ireturn, 1) := by decide +kernel
theorem dX11_find_41 : decode cX11_find 41 = .ok (.iconst (-1), 1) := by decide +kernel
theorem dX11_find_42 : decode cX11_find 42 = .ok (.istore 6, 2) := by decide +kernel
theorem dX11_find_44 : decode cX11_find 44 = .ok (.iconst 0, 1) := by decide +kernel
theorem dX11_find_45 : decode cX11_find 45 = .ok (.istore 7, 2) := by decide +kernel
theorem dX11_find_47 : decode cX11_find 47 = .ok (.iload 7, 2) := by decide +kernel
theorem dX11_find_49 : decode cX11_find 49 = .ok (.iload 5, 2) := by decide +kernel
theorem dX11_find_51 : decode cX11_find 51 = .ok (.if_icmp .gt 83, 3) := by decide +kernel
theorem dX11_find_54 : decode cX11_find 54 = .ok (.iconst (-1), 1) := by decide +kernel
theorem dX11_find_55 : decode cX11_find 55 = .ok (.istore 8, 2) := by decide +kernel
theorem dX11_find_57 : decode cX11_find 57 = .ok (.iconst 0, 1) := by decide +kernel
theorem dX11_find_58 : decode cX11_find 58 = .ok (.istore 9, 2) := by decide +kernel
theorem dX11_find_60 : decode cX11_find 60 = .ok (.iload 9, 2) := by decide +kernel
theorem dX11_find_62 : decode cX11_find 62 = .ok (.aload_n 0, 1) := by decide +kernel
theorem dX11_find_63 : decode cX11_find 63 = .ok (.getfield 186, 3) := by decide +kernel
theorem dX11_find_66 : decode cX11_find 66 = .ok (.if_icmp .ge 50, 3) := by decide +kernel
theorem dX11_find_69 : decode cX11_find 69 = .ok (.aload_n 0, 1) := by decide +kernel
theorem dX11_find_70 : decode cX11_find 70 = .ok (.iload 9, 2) := by decide +kernel
theorem dX11_find_72 : decode cX11_find 72 = .ok (.lload_n 1, 1) := by decide +kernel
theorem dX11_find_73 : decode cX11_find 73 = .ok (.iload_n 3, 1) := by decide +kernel
theorem dX11_find_74 : decode cX11_find 74 = .ok (.iload 4, 2) := by decide +kernel
theorem dX11_find_76 : decode cX11_find 76 = .ok (.invokevirtual 336, 3) := by decide +kernel
theorem dX11_find_79 : decode cX11_find 79 = .ok (.istore 10, 2) := by decide +kernel
theorem dX11_find_81 : decode cX11_find 81 = .ok (.iload 10, 2) := by decide +kernel
theorem dX11_find_83 : decode cX11_find 83 = .ok (.iload 6, 2) := by decide +kernel
theorem dX11_find_85 : decode cX11_find 85 = .ok (.if_icmp .le 21, 3) := by decide +kernel
theorem dX11_find_88 : decode cX11_find 88 = .ok (.iload 8, 2) := by decide +kernel
theorem dX11_find_90 : decode cX11_find 90 = .ok (.iconst (-1), 1) := by decide +kernel
theorem dX11_find_91 : decode cX11_find 91 = .ok (.if_icmp .eq 10, 3) := by decide +kernel
theorem dX11_find_94 : decode cX11_find 94 = .ok (.iload 10, 2) := by decide +kernel
theorem dX11_find_96 : decode cX11_find 96 = .ok (.iload 8, 2) := by decide +kernel
theorem dX11_find_98 : decode cX11_find 98 = .ok (.if_icmp .ge 8, 3) := by decide +kernel
theorem dX11_find_101 : decode cX11_find 101 = .ok (.iload 10, 2) := by decide +kernel
theorem dX11_find_103 : decode cX11_find 103 = .ok (.goto 5, 3) := by decide +kernel
theorem dX11_find_106 : decode cX11_find 106 = .ok (.iload 8, 2) := by decide +kernel
theorem dX11_find_108 : decode cX11_find 108 = .ok (.istore 8, 2) := by decide +kernel
theorem dX11_find_110 : decode cX11_find 110 = .ok (.iinc 9 1, 3) := by decide +kernel
theorem dX11_find_113 : decode cX11_find 113 = .ok (.goto (-53), 3) := by decide +kernel
theorem dX11_find_116 : decode cX11_find 116 = .ok (.iload 8, 2) := by decide +kernel
theorem dX11_find_118 : decode cX11_find 118 = .ok (.iconst (-1), 1) := by decide +kernel
theorem dX11_find_119 : decode cX11_find 119 = .ok (.if_icmp .ne 5, 3) := by decide +kernel
theorem dX11_find_122 : decode cX11_find 122 = .ok (.iconst (-1), 1) := by decide +kernel
theorem dX11_find_123 : decode cX11_find 123 = .ok (.ireturn, 1) := by decide +kernel
theorem dX11_find_124 : decode cX11_find 124 = .ok (.iload 8, 2) := by decide +kernel
theorem dX11_find_126 : decode cX11_find 126 = .ok (.istore 6, 2) := by decide +kernel
theorem dX11_find_128 : decode cX11_find 128 = .ok (.iinc 7 1, 3) := by decide +kernel
theorem dX11_find_131 : decode cX11_find 131 = .ok (.goto (-84), 3) := by decide +kernel
theorem dX11_find_134 : decode cX11_find 134 = .ok (.iload 6, 2) := by decide +kernel
theorem dX11_find_136 : decode cX11_find 136 = .ok (.bipush 100, 2) := by decide +kernel
theorem dX11_find_138 : decode cX11_find 138 = .ok (.irem, 1) := by decide +kernel
theorem dX11_find_139 : decode cX11_find 139 = .ok (.ireturn, 1) := by decide +kernel
theorem dX11_isSubscriber_0 : decode cX11_isSubscriber 0 = .ok (.iload_n 0, 1) := by decide +kernel
theorem dX11_isSubscriber_1 : decode cX11_isSubscriber 1 = .ok (.iconst 0, 1) := by decide +kernel
theorem dX11_isSubscriber_2 : decode cX11_isSubscriber 2 = .ok (.iconst 3, 1) := by decide +kernel
theorem dX11_isSubscriber_3 : decode cX11_isSubscriber 3 = .ok (.invokestatic 189, 3) := by decide +kernel
theorem dX11_isSubscriber_6 : decode cX11_isSubscriber 6 = .ok (.ireturn, 1) := by decide +kernel
theorem dX11_pull_0 : decode cX11_pull 0 = .ok (.aload_n 0, 1) := by decide +kernel
theorem dX11_pull_1 : decode cX11_pull 1 = .ok (.iload_n 1, 1) := by decide +kernel
theorem dX11_pull_2 : decode cX11_pull 2 = .ok (.invokestatic 340, 3) := by decide +kernel
theorem dX11_pull_5 : decode cX11_pull 5 = .ok (.ifCond .eq 7, 3) := by decide +kernel
theorem dX11_pull_8 : decode cX11_pull 8 = .ok (.iconst 0, 1) := by decide +kernel
theorem dX11_pull_9 : decode cX11_pull 9 = .ok (.goto 4, 3) := by decide +kernel
theorem dX11_pull_12 : decode cX11_pull 12 = .ok (.iconst 1, 1) := by decide +kernel
theorem dX11_pull_13 : decode cX11_pull 13 = .ok (.invokevirtual 234, 3) := by decide +kernel
theorem dX11_pull_16 : decode cX11_pull 16 = .ok (.ifCond .ne 5, 3) := by decide +kernel
theorem dX11_pull_19 : decode cX11_pull 19 = .ok (.iconst 0, 1) := by decide +kernel
theorem dX11_pull_20 : decode cX11_pull 20 = .ok (.ireturn, 1) := by decide +kernel
theorem dX11_pull_21 : decode cX11_pull 21 = .ok (.aload_n 0, 1) := by decide +kernel
theorem dX11_pull_22 : decode cX11_pull 22 = .ok (.getfield 238, 3) := by decide +kernel
theorem dX11_pull_25 : decode cX11_pull 25 = .ok (.aload_n 0, 1) := by decide +kernel
theorem dX11_pull_26 : decode cX11_pull 26 = .ok (.getfield 152, 3) := by decide +kernel
theorem dX11_pull_29 : decode cX11_pull 29 = .ok (.iload_n 1, 1) := by decide +kernel
theorem dX11_pull_30 : decode cX11_pull 30 = .ok (.iaload, 1) := by decide +kernel
theorem dX11_pull_31 : decode cX11_pull 31 = .ok (.isub, 1) := by decide +kernel
theorem dX11_pull_32 : decode cX11_pull 32 = .ok (.istore_n 2, 1) := by decide +kernel
theorem dX11_pull_33 : decode cX11_pull 33 = .ok (.aload_n 0, 1) := by decide +kernel
theorem dX11_pull_34 : decode cX11_pull 34 = .ok (.getfield 152, 3) := by decide +kernel
theorem dX11_pull_37 : decode cX11_pull 37 = .ok (.iload_n 1, 1) := by decide +kernel
theorem dX11_pull_38 : decode cX11_pull 38 = .ok (.aload_n 0, 1) := by decide +kernel
theorem dX11_pull_39 : decode cX11_pull 39 = .ok (.getfield 238, 3) := by decide +kernel
theorem dX11_pull_42 : decode cX11_pull 42 = .ok (.iastore, 1) := by decide +kernel
theorem dX11_pull_43 : decode cX11_pull 43 = .ok (.iload_n 2, 1) := by decide +kernel
theorem dX11_pull_44 : decode cX11_pull 44 = .ok (.ireturn, 1) := by decide +kernel
theorem dX11_copy_0 : decode cX11_copy 0 = .ok (.iload_n 1, 1) := by decide +kernel
theorem dX11_copy_1 : decode cX11_copy 1 = .ok (.invokestatic 340, 3) := by decide +kernel
theorem dX11_copy_4 : decode cX11_copy 4 = .ok (.ifCond .eq 22, 3) := by decide +kernel
theorem dX11_copy_7 : decode cX11_copy 7 = .ok (.aload_n 0, 1) := by decide +kernel
theorem dX11_copy_8 : decode cX11_copy 8 = .ok (.iload_n 2, 1) := by decide +kernel
theorem dX11_copy_9 : decode cX11_copy 9 = .ok (.invokevirtual 245, 3) := by decide +kernel
theorem dX11_copy_12 : decode cX11_copy 12 = .ok (.ifCond .eq 14, 3) := by decide +kernel
theorem dX11_copy_15 : decode cX11_copy 15 = .ok (.iload_n 3, 1) := by decide +kernel
theorem dX11_copy_16 : decode cX11_copy 16 = .ok (.invokestatic 264, 3) := by decide +kernel
theorem dX11_copy_19 : decode cX11_copy 19 = .ok (.ifCond .eq 7, 3) := by decide +kernel
theorem dX11_copy_22 : decode cX11_copy 22 = .ok (.iconst 1, 1) := by decide +kernel
theorem dX11_copy_23 : decode cX11_copy 23 = .ok (.goto 4, 3) := by decide +kernel
theorem dX11_copy_26 : decode cX11_copy 26 = .ok (.iconst 0, 1) := by decide +kernel
theorem dX11_copy_27 : decode cX11_copy 27 = .ok (.istore 4, 2) := by decide +kernel
theorem dX11_copy_29 : decode cX11_copy 29 = .ok (.aload_n 0, 1) := by decide +kernel
theorem dX11_copy_30 : decode cX11_copy 30 = .ok (.iload 4, 2) := by decide +kernel
