theorem dX0_init_0 : decode cX0_init 0 = .ok (.aload_n 0, 1) := by decide +kernel
theorem dX0_init_1 : decode cX0_init 1 = .ok (.invokespecial 3, 3) := by decide +kernel
theorem dX0_init_4 : decode cX0_init 4 = .ok (.aload_n 0, 1) := by decide +kernel
theorem dX0_init_5 : decode cX0_init 5 = .ok (.iconst 4, 1) := by decide +kernel
theorem dX0_init_6 : decode cX0_init 6 = .ok (.newarray .int, 2) := by decide +kernel
theorem dX0_init_8 : decode cX0_init 8 = .ok (.putfield 9, 3) := by decide +kernel
theorem dX0_init_11 : decode cX0_init 11 = .ok (.aload_n 0, 1) := by decide +kernel
theorem dX0_init_12 : decode cX0_init 12 = .ok (.bipush 16, 2) := by decide +kernel
theorem dX0_init_14 : decode cX0_init 14 = .ok (.newarray .int, 2) := by decide +kernel
theorem dX0_init_16 : decode cX0_init 16 = .ok (.putfield 15, 3) := by decide +kernel
theorem dX0_init_19 : decode cX0_init 19 = .ok (.aload_n 0, 1) := by decide +kernel
theorem dX0_init_20 : decode cX0_init 20 = .ok (.bipush 16, 2) := by decide +kernel
theorem dX0_init_22 : decode cX0_init 22 = .ok (.newarray .int, 2) := by decide +kernel
theorem dX0_init_24 : decode cX0_init 24 = .ok (.putfield 18, 3) := by decide +kernel
theorem dX0_init_27 : decode cX0_init 27 = .ok (.return_, 1) := by decide +kernel
theorem dX0_begin_0 : decode cX0_begin 0 = .ok (.iconst 0, 1) := by decide +kernel
theorem dX0_begin_1 : decode cX0_begin 1 = .ok (.istore_n 1, 1) := by decide +kernel
theorem dX0_begin_2 : decode cX0_begin 2 = .ok (.iload_n 1, 1) := by decide +kernel
theorem dX0_begin_3 : decode cX0_begin 3 = .ok (.bipush 16, 2) := by decide +kernel
theorem dX0_begin_5 : decode cX0_begin 5 = .ok (.if_icmp .ge 39, 3) := by decide +kernel
theorem dX0_begin_8 : decode cX0_begin 8 = .ok (.aload_n 0, 1) := by decide +kernel
theorem dX0_begin_9 : decode cX0_begin 9 = .ok (.getfield 15, 3) := by decide +kernel
theorem dX0_begin_12 : decode cX0_begin 12 = .ok (.iload_n 1, 1) := by decide +kernel
theorem dX0_begin_13 : decode cX0_begin 13 = .ok (.iload_n 1, 1) := by decide +kernel
theorem dX0_begin_14 : decode cX0_begin 14 = .ok (.ifCond .ne 7, 3) := by decide +kernel
theorem dX0_begin_17 : decode cX0_begin 17 = .ok (.iconst 1, 1) := by decide +kernel
theorem dX0_begin_18 : decode cX0_begin 18 = .ok (.goto 4, 3) := by decide +kernel
theorem dX0_begin_21 : decode cX0_begin 21 = .ok (.iconst 0, 1) := by decide +kernel
theorem dX0_begin_22 : decode cX0_begin 22 = .ok (.iastore, 1) := by decide +kernel
theorem dX0_begin_23 : decode cX0_begin 23 = .ok (.aload_n 0, 1) := by decide +kernel
theorem dX0_begin_24 : decode cX0_begin 24 = .ok (.getfield 18, 3) := by decide +kernel
theorem dX0_begin_27 : decode cX0_begin 27 = .ok (.iload_n 1, 1) := by decide +kernel
theorem dX0_begin_28 : decode cX0_begin 28 = .ok (.iload_n 1, 1) := by decide +kernel
theorem dX0_begin_29 : decode cX0_begin 29 = .ok (.ifCond .ne 7, 3) := by decide +kernel
theorem dX0_begin_32 : decode cX0_begin 32 = .ok (.iconst 0, 1) := by decide +kernel
theorem dX0_begin_33 : decode cX0_begin 33 = .ok (.goto 4, 3) := by decide +kernel
theorem dX0_begin_36 : decode cX0_begin 36 = .ok (.iconst (-1), 1) := by decide +kernel
theorem dX0_begin_37 : decode cX0_begin 37 = .ok (.iastore, 1) := by decide +kernel
theorem dX0_begin_38 : decode cX0_begin 38 = .ok (.iinc 1 1, 3) := by decide +kernel
theorem dX0_begin_41 : decode cX0_begin 41 = .ok (.goto (-39), 3) := by decide +kernel
theorem dX0_begin_44 : decode cX0_begin 44 = .ok (.return_, 1) := by decide +kernel
theorem dX0_setCost_0 : decode cX0_setCost 0 = .ok (.iload_n 1, 1) := by decide +kernel
theorem dX0_setCost_1 : decode cX0_setCost 1 = .ok (.ifCond .lt 19, 3) := by decide +kernel
theorem dX0_setCost_4 : decode cX0_setCost 4 = .ok (.iload_n 1, 1) := by decide +kernel
theorem dX0_setCost_5 : decode cX0_setCost 5 = .ok (.aload_n 0, 1) := by decide +kernel
theorem dX0_setCost_6 : decode cX0_setCost 6 = .ok (.getfield 9, 3) := by decide +kernel
theorem dX0_setCost_9 : decode cX0_setCost 9 = .ok (.arraylength, 1) := by decide +kernel
theorem dX0_setCost_10 : decode cX0_setCost 10 = .ok (.if_icmp .ge 10, 3) := by decide +kernel
theorem dX0_setCost_13 : decode cX0_setCost 13 = .ok (.aload_n 0, 1) := by decide +kernel
theorem dX0_setCost_14 : decode cX0_setCost 14 = .ok (.getfield 9, 3) := by decide +kernel
theorem dX0_setCost_17 : decode cX0_setCost 17 = .ok (.iload_n 1, 1) := by decide +kernel
theorem dX0_setCost_18 : decode cX0_setCost 18 = .ok (.iload_n 2, 1) := by decide +kernel
theorem dX0_setCost_19 : decode cX0_setCost 19 = .ok (.iastore, 1) := by decide +kernel
theorem dX0_setCost_20 : decode cX0_setCost 20 = .ok (.return_, 1) := by decide +kernel
theorem dX0_addFeature_0 : decode cX0_addFeature 0 = .ok (.bipush 15, 2) := by decide +kernel
theorem dX0_addFeature_2 : decode cX0_addFeature 2 = .ok (.istore_n 1, 1) := by decide +kernel
theorem dX0_addFeature_3 : decode cX0_addFeature 3 = .ok (.iload_n 1, 1) := by decide +kernel
theorem dX0_addFeature_4 : decode cX0_addFeature 4 = .ok (.ifCond .lt 75, 3) := by decide +kernel
theorem dX0_addFeature_7 : decode cX0_addFeature 7 = .ok (.iconst 0, 1) := by decide +kernel
theorem dX0_addFeature_8 : decode cX0_addFeature 8 = .ok (.istore_n 2, 1) := by decide +kernel
theorem dX0_addFeature_9 : decode cX0_addFeature 9 = .ok (.iload_n 2, 1) := by decide +kernel
theorem dX0_addFeature_10 : decode cX0_addFeature 10 = .ok (.iconst 4, 1) := by decide +kernel
theorem dX0_addFeature_11 : decode cX0_addFeature 11 = .ok (.if_icmp .ge 62, 3) := by decide +kernel
theorem dX0_addFeature_14 : decode cX0_addFeature 14 = .ok (.iload_n 1, 1) := by decide +kernel
theorem dX0_addFeature_15 : decode cX0_addFeature 15 = .ok (.iconst 1, 1) := by decide +kernel
theorem dX0_addFeature_16 : decode cX0_addFeature 16 = .ok (.iload_n 2, 1) := by decide +kernel
theorem dX0_addFeature_17 : decode cX0_addFeature 17 = .ok (.ishl, 1) := by decide +kernel
theorem dX0_addFeature_18 : decode cX0_addFeature 18 = .ok (.iand, 1) := by decide +kernel
theorem dX0_addFeature_19 : decode cX0_addFeature 19 = .ok (.ifCond .ne 7, 3) := by decide +kernel
theorem dX0_addFeature_22 : decode cX0_addFeature 22 = .ok (.iconst 1, 1) := by decide +kernel
theorem dX0_addFeature_23 : decode cX0_addFeature 23 = .ok (.goto 4, 3) := by decide +kernel
theorem dX0_addFeature_26 : decode cX0_addFeature 26 = .ok (.iconst 0, 1) := by decide +kernel
theorem dX0_addFeature_27 : decode cX0_addFeature 27 = .ok (.istore_n 3, 1) := by decide +kernel
theorem dX0_addFeature_28 : decode cX0_addFeature 28 = .ok (.iload_n 3, 1) := by decide +kernel
theorem dX0_addFeature_29 : decode cX0_addFeature 29 = .ok (.ifCond .eq 38, 3) := by decide +kernel
theorem dX0_addFeature_32 : decode cX0_addFeature 32 = .ok (.aload_n 0, 1) := by decide +kernel
theorem dX0_addFeature_33 : decode cX0_addFeature 33 = .ok (.getfield 9, 3) := by decide +kernel
theorem dX0_addFeature_36 : decode cX0_addFeature 36 = .ok (.iload_n 2, 1) := by decide +kernel
theorem dX0_addFeature_37 : decode cX0_addFeature 37 = .ok (.iaload, 1) := by decide +kernel
theorem dX0_addFeature_38 : decode cX0_addFeature 38 = .ok (.iconst (-1), 1) := by decide +kernel
theorem dX0_addFeature_39 : decode cX0_addFeature 39 = .ok (.if_icmp .eq 28, 3) := by decide +kernel
theorem dX0_addFeature_42 : decode cX0_addFeature 42 = .ok (.aload_n 0, 1) := by decide +kernel
theorem dX0_addFeature_43 : decode cX0_addFeature 43 = .ok (.getfield 15, 3) := by decide +kernel
theorem dX0_addFeature_46 : decode cX0_addFeature 46 = .ok (.iload_n 1, 1) := by decide +kernel
theorem dX0_addFeature_47 : decode cX0_addFeature 47 = .ok (.iaload, 1) := by decide +kernel
theorem dX0_addFeature_48 : decode cX0_addFeature 48 = .ok (.ifCond .le 19, 3) := by decide +kernel
theorem dX0_addFeature_51 : decode cX0_addFeature 51 = .ok (.aload_n 0, 1) := by decide +kernel
theorem dX0_addFeature_52 : decode cX0_addFeature 52 = .ok (.iload_n 1, 1) := by decide +kernel
theorem dX0_addFeature_53 : decode cX0_addFeature 53 = .ok (.iload_n 1, 1) := by decide +kernel
theorem dX0_addFeature_54 : decode cX0_addFeature 54 = .ok (.iconst 1, 1) := by decide +kernel
theorem dX0_addFeature_55 : decode cX0_addFeature 55 = .ok (.iload_n 2, 1) := by decide +kernel
theorem dX0_addFeature_56 : decode cX0_addFeature 56 = .ok (.ishl, 1) := by decide +kernel
theorem dX0_addFeature_57 : decode cX0_addFeature 57 = .ok (.ior, 1) := by decide +kernel
theorem dX0_addFeature_58 : decode cX0_addFeature 58 = .ok (.aload_n 0, 1) := by decide +kernel
theorem dX0_addFeature_59 : decode cX0_addFeature 59 = .ok (.getfield 9, 3) := by decide +kernel
theorem dX0_addFeature_62 : decode cX0_addFeature 62 = .ok (.iload_n 2, 1) := by decide +kernel
theorem dX0_addFeature_63 : decode cX0_addFeature 63 = .ok (.iaload, 1) := by decide +kernel
theorem dX0_addFeature_64 : decode cX0_addFeature 64 = .ok (.invokevirtual 21, 3) := by decide +kernel
theorem dX0_addFeature_67 : decode cX0_addFeature 67 = .ok (.iinc 2 1, 3) := by decide +kernel
theorem dX0_addFeature_70 : decode cX0_addFeature 70 = .ok (.goto (-61), 3) := by decide +kernel
theorem dX0_addFeature_73 : decode cX0_addFeature 73 = .ok (.iinc 1 (-1), 3) := by decide +kernel
theorem dX0_addFeature_76 : decode cX0_addFeature 76 = .ok (.goto (-73), 3) := by decide +kernel
theorem dX0_addFeature_79 : decode cX0_addFeature 79 = .ok (.return_, 1) := by decide +kernel
theorem dX0_extend_0 : decode cX0_extend 0 = .ok (.iload_n 1, 1) := by decide +kernel
theorem dX0_extend_1 : decode cX0_extend 1 = .ok (.ifCond .lt 19, 3) := by decide +kernel
theorem dX0_extend_4 : decode cX0_extend 4 = .ok (.iload_n 1, 1) := by decide +kernel
theorem dX0_extend_5 : decode cX0_extend 5 = .ok (.bipush 16, 2) := by decide +kernel
theorem dX0_extend_7 : decode cX0_extend 7 = .ok (.if_icmp .ge 13, 3) := by decide +kernel
theorem dX0_extend_10 : decode cX0_extend 10 = .ok (.iload_n 2, 1) := by decide +kernel
theorem dX0_extend_11 : decode cX0_extend 11 = .ok (.ifCond .lt 9, 3) := by decide +kernel
theorem dX0_extend_14 : decode cX0_extend 14 = .ok (.iload_n 2, 1) := by decide +kernel
theorem dX0_extend_15 : decode cX0_extend 15 = .ok (.bipush 16, 2) := by decide +kernel
theorem dX0_extend_17 : decode cX0_extend 17 = .ok (.if_icmp .lt 4, 3) := by decide +kernel
theorem dX0_extend_20 : decode cX0_extend 20 = .ok (.return_, 1) := by decide +kernel
theorem dX0_extend_21 : decode cX0_extend 21 = .ok (.aload_n 0, 1) := by decide +kernel
theorem dX0_extend_22 : decode cX0_extend 22 = .ok (.getfield 18, 3) := by decide +kernel
theorem dX0_extend_25 : decode cX0_extend 25 = .ok (.iload_n 1, 1) := by decide +kernel
theorem dX0_extend_26 : decode cX0_extend 26 = .ok (.iaload, 1) := by decide +kernel
theorem dX0_extend_27 : decode cX0_extend 27 = .ok (.iload_n 3, 1) := by decide +kernel
theorem dX0_extend_28 : decode cX0_extend 28 = .ok (.iadd, 1) := by decide +kernel
theorem dX0_extend_29 : decode cX0_extend 29 = .ok (.istore 4, 2) := by decide +kernel
theorem dX0_extend_31 : decode cX0_extend 31 = .ok (.aload_n 0, 1) := by decide +kernel
theorem dX0_extend_32 : decode cX0_extend 32 = .ok (.getfield 15, 3) := by decide +kernel
theorem dX0_extend_35 : decode cX0_extend 35 = .ok (.iload_n 2, 1) := by decide +kernel
theorem dX0_extend_36 : decode cX0_extend 36 = .ok (.dup2, 1) := by decide +kernel
theorem dX0_extend_37 : decode cX0_extend 37 = .ok (.iaload, 1) := by decide +kernel
theorem dX0_extend_38 : decode cX0_extend 38 = .ok (.aload_n 0, 1) := by decide +kernel
theorem dX0_extend_39 : decode cX0_extend 39 = .ok (.getfield 15, 3) := by decide +kernel
theorem dX0_extend_42 : decode cX0_extend 42 = .ok (.iload_n 1, 1) := by decide +kernel
theorem dX0_extend_43 : decode cX0_extend 43 = .ok (.iaload, 1) := by decide +kernel
theorem dX0_extend_44 : decode cX0_extend 44 = .ok (.iadd, 1) := by decide +kernel
theorem dX0_extend_45 : decode cX0_extend 45 = .ok (.iastore, 1) := by decide +kernel
theorem dX0_extend_46 : decode cX0_extend 46 = .ok (.aload_n 0, 1) := by decide +kernel
theorem dX0_extend_47 : decode cX0_extend 47 = .ok (.getfield 18, 3) := by decide +kernel
theorem dX0_extend_50 : decode cX0_extend 50 = .ok (.iload_n 2, 1) := by decide +kernel
theorem dX0_extend_51 : decode cX0_extend 51 = .ok (.iaload, 1) := by decide +kernel
theorem dX0_extend_52 : decode cX0_extend 52 = .ok (.iconst (-1), 1) := by decide +kernel
theorem dX0_extend_53 : decode cX0_extend 53 = .ok (.if_icmp .eq 14, 3) := by decide +kernel
theorem dX0_extend_56 : decode cX0_extend 56 = .ok (.iload 4, 2) := by decide +kernel
theorem dX0_extend_58 : decode cX0_extend 58 = .ok (.aload_n 0, 1) := by decide +kernel
theorem dX0_extend_59 : decode cX0_extend 59 = .ok (.getfield 18, 3) := by decide +kernel
theorem dX0_extend_62 : decode cX0_extend 62 = .ok (.iload_n 2, 1) := by decide +kernel
theorem dX0_extend_63 : decode cX0_extend 63 = .ok (.iaload, 1) := by decide +kernel
theorem dX0_extend_64 : decode cX0_extend 64 = .ok (.if_icmp .ge 11, 3) := by decide +kernel
theorem dX0_extend_67 : decode cX0_extend 67 = .ok (.aload_n 0, 1) := by decide +kernel
theorem dX0_extend_68 : decode cX0_extend 68 = .ok (.getfield 18, 3) := by decide +kernel
theorem dX0_extend_71 : decode cX0_extend 71 = .ok (.iload_n 2, 1) := by decide +kernel
theorem dX0_extend_72 : decode cX0_extend 72 = .ok (.iload 4, 2) := by decide +kernel
theorem dX0_extend_74 : decode cX0_extend 74 = .ok (.iastore, 1) := by decide +kernel
theorem dX0_extend_75 : decode cX0_extend 75 = .ok (.return_, 1) := by decide +kernel
theorem dX0_allOf_0 : decode cX0_allOf 0 = .ok (.iconst 1, 1) := by decide +kernel
theorem dX0_allOf_1 : decode cX0_allOf 1 = .ok (.iload_n 0, 1) := by decide +kernel
theorem dX0_allOf_2 : decode cX0_allOf 2 = .ok (.ishl, 1) := by decide +kernel
theorem dX0_allOf_3 : decode cX0_allOf 3 = .ok (.iconst 1, 1) := by decide +kernel
theorem dX0_allOf_4 : decode cX0_allOf 4 = .ok (.isub, 1) := by decide +kernel
theorem dX0_allOf_5 : decode cX0_allOf 5 = .ok (.ireturn, 1) := by decide +kernel
theorem dX0_leastFor_0 : decode cX0_leastFor 0 = .ok (.iload_n 1, 1) := by decide +kernel
theorem dX0_leastFor_1 : decode cX0_leastFor 1 = .ok (.invokestatic 25, 3) := by decide +kernel
theorem dX0_leastFor_4 : decode cX0_leastFor 4 = .ok (.istore_n 2, 1) := by decide +kernel
theorem dX0_leastFor_5 : decode cX0_leastFor 5 = .ok (.iload_n 2, 1) := by decide +kernel
theorem dX0_leastFor_6 : decode cX0_leastFor 6 = .ok (.ifCond .lt 21, 3) := by decide +kernel
theorem dX0_leastFor_9 : decode cX0_leastFor 9 = .ok (.iload_n 2, 1) := by decide +kernel
theorem dX0_leastFor_10 : decode cX0_leastFor 10 = .ok (.aload_n 0, 1) := by decide +kernel
theorem dX0_leastFor_11 : decode cX0_leastFor 11 = .ok (.getfield 18, 3) := by decide +kernel
theorem dX0_leastFor_14 : decode cX0_leastFor 14 = .ok (.arraylength, 1) := by decide +kernel
theorem dX0_leastFor_15 : decode cX0_leastFor 15 = .ok (.if_icmp .ge 12, 3) := by decide +kernel
theorem dX0_leastFor_18 : decode cX0_leastFor 18 = .ok (.aload_n 0, 1) := by decide +kernel
theorem dX0_leastFor_19 : decode cX0_leastFor 19 = .ok (.getfield 18, 3) := by decide +kernel
theorem dX0_leastFor_22 : decode cX0_leastFor 22 = .ok (.iload_n 2, 1) := by decide +kernel
theorem dX0_leastFor_23 : decode cX0_leastFor 23 = .ok (.iaload, 1) := by decide +kernel
theorem dX0_leastFor_24 : decode cX0_leastFor 24 = .ok (.goto 4, 3) := by decide +kernel
theorem dX0_leastFor_27 : decode cX0_leastFor 27 = .ok (.iconst (-1), 1) := by decide +kernel
theorem dX0_leastFor_28 : decode cX0_leastFor 28 = .ok (.ireturn, 1) := by decide +kernel
theorem dX0_waysFor_0 : decode cX0_waysFor 0 = .ok (.iload_n 1, 1) := by decide +kernel
theorem dX0_waysFor_1 : decode cX0_waysFor 1 = .ok (.invokestatic 25, 3) := by decide +kernel
theorem dX0_waysFor_4 : decode cX0_waysFor 4 = .ok (.istore_n 2, 1) := by decide +kernel
theorem dX0_waysFor_5 : decode cX0_waysFor 5 = .ok (.iload_n 2, 1) := by decide +kernel
theorem dX0_waysFor_6 : decode cX0_waysFor 6 = .ok (.ifCond .lt 21, 3) := by decide +kernel
theorem dX0_waysFor_9 : decode cX0_waysFor 9 = .ok (.iload_n 2, 1) := by decide +kernel
theorem dX0_waysFor_10 : decode cX0_waysFor 10 = .ok (.aload_n 0, 1) := by decide +kernel
theorem dX0_waysFor_11 : decode cX0_waysFor 11 = .ok (.getfield 15, 3) := by decide +kernel
theorem dX0_waysFor_14 : decode cX0_waysFor 14 = .ok (.arraylength, 1) := by decide +kernel
theorem dX0_waysFor_15 : decode cX0_waysFor 15 = .ok (.if_icmp .ge 12, 3) := by decide +kernel
theorem dX0_waysFor_18 : decode cX0_waysFor 18 = .ok (.aload_n 0, 1) := by decide +kernel
theorem dX0_waysFor_19 : decode cX0_waysFor 19 = .ok (.getfield 15, 3) := by decide +kernel
theorem dX0_waysFor_22 : decode cX0_waysFor 22 = .ok (.iload_n 2, 1) := by decide +kernel
theorem dX0_waysFor_23 : decode cX0_waysFor 23 = .ok (.iaload, 1) := by decide +kernel
theorem dX0_waysFor_24 : decode cX0_waysFor 24 = .ok (.goto 4, 3) := by decide +kernel
theorem dX0_waysFor_27 : decode cX0_waysFor 27 = .ok (.iconst 0, 1) := by decide +kernel
theorem dX0_waysFor_28 : decode cX0_waysFor 28 = .ok (.ireturn, 1) := by decide +kernel
theorem dX1_init_0 : decode cX1_init 0 = .ok (.aload_n 0, 1) := by decide +kernel
theorem dX1_init_1 : decode cX1_init 1 = .ok (.invokespecial 1, 3) := by decide +kernel
theorem dX1_init_4 : decode cX1_init 4 = .ok (.aload_n 0, 1) := by decide +kernel
theorem dX1_init_5 : decode cX1_init 5 = .ok (.iload_n 1, 1) := by decide +kernel
theorem dX1_init_6 : decode cX1_init 6 = .ok (.putfield 7, 3) := by decide +kernel
theorem dX1_init_9 : decode cX1_init 9 = .ok (.aload_n 0, 1) := by decide +kernel
theorem dX1_init_10 : decode cX1_init 10 = .ok (.iload_n 2, 1) := by decide +kernel
theorem dX1_init_11 : decode cX1_init 11 = .ok (.putfield 13, 3) := by decide +kernel
theorem dX1_init_14 : decode cX1_init 14 = .ok (.aload_n 0, 1) := by decide +kernel
theorem dX1_init_15 : decode cX1_init 15 = .ok (.iload_n 3, 1) := by decide +kernel
theorem dX1_init_16 : decode cX1_init 16 = .ok (.putfield 16, 3) := by decide +kernel
theorem dX1_init_19 : decode cX1_init 19 = .ok (.return_, 1) := by decide +kernel
theorem dX2_init_0 : decode cX2_init 0 = .ok (.aload_n 0, 1) := by decide +kernel
theorem dX2_init_1 : decode cX2_init 1 = .ok (.invokespecial 1, 3) := by decide +kernel
theorem dX2_init_4 : decode cX2_init 4 = .ok (.aload_n 0, 1) := by decide +kernel
theorem dX2_init_5 : decode cX2_init 5 = .ok (.iload_n 1, 1) := by decide +kernel
theorem dX2_init_6 : decode cX2_init 6 = .ok (.putfield 7, 3) := by decide +kernel
theorem dX2_init_9 : decode cX2_init 9 = .ok (.aload_n 0, 1) := by decide +kernel
theorem dX2_init_10 : decode cX2_init 10 = .ok (.iload_n 2, 1) := by decide +kernel
theorem dX2_init_11 : decode cX2_init 11 = .ok (.putfield 13, 3) := by decide +kernel
theorem dX2_init_14 : decode cX2_init 14 = .ok (.aload_n 0, 1) := by decide +kernel
theorem dX2_init_15 : decode cX2_init 15 = .ok (.iload_n 3, 1) := by decide +kernel
theorem dX2_init_16 : decode cX2_init 16 = .ok (.putfield 16, 3) := by decide +kernel
theorem dX2_init_19 : decode cX2_init 19 = .ok (.return_, 1) := by decide +kernel
theorem dX3_init_0 : decode cX3_init 0 = .ok (.aload_n 0, 1) := by decide +kernel
theorem dX3_init_1 : decode cX3_init 1 = .ok (.invokespecial 3, 3) := by decide +kernel
theorem dX3_init_4 : decode cX3_init 4 = .ok (.aload_n 0, 1) := by decide +kernel
theorem dX3_init_5 : decode cX3_init 5 = .ok (.new 9, 3) := by decide +kernel
theorem dX3_init_8 : decode cX3_init 8 = .ok (.dup, 1) := by decide +kernel
theorem dX3_init_9 : decode cX3_init 9 = .ok (.invokespecial 11, 3) := by decide +kernel
theorem dX3_init_12 : decode cX3_init 12 = .ok (.putfield 12, 3) := by decide +kernel
theorem dX3_init_15 : decode cX3_init 15 = .ok (.aload_n 0, 1) := by decide +kernel
theorem dX3_init_16 : decode cX3_init 16 = .ok (.new 9, 3) := by decide +kernel
theorem dX3_init_19 : decode cX3_init 19 = .ok (.dup, 1) := by decide +kernel
theorem dX3_init_20 : decode cX3_init 20 = .ok (.invokespecial 11, 3) := by decide +kernel
theorem dX3_init_23 : decode cX3_init 23 = .ok (.putfield 18, 3) := by decide +kernel
theorem dX3_init_26 : decode cX3_init 26 = .ok (.aload_n 0, 1) := by decide +kernel
theorem dX3_init_27 : decode cX3_init 27 = .ok (.new 21, 3) := by decide +kernel
theorem dX3_init_30 : decode cX3_init 30 = .ok (.dup, 1) := by decide +kernel
theorem dX3_init_31 : decode cX3_init 31 = .ok (.invokespecial 23, 3) := by decide +kernel
theorem dX3_init_34 : decode cX3_init 34 = .ok (.putfield 24, 3) := by decide +kernel
theorem dX3_init_37 : decode cX3_init 37 = .ok (.aload_n 0, 1) := by decide +kernel
theorem dX3_init_38 : decode cX3_init 38 = .ok (.new 21, 3) := by decide +kernel
theorem dX3_init_41 : decode cX3_init 41 = .ok (.dup, 1) := by decide +kernel
theorem dX3_init_42 : decode cX3_init 42 = .ok (.invokespecial 23, 3) := by decide +kernel
theorem dX3_init_45 : decode cX3_init 45 = .ok (.putfield 28, 3) := by decide +kernel
theorem dX3_init_48 : decode cX3_init 48 = .ok (.aload_n 0, 1) := by decide +kernel
theorem dX3_init_49 : decode cX3_init 49 = .ok (.iconst 4, 1) := by decide +kernel
theorem dX3_init_50 : decode cX3_init 50 = .ok (.newarray .int, 2) := by decide +kernel
theorem dX3_init_52 : decode cX3_init 52 = .ok (.putfield 31, 3) := by decide +kernel
theorem dX3_init_55 : decode cX3_init 55 = .ok (.aload_n 0, 1) := by decide +kernel
theorem dX3_init_56 : decode cX3_init 56 = .ok (.iconst (-1), 1) := by decide +kernel
theorem dX3_init_57 : decode cX3_init 57 = .ok (.putfield 35, 3) := by decide +kernel
theorem dX3_init_60 : decode cX3_init 60 = .ok (.aload_n 0, 1) := by decide +kernel
theorem dX3_init_61 : decode cX3_init 61 = .ok (.iload_n 1, 1) := by decide +kernel
theorem dX3_init_62 : decode cX3_init 62 = .ok (.putfield 39, 3) := by decide +kernel
theorem dX3_init_65 : decode cX3_init 65 = .ok (.aload_n 0, 1) := by decide +kernel
theorem dX3_init_66 : decode cX3_init 66 = .ok (.iload_n 2, 1) := by decide +kernel
theorem dX3_init_67 : decode cX3_init 67 = .ok (.putfield 42, 3) := by decide +kernel
theorem dX3_init_70 : decode cX3_init 70 = .ok (.return_, 1) := by decide +kernel
theorem dX3_hasEnded_0 : decode cX3_hasEnded 0 = .ok (.aload_n 0, 1) := by decide +kernel
theorem dX3_hasEnded_1 : decode cX3_hasEnded 1 = .ok (.getfield 45, 3) := by decide +kernel
theorem dX3_hasEnded_4 : decode cX3_hasEnded 4 = .ok (.ifCond .eq 23, 3) := by decide +kernel
theorem dX3_hasEnded_7 : decode cX3_hasEnded 7 = .ok (.aload_n 0, 1) := by decide +kernel
theorem dX3_hasEnded_8 : decode cX3_hasEnded 8 = .ok (.getfield 49, 3) := by decide +kernel
theorem dX3_hasEnded_11 : decode cX3_hasEnded 11 = .ok (.iload_n 2, 1) := by decide +kernel
theorem dX3_hasEnded_12 : decode cX3_hasEnded 12 = .ok (.if_icmp .gt 15, 3) := by decide +kernel
theorem dX3_hasEnded_15 : decode cX3_hasEnded 15 = .ok (.aload_n 0, 1) := by decide +kernel
theorem dX3_hasEnded_16 : decode cX3_hasEnded 16 = .ok (.getfield 52, 3) := by decide +kernel
theorem dX3_hasEnded_19 : decode cX3_hasEnded 19 = .ok (.iload_n 1, 1) := by decide +kernel
theorem dX3_hasEnded_20 : decode cX3_hasEnded 20 = .ok (.if_icmp .gt 7, 3) := by decide +kernel
theorem dX3_hasEnded_23 : decode cX3_hasEnded 23 = .ok (.iconst 1, 1) := by decide +kernel
theorem dX3_hasEnded_24 : decode cX3_hasEnded 24 = .ok (.goto 4, 3) := by decide +kernel
theorem dX3_hasEnded_27 : decode cX3_hasEnded 27 = .ok (.iconst 0, 1) := by decide +kernel
theorem dX3_hasEnded_28 : decode cX3_hasEnded 28 = .ok (.ireturn, 1) := by decide +kernel
theorem dX3_isThere_0 : decode cX3_isThere 0 = .ok (.aload_n 0, 1) := by decide +kernel
theorem dX3_isThere_1 : decode cX3_isThere 1 = .ok (.getfield 42, 3) := by decide +kernel
theorem dX3_isThere_4 : decode cX3_isThere 4 = .ok (.iload_n 1, 1) := by decide +kernel
theorem dX3_isThere_5 : decode cX3_isThere 5 = .ok (.if_icmp .gt 24, 3) := by decide +kernel
theorem dX3_isThere_8 : decode cX3_isThere 8 = .ok (.aload_n 0, 1) := by decide +kernel
theorem dX3_isThere_9 : decode cX3_isThere 9 = .ok (.getfield 42, 3) := by decide +kernel
theorem dX3_isThere_12 : decode cX3_isThere 12 = .ok (.iload_n 2, 1) := by decide +kernel
theorem dX3_isThere_13 : decode cX3_isThere 13 = .ok (.if_icmp .gt 16, 3) := by decide +kernel
theorem dX3_isThere_16 : decode cX3_isThere 16 = .ok (.aload_n 0, 1) := by decide +kernel
theorem dX3_isThere_17 : decode cX3_isThere 17 = .ok (.iload_n 1, 1) := by decide +kernel
theorem dX3_isThere_18 : decode cX3_isThere 18 = .ok (.iload_n 2, 1) := by decide +kernel
theorem dX3_isThere_19 : decode cX3_isThere 19 = .ok (.invokevirtual 55, 3) := by decide +kernel
theorem dX3_isThere_22 : decode cX3_isThere 22 = .ok (.ifCond .ne 7, 3) := by decide +kernel
theorem dX3_isThere_25 : decode cX3_isThere 25 = .ok (.iconst 1, 1) := by decide +kernel
theorem dX3_isThere_26 : decode cX3_isThere 26 = .ok (.goto 4, 3) := by decide +kernel
theorem dX3_isThere_29 : decode cX3_isThere 29 = .ok (.iconst 0, 1) := by decide +kernel
theorem dX3_isThere_30 : decode cX3_isThere 30 = .ok (.ireturn, 1) := by decide +kernel
theorem dX3_nameOn_0 : decode cX3_nameOn 0 = .ok (.aconst_null, 1) := by decide +kernel
theorem dX3_nameOn_1 : decode cX3_nameOn 1 = .ok (.astore 4, 2) := by decide +kernel
theorem dX3_nameOn_3 : decode cX3_nameOn 3 = .ok (.iconst 0, 1) := by decide +kernel
theorem dX3_nameOn_4 : decode cX3_nameOn 4 = .ok (.istore 5, 2) := by decide +kernel
theorem dX3_nameOn_6 : decode cX3_nameOn 6 = .ok (.iload 5, 2) := by decide +kernel
theorem dX3_nameOn_8 : decode cX3_nameOn 8 = .ok (.aload_n 0, 1) := by decide +kernel
theorem dX3_nameOn_9 : decode cX3_nameOn 9 = .ok (.getfield 24, 3) := by decide +kernel
theorem dX3_nameOn_12 : decode cX3_nameOn 12 = .ok (.invokevirtual 59, 3) := by decide +kernel
theorem dX3_nameOn_15 : decode cX3_nameOn 15 = .ok (.if_icmp .ge 72, 3) := by decide +kernel
theorem dX3_nameOn_18 : decode cX3_nameOn 18 = .ok (.aload_n 0, 1) := by decide +kernel
theorem dX3_nameOn_19 : decode cX3_nameOn 19 = .ok (.getfield 24, 3) := by decide +kernel
theorem dX3_nameOn_22 : decode cX3_nameOn 22 = .ok (.iload 5, 2) := by decide +kernel
theorem dX3_nameOn_24 : decode cX3_nameOn 24 = .ok (.invokevirtual 63, 3) := by decide +kernel
theorem dX3_nameOn_27 : decode cX3_nameOn 27 = .ok (.checkcast 67, 3) := by decide +kernel
theorem dX3_nameOn_30 : decode cX3_nameOn 30 = .ok (.astore 6, 2) := by decide +kernel
theorem dX3_nameOn_32 : decode cX3_nameOn 32 = .ok (.aload 6, 2) := by decide +kernel
theorem dX3_nameOn_34 : decode cX3_nameOn 34 = .ok (.getfield 69, 3) := by decide +kernel
theorem dX3_nameOn_37 : decode cX3_nameOn 37 = .ok (.iload_n 1, 1) := by decide +kernel
theorem dX3_nameOn_38 : decode cX3_nameOn 38 = .ok (.if_icmp .ne 43, 3) := by decide +kernel
theorem dX3_nameOn_41 : decode cX3_nameOn 41 = .ok (.aload 6, 2) := by decide +kernel
theorem dX3_nameOn_43 : decode cX3_nameOn 43 = .ok (.getfield 72, 3) := by decide +kernel
theorem dX3_nameOn_46 : decode cX3_nameOn 46 = .ok (.iload_n 2, 1) := by decide +kernel
theorem dX3_nameOn_47 : decode cX3_nameOn 47 = .ok (.if_icmp .gt 34, 3) := by decide +kernel
theorem dX3_nameOn_50 : decode cX3_nameOn 50 = .ok (.aload 6, 2) := by decide +kernel
theorem dX3_nameOn_52 : decode cX3_nameOn 52 = .ok (.iload_n 3, 1) := by decide +kernel
theorem dX3_nameOn_53 : decode cX3_nameOn 53 = .ok (.invokevirtual 75, 3) := by decide +kernel
theorem dX3_nameOn_56 : decode cX3_nameOn 56 = .ok (.ifCond .eq 25, 3) := by decide +kernel
theorem dX3_nameOn_59 : decode cX3_nameOn 59 = .ok (.aload 4, 2) := by decide +kernel
theorem dX3_nameOn_61 : decode cX3_nameOn 61 = .ok (.ifnull 16, 3) := by decide +kernel
theorem dX3_nameOn_64 : decode cX3_nameOn 64 = .ok (.aload 6, 2) := by decide +kernel
theorem dX3_nameOn_66 : decode cX3_nameOn 66 = .ok (.getfield 72, 3) := by decide +kernel
theorem dX3_nameOn_69 : decode cX3_nameOn 69 = .ok (.aload 4, 2) := by decide +kernel
theorem dX3_nameOn_71 : decode cX3_nameOn 71 = .ok (.getfield 72, 3) := by decide +kernel
theorem dX3_nameOn_74 : decode cX3_nameOn 74 = .ok (.if_icmp .lt 7, 3) := by decide +kernel
theorem dX3_nameOn_77 : decode cX3_nameOn 77 = .ok (.aload 6, 2) := by decide +kernel
theorem dX3_nameOn_79 : decode cX3_nameOn 79 = .ok (.astore 4, 2) := by decide +kernel
theorem dX3_nameOn_81 : decode cX3_nameOn 81 = .ok (.iinc 5 1, 3) := by decide +kernel
theorem dX3_nameOn_84 : decode cX3_nameOn 84 = .ok (.goto (-78), 3) := by decide +kernel
theorem dX3_nameOn_87 : decode cX3_nameOn 87 = .ok (.aload 4, 2) := by decide +kernel
theorem dX3_nameOn_89 : decode cX3_nameOn 89 = .ok (.areturn, 1) := by decide +kernel
theorem dX3_hasEverBeen_0 : decode cX3_hasEverBeen 0 = .ok (.iconst 0, 1) := by decide +kernel
theorem dX3_hasEverBeen_1 : decode cX3_hasEverBeen 1 = .ok (.istore_n 3, 1) := by decide +kernel
theorem dX3_hasEverBeen_2 : decode cX3_hasEverBeen 2 = .ok (.iload_n 3, 1) := by decide +kernel
theorem dX3_hasEverBeen_3 : decode cX3_hasEverBeen 3 = .ok (.aload_n 0, 1) := by decide +kernel
theorem dX3_hasEverBeen_4 : decode cX3_hasEverBeen 4 = .ok (.getfield 24, 3) := by decide +kernel
theorem dX3_hasEverBeen_7 : decode cX3_hasEverBeen 7 = .ok (.invokevirtual 59, 3) := by decide +kernel
theorem dX3_hasEverBeen_10 : decode cX3_hasEverBeen 10 = .ok (.if_icmp .ge 30, 3) := by decide +kernel
theorem dX3_hasEverBeen_13 : decode cX3_hasEverBeen 13 = .ok (.aload_n 0, 1) := by decide +kernel
theorem dX3_hasEverBeen_14 : decode cX3_hasEverBeen 14 = .ok (.getfield 24, 3) := by decide +kernel
theorem dX3_hasEverBeen_17 : decode cX3_hasEverBeen 17 = .ok (.iload_n 3, 1) := by decide +kernel
theorem dX3_hasEverBeen_18 : decode cX3_hasEverBeen 18 = .ok (.invokevirtual 63, 3) := by decide +kernel
theorem dX3_hasEverBeen_21 : decode cX3_hasEverBeen 21 = .ok (.checkcast 67, 3) := by decide +kernel
theorem dX3_hasEverBeen_24 : decode cX3_hasEverBeen 24 = .ok (.getfield 79, 3) := by decide +kernel
theorem dX3_hasEverBeen_27 : decode cX3_hasEverBeen 27 = .ok (.lload_n 1, 1) := by decide +kernel
theorem dX3_hasEverBeen_28 : decode cX3_hasEverBeen 28 = .ok (.lcmp, 1) := by decide +kernel
theorem dX3_hasEverBeen_29 : decode cX3_hasEverBeen 29 = .ok (.ifCond .ne 5, 3) := by decide +kernel
theorem dX3_hasEverBeen_32 : decode cX3_hasEverBeen 32 = .ok (.iconst 1, 1) := by decide +kernel
theorem dX3_hasEverBeen_33 : decode cX3_hasEverBeen 33 = .ok (.ireturn, 1) := by decide +kernel
theorem dX3_hasEverBeen_34 : decode cX3_hasEverBeen 34 = .ok (.iinc 3 1, 3) := by decide +kernel
theorem dX3_hasEverBeen_37 : decode cX3_hasEverBeen 37 = .ok (.goto (-35), 3) := by decide +kernel
theorem dX3_hasEverBeen_40 : decode cX3_hasEverBeen 40 = .ok (.iconst 0, 1) := by decide +kernel
theorem dX3_hasEverBeen_41 : decode cX3_hasEverBeen 41 = .ok (.ireturn, 1) := by decide +kernel
theorem dX3_exemptFrom_0 : decode cX3_exemptFrom 0 = .ok (.sipush 10000, 3) := by decide +kernel
theorem dX3_exemptFrom_3 : decode cX3_exemptFrom 3 = .ok (.istore_n 3, 1) := by decide +kernel
theorem dX3_exemptFrom_4 : decode cX3_exemptFrom 4 = .ok (.iconst 0, 1) := by decide +kernel
theorem dX3_exemptFrom_5 : decode cX3_exemptFrom 5 = .ok (.istore 4, 2) := by decide +kernel
theorem dX3_exemptFrom_7 : decode cX3_exemptFrom 7 = .ok (.iload 4, 2) := by decide +kernel
theorem dX3_exemptFrom_9 : decode cX3_exemptFrom 9 = .ok (.aload_n 0, 1) := by decide +kernel
theorem dX3_exemptFrom_10 : decode cX3_exemptFrom 10 = .ok (.getfield 28, 3) := by decide +kernel
theorem dX3_exemptFrom_13 : decode cX3_exemptFrom 13 = .ok (.invokevirtual 59, 3) := by decide +kernel
theorem dX3_exemptFrom_16 : decode cX3_exemptFrom 16 = .ok (.if_icmp .ge 51, 3) := by decide +kernel
theorem dX3_exemptFrom_19 : decode cX3_exemptFrom 19 = .ok (.aload_n 0, 1) := by decide +kernel
theorem dX3_exemptFrom_20 : decode cX3_exemptFrom 20 = .ok (.getfield 28, 3) := by decide +kernel
theorem dX3_exemptFrom_23 : decode cX3_exemptFrom 23 = .ok (.iload 4, 2) := by decide +kernel
theorem dX3_exemptFrom_25 : decode cX3_exemptFrom 25 = .ok (.invokevirtual 63, 3) := by decide +kernel
theorem dX3_exemptFrom_28 : decode cX3_exemptFrom 28 = .ok (.checkcast 83, 3) := by decide +kernel
theorem dX3_exemptFrom_31 : decode cX3_exemptFrom 31 = .ok (.astore 5, 2) := by decide +kernel
theorem dX3_exemptFrom_33 : decode cX3_exemptFrom 33 = .ok (.aload 5, 2) := by decide +kernel
theorem dX3_exemptFrom_35 : decode cX3_exemptFrom 35 = .ok (.getfield 85, 3) := by decide +kernel
theorem dX3_exemptFrom_38 : decode cX3_exemptFrom 38 = .ok (.iload_n 1, 1) := by decide +kernel
theorem dX3_exemptFrom_39 : decode cX3_exemptFrom 39 = .ok (.if_icmp .ne 22, 3) := by decide +kernel
theorem dX3_exemptFrom_42 : decode cX3_exemptFrom 42 = .ok (.aload 5, 2) := by decide +kernel
theorem dX3_exemptFrom_44 : decode cX3_exemptFrom 44 = .ok (.getfield 86, 3) := by decide +kernel
theorem dX3_exemptFrom_47 : decode cX3_exemptFrom 47 = .ok (.iload_n 2, 1) := by decide +kernel
theorem dX3_exemptFrom_48 : decode cX3_exemptFrom 48 = .ok (.if_icmp .gt 13, 3) := by decide +kernel
theorem dX3_exemptFrom_51 : decode cX3_exemptFrom 51 = .ok (.iload_n 3, 1) := by decide +kernel
theorem dX3_exemptFrom_52 : decode cX3_exemptFrom 52 = .ok (.aload 5, 2) := by decide +kernel
theorem dX3_exemptFrom_54 : decode cX3_exemptFrom 54 = .ok (.getfield 89, 3) := by decide +kernel
theorem dX3_exemptFrom_57 : decode cX3_exemptFrom 57 = .ok (.invokestatic 90, 3) := by decide +kernel
theorem dX3_exemptFrom_60 : decode cX3_exemptFrom 60 = .ok (.istore_n 3, 1) := by decide +kernel
theorem dX3_exemptFrom_61 : decode cX3_exemptFrom 61 = .ok (.iinc 4 1, 3) := by decide +kernel
theorem dX3_exemptFrom_64 : decode cX3_exemptFrom 64 = .ok (.goto (-57), 3) := by decide +kernel
theorem dX3_exemptFrom_67 : decode cX3_exemptFrom 67 = .ok (.iload_n 3, 1) := by decide +kernel
theorem dX3_exemptFrom_68 : decode cX3_exemptFrom 68 = .ok (.ireturn, 1) := by decide +kernel
theorem dX3_hundredthsOf_0 : decode cX3_hundredthsOf 0 = .ok (.iload_n 1, 1) := by decide +kernel
theorem dX3_hundredthsOf_1 : decode cX3_hundredthsOf 1 = .ok (.ifCond .lt 21, 3) := by decide +kernel
theorem dX3_hundredthsOf_4 : decode cX3_hundredthsOf 4 = .ok (.iload_n 1, 1) := by decide +kernel
theorem dX3_hundredthsOf_5 : decode cX3_hundredthsOf 5 = .ok (.aload_n 0, 1) := by decide +kernel
theorem dX3_hundredthsOf_6 : decode cX3_hundredthsOf 6 = .ok (.getfield 31, 3) := by decide +kernel
theorem dX3_hundredthsOf_9 : decode cX3_hundredthsOf 9 = .ok (.arraylength, 1) := by decide +kernel
theorem dX3_hundredthsOf_10 : decode cX3_hundredthsOf 10 = .ok (.if_icmp .ge 12, 3) := by decide +kernel
theorem dX3_hundredthsOf_13 : decode cX3_hundredthsOf 13 = .ok (.aload_n 0, 1) := by decide +kernel
theorem dX3_hundredthsOf_14 : decode cX3_hundredthsOf 14 = .ok (.getfield 31, 3) := by decide +kernel
theorem dX3_hundredthsOf_17 : decode cX3_hundredthsOf 17 = .ok (.iload_n 1, 1) := by decide +kernel
theorem dX3_hundredthsOf_18 : decode cX3_hundredthsOf 18 = .ok (.iaload, 1) := by decide +kernel
theorem dX3_hundredthsOf_19 : decode cX3_hundredthsOf 19 = .ok (.goto 4, 3) := by decide +kernel
theorem dX3_hundredthsOf_22 : decode cX3_hundredthsOf 22 = .ok (.iconst 0, 1) := by decide +kernel
theorem dX3_hundredthsOf_23 : decode cX3_hundredthsOf 23 = .ok (.ireturn, 1) := by decide +kernel
theorem dX3_setHundredths_0 : decode cX3_setHundredths 0 = .ok (.iload_n 1, 1) := by decide +kernel
theorem dX3_setHundredths_1 : decode cX3_setHundredths 1 = .ok (.ifCond .lt 19, 3) := by decide +kernel
theorem dX3_setHundredths_4 : decode cX3_setHundredths 4 = .ok (.iload_n 1, 1) := by decide +kernel
theorem dX3_setHundredths_5 : decode cX3_setHundredths 5 = .ok (.aload_n 0, 1) := by decide +kernel
theorem dX3_setHundredths_6 : decode cX3_setHundredths 6 = .ok (.getfield 31, 3) := by decide +kernel
theorem dX3_setHundredths_9 : decode cX3_setHundredths 9 = .ok (.arraylength, 1) := by decide +kernel
theorem dX3_setHundredths_10 : decode cX3_setHundredths 10 = .ok (.if_icmp .ge 10, 3) := by decide +kernel
theorem dX3_setHundredths_13 : decode cX3_setHundredths 13 = .ok (.aload_n 0, 1) := by decide +kernel
theorem dX3_setHundredths_14 : decode cX3_setHundredths 14 = .ok (.getfield 31, 3) := by decide +kernel
theorem dX3_setHundredths_17 : decode cX3_setHundredths 17 = .ok (.iload_n 1, 1) := by decide +kernel
theorem dX3_setHundredths_18 : decode cX3_setHundredths 18 = .ok (.iload_n 2, 1) := by decide +kernel
theorem dX3_setHundredths_19 : decode cX3_setHundredths 19 = .ok (.iastore, 1) := by decide +kernel
theorem dX3_setHundredths_20 : decode cX3_setHundredths 20 = .ok (.return_, 1) := by decide +kernel
theorem dX3_isDisputed_0 : decode cX3_isDisputed 0 = .ok (.aload_n 0, 1) := by decide +kernel
theorem dX3_isDisputed_1 : decode cX3_isDisputed 1 = .ok (.getfield 96, 3) := by decide +kernel
theorem dX3_isDisputed_4 : decode cX3_isDisputed 4 = .ok (.aload_n 0, 1) := by decide +kernel
theorem dX3_isDisputed_5 : decode cX3_isDisputed 5 = .ok (.getfield 99, 3) := by decide +kernel
theorem dX3_isDisputed_8 : decode cX3_isDisputed 8 = .ok (.if_icmp .eq 7, 3) := by decide +kernel
theorem dX3_isDisputed_11 : decode cX3_isDisputed 11 = .ok (.iconst 1, 1) := by decide +kernel
theorem dX3_isDisputed_12 : decode cX3_isDisputed 12 = .ok (.goto 4, 3) := by decide +kernel
theorem dX3_isDisputed_15 : decode cX3_isDisputed 15 = .ok (.iconst 0, 1) := by decide +kernel
theorem dX3_isDisputed_16 : decode cX3_isDisputed 16 = .ok (.ireturn, 1) := by decide +kernel
theorem dX3_disputedTongueFor_0 : decode cX3_disputedTongueFor 0 = .ok (.iload_n 1, 1) := by decide +kernel
theorem dX3_disputedTongueFor_1 : decode cX3_disputedTongueFor 1 = .ok (.aload_n 0, 1) := by decide +kernel
theorem dX3_disputedTongueFor_2 : decode cX3_disputedTongueFor 2 = .ok (.getfield 96, 3) := by decide +kernel
theorem dX3_disputedTongueFor_5 : decode cX3_disputedTongueFor 5 = .ok (.if_icmp .eq 11, 3) := by decide +kernel
theorem dX3_disputedTongueFor_8 : decode cX3_disputedTongueFor 8 = .ok (.iload_n 1, 1) := by decide +kernel
theorem dX3_disputedTongueFor_9 : decode cX3_disputedTongueFor 9 = .ok (.aload_n 0, 1) := by decide +kernel
theorem dX3_disputedTongueFor_10 : decode cX3_disputedTongueFor 10 = .ok (.getfield 99, 3) := by decide +kernel
theorem dX3_disputedTongueFor_13 : decode cX3_disputedTongueFor 13 = .ok (.if_icmp .ne 7, 3) := by decide +kernel
theorem dX3_disputedTongueFor_16 : decode cX3_disputedTongueFor 16 = .ok (.iconst 1, 1) := by decide +kernel
theorem dX3_disputedTongueFor_17 : decode cX3_disputedTongueFor 17 = .ok (.goto 4, 3) := by decide +kernel
theorem dX3_disputedTongueFor_20 : decode cX3_disputedTongueFor 20 = .ok (.iconst 0, 1) := by decide +kernel
theorem dX3_disputedTongueFor_21 : decode cX3_disputedTongueFor 21 = .ok (.istore_n 2, 1) := by decide +kernel
theorem dX3_disputedTongueFor_22 : decode cX3_disputedTongueFor 22 = .ok (.iload_n 2, 1) := by decide +kernel
theorem dX3_disputedTongueFor_23 : decode cX3_disputedTongueFor 23 = .ok (.ifCond .eq 7, 3) := by decide +kernel
theorem dX3_disputedTongueFor_26 : decode cX3_disputedTongueFor 26 = .ok (.iload_n 1, 1) := by decide +kernel
theorem dX3_disputedTongueFor_27 : decode cX3_disputedTongueFor 27 = .ok (.goto 14, 3) := by decide +kernel
theorem dX3_disputedTongueFor_30 : decode cX3_disputedTongueFor 30 = .ok (.aload_n 0, 1) := by decide +kernel
theorem dX3_disputedTongueFor_31 : decode cX3_disputedTongueFor 31 = .ok (.getfield 96, 3) := by decide +kernel
theorem dX3_disputedTongueFor_34 : decode cX3_disputedTongueFor 34 = .ok (.aload_n 0, 1) := by decide +kernel
theorem dX3_disputedTongueFor_35 : decode cX3_disputedTongueFor 35 = .ok (.getfield 99, 3) := by decide +kernel
theorem dX3_disputedTongueFor_38 : decode cX3_disputedTongueFor 38 = .ok (.invokestatic 90, 3) := by decide +kernel
theorem dX3_disputedTongueFor_41 : decode cX3_disputedTongueFor 41 = .ok (.ireturn, 1) := by decide +kernel
theorem dX4_init_0 : decode cX4_init 0 = .ok (.aload_n 0, 1) := by decide +kernel
theorem dX4_init_1 : decode cX4_init 1 = .ok (.invokespecial 3, 3) := by decide +kernel
theorem dX4_init_4 : decode cX4_init 4 = .ok (.aload_n 0, 1) := by decide +kernel
theorem dX4_init_5 : decode cX4_init 5 = .ok (.new 9, 3) := by decide +kernel
theorem dX4_init_8 : decode cX4_init 8 = .ok (.dup, 1) := by decide +kernel
theorem dX4_init_9 : decode cX4_init 9 = .ok (.invokespecial 11, 3) := by decide +kernel
theorem dX4_init_12 : decode cX4_init 12 = .ok (.putfield 12, 3) := by decide +kernel
theorem dX4_init_15 : decode cX4_init 15 = .ok (.return_, 1) := by decide +kernel
theorem dX4_isFull_0 : decode cX4_isFull 0 = .ok (.aload_n 0, 1) := by decide +kernel
theorem dX4_isFull_1 : decode cX4_isFull 1 = .ok (.getfield 12, 3) := by decide +kernel
theorem dX4_isFull_4 : decode cX4_isFull 4 = .ok (.invokevirtual 18, 3) := by decide +kernel
theorem dX4_isFull_7 : decode cX4_isFull 7 = .ok (.bipush 40, 2) := by decide +kernel
theorem dX4_isFull_9 : decode cX4_isFull 9 = .ok (.if_icmp .lt 7, 3) := by decide +kernel
theorem dX4_isFull_12 : decode cX4_isFull 12 = .ok (.iconst 1, 1) := by decide +kernel
theorem dX4_isFull_13 : decode cX4_isFull 13 = .ok (.goto 4, 3) := by decide +kernel
theorem dX4_isFull_16 : decode cX4_isFull 16 = .ok (.iconst 0, 1) := by decide +kernel
theorem dX4_isFull_17 : decode cX4_isFull 17 = .ok (.ireturn, 1) := by decide +kernel
theorem dX4_tell_0 : decode cX4_tell 0 = .ok (.aload_n 0, 1) := by decide +kernel
theorem dX4_tell_1 : decode cX4_tell 1 = .ok (.getfield 12, 3) := by decide +kernel
theorem dX4_tell_4 : decode cX4_tell 4 = .ok (.new 22, 3) := by decide +kernel
theorem dX4_tell_7 : decode cX4_tell 7 = .ok (.dup, 1) := by decide +kernel
theorem dX4_tell_8 : decode cX4_tell 8 = .ok (.iload_n 1, 1) := by decide +kernel
theorem dX4_tell_9 : decode cX4_tell 9 = .ok (.iload_n 2, 1) := by decide +kernel
theorem dX4_tell_10 : decode cX4_tell 10 = .ok (.iload_n 3, 1) := by decide +kernel
theorem dX4_tell_11 : decode cX4_tell 11 = .ok (.invokespecial 24, 3) := by decide +kernel
theorem dX4_tell_14 : decode cX4_tell 14 = .ok (.invokevirtual 27, 3) := by decide +kernel
theorem dX4_tell_17 : decode cX4_tell 17 = .ok (.pop, 1) := by decide +kernel
theorem dX4_tell_18 : decode cX4_tell 18 = .ok (.return_, 1) := by decide +kernel
theorem dX4_valueOn_0 : decode cX4_valueOn 0 = .ok (.iconst (-1), 1) := by decide +kernel
theorem dX4_valueOn_1 : decode cX4_valueOn 1 = .ok (.istore_n 3, 1) := by decide +kernel
theorem dX4_valueOn_2 : decode cX4_valueOn 2 = .ok (.iconst (-1), 1) := by decide +kernel
theorem dX4_valueOn_3 : decode cX4_valueOn 3 = .ok (.istore 4, 2) := by decide +kernel
theorem dX4_valueOn_5 : decode cX4_valueOn 5 = .ok (.iconst 0, 1) := by decide +kernel
theorem dX4_valueOn_6 : decode cX4_valueOn 6 = .ok (.istore 5, 2) := by decide +kernel
theorem dX4_valueOn_8 : decode cX4_valueOn 8 = .ok (.iload 5, 2) := by decide +kernel
theorem dX4_valueOn_10 : decode cX4_valueOn 10 = .ok (.aload_n 0, 1) := by decide +kernel
theorem dX4_valueOn_11 : decode cX4_valueOn 11 = .ok (.getfield 12, 3) := by decide +kernel
theorem dX4_valueOn_14 : decode cX4_valueOn 14 = .ok (.invokevirtual 18, 3) := by decide +kernel
theorem dX4_valueOn_17 : decode cX4_valueOn 17 = .ok (.if_icmp .ge 63, 3) := by decide +kernel
theorem dX4_valueOn_20 : decode cX4_valueOn 20 = .ok (.aload_n 0, 1) := by decide +kernel
theorem dX4_valueOn_21 : decode cX4_valueOn 21 = .ok (.getfield 12, 3) := by decide +kernel
theorem dX4_valueOn_24 : decode cX4_valueOn 24 = .ok (.iload 5, 2) := by decide +kernel
theorem dX4_valueOn_26 : decode cX4_valueOn 26 = .ok (.invokevirtual 31, 3) := by decide +kernel
theorem dX4_valueOn_29 : decode cX4_valueOn 29 = .ok (.checkcast 22, 3) := by decide +kernel
theorem dX4_valueOn_32 : decode cX4_valueOn 32 = .ok (.astore 6, 2) := by decide +kernel
theorem dX4_valueOn_34 : decode cX4_valueOn 34 = .ok (.aload 6, 2) := by decide +kernel
theorem dX4_valueOn_36 : decode cX4_valueOn 36 = .ok (.getfield 35, 3) := by decide +kernel
theorem dX4_valueOn_39 : decode cX4_valueOn 39 = .ok (.iload_n 1, 1) := by decide +kernel
theorem dX4_valueOn_40 : decode cX4_valueOn 40 = .ok (.if_icmp .gt 34, 3) := by decide +kernel
theorem dX4_valueOn_43 : decode cX4_valueOn 43 = .ok (.aload 6, 2) := by decide +kernel
theorem dX4_valueOn_45 : decode cX4_valueOn 45 = .ok (.getfield 39, 3) := by decide +kernel
theorem dX4_valueOn_48 : decode cX4_valueOn 48 = .ok (.iload_n 2, 1) := by decide +kernel
theorem dX4_valueOn_49 : decode cX4_valueOn 49 = .ok (.if_icmp .gt 25, 3) := by decide +kernel
theorem dX4_valueOn_52 : decode cX4_valueOn 52 = .ok (.aload 6, 2) := by decide +kernel
theorem dX4_valueOn_54 : decode cX4_valueOn 54 = .ok (.getfield 35, 3) := by decide +kernel
theorem dX4_valueOn_57 : decode cX4_valueOn 57 = .ok (.iload_n 3, 1) := by decide +kernel
theorem dX4_valueOn_58 : decode cX4_valueOn 58 = .ok (.if_icmp .lt 16, 3) := by decide +kernel
theorem dX4_valueOn_61 : decode cX4_valueOn 61 = .ok (.aload 6, 2) := by decide +kernel
theorem dX4_valueOn_63 : decode cX4_valueOn 63 = .ok (.getfield 35, 3) := by decide +kernel
theorem dX4_valueOn_66 : decode cX4_valueOn 66 = .ok (.istore_n 3, 1) := by decide +kernel
theorem dX4_valueOn_67 : decode cX4_valueOn 67 = .ok (.aload 6, 2) := by decide +kernel
theorem dX4_valueOn_69 : decode cX4_valueOn 69 = .ok (.getfield 42, 3) := by decide +kernel
theorem dX4_valueOn_72 : decode cX4_valueOn 72 = .ok (.istore 4, 2) := by decide +kernel
theorem dX4_valueOn_74 : decode cX4_valueOn 74 = .ok (.iinc 5 1, 3) := by decide +kernel
theorem dX4_valueOn_77 : decode cX4_valueOn 77 = .ok (.goto (-69), 3) := by decide +kernel
theorem dX4_valueOn_80 : decode cX4_valueOn 80 = .ok (.iload 4, 2) := by decide +kernel
theorem dX4_valueOn_82 : decode cX4_valueOn 82 = .ok (.ireturn, 1) := by decide +kernel
theorem dX5_init_0 : decode cX5_init 0 = .ok (.aload_n 0, 1) := by decide +kernel
theorem dX5_init_1 : decode cX5_init 1 = .ok (.invokespecial 3, 3) := by decide +kernel
theorem dX5_init_4 : decode cX5_init 4 = .ok (.aload_n 0, 1) := by decide +kernel
theorem dX5_init_5 : decode cX5_init 5 = .ok (.iload_n 1, 1) := by decide +kernel
theorem dX5_init_6 : decode cX5_init 6 = .ok (.putfield 9, 3) := by decide +kernel
theorem dX5_init_9 : decode cX5_init 9 = .ok (.aload_n 0, 1) := by decide +kernel
theorem dX5_init_10 : decode cX5_init 10 = .ok (.iload_n 2, 1) := by decide +kernel
theorem dX5_init_11 : decode cX5_init 11 = .ok (.putfield 15, 3) := by decide +kernel
theorem dX5_init_14 : decode cX5_init 14 = .ok (.aload_n 0, 1) := by decide +kernel
theorem dX5_init_15 : decode cX5_init 15 = .ok (.iload_n 3, 1) := by decide +kernel
theorem dX5_init_16 : decode cX5_init 16 = .ok (.putfield 18, 3) := by decide +kernel
theorem dX5_init_19 : decode cX5_init 19 = .ok (.aload_n 0, 1) := by decide +kernel
theorem dX5_init_20 : decode cX5_init 20 = .ok (.iload 4, 2) := by decide +kernel
theorem dX5_init_22 : decode cX5_init 22 = .ok (.putfield 21, 3) := by decide +kernel
theorem dX5_init_25 : decode cX5_init 25 = .ok (.aload_n 0, 1) := by decide +kernel
theorem dX5_init_26 : decode cX5_init 26 = .ok (.iload 5, 2) := by decide +kernel
theorem dX5_init_28 : decode cX5_init 28 = .ok (.putfield 24, 3) := by decide +kernel
theorem dX5_init_31 : decode cX5_init 31 = .ok (.aload_n 0, 1) := by decide +kernel
theorem dX5_init_32 : decode cX5_init 32 = .ok (.iload 6, 2) := by decide +kernel
theorem dX5_init_34 : decode cX5_init 34 = .ok (.putfield 27, 3) := by decide +kernel
theorem dX5_init_37 : decode cX5_init 37 = .ok (.return_, 1) := by decide +kernel
theorem dX5_changed_0 : decode cX5_changed 0 = .ok (.lload_n 1, 1) := by decide +kernel
theorem dX5_changed_1 : decode cX5_changed 1 = .ok (.invokestatic 30, 3) := by decide +kernel
theorem dX5_changed_4 : decode cX5_changed 4 = .ok (.lstore_n 3, 1) := by decide +kernel
theorem dX5_changed_5 : decode cX5_changed 5 = .ok (.lconst 0, 1) := by decide +kernel
theorem dX5_changed_6 : decode cX5_changed 6 = .ok (.lstore 5, 2) := by decide +kernel
theorem dX5_changed_8 : decode cX5_changed 8 = .ok (.iconst 0, 1) := by decide +kernel
theorem dX5_changed_9 : decode cX5_changed 9 = .ok (.istore 7, 2) := by decide +kernel
theorem dX5_changed_11 : decode cX5_changed 11 = .ok (.iload 7, 2) := by decide +kernel
theorem dX5_changed_13 : decode cX5_changed 13 = .ok (.bipush 12, 2) := by decide +kernel
theorem dX5_changed_15 : decode cX5_changed 15 = .ok (.if_icmp .ge 68, 3) := by decide +kernel
theorem dX5_changed_18 : decode cX5_changed 18 = .ok (.lload_n 3, 1) := by decide +kernel
theorem dX5_changed_19 : decode cX5_changed 19 = .ok (.lconst 0, 1) := by decide +kernel
theorem dX5_changed_20 : decode cX5_changed 20 = .ok (.lcmp, 1) := by decide +kernel
theorem dX5_changed_21 : decode cX5_changed 21 = .ok (.ifCond .le 62, 3) := by decide +kernel
theorem dX5_changed_24 : decode cX5_changed 24 = .ok (.lload_n 3, 1) := by decide +kernel
theorem dX5_changed_25 : decode cX5_changed 25 = .ok (.ldc2_w 34, 3) := by decide +kernel
theorem dX5_changed_28 : decode cX5_changed 28 = .ok (.lrem, 1) := by decide +kernel
theorem dX5_changed_29 : decode cX5_changed 29 = .ok (.l2i, 1) := by decide +kernel
theorem dX5_changed_30 : decode cX5_changed 30 = .ok (.istore 8, 2) := by decide +kernel
theorem dX5_changed_32 : decode cX5_changed 32 = .ok (.iload 8, 2) := by decide +kernel
theorem dX5_changed_34 : decode cX5_changed 34 = .ok (.aload_n 0, 1) := by decide +kernel
theorem dX5_changed_35 : decode cX5_changed 35 = .ok (.getfield 21, 3) := by decide +kernel
theorem dX5_changed_38 : decode cX5_changed 38 = .ok (.if_icmp .ne 24, 3) := by decide +kernel
theorem dX5_changed_41 : decode cX5_changed 41 = .ok (.lload 5, 2) := by decide +kernel
theorem dX5_changed_43 : decode cX5_changed 43 = .ok (.aload_n 0, 1) := by decide +kernel
theorem dX5_changed_44 : decode cX5_changed 44 = .ok (.getfield 24, 3) := by decide +kernel
theorem dX5_changed_47 : decode cX5_changed 47 = .ok (.invokestatic 36, 3) := by decide +kernel
theorem dX5_changed_50 : decode cX5_changed 50 = .ok (.aload_n 0, 1) := by decide +kernel
theorem dX5_changed_51 : decode cX5_changed 51 = .ok (.getfield 27, 3) := by decide +kernel
theorem dX5_changed_54 : decode cX5_changed 54 = .ok (.invokestatic 36, 3) := by decide +kernel
theorem dX5_changed_57 : decode cX5_changed 57 = .ok (.lstore 5, 2) := by decide +kernel
theorem dX5_changed_59 : decode cX5_changed 59 = .ok (.goto 12, 3) := by decide +kernel
theorem dX5_changed_62 : decode cX5_changed 62 = .ok (.lload 5, 2) := by decide +kernel
theorem dX5_changed_64 : decode cX5_changed 64 = .ok (.iload 8, 2) := by decide +kernel
theorem dX5_changed_66 : decode cX5_changed 66 = .ok (.invokestatic 36, 3) := by decide +kernel
theorem dX5_changed_69 : decode cX5_changed 69 = .ok (.lstore 5, 2) := by decide +kernel
theorem dX5_changed_71 : decode cX5_changed 71 = .ok (.lload_n 3, 1) := by decide +kernel
theorem dX5_changed_72 : decode cX5_changed 72 = .ok (.ldc2_w 34, 3) := by decide +kernel
theorem dX5_changed_75 : decode cX5_changed 75 = .ok (.ldiv, 1) := by decide +kernel
theorem dX5_changed_76 : decode cX5_changed 76 = .ok (.lstore_n 3, 1) := by decide +kernel
theorem dX5_changed_77 : decode cX5_changed 77 = .ok (.iinc 7 1, 3) := by decide +kernel
theorem dX5_changed_80 : decode cX5_changed 80 = .ok (.goto (-69), 3) := by decide +kernel
theorem dX5_changed_83 : decode cX5_changed 83 = .ok (.lload 5, 2) := by decide +kernel
theorem dX5_changed_85 : decode cX5_changed 85 = .ok (.lreturn, 1) := by decide +kernel
theorem dX6_init_0 : decode cX6_init 0 = .ok (.aload_n 0, 1) := by decide +kernel
theorem dX6_init_1 : decode cX6_init 1 = .ok (.invokespecial 1, 3) := by decide +kernel
theorem dX6_init_4 : decode cX6_init 4 = .ok (.aload_n 0, 1) := by decide +kernel
theorem dX6_init_5 : decode cX6_init 5 = .ok (.iload_n 1, 1) := by decide +kernel
theorem dX6_init_6 : decode cX6_init 6 = .ok (.putfield 7, 3) := by decide +kernel
theorem dX6_init_9 : decode cX6_init 9 = .ok (.aload_n 0, 1) := by decide +kernel
theorem dX6_init_10 : decode cX6_init 10 = .ok (.lload_n 2, 1) := by decide +kernel
theorem dX6_init_11 : decode cX6_init 11 = .ok (.putfield 13, 3) := by decide +kernel
theorem dX6_init_14 : decode cX6_init 14 = .ok (.aload_n 0, 1) := by decide +kernel
theorem dX6_init_15 : decode cX6_init 15 = .ok (.iload 4, 2) := by decide +kernel
theorem dX6_init_17 : decode cX6_init 17 = .ok (.putfield 17, 3) := by decide +kernel
theorem dX6_init_20 : decode cX6_init 20 = .ok (.aload_n 0, 1) := by decide +kernel
theorem dX6_init_21 : decode cX6_init 21 = .ok (.iload 5, 2) := by decide +kernel
theorem dX6_init_23 : decode cX6_init 23 = .ok (.putfield 20, 3) := by decide +kernel
theorem dX6_init_26 : decode cX6_init 26 = .ok (.return_, 1) := by decide +kernel
theorem dX6_counts_0 : decode cX6_counts 0 = .ok (.aload_n 0, 1) := by decide +kernel
theorem dX6_counts_1 : decode cX6_counts 1 = .ok (.getfield 20, 3) := by decide +kernel
theorem dX6_counts_4 : decode cX6_counts 4 = .ok (.iload_n 1, 1) := by decide +kernel
theorem dX6_counts_5 : decode cX6_counts 5 = .ok (.if_icmp .gt 22, 3) := by decide +kernel
theorem dX6_counts_8 : decode cX6_counts 8 = .ok (.aload_n 0, 1) := by decide +kernel
theorem dX6_counts_9 : decode cX6_counts 9 = .ok (.getfield 23, 3) := by decide +kernel
theorem dX6_counts_12 : decode cX6_counts 12 = .ok (.ifCond .eq 11, 3) := by decide +kernel
theorem dX6_counts_15 : decode cX6_counts 15 = .ok (.aload_n 0, 1) := by decide +kernel
theorem dX6_counts_16 : decode cX6_counts 16 = .ok (.getfield 27, 3) := by decide +kernel
theorem dX6_counts_19 : decode cX6_counts 19 = .ok (.iload_n 1, 1) := by decide +kernel
theorem dX6_counts_20 : decode cX6_counts 20 = .ok (.if_icmp .le 7, 3) := by decide +kernel
theorem dX6_counts_23 : decode cX6_counts 23 = .ok (.iconst 1, 1) := by decide +kernel
theorem dX6_counts_24 : decode cX6_counts 24 = .ok (.goto 4, 3) := by decide +kernel
theorem dX6_counts_27 : decode cX6_counts 27 = .ok (.iconst 0, 1) := by decide +kernel
theorem dX6_counts_28 : decode cX6_counts 28 = .ok (.ireturn, 1) := by decide +kernel
theorem dX7_init_0 : decode cX7_init 0 = .ok (.aload_n 0, 1) := by decide +kernel
theorem dX7_init_1 : decode cX7_init 1 = .ok (.invokespecial 3, 3) := by decide +kernel
theorem dX7_init_4 : decode cX7_init 4 = .ok (.aload_n 0, 1) := by decide +kernel
theorem dX7_init_5 : decode cX7_init 5 = .ok (.iconst 0, 1) := by decide +kernel
theorem dX7_init_6 : decode cX7_init 6 = .ok (.putfield 9, 3) := by decide +kernel
theorem dX7_init_9 : decode cX7_init 9 = .ok (.aload_n 0, 1) := by decide +kernel
theorem dX7_init_10 : decode cX7_init 10 = .ok (.iconst (-1), 1) := by decide +kernel
theorem dX7_init_11 : decode cX7_init 11 = .ok (.putfield 15, 3) := by decide +kernel
theorem dX7_init_14 : decode cX7_init 14 = .ok (.aload_n 0, 1) := by decide +kernel
theorem dX7_init_15 : decode cX7_init 15 = .ok (.aload_n 1, 1) := by decide +kernel
theorem dX7_init_16 : decode cX7_init 16 = .ok (.putfield 18, 3) := by decide +kernel
theorem dX7_init_19 : decode cX7_init 19 = .ok (.aload_n 0, 1) := by decide +kernel
theorem dX7_init_20 : decode cX7_init 20 = .ok (.iload_n 2, 1) := by decide +kernel
theorem dX7_init_21 : decode cX7_init 21 = .ok (.putfield 22, 3) := by decide +kernel
theorem dX7_init_24 : decode cX7_init 24 = .ok (.aload_n 0, 1) := by decide +kernel
theorem dX7_init_25 : decode cX7_init 25 = .ok (.lload_n 3, 1) := by decide +kernel
theorem dX7_init_26 : decode cX7_init 26 = .ok (.putfield 25, 3) := by decide +kernel
theorem dX7_init_29 : decode cX7_init 29 = .ok (.aload_n 0, 1) := by decide +kernel
theorem dX7_init_30 : decode cX7_init 30 = .ok (.iload 5, 2) := by decide +kernel
theorem dX7_init_32 : decode cX7_init 32 = .ok (.putfield 29, 3) := by decide +kernel
theorem dX7_init_35 : decode cX7_init 35 = .ok (.return_, 1) := by decide +kernel
theorem dX7_hasVoted_0 : decode cX7_hasVoted 0 = .ok (.aload_n 0, 1) := by decide +kernel
theorem dX7_hasVoted_1 : decode cX7_hasVoted 1 = .ok (.getfield 32, 3) := by decide +kernel
theorem dX7_hasVoted_4 : decode cX7_hasVoted 4 = .ok (.aload_n 0, 1) := by decide +kernel
theorem dX7_hasVoted_5 : decode cX7_hasVoted 5 = .ok (.getfield 35, 3) := by decide +kernel
theorem dX7_hasVoted_8 : decode cX7_hasVoted 8 = .ok (.ior, 1) := by decide +kernel
theorem dX7_hasVoted_9 : decode cX7_hasVoted 9 = .ok (.iconst 1, 1) := by decide +kernel
theorem dX7_hasVoted_10 : decode cX7_hasVoted 10 = .ok (.iload_n 1, 1) := by decide +kernel
theorem dX7_hasVoted_11 : decode cX7_hasVoted 11 = .ok (.ishl, 1) := by decide +kernel
theorem dX7_hasVoted_12 : decode cX7_hasVoted 12 = .ok (.iand, 1) := by decide +kernel
theorem dX7_hasVoted_13 : decode cX7_hasVoted 13 = .ok (.ifCond .eq 7, 3) := by decide +kernel
theorem dX7_hasVoted_16 : decode cX7_hasVoted 16 = .ok (.iconst 1, 1) := by decide +kernel
theorem dX7_hasVoted_17 : decode cX7_hasVoted 17 = .ok (.goto 4, 3) := by decide +kernel
theorem dX7_hasVoted_20 : decode cX7_hasVoted 20 = .ok (.iconst 0, 1) := by decide +kernel
theorem dX7_hasVoted_21 : decode cX7_hasVoted 21 = .ok (.ireturn, 1) := by decide +kernel
theorem dX7_countVotes_0 : decode cX7_countVotes 0 = .ok (.aload_n 0, 1) := by decide +kernel
theorem dX7_countVotes_1 : decode cX7_countVotes 1 = .ok (.getfield 32, 3) := by decide +kernel
theorem dX7_countVotes_4 : decode cX7_countVotes 4 = .ok (.aload_n 0, 1) := by decide +kernel
theorem dX7_countVotes_5 : decode cX7_countVotes 5 = .ok (.getfield 35, 3) := by decide +kernel
theorem dX7_countVotes_8 : decode cX7_countVotes 8 = .ok (.ior, 1) := by decide +kernel
theorem dX7_countVotes_9 : decode cX7_countVotes 9 = .ok (.invokestatic 38, 3) := by decide +kernel
theorem dX7_countVotes_12 : decode cX7_countVotes 12 = .ok (.ireturn, 1) := by decide +kernel
theorem dX7_hasMoreFor_0 : decode cX7_hasMoreFor 0 = .ok (.aload_n 0, 1) := by decide +kernel
theorem dX7_hasMoreFor_1 : decode cX7_hasMoreFor 1 = .ok (.getfield 32, 3) := by decide +kernel
theorem dX7_hasMoreFor_4 : decode cX7_hasMoreFor 4 = .ok (.invokestatic 38, 3) := by decide +kernel
theorem dX7_hasMoreFor_7 : decode cX7_hasMoreFor 7 = .ok (.aload_n 0, 1) := by decide +kernel
theorem dX7_hasMoreFor_8 : decode cX7_hasMoreFor 8 = .ok (.getfield 35, 3) := by decide +kernel
theorem dX7_hasMoreFor_11 : decode cX7_hasMoreFor 11 = .ok (.invokestatic 38, 3) := by decide +kernel
theorem dX7_hasMoreFor_14 : decode cX7_hasMoreFor 14 = .ok (.if_icmp .le 7, 3) := by decide +kernel
theorem dX7_hasMoreFor_17 : decode cX7_hasMoreFor 17 = .ok (.iconst 1, 1) := by decide +kernel
theorem dX7_hasMoreFor_18 : decode cX7_hasMoreFor 18 = .ok (.goto 4, 3) := by decide +kernel
theorem dX7_hasMoreFor_21 : decode cX7_hasMoreFor 21 = .ok (.iconst 0, 1) := by decide +kernel
theorem dX7_hasMoreFor_22 : decode cX7_hasMoreFor 22 = .ok (.ireturn, 1) := by decide +kernel
theorem dX7_canBeDecided_0 : decode cX7_canBeDecided 0 = .ok (.aload_n 0, 1) := by decide +kernel
theorem dX7_canBeDecided_1 : decode cX7_canBeDecided 1 = .ok (.getfield 9, 3) := by decide +kernel
theorem dX7_canBeDecided_4 : decode cX7_canBeDecided 4 = .ok (.ifCond .ne 30, 3) := by decide +kernel
theorem dX7_canBeDecided_7 : decode cX7_canBeDecided 7 = .ok (.iload_n 1, 1) := by decide +kernel
theorem dX7_canBeDecided_8 : decode cX7_canBeDecided 8 = .ok (.aload_n 0, 1) := by decide +kernel
theorem dX7_canBeDecided_9 : decode cX7_canBeDecided 9 = .ok (.getfield 29, 3) := by decide +kernel
theorem dX7_canBeDecided_12 : decode cX7_canBeDecided 12 = .ok (.if_icmp .ge 22, 3) := by decide +kernel
theorem dX7_canBeDecided_15 : decode cX7_canBeDecided 15 = .ok (.aload_n 0, 1) := by decide +kernel
theorem dX7_canBeDecided_16 : decode cX7_canBeDecided 16 = .ok (.invokevirtual 44, 3) := by decide +kernel
theorem dX7_canBeDecided_19 : decode cX7_canBeDecided 19 = .ok (.iconst 5, 1) := by decide +kernel
theorem dX7_canBeDecided_20 : decode cX7_canBeDecided 20 = .ok (.if_icmp .lt 14, 3) := by decide +kernel
theorem dX7_canBeDecided_23 : decode cX7_canBeDecided 23 = .ok (.aload_n 0, 1) := by decide +kernel
theorem dX7_canBeDecided_24 : decode cX7_canBeDecided 24 = .ok (.getfield 48, 3) := by decide +kernel
theorem dX7_canBeDecided_27 : decode cX7_canBeDecided 27 = .ok (.ifCond .ne 7, 3) := by decide +kernel
theorem dX7_canBeDecided_30 : decode cX7_canBeDecided 30 = .ok (.iconst 1, 1) := by decide +kernel
theorem dX7_canBeDecided_31 : decode cX7_canBeDecided 31 = .ok (.goto 4, 3) := by decide +kernel
theorem dX7_canBeDecided_34 : decode cX7_canBeDecided 34 = .ok (.iconst 0, 1) := by decide +kernel
theorem dX7_canBeDecided_35 : decode cX7_canBeDecided 35 = .ok (.ireturn, 1) := by decide +kernel
theorem dX8_init_0 : decode cX8_init 0 = .ok (.aload_n 0, 1) := by decide +kernel
theorem dX8_init_1 : decode cX8_init 1 = .ok (.invokespecial 1, 3) := by decide +kernel
theorem dX8_init_4 : decode cX8_init 4 = .ok (.aload_n 0, 1) := by decide +kernel
theorem dX8_init_5 : decode cX8_init 5 = .ok (.lload_n 1, 1) := by decide +kernel
theorem dX8_init_6 : decode cX8_init 6 = .ok (.putfield 7, 3) := by decide +kernel
theorem dX8_init_9 : decode cX8_init 9 = .ok (.aload_n 0, 1) := by decide +kernel
theorem dX8_init_10 : decode cX8_init 10 = .ok (.iload_n 3, 1) := by decide +kernel
theorem dX8_init_11 : decode cX8_init 11 = .ok (.putfield 13, 3) := by decide +kernel
theorem dX8_init_14 : decode cX8_init 14 = .ok (.aload_n 0, 1) := by decide +kernel
theorem dX8_init_15 : decode cX8_init 15 = .ok (.iload 4, 2) := by decide +kernel
theorem dX8_init_17 : decode cX8_init 17 = .ok (.putfield 17, 3) := by decide +kernel
theorem dX8_init_20 : decode cX8_init 20 = .ok (.return_, 1) := by decide +kernel
theorem dX9_init_0 : decode cX9_init 0 = .ok (.aload_n 0, 1) := by decide +kernel
theorem dX9_init_1 : decode cX9_init 1 = .ok (.invokespecial 3, 3) := by decide +kernel
theorem dX9_init_4 : decode cX9_init 4 = .ok (.aload_n 0, 1) := by decide +kernel
theorem dX9_init_5 : decode cX9_init 5 = .ok (.bipush 27, 2) := by decide +kernel
theorem dX9_init_7 : decode cX9_init 7 = .ok (.newarray .int, 2) := by decide +kernel
theorem dX9_init_9 : decode cX9_init 9 = .ok (.putfield 9, 3) := by decide +kernel
theorem dX9_init_12 : decode cX9_init 12 = .ok (.iconst 0, 1) := by decide +kernel
theorem dX9_init_13 : decode cX9_init 13 = .ok (.istore_n 1, 1) := by decide +kernel
theorem dX9_init_14 : decode cX9_init 14 = .ok (.iload_n 1, 1) := by decide +kernel
theorem dX9_init_15 : decode cX9_init 15 = .ok (.aload_n 0, 1) := by decide +kernel
theorem dX9_init_16 : decode cX9_init 16 = .ok (.getfield 9, 3) := by decide +kernel
theorem dX9_init_19 : decode cX9_init 19 = .ok (.arraylength, 1) := by decide +kernel
theorem dX9_init_20 : decode cX9_init 20 = .ok (.if_icmp .ge 16, 3) := by decide +kernel
theorem dX9_init_23 : decode cX9_init 23 = .ok (.aload_n 0, 1) := by decide +kernel
theorem dX9_init_24 : decode cX9_init 24 = .ok (.getfield 9, 3) := by decide +kernel
theorem dX9_init_27 : decode cX9_init 27 = .ok (.iload_n 1, 1) := by decide +kernel
theorem dX9_init_28 : decode cX9_init 28 = .ok (.iload_n 1, 1) := by decide +kernel
theorem dX9_init_29 : decode cX9_init 29 = .ok (.iastore, 1) := by decide +kernel
theorem dX9_init_30 : decode cX9_init 30 = .ok (.iinc 1 1, 3) := by decide +kernel
theorem dX9_init_33 : decode cX9_init 33 = .ok (.goto (-19), 3) := by decide +kernel
theorem dX9_init_36 : decode cX9_init 36 = .ok (.return_, 1) := by decide +kernel
theorem dX9_letterFor_0 : decode cX9_letterFor 0 = .ok (.iload_n 1, 1) := by decide +kernel
theorem dX9_letterFor_1 : decode cX9_letterFor 1 = .ok (.ifCond .lt 21, 3) := by decide +kernel
theorem dX9_letterFor_4 : decode cX9_letterFor 4 = .ok (.iload_n 1, 1) := by decide +kernel
theorem dX9_letterFor_5 : decode cX9_letterFor 5 = .ok (.aload_n 0, 1) := by decide +kernel
theorem dX9_letterFor_6 : decode cX9_letterFor 6 = .ok (.getfield 9, 3) := by decide +kernel
theorem dX9_letterFor_9 : decode cX9_letterFor 9 = .ok (.arraylength, 1) := by decide +kernel
theorem dX9_letterFor_10 : decode cX9_letterFor 10 = .ok (.if_icmp .ge 12, 3) := by decide +kernel
theorem dX9_letterFor_13 : decode cX9_letterFor 13 = .ok (.aload_n 0, 1) := by decide +kernel
theorem dX9_letterFor_14 : decode cX9_letterFor 14 = .ok (.getfield 9, 3) := by decide +kernel
theorem dX9_letterFor_17 : decode cX9_letterFor 17 = .ok (.iload_n 1, 1) := by decide +kernel
theorem dX9_letterFor_18 : decode cX9_letterFor 18 = .ok (.iaload, 1) := by decide +kernel
theorem dX9_letterFor_19 : decode cX9_letterFor 19 = .ok (.goto 4, 3) := by decide +kernel
theorem dX9_letterFor_22 : decode cX9_letterFor 22 = .ok (.iconst 0, 1) := by decide +kernel
theorem dX9_letterFor_23 : decode cX9_letterFor 23 = .ok (.ireturn, 1) := by decide +kernel
theorem dX9_setLetter_0 : decode cX9_setLetter 0 = .ok (.iload_n 1, 1) := by decide +kernel
theorem dX9_setLetter_1 : decode cX9_setLetter 1 = .ok (.ifCond .lt 19, 3) := by decide +kernel
theorem dX9_setLetter_4 : decode cX9_setLetter 4 = .ok (.iload_n 1, 1) := by decide +kernel
theorem dX9_setLetter_5 : decode cX9_setLetter 5 = .ok (.aload_n 0, 1) := by decide +kernel
theorem dX9_setLetter_6 : decode cX9_setLetter 6 = .ok (.getfield 9, 3) := by decide +kernel
theorem dX9_setLetter_9 : decode cX9_setLetter 9 = .ok (.arraylength, 1) := by decide +kernel
theorem dX9_setLetter_10 : decode cX9_setLetter 10 = .ok (.if_icmp .ge 10, 3) := by decide +kernel
theorem dX9_setLetter_13 : decode cX9_setLetter 13 = .ok (.aload_n 0, 1) := by decide +kernel
theorem dX9_setLetter_14 : decode cX9_setLetter 14 = .ok (.getfield 9, 3) := by decide +kernel
theorem dX9_setLetter_17 : decode cX9_setLetter 17 = .ok (.iload_n 1, 1) := by decide +kernel
theorem dX9_setLetter_18 : decode cX9_setLetter 18 = .ok (.iload_n 2, 1) := by decide +kernel
theorem dX9_setLetter_19 : decode cX9_setLetter 19 = .ok (.iastore, 1) := by decide +kernel
theorem dX9_setLetter_20 : decode cX9_setLetter 20 = .ok (.return_, 1) := by decide +kernel
theorem dX9_onlyLetterTold_0 : decode cX9_onlyLetterTold 0 = .ok (.iconst (-1), 1) := by decide +kernel
theorem dX9_onlyLetterTold_1 : decode cX9_onlyLetterTold 1 = .ok (.istore_n 2, 1) := by decide +kernel
theorem dX9_onlyLetterTold_2 : decode cX9_onlyLetterTold 2 = .ok (.iconst 1, 1) := by decide +kernel
theorem dX9_onlyLetterTold_3 : decode cX9_onlyLetterTold 3 = .ok (.istore_n 3, 1) := by decide +kernel
theorem dX9_onlyLetterTold_4 : decode cX9_onlyLetterTold 4 = .ok (.iload_n 3, 1) := by decide +kernel
theorem dX9_onlyLetterTold_5 : decode cX9_onlyLetterTold 5 = .ok (.aload_n 0, 1) := by decide +kernel
theorem dX9_onlyLetterTold_6 : decode cX9_onlyLetterTold 6 = .ok (.getfield 9, 3) := by decide +kernel
theorem dX9_onlyLetterTold_9 : decode cX9_onlyLetterTold 9 = .ok (.arraylength, 1) := by decide +kernel
theorem dX9_onlyLetterTold_10 : decode cX9_onlyLetterTold 10 = .ok (.if_icmp .ge 28, 3) := by decide +kernel
theorem dX9_onlyLetterTold_13 : decode cX9_onlyLetterTold 13 = .ok (.aload_n 0, 1) := by decide +kernel
theorem dX9_onlyLetterTold_14 : decode cX9_onlyLetterTold 14 = .ok (.getfield 9, 3) := by decide +kernel
theorem dX9_onlyLetterTold_17 : decode cX9_onlyLetterTold 17 = .ok (.iload_n 3, 1) := by decide +kernel
theorem dX9_onlyLetterTold_18 : decode cX9_onlyLetterTold 18 = .ok (.iaload, 1) := by decide +kernel
theorem dX9_onlyLetterTold_19 : decode cX9_onlyLetterTold 19 = .ok (.iload_n 1, 1) := by decide +kernel
theorem dX9_onlyLetterTold_20 : decode cX9_onlyLetterTold 20 = .ok (.if_icmp .ne 12, 3) := by decide +kernel
theorem dX9_onlyLetterTold_23 : decode cX9_onlyLetterTold 23 = .ok (.iload_n 2, 1) := by decide +kernel
theorem dX9_onlyLetterTold_24 : decode cX9_onlyLetterTold 24 = .ok (.iconst (-1), 1) := by decide +kernel
theorem dX9_onlyLetterTold_25 : decode cX9_onlyLetterTold 25 = .ok (.if_icmp .eq 5, 3) := by decide +kernel
theorem dX9_onlyLetterTold_28 : decode cX9_onlyLetterTold 28 = .ok (.iconst (-1), 1) := by decide +kernel
theorem dX9_onlyLetterTold_29 : decode cX9_onlyLetterTold 29 = .ok (.ireturn, 1) := by decide +kernel
theorem dX9_onlyLetterTold_30 : decode cX9_onlyLetterTold 30 = .ok (.iload_n 3, 1) := by decide +kernel
theorem dX9_onlyLetterTold_31 : decode cX9_onlyLetterTold 31 = .ok (.istore_n 2, 1) := by decide +kernel
theorem dX9_onlyLetterTold_32 : decode cX9_onlyLetterTold 32 = .ok (.iinc 3 1, 3) := by decide +kernel
theorem dX9_onlyLetterTold_35 : decode cX9_onlyLetterTold 35 = .ok (.goto (-31), 3) := by decide +kernel
theorem dX9_onlyLetterTold_38 : decode cX9_onlyLetterTold 38 = .ok (.iload_n 2, 1) := by decide +kernel
theorem dX9_onlyLetterTold_39 : decode cX9_onlyLetterTold 39 = .ok (.ireturn, 1) := by decide +kernel
theorem dX9_countDifferent_0 : decode cX9_countDifferent 0 = .ok (.iconst 0, 1) := by decide +kernel
theorem dX9_countDifferent_1 : decode cX9_countDifferent 1 = .ok (.istore_n 1, 1) := by decide +kernel
theorem dX9_countDifferent_2 : decode cX9_countDifferent 2 = .ok (.iconst 1, 1) := by decide +kernel
theorem dX9_countDifferent_3 : decode cX9_countDifferent 3 = .ok (.istore_n 2, 1) := by decide +kernel
theorem dX9_countDifferent_4 : decode cX9_countDifferent 4 = .ok (.iload_n 2, 1) := by decide +kernel
theorem dX9_countDifferent_5 : decode cX9_countDifferent 5 = .ok (.aload_n 0, 1) := by decide +kernel
theorem dX9_countDifferent_6 : decode cX9_countDifferent 6 = .ok (.getfield 9, 3) := by decide +kernel
theorem dX9_countDifferent_9 : decode cX9_countDifferent 9 = .ok (.arraylength, 1) := by decide +kernel
theorem dX9_countDifferent_10 : decode cX9_countDifferent 10 = .ok (.if_icmp .ge 20, 3) := by decide +kernel
theorem dX9_countDifferent_13 : decode cX9_countDifferent 13 = .ok (.iload_n 1, 1) := by decide +kernel
theorem dX9_countDifferent_14 : decode cX9_countDifferent 14 = .ok (.iconst 1, 1) := by decide +kernel
theorem dX9_countDifferent_15 : decode cX9_countDifferent 15 = .ok (.aload_n 0, 1) := by decide +kernel
theorem dX9_countDifferent_16 : decode cX9_countDifferent 16 = .ok (.getfield 9, 3) := by decide +kernel
theorem dX9_countDifferent_19 : decode cX9_countDifferent 19 = .ok (.iload_n 2, 1) := by decide +kernel
theorem dX9_countDifferent_20 : decode cX9_countDifferent 20 = .ok (.iaload, 1) := by decide +kernel
theorem dX9_countDifferent_21 : decode cX9_countDifferent 21 = .ok (.ishl, 1) := by decide +kernel
theorem dX9_countDifferent_22 : decode cX9_countDifferent 22 = .ok (.ior, 1) := by decide +kernel
theorem dX9_countDifferent_23 : decode cX9_countDifferent 23 = .ok (.istore_n 1, 1) := by decide +kernel
theorem dX9_countDifferent_24 : decode cX9_countDifferent 24 = .ok (.iinc 2 1, 3) := by decide +kernel
theorem dX9_countDifferent_27 : decode cX9_countDifferent 27 = .ok (.goto (-23), 3) := by decide +kernel
theorem dX9_countDifferent_30 : decode cX9_countDifferent 30 = .ok (.iload_n 1, 1) := by decide +kernel
theorem dX9_countDifferent_31 : decode cX9_countDifferent 31 = .ok (.invokestatic 15, 3) := by decide +kernel
theorem dX9_countDifferent_34 : decode cX9_countDifferent 34 = .ok (.ireturn, 1) := by decide +kernel
theorem dX10_init_0 : decode cX10_init 0 = .ok (.aload_n 0, 1) := by decide +kernel
theorem dX10_init_1 : decode cX10_init 1 = .ok (.invokespecial 1, 3) := by decide +kernel
theorem dX10_init_4 : decode cX10_init 4 = .ok (.aload_n 0, 1) := by decide +kernel
theorem dX10_init_5 : decode cX10_init 5 = .ok (.new 7, 3) := by decide +kernel
theorem dX10_init_8 : decode cX10_init 8 = .ok (.dup, 1) := by decide +kernel
theorem dX10_init_9 : decode cX10_init 9 = .ok (.invokespecial 9, 3) := by decide +kernel
theorem dX10_init_12 : decode cX10_init 12 = .ok (.putfield 10, 3) := by decide +kernel
theorem dX10_init_15 : decode cX10_init 15 = .ok (.aload_n 0, 1) := by decide +kernel
theorem dX10_init_16 : decode cX10_init 16 = .ok (.new 7, 3) := by decide +kernel
theorem dX10_init_19 : decode cX10_init 19 = .ok (.dup, 1) := by decide +kernel
theorem dX10_init_20 : decode cX10_init 20 = .ok (.invokespecial 9, 3) := by decide +kernel
theorem dX10_init_23 : decode cX10_init 23 = .ok (.putfield 16, 3) := by decide +kernel
theorem dX10_init_26 : decode cX10_init 26 = .ok (.aload_n 0, 1) := by decide +kernel
theorem dX10_init_27 : decode cX10_init 27 = .ok (.new 7, 3) := by decide +kernel
theorem dX10_init_30 : decode cX10_init 30 = .ok (.dup, 1) := by decide +kernel
theorem dX10_init_31 : decode cX10_init 31 = .ok (.invokespecial 9, 3) := by decide +kernel
theorem dX10_init_34 : decode cX10_init 34 = .ok (.putfield 19, 3) := by decide +kernel
theorem dX10_init_37 : decode cX10_init 37 = .ok (.aload_n 0, 1) := by decide +kernel
theorem dX10_init_38 : decode cX10_init 38 = .ok (.new 7, 3) := by decide +kernel
theorem dX10_init_41 : decode cX10_init 41 = .ok (.dup, 1) := by decide +kernel
theorem dX10_init_42 : decode cX10_init 42 = .ok (.invokespecial 9, 3) := by decide +kernel
theorem dX10_init_45 : decode cX10_init 45 = .ok (.putfield 22, 3) := by decide +kernel
theorem dX10_init_48 : decode cX10_init 48 = .ok (.aload_n 0, 1) := by decide +kernel
theorem dX10_init_49 : decode cX10_init 49 = .ok (.new 7, 3) := by decide +kernel
theorem dX10_init_52 : decode cX10_init 52 = .ok (.dup, 1) := by decide +kernel
theorem dX10_init_53 : decode cX10_init 53 = .ok (.invokespecial 9, 3) := by decide +kernel
theorem dX10_init_56 : decode cX10_init 56 = .ok (.putfield 25, 3) := by decide +kernel
theorem dX10_init_59 : decode cX10_init 59 = .ok (.aload_n 0, 1) := by decide +kernel
theorem dX10_init_60 : decode cX10_init 60 = .ok (.new 7, 3) := by decide +kernel
theorem dX10_init_63 : decode cX10_init 63 = .ok (.dup, 1) := by decide +kernel
theorem dX10_init_64 : decode cX10_init 64 = .ok (.invokespecial 9, 3) := by decide +kernel
theorem dX10_init_67 : decode cX10_init 67 = .ok (.putfield 28, 3) := by decide +kernel
theorem dX10_init_70 : decode cX10_init 70 = .ok (.aload_n 0, 1) := by decide +kernel
theorem dX10_init_71 : decode cX10_init 71 = .ok (.new 31, 3) := by decide +kernel
theorem dX10_init_74 : decode cX10_init 74 = .ok (.dup, 1) := by decide +kernel
theorem dX10_init_75 : decode cX10_init 75 = .ok (.invokespecial 33, 3) := by decide +kernel
theorem dX10_init_78 : decode cX10_init 78 = .ok (.putfield 34, 3) := by decide +kernel
theorem dX10_init_81 : decode cX10_init 81 = .ok (.aload_n 0, 1) := by decide +kernel
theorem dX10_init_82 : decode cX10_init 82 = .ok (.iconst 4, 1) := by decide +kernel
theorem dX10_init_83 : decode cX10_init 83 = .ok (.newarray .int, 2) := by decide +kernel
theorem dX10_init_85 : decode cX10_init 85 = .ok (.putfield 38, 3) := by decide +kernel
theorem dX10_init_88 : decode cX10_init 88 = .ok (.aload_n 0, 1) := by decide +kernel
theorem dX10_init_89 : decode cX10_init 89 = .ok (.bipush 24, 2) := by decide +kernel
theorem dX10_init_91 : decode cX10_init 91 = .ok (.newarray .int, 2) := by decide +kernel
theorem dX10_init_93 : decode cX10_init 93 = .ok (.putfield 42, 3) := by decide +kernel
theorem dX10_init_96 : decode cX10_init 96 = .ok (.aload_n 0, 1) := by decide +kernel
theorem dX10_init_97 : decode cX10_init 97 = .ok (.bipush 9, 2) := by decide +kernel
theorem dX10_init_99 : decode cX10_init 99 = .ok (.newarray .int, 2) := by decide +kernel
theorem dX10_init_101 : decode cX10_init 101 = .ok (.putfield 45, 3) := by decide +kernel
theorem dX10_init_104 : decode cX10_init 104 = .ok (.aload_n 0, 1) := by decide +kernel
theorem dX10_init_105 : decode cX10_init 105 = .ok (.iconst 2, 1) := by decide +kernel
theorem dX10_init_106 : decode cX10_init 106 = .ok (.putfield 48, 3) := by decide +kernel
theorem dX10_init_109 : decode cX10_init 109 = .ok (.iconst 0, 1) := by decide +kernel
theorem dX10_init_110 : decode cX10_init 110 = .ok (.istore_n 1, 1) := by decide +kernel
theorem dX10_init_111 : decode cX10_init 111 = .ok (.iload_n 1, 1) := by decide +kernel
theorem dX10_init_112 : decode cX10_init 112 = .ok (.iconst 4, 1) := by decide +kernel
theorem dX10_init_113 : decode cX10_init 113 = .ok (.if_icmp .ge 24, 3) := by decide +kernel
theorem dX10_init_116 : decode cX10_init 116 = .ok (.aload_n 0, 1) := by decide +kernel
theorem dX10_init_117 : decode cX10_init 117 = .ok (.getfield 22, 3) := by decide +kernel
theorem dX10_init_120 : decode cX10_init 120 = .ok (.new 52, 3) := by decide +kernel
theorem dX10_init_123 : decode cX10_init 123 = .ok (.dup, 1) := by decide +kernel
theorem dX10_init_124 : decode cX10_init 124 = .ok (.invokespecial 54, 3) := by decide +kernel
theorem dX10_init_127 : decode cX10_init 127 = .ok (.invokevirtual 55, 3) := by decide +kernel
theorem dX10_init_130 : decode cX10_init 130 = .ok (.pop, 1) := by decide +kernel
theorem dX10_init_131 : decode cX10_init 131 = .ok (.iinc 1 1, 3) := by decide +kernel
theorem dX10_init_134 : decode cX10_init 134 = .ok (.goto (-23), 3) := by decide +kernel
theorem dX10_init_137 : decode cX10_init 137 = .ok (.return_, 1) := by decide +kernel
theorem dX10_feature_0 : decode cX10_feature 0 = .ok (.iload_n 1, 1) := by decide +kernel
theorem dX10_feature_1 : decode cX10_feature 1 = .ok (.ifCond .lt 21, 3) := by decide +kernel
theorem dX10_feature_4 : decode cX10_feature 4 = .ok (.iload_n 1, 1) := by decide +kernel
theorem dX10_feature_5 : decode cX10_feature 5 = .ok (.bipush 6, 2) := by decide +kernel
theorem dX10_feature_7 : decode cX10_feature 7 = .ok (.if_icmp .ge 15, 3) := by decide +kernel
theorem dX10_feature_10 : decode cX10_feature 10 = .ok (.iload_n 2, 1) := by decide +kernel
theorem dX10_feature_11 : decode cX10_feature 11 = .ok (.iload_n 3, 1) := by decide +kernel
theorem dX10_feature_12 : decode cX10_feature 12 = .ok (.invokestatic 59, 3) := by decide +kernel
theorem dX10_feature_15 : decode cX10_feature 15 = .ok (.ifCond .eq 7, 3) := by decide +kernel
theorem dX10_feature_18 : decode cX10_feature 18 = .ok (.iconst 1, 1) := by decide +kernel
theorem dX10_feature_19 : decode cX10_feature 19 = .ok (.goto 4, 3) := by decide +kernel
theorem dX10_feature_22 : decode cX10_feature 22 = .ok (.iconst 0, 1) := by decide +kernel
theorem dX10_feature_23 : decode cX10_feature 23 = .ok (.invokestatic 63, 3) := by decide +kernel
theorem dX10_feature_26 : decode cX10_feature 26 = .ok (.aload_n 0, 1) := by decide +kernel
theorem dX10_feature_27 : decode cX10_feature 27 = .ok (.getfield 10, 3) := by decide +kernel
theorem dX10_feature_30 : decode cX10_feature 30 = .ok (.invokevirtual 67, 3) := by decide +kernel
theorem dX10_feature_33 : decode cX10_feature 33 = .ok (.bipush 24, 2) := by decide +kernel
theorem dX10_feature_35 : decode cX10_feature 35 = .ok (.if_icmp .ge 7, 3) := by decide +kernel
theorem dX10_feature_38 : decode cX10_feature 38 = .ok (.iconst 1, 1) := by decide +kernel
theorem dX10_feature_39 : decode cX10_feature 39 = .ok (.goto 4, 3) := by decide +kernel
theorem dX10_feature_42 : decode cX10_feature 42 = .ok (.iconst 0, 1) := by decide +kernel
theorem dX10_feature_43 : decode cX10_feature 43 = .ok (.invokestatic 71, 3) := by decide +kernel
theorem dX10_feature_46 : decode cX10_feature 46 = .ok (.new 74, 3) := by decide +kernel
theorem dX10_feature_49 : decode cX10_feature 49 = .ok (.dup, 1) := by decide +kernel
theorem dX10_feature_50 : decode cX10_feature 50 = .ok (.iload_n 1, 1) := by decide +kernel
theorem dX10_feature_51 : decode cX10_feature 51 = .ok (.aload_n 0, 1) := by decide +kernel
theorem dX10_feature_52 : decode cX10_feature 52 = .ok (.getfield 76, 3) := by decide +kernel
theorem dX10_feature_55 : decode cX10_feature 55 = .ok (.invokespecial 79, 3) := by decide +kernel
theorem dX10_feature_58 : decode cX10_feature 58 = .ok (.astore 4, 2) := by decide +kernel
theorem dX10_feature_60 : decode cX10_feature 60 = .ok (.aload 4, 2) := by decide +kernel
theorem dX10_feature_62 : decode cX10_feature 62 = .ok (.getfield 82, 3) := by decide +kernel
theorem dX10_feature_65 : decode cX10_feature 65 = .ok (.iload_n 2, 1) := by decide +kernel
theorem dX10_feature_66 : decode cX10_feature 66 = .ok (.iload_n 3, 1) := by decide +kernel
theorem dX10_feature_67 : decode cX10_feature 67 = .ok (.invokestatic 86, 3) := by decide +kernel
theorem dX10_feature_70 : decode cX10_feature 70 = .ok (.aload_n 0, 1) := by decide +kernel
theorem dX10_feature_71 : decode cX10_feature 71 = .ok (.getfield 76, 3) := by decide +kernel
theorem dX10_feature_74 : decode cX10_feature 74 = .ok (.aload_n 0, 1) := by decide +kernel
theorem dX10_feature_75 : decode cX10_feature 75 = .ok (.getfield 76, 3) := by decide +kernel
theorem dX10_feature_78 : decode cX10_feature 78 = .ok (.invokevirtual 90, 3) := by decide +kernel
theorem dX10_feature_81 : decode cX10_feature 81 = .ok (.aload_n 0, 1) := by decide +kernel
theorem dX10_feature_82 : decode cX10_feature 82 = .ok (.getfield 10, 3) := by decide +kernel
theorem dX10_feature_85 : decode cX10_feature 85 = .ok (.aload 4, 2) := by decide +kernel
theorem dX10_feature_87 : decode cX10_feature 87 = .ok (.invokevirtual 55, 3) := by decide +kernel
theorem dX10_feature_90 : decode cX10_feature 90 = .ok (.pop, 1) := by decide +kernel
theorem dX10_feature_91 : decode cX10_feature 91 = .ok (.aload_n 0, 1) := by decide +kernel
theorem dX10_feature_92 : decode cX10_feature 92 = .ok (.getfield 10, 3) := by decide +kernel
theorem dX10_feature_95 : decode cX10_feature 95 = .ok (.invokevirtual 67, 3) := by decide +kernel
theorem dX10_feature_98 : decode cX10_feature 98 = .ok (.iconst 1, 1) := by decide +kernel
theorem dX10_feature_99 : decode cX10_feature 99 = .ok (.isub, 1) := by decide +kernel
theorem dX10_feature_100 : decode cX10_feature 100 = .ok (.ireturn, 1) := by decide +kernel
theorem dX10_move_0 : decode cX10_move 0 = .ok (.aload_n 0, 1) := by decide +kernel
theorem dX10_move_1 : decode cX10_move 1 = .ok (.iload_n 1, 1) := by decide +kernel
theorem dX10_move_2 : decode cX10_move 2 = .ok (.invokevirtual 96, 3) := by decide +kernel
theorem dX10_move_5 : decode cX10_move 5 = .ok (.astore 5, 2) := by decide +kernel
theorem dX10_move_7 : decode cX10_move 7 = .ok (.iload_n 2, 1) := by decide +kernel
theorem dX10_move_8 : decode cX10_move 8 = .ok (.iload_n 3, 1) := by decide +kernel
theorem dX10_move_9 : decode cX10_move 9 = .ok (.invokestatic 59, 3) := by decide +kernel
theorem dX10_move_12 : decode cX10_move 12 = .ok (.ifCond .eq 15, 3) := by decide +kernel
theorem dX10_move_15 : decode cX10_move 15 = .ok (.iload 4, 2) := by decide +kernel
theorem dX10_move_17 : decode cX10_move 17 = .ok (.invokestatic 100, 3) := by decide +kernel
theorem dX10_move_20 : decode cX10_move 20 = .ok (.ifCond .eq 7, 3) := by decide +kernel
theorem dX10_move_23 : decode cX10_move 23 = .ok (.iconst 1, 1) := by decide +kernel
theorem dX10_move_24 : decode cX10_move 24 = .ok (.goto 4, 3) := by decide +kernel
theorem dX10_move_27 : decode cX10_move 27 = .ok (.iconst 0, 1) := by decide +kernel
theorem dX10_move_28 : decode cX10_move 28 = .ok (.invokestatic 63, 3) := by decide +kernel
theorem dX10_move_31 : decode cX10_move 31 = .ok (.aload 5, 2) := by decide +kernel
theorem dX10_move_33 : decode cX10_move 33 = .ok (.getfield 82, 3) := by decide +kernel
theorem dX10_move_36 : decode cX10_move 36 = .ok (.invokevirtual 104, 3) := by decide +kernel
theorem dX10_move_39 : decode cX10_move 39 = .ok (.ifCond .ne 7, 3) := by decide +kernel
theorem dX10_move_42 : decode cX10_move 42 = .ok (.iconst 1, 1) := by decide +kernel
theorem dX10_move_43 : decode cX10_move 43 = .ok (.goto 4, 3) := by decide +kernel
theorem dX10_move_46 : decode cX10_move 46 = .ok (.iconst 0, 1) := by decide +kernel
theorem dX10_move_47 : decode cX10_move 47 = .ok (.invokestatic 71, 3) := by decide +kernel
theorem dX10_move_50 : decode cX10_move 50 = .ok (.aload 5, 2) := by decide +kernel
theorem dX10_move_52 : decode cX10_move 52 = .ok (.getfield 82, 3) := by decide +kernel
theorem dX10_move_55 : decode cX10_move 55 = .ok (.iload_n 2, 1) := by decide +kernel
theorem dX10_move_56 : decode cX10_move 56 = .ok (.iload_n 3, 1) := by decide +kernel
theorem dX10_move_57 : decode cX10_move 57 = .ok (.invokestatic 86, 3) := by decide +kernel
theorem dX10_move_60 : decode cX10_move 60 = .ok (.iload 4, 2) := by decide +kernel
theorem dX10_move_62 : decode cX10_move 62 = .ok (.aload_n 0, 1) := by decide +kernel
theorem dX10_move_63 : decode cX10_move 63 = .ok (.getfield 76, 3) := by decide +kernel
theorem dX10_move_66 : decode cX10_move 66 = .ok (.invokevirtual 90, 3) := by decide +kernel
theorem dX10_move_69 : decode cX10_move 69 = .ok (.return_, 1) := by decide +kernel
theorem dX10_part_0 : decode cX10_part 0 = .ok (.aload_n 0, 1) := by decide +kernel
theorem dX10_part_1 : decode cX10_part 1 = .ok (.iload_n 1, 1) := by decide +kernel
theorem dX10_part_2 : decode cX10_part 2 = .ok (.invokevirtual 96, 3) := by decide +kernel
theorem dX10_part_5 : decode cX10_part 5 = .ok (.astore 4, 2) := by decide +kernel
theorem dX10_part_7 : decode cX10_part 7 = .ok (.aload_n 0, 1) := by decide +kernel
theorem dX10_part_8 : decode cX10_part 8 = .ok (.iload_n 2, 1) := by decide +kernel
theorem dX10_part_9 : decode cX10_part 9 = .ok (.invokevirtual 108, 3) := by decide +kernel
theorem dX10_part_12 : decode cX10_part 12 = .ok (.iload_n 2, 1) := by decide +kernel
theorem dX10_part_13 : decode cX10_part 13 = .ok (.iload_n 1, 1) := by decide +kernel
theorem dX10_part_14 : decode cX10_part 14 = .ok (.if_icmp .ge 14, 3) := by decide +kernel
theorem dX10_part_17 : decode cX10_part 17 = .ok (.iload_n 3, 1) := by decide +kernel
theorem dX10_part_18 : decode cX10_part 18 = .ok (.invokestatic 100, 3) := by decide +kernel
theorem dX10_part_21 : decode cX10_part 21 = .ok (.ifCond .eq 7, 3) := by decide +kernel
theorem dX10_part_24 : decode cX10_part 24 = .ok (.iconst 1, 1) := by decide +kernel
theorem dX10_part_25 : decode cX10_part 25 = .ok (.goto 4, 3) := by decide +kernel
theorem dX10_part_28 : decode cX10_part 28 = .ok (.iconst 0, 1) := by decide +kernel
theorem dX10_part_29 : decode cX10_part 29 = .ok (.invokestatic 63, 3) := by decide +kernel
theorem dX10_part_32 : decode cX10_part 32 = .ok (.aload 4, 2) := by decide +kernel
theorem dX10_part_34 : decode cX10_part 34 = .ok (.getfield 112, 3) := by decide +kernel
theorem dX10_part_37 : decode cX10_part 37 = .ok (.invokevirtual 104, 3) := by decide +kernel
theorem dX10_part_40 : decode cX10_part 40 = .ok (.ifCond .ne 7, 3) := by decide +kernel
theorem dX10_part_43 : decode cX10_part 43 = .ok (.iconst 1, 1) := by decide +kernel
theorem dX10_part_44 : decode cX10_part 44 = .ok (.goto 4, 3) := by decide +kernel
theorem dX10_part_47 : decode cX10_part 47 = .ok (.iconst 0, 1) := by decide +kernel
theorem dX10_part_48 : decode cX10_part 48 = .ok (.invokestatic 71, 3) := by decide +kernel
theorem dX10_part_51 : decode cX10_part 51 = .ok (.aload 4, 2) := by decide +kernel
theorem dX10_part_53 : decode cX10_part 53 = .ok (.getfield 112, 3) := by decide +kernel
theorem dX10_part_56 : decode cX10_part 56 = .ok (.iload_n 2, 1) := by decide +kernel
theorem dX10_part_57 : decode cX10_part 57 = .ok (.iload_n 3, 1) := by decide +kernel
theorem dX10_part_58 : decode cX10_part 58 = .ok (.aload_n 0, 1) := by decide +kernel
theorem dX10_part_59 : decode cX10_part 59 = .ok (.getfield 76, 3) := by decide +kernel
theorem dX10_part_62 : decode cX10_part 62 = .ok (.invokevirtual 90, 3) := by decide +kernel
theorem dX10_part_65 : decode cX10_part 65 = .ok (.return_, 1) := by decide +kernel
theorem dX10_end_0 : decode cX10_end 0 = .ok (.aload_n 0, 1) := by decide +kernel
theorem dX10_end_1 : decode cX10_end 1 = .ok (.iload_n 1, 1) := by decide +kernel
theorem dX10_end_2 : decode cX10_end 2 = .ok (.invokevirtual 96, 3) := by decide +kernel
theorem dX10_end_5 : decode cX10_end 5 = .ok (.astore 4, 2) := by decide +kernel
theorem dX10_end_7 : decode cX10_end 7 = .ok (.aload_n 0, 1) := by decide +kernel
theorem dX10_end_8 : decode cX10_end 8 = .ok (.iload_n 2, 1) := by decide +kernel
theorem dX10_end_9 : decode cX10_end 9 = .ok (.invokevirtual 108, 3) := by decide +kernel
theorem dX10_end_12 : decode cX10_end 12 = .ok (.iload_n 2, 1) := by decide +kernel
theorem dX10_end_13 : decode cX10_end 13 = .ok (.iload_n 1, 1) := by decide +kernel
theorem dX10_end_14 : decode cX10_end 14 = .ok (.if_icmp .eq 14, 3) := by decide +kernel
theorem dX10_end_17 : decode cX10_end 17 = .ok (.iload_n 3, 1) := by decide +kernel
theorem dX10_end_18 : decode cX10_end 18 = .ok (.invokestatic 100, 3) := by decide +kernel
theorem dX10_end_21 : decode cX10_end 21 = .ok (.ifCond .eq 7, 3) := by decide +kernel
theorem dX10_end_24 : decode cX10_end 24 = .ok (.iconst 1, 1) := by decide +kernel
theorem dX10_end_25 : decode cX10_end 25 = .ok (.goto 4, 3) := by decide +kernel
theorem dX10_end_28 : decode cX10_end 28 = .ok (.iconst 0, 1) := by decide +kernel
theorem dX10_end_29 : decode cX10_end 29 = .ok (.invokestatic 63, 3) := by decide +kernel
theorem dX10_end_32 : decode cX10_end 32 = .ok (.aload 4, 2) := by decide +kernel
theorem dX10_end_34 : decode cX10_end 34 = .ok (.getfield 115, 3) := by decide +kernel
theorem dX10_end_37 : decode cX10_end 37 = .ok (.ifCond .ne 7, 3) := by decide +kernel
theorem dX10_end_40 : decode cX10_end 40 = .ok (.iconst 1, 1) := by decide +kernel
theorem dX10_end_41 : decode cX10_end 41 = .ok (.goto 4, 3) := by decide +kernel
theorem dX10_end_44 : decode cX10_end 44 = .ok (.iconst 0, 1) := by decide +kernel
theorem dX10_end_45 : decode cX10_end 45 = .ok (.invokestatic 71, 3) := by decide +kernel
theorem dX10_end_48 : decode cX10_end 48 = .ok (.aload 4, 2) := by decide +kernel
theorem dX10_end_50 : decode cX10_end 50 = .ok (.iconst 1, 1) := by decide +kernel
theorem dX10_end_51 : decode cX10_end 51 = .ok (.putfield 115, 3) := by decide +kernel
theorem dX10_end_54 : decode cX10_end 54 = .ok (.aload 4, 2) := by decide +kernel
theorem dX10_end_56 : decode cX10_end 56 = .ok (.aload_n 0, 1) := by decide +kernel
theorem dX10_end_57 : decode cX10_end 57 = .ok (.getfield 76, 3) := by decide +kernel
theorem dX10_end_60 : decode cX10_end 60 = .ok (.putfield 119, 3) := by decide +kernel
theorem dX10_end_63 : decode cX10_end 63 = .ok (.aload 4, 2) := by decide +kernel
theorem dX10_end_65 : decode cX10_end 65 = .ok (.iload_n 3, 1) := by decide +kernel
theorem dX10_end_66 : decode cX10_end 66 = .ok (.putfield 122, 3) := by decide +kernel
theorem dX10_end_69 : decode cX10_end 69 = .ok (.aload 4, 2) := by decide +kernel
theorem dX10_end_71 : decode cX10_end 71 = .ok (.iload_n 2, 1) := by decide +kernel
theorem dX10_end_72 : decode cX10_end 72 = .ok (.putfield 125, 3) := by decide +kernel
theorem dX10_end_75 : decode cX10_end 75 = .ok (.return_, 1) := by decide +kernel
theorem dX10_of_0 : decode cX10_of 0 = .ok (.aload_n 0, 1) := by decide +kernel
theorem dX10_of_1 : decode cX10_of 1 = .ok (.iload_n 1, 1) := by decide +kernel
theorem dX10_of_2 : decode cX10_of 2 = .ok (.invokevirtual 96, 3) := by decide +kernel
theorem dX10_of_5 : decode cX10_of 5 = .ok (.astore 5, 2) := by decide +kernel
theorem dX10_of_7 : decode cX10_of 7 = .ok (.iload_n 2, 1) := by decide +kernel
theorem dX10_of_8 : decode cX10_of 8 = .ok (.ifCond .lt 27, 3) := by decide +kernel
theorem dX10_of_11 : decode cX10_of 11 = .ok (.iload_n 2, 1) := by decide +kernel
theorem dX10_of_12 : decode cX10_of 12 = .ok (.iconst 4, 1) := by decide +kernel
theorem dX10_of_13 : decode cX10_of 13 = .ok (.if_icmp .gt 22, 3) := by decide +kernel
theorem dX10_of_16 : decode cX10_of 16 = .ok (.iload_n 3, 1) := by decide +kernel
theorem dX10_of_17 : decode cX10_of 17 = .ok (.invokestatic 100, 3) := by decide +kernel
theorem dX10_of_20 : decode cX10_of 20 = .ok (.ifCond .eq 15, 3) := by decide +kernel
theorem dX10_of_23 : decode cX10_of 23 = .ok (.iload 4, 2) := by decide +kernel
theorem dX10_of_25 : decode cX10_of 25 = .ok (.invokestatic 100, 3) := by decide +kernel
theorem dX10_of_28 : decode cX10_of 28 = .ok (.ifCond .eq 7, 3) := by decide +kernel
theorem dX10_of_31 : decode cX10_of 31 = .ok (.iconst 1, 1) := by decide +kernel
theorem dX10_of_32 : decode cX10_of 32 = .ok (.goto 4, 3) := by decide +kernel
theorem dX10_of_35 : decode cX10_of 35 = .ok (.iconst 0, 1) := by decide +kernel
theorem dX10_of_36 : decode cX10_of 36 = .ok (.invokestatic 63, 3) := by decide +kernel
theorem dX10_of_39 : decode cX10_of 39 = .ok (.iload_n 2, 1) := by decide +kernel
theorem dX10_of_40 : decode cX10_of 40 = .ok (.tableswitch 91 0 3 #[32, 49, 64, 79], 32) := by decide +kernel
theorem dX10_of_72 : decode cX10_of 72 = .ok (.aload 5, 2) := by decide +kernel
theorem dX10_of_74 : decode cX10_of 74 = .ok (.iload_n 3, 1) := by decide +kernel
theorem dX10_of_75 : decode cX10_of 75 = .ok (.iload 4, 2) := by decide +kernel
theorem dX10_of_77 : decode cX10_of 77 = .ok (.invokevirtual 128, 3) := by decide +kernel
theorem dX10_of_80 : decode cX10_of 80 = .ok (.ifCond .eq 7, 3) := by decide +kernel
theorem dX10_of_83 : decode cX10_of 83 = .ok (.iconst 1, 1) := by decide +kernel
theorem dX10_of_84 : decode cX10_of 84 = .ok (.goto 4, 3) := by decide +kernel
theorem dX10_of_87 : decode cX10_of 87 = .ok (.iconst 0, 1) := by decide +kernel
theorem dX10_of_88 : decode cX10_of 88 = .ok (.ireturn, 1) := by decide +kernel
theorem dX10_of_89 : decode cX10_of 89 = .ok (.aload 5, 2) := by decide +kernel
theorem dX10_of_91 : decode cX10_of 91 = .ok (.getfield 82, 3) := by decide +kernel
theorem dX10_of_94 : decode cX10_of 94 = .ok (.iload_n 3, 1) := by decide +kernel
theorem dX10_of_95 : decode cX10_of 95 = .ok (.iload 4, 2) := by decide +kernel
theorem dX10_of_97 : decode cX10_of 97 = .ok (.invokevirtual 131, 3) := by decide +kernel
theorem dX10_of_100 : decode cX10_of 100 = .ok (.invokestatic 134, 3) := by decide +kernel
theorem dX10_of_103 : decode cX10_of 103 = .ok (.ireturn, 1) := by decide +kernel
theorem dX10_of_104 : decode cX10_of 104 = .ok (.aload 5, 2) := by decide +kernel
theorem dX10_of_106 : decode cX10_of 106 = .ok (.getfield 82, 3) := by decide +kernel
theorem dX10_of_109 : decode cX10_of 109 = .ok (.iload_n 3, 1) := by decide +kernel
theorem dX10_of_110 : decode cX10_of 110 = .ok (.iload 4, 2) := by decide +kernel
theorem dX10_of_112 : decode cX10_of 112 = .ok (.invokevirtual 131, 3) := by decide +kernel
theorem dX10_of_115 : decode cX10_of 115 = .ok (.invokestatic 138, 3) := by decide +kernel
theorem dX10_of_118 : decode cX10_of 118 = .ok (.ireturn, 1) := by decide +kernel
theorem dX10_of_119 : decode cX10_of 119 = .ok (.aload 5, 2) := by decide +kernel
theorem dX10_of_121 : decode cX10_of 121 = .ok (.getfield 112, 3) := by decide +kernel
theorem dX10_of_124 : decode cX10_of 124 = .ok (.iload_n 3, 1) := by decide +kernel
theorem dX10_of_125 : decode cX10_of 125 = .ok (.iload 4, 2) := by decide +kernel
theorem dX10_of_127 : decode cX10_of 127 = .ok (.invokevirtual 131, 3) := by decide +kernel
theorem dX10_of_130 : decode cX10_of 130 = .ok (.ireturn, 1) := by decide +kernel
theorem dX10_of_131 : decode cX10_of 131 = .ok (.aload 5, 2) := by decide +kernel
theorem dX10_of_133 : decode cX10_of 133 = .ok (.iload_n 3, 1) := by decide +kernel
theorem dX10_of_134 : decode cX10_of 134 = .ok (.iload 4, 2) := by decide +kernel
theorem dX10_of_136 : decode cX10_of 136 = .ok (.invokevirtual 141, 3) := by decide +kernel
theorem dX10_of_139 : decode cX10_of 139 = .ok (.ifCond .eq 11, 3) := by decide +kernel
theorem dX10_of_142 : decode cX10_of 142 = .ok (.aload 5, 2) := by decide +kernel
theorem dX10_of_144 : decode cX10_of 144 = .ok (.getfield 125, 3) := by decide +kernel
theorem dX10_of_147 : decode cX10_of 147 = .ok (.goto 4, 3) := by decide +kernel
theorem dX10_of_150 : decode cX10_of 150 = .ok (.iconst (-1), 1) := by decide +kernel
theorem dX10_of_151 : decode cX10_of 151 = .ok (.ireturn, 1) := by decide +kernel
theorem dX10_name_0 : decode cX10_name 0 = .ok (.aload_n 0, 1) := by decide +kernel
theorem dX10_name_1 : decode cX10_name 1 = .ok (.iload_n 1, 1) := by decide +kernel
theorem dX10_name_2 : decode cX10_name 2 = .ok (.invokevirtual 96, 3) := by decide +kernel
theorem dX10_name_5 : decode cX10_name 5 = .ok (.astore 6, 2) := by decide +kernel
theorem dX10_name_7 : decode cX10_name 7 = .ok (.iload_n 2, 1) := by decide +kernel
theorem dX10_name_8 : decode cX10_name 8 = .ok (.invokestatic 144, 3) := by decide +kernel
theorem dX10_name_11 : decode cX10_name 11 = .ok (.lload_n 3, 1) := by decide +kernel
theorem dX10_name_12 : decode cX10_name 12 = .ok (.bipush 8, 2) := by decide +kernel
theorem dX10_name_14 : decode cX10_name 14 = .ok (.invokestatic 147, 3) := by decide +kernel
theorem dX10_name_17 : decode cX10_name 17 = .ok (.ifCond .eq 15, 3) := by decide +kernel
theorem dX10_name_20 : decode cX10_name 20 = .ok (.iload 5, 2) := by decide +kernel
theorem dX10_name_22 : decode cX10_name 22 = .ok (.invokestatic 100, 3) := by decide +kernel
theorem dX10_name_25 : decode cX10_name 25 = .ok (.ifCond .eq 7, 3) := by decide +kernel
theorem dX10_name_28 : decode cX10_name 28 = .ok (.iconst 1, 1) := by decide +kernel
theorem dX10_name_29 : decode cX10_name 29 = .ok (.goto 4, 3) := by decide +kernel
theorem dX10_name_32 : decode cX10_name 32 = .ok (.iconst 0, 1) := by decide +kernel
theorem dX10_name_33 : decode cX10_name 33 = .ok (.invokestatic 63, 3) := by decide +kernel
theorem dX10_name_36 : decode cX10_name 36 = .ok (.aload_n 0, 1) := by decide +kernel
theorem dX10_name_37 : decode cX10_name 37 = .ok (.getfield 151, 3) := by decide +kernel
theorem dX10_name_40 : decode cX10_name 40 = .ok (.bipush 100, 2) := by decide +kernel
theorem dX10_name_42 : decode cX10_name 42 = .ok (.if_icmp .ge 20, 3) := by decide +kernel
theorem dX10_name_45 : decode cX10_name 45 = .ok (.aload_n 0, 1) := by decide +kernel
theorem dX10_name_46 : decode cX10_name 46 = .ok (.aload 6, 2) := by decide +kernel
theorem dX10_name_48 : decode cX10_name 48 = .ok (.iload_n 2, 1) := by decide +kernel
theorem dX10_name_49 : decode cX10_name 49 = .ok (.lload_n 3, 1) := by decide +kernel
theorem dX10_name_50 : decode cX10_name 50 = .ok (.iload 5, 2) := by decide +kernel
theorem dX10_name_52 : decode cX10_name 52 = .ok (.invokevirtual 154, 3) := by decide +kernel
theorem dX10_name_55 : decode cX10_name 55 = .ok (.ifCond .ne 7, 3) := by decide +kernel
theorem dX10_name_58 : decode cX10_name 58 = .ok (.iconst 1, 1) := by decide +kernel
theorem dX10_name_59 : decode cX10_name 59 = .ok (.goto 4, 3) := by decide +kernel
theorem dX10_name_62 : decode cX10_name 62 = .ok (.iconst 0, 1) := by decide +kernel
theorem dX10_name_63 : decode cX10_name 63 = .ok (.invokestatic 71, 3) := by decide +kernel
theorem dX10_name_66 : decode cX10_name 66 = .ok (.aload 6, 2) := by decide +kernel
theorem dX10_name_68 : decode cX10_name 68 = .ok (.getfield 158, 3) := by decide +kernel
theorem dX10_name_71 : decode cX10_name 71 = .ok (.new 161, 3) := by decide +kernel
theorem dX10_name_74 : decode cX10_name 74 = .ok (.dup, 1) := by decide +kernel
theorem dX10_name_75 : decode cX10_name 75 = .ok (.iload_n 2, 1) := by decide +kernel
theorem dX10_name_76 : decode cX10_name 76 = .ok (.lload_n 3, 1) := by decide +kernel
theorem dX10_name_77 : decode cX10_name 77 = .ok (.iload 5, 2) := by decide +kernel
theorem dX10_name_79 : decode cX10_name 79 = .ok (.aload_n 0, 1) := by decide +kernel
theorem dX10_name_80 : decode cX10_name 80 = .ok (.getfield 76, 3) := by decide +kernel
theorem dX10_name_83 : decode cX10_name 83 = .ok (.invokespecial 163, 3) := by decide +kernel
theorem dX10_name_86 : decode cX10_name 86 = .ok (.invokevirtual 55, 3) := by decide +kernel
theorem dX10_name_89 : decode cX10_name 89 = .ok (.pop, 1) := by decide +kernel
theorem dX10_name_90 : decode cX10_name 90 = .ok (.aload_n 0, 1) := by decide +kernel
theorem dX10_name_91 : decode cX10_name 91 = .ok (.dup, 1) := by decide +kernel
theorem dX10_name_92 : decode cX10_name 92 = .ok (.getfield 151, 3) := by decide +kernel
theorem dX10_name_95 : decode cX10_name 95 = .ok (.iconst 1, 1) := by decide +kernel
theorem dX10_name_96 : decode cX10_name 96 = .ok (.iadd, 1) := by decide +kernel
theorem dX10_name_97 : decode cX10_name 97 = .ok (.putfield 151, 3) := by decide +kernel
theorem dX10_name_100 : decode cX10_name 100 = .ok (.aload_n 0, 1) := by decide +kernel
theorem dX10_name_101 : decode cX10_name 101 = .ok (.getfield 151, 3) := by decide +kernel
theorem dX10_name_104 : decode cX10_name 104 = .ok (.ireturn, 1) := by decide +kernel
theorem dX10_law_0 : decode cX10_law 0 = .ok (.iload_n 1, 1) := by decide +kernel
theorem dX10_law_1 : decode cX10_law 1 = .ok (.invokestatic 144, 3) := by decide +kernel
theorem dX10_law_4 : decode cX10_law 4 = .ok (.iload_n 2, 1) := by decide +kernel
theorem dX10_law_5 : decode cX10_law 5 = .ok (.invokestatic 100, 3) := by decide +kernel
theorem dX10_law_8 : decode cX10_law 8 = .ok (.ifCond .eq 30, 3) := by decide +kernel
theorem dX10_law_11 : decode cX10_law 11 = .ok (.iload_n 3, 1) := by decide +kernel
theorem dX10_law_12 : decode cX10_law 12 = .ok (.invokestatic 166, 3) := by decide +kernel
theorem dX10_law_15 : decode cX10_law 15 = .ok (.ifCond .eq 23, 3) := by decide +kernel
theorem dX10_law_18 : decode cX10_law 18 = .ok (.iload 4, 2) := by decide +kernel
theorem dX10_law_20 : decode cX10_law 20 = .ok (.invokestatic 169, 3) := by decide +kernel
theorem dX10_law_23 : decode cX10_law 23 = .ok (.ifCond .eq 15, 3) := by decide +kernel
theorem dX10_law_26 : decode cX10_law 26 = .ok (.iload 5, 2) := by decide +kernel
theorem dX10_law_28 : decode cX10_law 28 = .ok (.invokestatic 169, 3) := by decide +kernel
theorem dX10_law_31 : decode cX10_law 31 = .ok (.ifCond .eq 7, 3) := by decide +kernel
theorem dX10_law_34 : decode cX10_law 34 = .ok (.iconst 1, 1) := by decide +kernel
theorem dX10_law_35 : decode cX10_law 35 = .ok (.goto 4, 3) := by decide +kernel
theorem dX10_law_38 : decode cX10_law 38 = .ok (.iconst 0, 1) := by decide +kernel
theorem dX10_law_39 : decode cX10_law 39 = .ok (.invokestatic 63, 3) := by decide +kernel
theorem dX10_law_42 : decode cX10_law 42 = .ok (.iload 4, 2) := by decide +kernel
theorem dX10_law_44 : decode cX10_law 44 = .ok (.ifCond .ne 8, 3) := by decide +kernel
theorem dX10_law_47 : decode cX10_law 47 = .ok (.iload 5, 2) := by decide +kernel
theorem dX10_law_49 : decode cX10_law 49 = .ok (.ifCond .ne 7, 3) := by decide +kernel
theorem dX10_law_52 : decode cX10_law 52 = .ok (.iconst 1, 1) := by decide +kernel
theorem dX10_law_53 : decode cX10_law 53 = .ok (.goto 4, 3) := by decide +kernel
theorem dX10_law_56 : decode cX10_law 56 = .ok (.iconst 0, 1) := by decide +kernel
theorem dX10_law_57 : decode cX10_law 57 = .ok (.invokestatic 63, 3) := by decide +kernel
theorem dX10_law_60 : decode cX10_law 60 = .ok (.aload_n 0, 1) := by decide +kernel
theorem dX10_law_61 : decode cX10_law 61 = .ok (.getfield 16, 3) := by decide +kernel
theorem dX10_law_64 : decode cX10_law 64 = .ok (.invokevirtual 67, 3) := by decide +kernel
theorem dX10_law_67 : decode cX10_law 67 = .ok (.bipush 12, 2) := by decide +kernel
theorem dX10_law_69 : decode cX10_law 69 = .ok (.if_icmp .ge 7, 3) := by decide +kernel
theorem dX10_law_72 : decode cX10_law 72 = .ok (.iconst 1, 1) := by decide +kernel
theorem dX10_law_73 : decode cX10_law 73 = .ok (.goto 4, 3) := by decide +kernel
theorem dX10_law_76 : decode cX10_law 76 = .ok (.iconst 0, 1) := by decide +kernel
theorem dX10_law_77 : decode cX10_law 77 = .ok (.invokestatic 71, 3) := by decide +kernel
theorem dX10_law_80 : decode cX10_law 80 = .ok (.new 172, 3) := by decide +kernel
theorem dX10_law_83 : decode cX10_law 83 = .ok (.dup, 1) := by decide +kernel
theorem dX10_law_84 : decode cX10_law 84 = .ok (.iload_n 1, 1) := by decide +kernel
theorem dX10_law_85 : decode cX10_law 85 = .ok (.iload_n 2, 1) := by decide +kernel
theorem dX10_law_86 : decode cX10_law 86 = .ok (.aload_n 0, 1) := by decide +kernel
theorem dX10_law_87 : decode cX10_law 87 = .ok (.getfield 76, 3) := by decide +kernel
theorem dX10_law_90 : decode cX10_law 90 = .ok (.iload_n 3, 1) := by decide +kernel
theorem dX10_law_91 : decode cX10_law 91 = .ok (.iload 4, 2) := by decide +kernel
theorem dX10_law_93 : decode cX10_law 93 = .ok (.iload 5, 2) := by decide +kernel
theorem dX10_law_95 : decode cX10_law 95 = .ok (.invokespecial 174, 3) := by decide +kernel
theorem dX10_law_98 : decode cX10_law 98 = .ok (.astore 6, 2) := by decide +kernel
theorem dX10_law_100 : decode cX10_law 100 = .ok (.aload_n 0, 1) := by decide +kernel
theorem dX10_law_101 : decode cX10_law 101 = .ok (.getfield 16, 3) := by decide +kernel
theorem dX10_law_104 : decode cX10_law 104 = .ok (.aload_n 0, 1) := by decide +kernel
theorem dX10_law_105 : decode cX10_law 105 = .ok (.iload_n 2, 1) := by decide +kernel
theorem dX10_law_106 : decode cX10_law 106 = .ok (.invokevirtual 177, 3) := by decide +kernel
theorem dX10_law_109 : decode cX10_law 109 = .ok (.aload 6, 2) := by decide +kernel
theorem dX10_law_111 : decode cX10_law 111 = .ok (.invokevirtual 180, 3) := by decide +kernel
theorem dX10_law_114 : decode cX10_law 114 = .ok (.aload_n 0, 1) := by decide +kernel
theorem dX10_law_115 : decode cX10_law 115 = .ok (.getfield 16, 3) := by decide +kernel
theorem dX10_law_118 : decode cX10_law 118 = .ok (.invokevirtual 67, 3) := by decide +kernel
theorem dX10_law_121 : decode cX10_law 121 = .ok (.ireturn, 1) := by decide +kernel
theorem dX10_except_0 : decode cX10_except 0 = .ok (.aload_n 0, 1) := by decide +kernel
theorem dX10_except_1 : decode cX10_except 1 = .ok (.iload_n 1, 1) := by decide +kernel
theorem dX10_except_2 : decode cX10_except 2 = .ok (.invokevirtual 96, 3) := by decide +kernel
theorem dX10_except_5 : decode cX10_except 5 = .ok (.astore 4, 2) := by decide +kernel
theorem dX10_except_7 : decode cX10_except 7 = .ok (.iload_n 2, 1) := by decide +kernel
theorem dX10_except_8 : decode cX10_except 8 = .ok (.invokestatic 144, 3) := by decide +kernel
theorem dX10_except_11 : decode cX10_except 11 = .ok (.iload_n 3, 1) := by decide +kernel
theorem dX10_except_12 : decode cX10_except 12 = .ok (.invokestatic 100, 3) := by decide +kernel
theorem dX10_except_15 : decode cX10_except 15 = .ok (.invokestatic 63, 3) := by decide +kernel
theorem dX10_except_18 : decode cX10_except 18 = .ok (.aload_n 0, 1) := by decide +kernel
theorem dX10_except_19 : decode cX10_except 19 = .ok (.getfield 183, 3) := by decide +kernel
theorem dX10_except_22 : decode cX10_except 22 = .ok (.bipush 40, 2) := by decide +kernel
theorem dX10_except_24 : decode cX10_except 24 = .ok (.if_icmp .ge 7, 3) := by decide +kernel
theorem dX10_except_27 : decode cX10_except 27 = .ok (.iconst 1, 1) := by decide +kernel
theorem dX10_except_28 : decode cX10_except 28 = .ok (.goto 4, 3) := by decide +kernel
theorem dX10_except_31 : decode cX10_except 31 = .ok (.iconst 0, 1) := by decide +kernel
theorem dX10_except_32 : decode cX10_except 32 = .ok (.invokestatic 71, 3) := by decide +kernel
theorem dX10_except_35 : decode cX10_except 35 = .ok (.aload 4, 2) := by decide +kernel
theorem dX10_except_37 : decode cX10_except 37 = .ok (.getfield 186, 3) := by decide +kernel
theorem dX10_except_40 : decode cX10_except 40 = .ok (.new 189, 3) := by decide +kernel
theorem dX10_except_43 : decode cX10_except 43 = .ok (.dup, 1) := by decide +kernel
theorem dX10_except_44 : decode cX10_except 44 = .ok (.iload_n 2, 1) := by decide +kernel
theorem dX10_except_45 : decode cX10_except 45 = .ok (.iload_n 3, 1) := by decide +kernel
theorem dX10_except_46 : decode cX10_except 46 = .ok (.aload_n 0, 1) := by decide +kernel
theorem dX10_except_47 : decode cX10_except 47 = .ok (.getfield 76, 3) := by decide +kernel
theorem dX10_except_50 : decode cX10_except 50 = .ok (.invokespecial 191, 3) := by decide +kernel
theorem dX10_except_53 : decode cX10_except 53 = .ok (.invokevirtual 55, 3) := by decide +kernel
theorem dX10_except_56 : decode cX10_except 56 = .ok (.pop, 1) := by decide +kernel
theorem dX10_except_57 : decode cX10_except 57 = .ok (.aload_n 0, 1) := by decide +kernel
theorem dX10_except_58 : decode cX10_except 58 = .ok (.dup, 1) := by decide +kernel
theorem dX10_except_59 : decode cX10_except 59 = .ok (.getfield 183, 3) := by decide +kernel
theorem dX10_except_62 : decode cX10_except 62 = .ok (.iconst 1, 1) := by decide +kernel
theorem dX10_except_63 : decode cX10_except 63 = .ok (.iadd, 1) := by decide +kernel
theorem dX10_except_64 : decode cX10_except 64 = .ok (.putfield 183, 3) := by decide +kernel
theorem dX10_except_67 : decode cX10_except 67 = .ok (.return_, 1) := by decide +kernel
theorem dX10_form_0 : decode cX10_form 0 = .ok (.aload_n 0, 1) := by decide +kernel
theorem dX10_form_1 : decode cX10_form 1 = .ok (.iload_n 1, 1) := by decide +kernel
theorem dX10_form_2 : decode cX10_form 2 = .ok (.invokevirtual 96, 3) := by decide +kernel
theorem dX10_form_5 : decode cX10_form 5 = .ok (.astore 5, 2) := by decide +kernel
theorem dX10_form_7 : decode cX10_form 7 = .ok (.iload_n 2, 1) := by decide +kernel
theorem dX10_form_8 : decode cX10_form 8 = .ok (.invokestatic 144, 3) := by decide +kernel
theorem dX10_form_11 : decode cX10_form 11 = .ok (.iload_n 3, 1) := by decide +kernel
theorem dX10_form_12 : decode cX10_form 12 = .ok (.invokestatic 100, 3) := by decide +kernel
theorem dX10_form_15 : decode cX10_form 15 = .ok (.ifCond .eq 15, 3) := by decide +kernel
theorem dX10_form_18 : decode cX10_form 18 = .ok (.iload 4, 2) := by decide +kernel
theorem dX10_form_20 : decode cX10_form 20 = .ok (.invokestatic 100, 3) := by decide +kernel
theorem dX10_form_23 : decode cX10_form 23 = .ok (.ifCond .eq 7, 3) := by decide +kernel
theorem dX10_form_26 : decode cX10_form 26 = .ok (.iconst 1, 1) := by decide +kernel
theorem dX10_form_27 : decode cX10_form 27 = .ok (.goto 4, 3) := by decide +kernel
theorem dX10_form_30 : decode cX10_form 30 = .ok (.iconst 0, 1) := by decide +kernel
theorem dX10_form_31 : decode cX10_form 31 = .ok (.invokestatic 63, 3) := by decide +kernel
theorem dX10_form_34 : decode cX10_form 34 = .ok (.aload_n 0, 1) := by decide +kernel
theorem dX10_form_35 : decode cX10_form 35 = .ok (.aload 5, 2) := by decide +kernel
theorem dX10_form_37 : decode cX10_form 37 = .ok (.iload_n 2, 1) := by decide +kernel
theorem dX10_form_38 : decode cX10_form 38 = .ok (.iload_n 3, 1) := by decide +kernel
theorem dX10_form_39 : decode cX10_form 39 = .ok (.iload 4, 2) := by decide +kernel
theorem dX10_form_41 : decode cX10_form 41 = .ok (.invokevirtual 193, 3) := by decide +kernel
theorem dX10_form_44 : decode cX10_form 44 = .ok (.lreturn, 1) := by decide +kernel
theorem dX10_petition_0 : decode cX10_petition 0 = .ok (.aload_n 0, 1) := by decide +kernel
theorem dX10_petition_1 : decode cX10_petition 1 = .ok (.iload_n 1, 1) := by decide +kernel
theorem dX10_petition_2 : decode cX10_petition 2 = .ok (.invokevirtual 96, 3) := by decide +kernel
theorem dX10_petition_5 : decode cX10_petition 5 = .ok (.astore 6, 2) := by decide +kernel
theorem dX10_petition_7 : decode cX10_petition 7 = .ok (.iload_n 2, 1) := by decide +kernel
theorem dX10_petition_8 : decode cX10_petition 8 = .ok (.invokestatic 144, 3) := by decide +kernel
theorem dX10_petition_11 : decode cX10_petition 11 = .ok (.lload_n 3, 1) := by decide +kernel
theorem dX10_petition_12 : decode cX10_petition 12 = .ok (.bipush 8, 2) := by decide +kernel
theorem dX10_petition_14 : decode cX10_petition 14 = .ok (.invokestatic 147, 3) := by decide +kernel
theorem dX10_petition_17 : decode cX10_petition 17 = .ok (.ifCond .eq 27, 3) := by decide +kernel
theorem dX10_petition_20 : decode cX10_petition 20 = .ok (.iload 5, 2) := by decide +kernel
theorem dX10_petition_22 : decode cX10_petition 22 = .ok (.invokestatic 100, 3) := by decide +kernel
theorem dX10_petition_25 : decode cX10_petition 25 = .ok (.ifCond .eq 19, 3) := by decide +kernel
theorem dX10_petition_28 : decode cX10_petition 28 = .ok (.iload 5, 2) := by decide +kernel
theorem dX10_petition_30 : decode cX10_petition 30 = .ok (.aload_n 0, 1) := by decide +kernel
theorem dX10_petition_31 : decode cX10_petition 31 = .ok (.getfield 76, 3) := by decide +kernel
theorem dX10_petition_34 : decode cX10_petition 34 = .ok (.bipush 30, 2) := by decide +kernel
theorem dX10_petition_36 : decode cX10_petition 36 = .ok (.iadd, 1) := by decide +kernel
theorem dX10_petition_37 : decode cX10_petition 37 = .ok (.if_icmp .lt 7, 3) := by decide +kernel
theorem dX10_petition_40 : decode cX10_petition 40 = .ok (.iconst 1, 1) := by decide +kernel
theorem dX10_petition_41 : decode cX10_petition 41 = .ok (.goto 4, 3) := by decide +kernel
theorem dX10_petition_44 : decode cX10_petition 44 = .ok (.iconst 0, 1) := by decide +kernel
theorem dX10_petition_45 : decode cX10_petition 45 = .ok (.invokestatic 63, 3) := by decide +kernel
theorem dX10_petition_48 : decode cX10_petition 48 = .ok (.aload_n 0, 1) := by decide +kernel
theorem dX10_petition_49 : decode cX10_petition 49 = .ok (.getfield 19, 3) := by decide +kernel
theorem dX10_petition_52 : decode cX10_petition 52 = .ok (.invokevirtual 67, 3) := by decide +kernel
theorem dX10_petition_55 : decode cX10_petition 55 = .ok (.bipush 16, 2) := by decide +kernel
theorem dX10_petition_57 : decode cX10_petition 57 = .ok (.if_icmp .ge 7, 3) := by decide +kernel
theorem dX10_petition_60 : decode cX10_petition 60 = .ok (.iconst 1, 1) := by decide +kernel
theorem dX10_petition_61 : decode cX10_petition 61 = .ok (.goto 4, 3) := by decide +kernel
theorem dX10_petition_64 : decode cX10_petition 64 = .ok (.iconst 0, 1) := by decide +kernel
theorem dX10_petition_65 : decode cX10_petition 65 = .ok (.invokestatic 71, 3) := by decide +kernel
theorem dX10_petition_68 : decode cX10_petition 68 = .ok (.aload_n 0, 1) := by decide +kernel
theorem dX10_petition_69 : decode cX10_petition 69 = .ok (.getfield 19, 3) := by decide +kernel
theorem dX10_petition_72 : decode cX10_petition 72 = .ok (.new 197, 3) := by decide +kernel
theorem dX10_petition_75 : decode cX10_petition 75 = .ok (.dup, 1) := by decide +kernel
theorem dX10_petition_76 : decode cX10_petition 76 = .ok (.aload 6, 2) := by decide +kernel
theorem dX10_petition_78 : decode cX10_petition 78 = .ok (.iload_n 2, 1) := by decide +kernel
theorem dX10_petition_79 : decode cX10_petition 79 = .ok (.lload_n 3, 1) := by decide +kernel
theorem dX10_petition_80 : decode cX10_petition 80 = .ok (.iload 5, 2) := by decide +kernel
theorem dX10_petition_82 : decode cX10_petition 82 = .ok (.invokespecial 199, 3) := by decide +kernel
theorem dX10_petition_85 : decode cX10_petition 85 = .ok (.invokevirtual 55, 3) := by decide +kernel
theorem dX10_petition_88 : decode cX10_petition 88 = .ok (.pop, 1) := by decide +kernel
theorem dX10_petition_89 : decode cX10_petition 89 = .ok (.aload_n 0, 1) := by decide +kernel
theorem dX10_petition_90 : decode cX10_petition 90 = .ok (.getfield 19, 3) := by decide +kernel
theorem dX10_petition_93 : decode cX10_petition 93 = .ok (.invokevirtual 67, 3) := by decide +kernel
theorem dX10_petition_96 : decode cX10_petition 96 = .ok (.iconst 1, 1) := by decide +kernel
theorem dX10_petition_97 : decode cX10_petition 97 = .ok (.isub, 1) := by decide +kernel
theorem dX10_petition_98 : decode cX10_petition 98 = .ok (.ireturn, 1) := by decide +kernel
theorem dX10_vote_0 : decode cX10_vote 0 = .ok (.aload_n 0, 1) := by decide +kernel
theorem dX10_vote_1 : decode cX10_vote 1 = .ok (.iload_n 1, 1) := by decide +kernel
theorem dX10_vote_2 : decode cX10_vote 2 = .ok (.invokevirtual 202, 3) := by decide +kernel
theorem dX10_vote_5 : decode cX10_vote 5 = .ok (.astore 4, 2) := by decide +kernel
theorem dX10_vote_7 : decode cX10_vote 7 = .ok (.iload_n 2, 1) := by decide +kernel
theorem dX10_vote_8 : decode cX10_vote 8 = .ok (.bipush 9, 2) := by decide +kernel
theorem dX10_vote_10 : decode cX10_vote 10 = .ok (.invokestatic 206, 3) := by decide +kernel
