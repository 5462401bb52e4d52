theorem dX0_init_0 : decode cX0_init 0 = .ok (.aload_n 0, 1) := by decide +kernel
theorem dX0_init_1 : decode cX0_init 1 = .ok (.invokespecial 3, 3) := by decide +kernel
theorem dX0_init_4 : decode cX0_init 4 = .ok (.aload_n 0, 1) := by decide +kernel
theorem dX0_init_5 : decode cX0_init 5 = .ok (.iconst 4, 1) := by decide +kernel
theorem dX0_init_6 : decode cX0_init 6 = .ok (.newarray .int, 2) := by decide +kernel
theorem dX0_init_8 : decode cX0_init 8 = .ok (.putfield 9, 3) := by decide +kernel
theorem dX0_init_11 : decode cX0_init 11 = .ok (.aload_n 0, 1) := by decide +kernel
theorem dX0_init_12 : decode cX0_init 12 = .ok (.bipush 16, 2) := by decide +kernel
theorem dX0_init_14 : decode cX0_init 14 = .ok (.newarray .int, 2) := by decide +kernel
theorem dX0_init_16 : decode cX0_init 16 = .ok (.putfield 15, 3) := by decide +kernel
theorem dX0_init_19 : decode cX0_init 19 = .ok (.aload_n 0, 1) := by decide +kernel
theorem dX0_init_20 : decode cX0_init 20 = .ok (.bipush 16, 2) := by decide +kernel
theorem dX0_init_22 : decode cX0_init 22 = .ok (.newarray .int, 2) := by decide +kernel
theorem dX0_init_24 : decode cX0_init 24 = .ok (.putfield 18, 3) := by decide +kernel
theorem dX0_init_27 : decode cX0_init 27 = .ok (.return_, 1) := by decide +kernel
theorem dX0_begin_0 : decode cX0_begin 0 = .ok (.iconst 0, 1) := by decide +kernel
theorem dX0_begin_1 : decode cX0_begin 1 = .ok (.istore_n 1, 1) := by decide +kernel
theorem dX0_begin_2 : decode cX0_begin 2 = .ok (.iload_n 1, 1) := by decide +kernel
theorem dX0_begin_3 : decode cX0_begin 3 = .ok (.bipush 16, 2) := by decide +kernel
theorem dX0_begin_5 : decode cX0_begin 5 = .ok (.if_icmp .ge 39, 3) := by decide +kernel
theorem dX0_begin_8 : decode cX0_begin 8 = .ok (.aload_n 0, 1) := by decide +kernel
theorem dX0_begin_9 : decode cX0_begin 9 = .ok (.getfield 15, 3) := by decide +kernel
theorem dX0_begin_12 : decode cX0_begin 12 = .ok (.iload_n 1, 1) := by decide +kernel
theorem dX0_begin_13 : decode cX0_begin 13 = .ok (.iload_n 1, 1) := by decide +kernel
theorem dX0_begin_14 : decode cX0_begin 14 = .ok (.ifCond .ne 7, 3) := by decide +kernel
theorem dX0_begin_17 : decode cX0_begin 17 = .ok (.iconst 1, 1) := by decide +kernel
theorem dX0_begin_18 : decode cX0_begin 18 = .ok (.goto 4, 3) := by decide +kernel
theorem dX0_begin_21 : decode cX0_begin 21 = .ok (.iconst 0, 1) := by decide +kernel
theorem dX0_begin_22 : decode cX0_begin 22 = .ok (.iastore, 1) := by decide +kernel
theorem dX0_begin_23 : decode cX0_begin 23 = .ok (.aload_n 0, 1) := by decide +kernel
theorem dX0_begin_24 : decode cX0_begin 24 = .ok (.getfield 18, 3) := by decide +kernel
theorem dX0_begin_27 : decode cX0_begin 27 = .ok (.iload_n 1, 1) := by decide +kernel
theorem dX0_begin_28 : decode cX0_begin 28 = .ok (.iload_n 1, 1) := by decide +kernel
theorem dX0_begin_29 : decode cX0_begin 29 = .ok (.ifCond .ne 7, 3) := by decide +kernel
theorem dX0_begin_32 : decode cX0_begin 32 = .ok (.iconst 0, 1) := by decide +kernel
theorem dX0_begin_33 : decode cX0_begin 33 = .ok (.goto 4, 3) := by decide +kernel
theorem dX0_begin_36 : decode cX0_begin 36 = .ok (.iconst (-1), 1) := by decide +kernel
theorem dX0_begin_37 : decode cX0_begin 37 = .ok (.iastore, 1) := by decide +kernel
theorem dX0_begin_38 : decode cX0_begin 38 = .ok (.iinc 1 1, 3) := by decide +kernel
theorem dX0_begin_41 : decode cX0_begin 41 = .ok (.goto (-39), 3) := by decide +kernel
theorem dX0_begin_44 : decode cX0_begin 44 = .ok (.return_, 1) := by decide +kernel
theorem dX0_setCost_0 : decode cX0_setCost 0 = .ok (.iload_n 1, 1) := by decide +kernel
theorem dX0_setCost_1 : decode cX0_setCost 1 = .ok (.ifCond .lt 19, 3) := by decide +kernel
theorem dX0_setCost_4 : decode cX0_setCost 4 = .ok (.iload_n 1, 1) := by decide +kernel
theorem dX0_setCost_5 : decode cX0_setCost 5 = .ok (.aload_n 0, 1) := by decide +kernel
theorem dX0_setCost_6 : decode cX0_setCost 6 = .ok (.getfield 9, 3) := by decide +kernel
theorem dX0_setCost_9 : decode cX0_setCost 9 = .ok (.arraylength, 1) := by decide +kernel
theorem dX0_setCost_10 : decode cX0_setCost 10 = .ok (.if_icmp .ge 10, 3) := by decide +kernel
theorem dX0_setCost_13 : decode cX0_setCost 13 = .ok (.aload_n 0, 1) := by decide +kernel
theorem dX0_setCost_14 : decode cX0_setCost 14 = .ok (.getfield 9, 3) := by decide +kernel
theorem dX0_setCost_17 : decode cX0_setCost 17 = .ok (.iload_n 1, 1) := by decide +kernel
theorem dX0_setCost_18 : decode cX0_setCost 18 = .ok (.iload_n 2, 1) := by decide +kernel
theorem dX0_setCost_19 : decode cX0_setCost 19 = .ok (.iastore, 1) := by decide +kernel
theorem dX0_setCost_20 : decode cX0_setCost 20 = .ok (.return_, 1) := by decide +kernel
theorem dX0_addFeature_0 : decode cX0_addFeature 0 = .ok (.bipush 15, 2) := by decide +kernel
theorem dX0_addFeature_2 : decode cX0_addFeature 2 = .ok (.istore_n 1, 1) := by decide +kernel
theorem dX0_addFeature_3 : decode cX0_addFeature 3 = .ok (.iload_n 1, 1) := by decide +kernel
theorem dX0_addFeature_4 : decode cX0_addFeature 4 = .ok (.ifCond .lt 75, 3) := by decide +kernel
theorem dX0_addFeature_7 : decode cX0_addFeature 7 = .ok (.iconst 0, 1) := by decide +kernel
theorem dX0_addFeature_8 : decode cX0_addFeature 8 = .ok (.istore_n 2, 1) := by decide +kernel
theorem dX0_addFeature_9 : decode cX0_addFeature 9 = .ok (.iload_n 2, 1) := by decide +kernel
theorem dX0_addFeature_10 : decode cX0_addFeature 10 = .ok (.iconst 4, 1) := by decide +kernel
theorem dX0_addFeature_11 : decode cX0_addFeature 11 = .ok (.if_icmp .ge 62, 3) := by decide +kernel
theorem dX0_addFeature_14 : decode cX0_addFeature 14 = .ok (.iload_n 1, 1) := by decide +kernel
theorem dX0_addFeature_15 : decode cX0_addFeature 15 = .ok (.iconst 1, 1) := by decide +kernel
theorem dX0_addFeature_16 : decode cX0_addFeature 16 = .ok (.iload_n 2, 1) := by decide +kernel
theorem dX0_addFeature_17 : decode cX0_addFeature 17 = .ok (.ishl, 1) := by decide +kernel
theorem dX0_addFeature_18 : decode cX0_addFeature 18 = .ok (.iand, 1) := by decide +kernel
theorem dX0_addFeature_19 : decode cX0_addFeature 19 = .ok (.ifCond .ne 7, 3) := by decide +kernel
theorem dX0_addFeature_22 : decode cX0_addFeature 22 = .ok (.iconst 1, 1) := by decide +kernel
theorem dX0_addFeature_23 : decode cX0_addFeature 23 = .ok (.goto 4, 3) := by decide +kernel
theorem dX0_addFeature_26 : decode cX0_addFeature 26 = .ok (.iconst 0, 1) := by decide +kernel
theorem dX0_addFeature_27 : decode cX0_addFeature 27 = .ok (.istore_n 3, 1) := by decide +kernel
theorem dX0_addFeature_28 : decode cX0_addFeature 28 = .ok (.iload_n 3, 1) := by decide +kernel
theorem dX0_addFeature_29 : decode cX0_addFeature 29 = .ok (.ifCond .eq 38, 3) := by decide +kernel
theorem dX0_addFeature_32 : decode cX0_addFeature 32 = .ok (.aload_n 0, 1) := by decide +kernel
theorem dX0_addFeature_33 : decode cX0_addFeature 33 = .ok (.getfield 9, 3) := by decide +kernel
theorem dX0_addFeature_36 : decode cX0_addFeature 36 = .ok (.iload_n 2, 1) := by decide +kernel
theorem dX0_addFeature_37 : decode cX0_addFeature 37 = .ok (.iaload, 1) := by decide +kernel
theorem dX0_addFeature_38 : decode cX0_addFeature 38 = .ok (.iconst (-1), 1) := by decide +kernel
theorem dX0_addFeature_39 : decode cX0_addFeature 39 = .ok (.if_icmp .eq 28, 3) := by decide +kernel
theorem dX0_addFeature_42 : decode cX0_addFeature 42 = .ok (.aload_n 0, 1) := by decide +kernel
theorem dX0_addFeature_43 : decode cX0_addFeature 43 = .ok (.getfield 15, 3) := by decide +kernel
theorem dX0_addFeature_46 : decode cX0_addFeature 46 = .ok (.iload_n 1, 1) := by decide +kernel
theorem dX0_addFeature_47 : decode cX0_addFeature 47 = .ok (.iaload, 1) := by decide +kernel
theorem dX0_addFeature_48 : decode cX0_addFeature 48 = .ok (.ifCond .le 19, 3) := by decide +kernel
theorem dX0_addFeature_51 : decode cX0_addFeature 51 = .ok (.aload_n 0, 1) := by decide +kernel
theorem dX0_addFeature_52 : decode cX0_addFeature 52 = .ok (.iload_n 1, 1) := by decide +kernel
theorem dX0_addFeature_53 : decode cX0_addFeature 53 = .ok (.iload_n 1, 1) := by decide +kernel
theorem dX0_addFeature_54 : decode cX0_addFeature 54 = .ok (.iconst 1, 1) := by decide +kernel
theorem dX0_addFeature_55 : decode cX0_addFeature 55 = .ok (.iload_n 2, 1) := by decide +kernel
theorem dX0_addFeature_56 : decode cX0_addFeature 56 = .ok (.ishl, 1) := by decide +kernel
theorem dX0_addFeature_57 : decode cX0_addFeature 57 = .ok (.ior, 1) := by decide +kernel
theorem dX0_addFeature_58 : decode cX0_addFeature 58 = .ok (.aload_n 0, 1) := by decide +kernel
theorem dX0_addFeature_59 : decode cX0_addFeature 59 = .ok (.getfield 9, 3) := by decide +kernel
theorem dX0_addFeature_62 : decode cX0_addFeature 62 = .ok (.iload_n 2, 1) := by decide +kernel
theorem dX0_addFeature_63 : decode cX0_addFeature 63 = .ok (.iaload, 1) := by decide +kernel
theorem dX0_addFeature_64 : decode cX0_addFeature 64 = .ok (.invokevirtual 21, 3) := by decide +kernel
theorem dX0_addFeature_67 : decode cX0_addFeature 67 = .ok (.iinc 2 1, 3) := by decide +kernel
theorem dX0_addFeature_70 : decode cX0_addFeature 70 = .ok (.goto (-61), 3) := by decide +kernel
theorem dX0_addFeature_73 : decode cX0_addFeature 73 = .ok (.iinc 1 (-1), 3) := by decide +kernel
theorem dX0_addFeature_76 : decode cX0_addFeature 76 = .ok (.goto (-73), 3) := by decide +kernel
theorem dX0_addFeature_79 : decode cX0_addFeature 79 = .ok (.return_, 1) := by decide +kernel
theorem dX0_extend_0 : decode cX0_extend 0 = .ok (.iload_n 1, 1) := by decide +kernel
theorem dX0_extend_1 : decode cX0_extend 1 = .ok (.ifCond .lt 19, 3) := by decide +kernel
theorem dX0_extend_4 : decode cX0_extend 4 = .ok (.iload_n 1, 1) := by decide +kernel
theorem dX0_extend_5 : decode cX0_extend 5 = .ok (.bipush 16, 2) := by decide +kernel
theorem dX0_extend_7 : decode cX0_extend 7 = .ok (.if_icmp .ge 13, 3) := by decide +kernel
theorem dX0_extend_10 : decode cX0_extend 10 = .ok (.iload_n 2, 1) := by decide +kernel
theorem dX0_extend_11 : decode cX0_extend 11 = .ok (.ifCond .lt 9, 3) := by decide +kernel
theorem dX0_extend_14 : decode cX0_extend 14 = .ok (.iload_n 2, 1) := by decide +kernel
theorem dX0_extend_15 : decode cX0_extend 15 = .ok (.bipush 16, 2) := by decide +kernel
theorem dX0_extend_17 : decode cX0_extend 17 = .ok (.if_icmp .lt 4, 3) := by decide +kernel
theorem dX0_extend_20 : decode cX0_extend 20 = .ok (.return_, 1) := by decide +kernel
theorem dX0_extend_21 : decode cX0_extend 21 = .ok (.aload_n 0, 1) := by decide +kernel
theorem dX0_extend_22 : decode cX0_extend 22 = .ok (.getfield 18, 3) := by decide +kernel
theorem dX0_extend_25 : decode cX0_extend 25 = .ok (.iload_n 1, 1) := by decide +kernel
theorem dX0_extend_26 : decode cX0_extend 26 = .ok (.iaload, 1) := by decide +kernel
theorem dX0_extend_27 : decode cX0_extend 27 = .ok (.iload_n 3, 1) := by decide +kernel
theorem dX0_extend_28 : decode cX0_extend 28 = .ok (.iadd, 1) := by decide +kernel
theorem dX0_extend_29 : decode cX0_extend 29 = .ok (.istore 4, 2) := by decide +kernel
theorem dX0_extend_31 : decode cX0_extend 31 = .ok (.aload_n 0, 1) := by decide +kernel
theorem dX0_extend_32 : decode cX0_extend 32 = .ok (.getfield 15, 3) := by decide +kernel
theorem dX0_extend_35 : decode cX0_extend 35 = .ok (.iload_n 2, 1) := by decide +kernel
theorem dX0_extend_36 : decode cX0_extend 36 = .ok (.dup2, 1) := by decide +kernel
theorem dX0_extend_37 : decode cX0_extend 37 = .ok (.iaload, 1) := by decide +kernel
theorem dX0_extend_38 : decode cX0_extend 38 = .ok (.aload_n 0, 1) := by decide +kernel
theorem dX0_extend_39 : decode cX0_extend 39 = .ok (.getfield 15, 3) := by decide +kernel
theorem dX0_extend_42 : decode cX0_extend 42 = .ok (.iload_n 1, 1) := by decide +kernel
theorem dX0_extend_43 : decode cX0_extend 43 = .ok (.iaload, 1) := by decide +kernel
theorem dX0_extend_44 : decode cX0_extend 44 = .ok (.iadd, 1) := by decide +kernel
theorem dX0_extend_45 : decode cX0_extend 45 = .ok (.iastore, 1) := by decide +kernel
theorem dX0_extend_46 : decode cX0_extend 46 = .ok (.aload_n 0, 1) := by decide +kernel
theorem dX0_extend_47 : decode cX0_extend 47 = .ok (.getfield 18, 3) := by decide +kernel
theorem dX0_extend_50 : decode cX0_extend 50 = .ok (.iload_n 2, 1) := by decide +kernel
theorem dX0_extend_51 : decode cX0_extend 51 = .ok (.iaload, 1) := by decide +kernel
theorem dX0_extend_52 : decode cX0_extend 52 = .ok (.iconst (-1), 1) := by decide +kernel
theorem dX0_extend_53 : decode cX0_extend 53 = .ok (.if_icmp .eq 14, 3) := by decide +kernel
theorem dX0_extend_56 : decode cX0_extend 56 = .ok (.iload 4, 2) := by decide +kernel
theorem dX0_extend_58 : decode cX0_extend 58 = .ok (.aload_n 0, 1) := by decide +kernel
theorem dX0_extend_59 : decode cX0_extend 59 = .ok (.getfield 18, 3) := by decide +kernel
theorem dX0_extend_62 : decode cX0_extend 62 = .ok (.iload_n 2, 1) := by decide +kernel
theorem dX0_extend_63 : decode cX0_extend 63 = .ok (.iaload, 1) := by decide +kernel
theorem dX0_extend_64 : decode cX0_extend 64 = .ok (.if_icmp .ge 11, 3) := by decide +kernel
theorem dX0_extend_67 : decode cX0_extend 67 = .ok (.aload_n 0, 1) := by decide +kernel
theorem dX0_extend_68 : decode cX0_extend 68 = .ok (.getfield 18, 3) := by decide +kernel
theorem dX0_extend_71 : decode cX0_extend 71 = .ok (.iload_n 2, 1) := by decide +kernel
theorem dX0_extend_72 : decode cX0_extend 72 = .ok (.iload 4, 2) := by decide +kernel
theorem dX0_extend_74 : decode cX0_extend 74 = .ok (.iastore, 1) := by decide +kernel
theorem dX0_extend_75 : decode cX0_extend 75 = .ok (.return_, 1) := by decide +kernel
theorem dX0_allOf_0 : decode cX0_allOf 0 = .ok (.iconst 1, 1) := by decide +kernel
theorem dX0_allOf_1 : decode cX0_allOf 1 = .ok (.iload_n 0, 1) := by decide +kernel
theorem dX0_allOf_2 : decode cX0_allOf 2 = .ok (.ishl, 1) := by decide +kernel
theorem dX0_allOf_3 : decode cX0_allOf 3 = .ok (.iconst 1, 1) := by decide +kernel
theorem dX0_allOf_4 : decode cX0_allOf 4 = .ok (.isub, 1) := by decide +kernel
theorem dX0_allOf_5 : decode cX0_allOf 5 = .ok (.ireturn, 1) := by decide +kernel
theorem dX0_leastFor_0 : decode cX0_leastFor 0 = .ok (.iload_n 1, 1) := by decide +kernel
theorem dX0_leastFor_1 : decode cX0_leastFor 1 = .ok (.invokestatic 25, 3) := by decide +kernel
theorem dX0_leastFor_4 : decode cX0_leastFor 4 = .ok (.istore_n 2, 1) := by decide +kernel
theorem dX0_leastFor_5 : decode cX0_leastFor 5 = .ok (.iload_n 2, 1) := by decide +kernel
theorem dX0_leastFor_6 : decode cX0_leastFor 6 = .ok (.ifCond .lt 21, 3) := by decide +kernel
theorem dX0_leastFor_9 : decode cX0_leastFor 9 = .ok (.iload_n 2, 1) := by decide +kernel
theorem dX0_leastFor_10 : decode cX0_leastFor 10 = .ok (.aload_n 0, 1) := by decide +kernel
theorem dX0_leastFor_11 : decode cX0_leastFor 11 = .ok (.getfield 18, 3) := by decide +kernel
theorem dX0_leastFor_14 : decode cX0_leastFor 14 = .ok (.arraylength, 1) := by decide +kernel
theorem dX0_leastFor_15 : decode cX0_leastFor 15 = .ok (.if_icmp .ge 12, 3) := by decide +kernel
theorem dX0_leastFor_18 : decode cX0_leastFor 18 = .ok (.aload_n 0, 1) := by decide +kernel
theorem dX0_leastFor_19 : decode cX0_leastFor 19 = .ok (.getfield 18, 3) := by decide +kernel
theorem dX0_leastFor_22 : decode cX0_leastFor 22 = .ok (.iload_n 2, 1) := by decide +kernel
theorem dX0_leastFor_23 : decode cX0_leastFor 23 = .ok (.iaload, 1) := by decide +kernel
theorem dX0_leastFor_24 : decode cX0_leastFor 24 = .ok (.goto 4, 3) := by decide +kernel
theorem dX0_leastFor_27 : decode cX0_leastFor 27 = .ok (.iconst (-1), 1) := by decide +kernel
theorem dX0_leastFor_28 : decode cX0_leastFor 28 = .ok (.ireturn, 1) := by decide +kernel
theorem dX0_waysFor_0 : decode cX0_waysFor 0 = .ok (.iload_n 1, 1) := by decide +kernel
theorem dX0_waysFor_1 : decode cX0_waysFor 1 = .ok (.invokestatic 25, 3) := by decide +kernel
theorem dX0_waysFor_4 : decode cX0_waysFor 4 = .ok (.istore_n 2, 1) := by decide +kernel
theorem dX0_waysFor_5 : decode cX0_waysFor 5 = .ok (.iload_n 2, 1) := by decide +kernel
theorem dX0_waysFor_6 : decode cX0_waysFor 6 = .ok (.ifCond .lt 21, 3) := by decide +kernel
theorem dX0_waysFor_9 : decode cX0_waysFor 9 = .ok (.iload_n 2, 1) := by decide +kernel
theorem dX0_waysFor_10 : decode cX0_waysFor 10 = .ok (.aload_n 0, 1) := by decide +kernel
theorem dX0_waysFor_11 : decode cX0_waysFor 11 = .ok (.getfield 15, 3) := by decide +kernel
theorem dX0_waysFor_14 : decode cX0_waysFor 14 = .ok (.arraylength, 1) := by decide +kernel
theorem dX0_waysFor_15 : decode cX0_waysFor 15 = .ok (.if_icmp .ge 12, 3) := by decide +kernel
theorem dX0_waysFor_18 : decode cX0_waysFor 18 = .ok (.aload_n 0, 1) := by decide +kernel
theorem dX0_waysFor_19 : decode cX0_waysFor 19 = .ok (.getfield 15, 3) := by decide +kernel
theorem dX0_waysFor_22 : decode cX0_waysFor 22 = .ok (.iload_n 2, 1) := by decide +kernel
theorem dX0_waysFor_23 : decode cX0_waysFor 23 = .ok (.iaload, 1) := by decide +kernel
theorem dX0_waysFor_24 : decode cX0_waysFor 24 = .ok (.goto 4, 3) := by decide +kernel
theorem dX0_waysFor_27 : decode cX0_waysFor 27 = .ok (.iconst 0, 1) := by decide +kernel
theorem dX0_waysFor_28 : decode cX0_waysFor 28 = .ok (.ireturn, 1) := by decide +kernel
theorem dX1_init_0 : decode cX1_init 0 = .ok (.aload_n 0, 1) := by decide +kernel
theorem dX1_init_1 : decode cX1_init 1 = .ok (.invokespecial 1, 3) := by decide +kernel
theorem dX1_init_4 : decode cX1_init 4 = .ok (.aload_n 0, 1) := by decide +kernel
theorem dX1_init_5 : decode cX1_init 5 = .ok (.iload_n 1, 1) := by decide +kernel
theorem dX1_init_6 : decode cX1_init 6 = .ok (.putfield 7, 3) := by decide +kernel
theorem dX1_init_9 : decode cX1_init 9 = .ok (.aload_n 0, 1) := by decide +kernel
theorem dX1_init_10 : decode cX1_init 10 = .ok (.iload_n 2, 1) := by decide +kernel
theorem dX1_init_11 : decode cX1_init 11 = .ok (.putfield 13, 3) := by decide +kernel
theorem dX1_init_14 : decode cX1_init 14 = .ok (.aload_n 0, 1) := by decide +kernel
theorem dX1_init_15 : decode cX1_init 15 = .ok (.iload_n 3, 1) := by decide +kernel
theorem dX1_init_16 : decode cX1_init 16 = .ok (.putfield 16, 3) := by decide +kernel
theorem dX1_init_19 : decode cX1_init 19 = .ok (.return_, 1) := by decide +kernel
theorem dX2_init_0 : decode cX2_init 0 = .ok (.aload_n 0, 1) := by decide +kernel
theorem dX2_init_1 : decode cX2_init 1 = .ok (.invokespecial 1, 3) := by decide +kernel
theorem dX2_init_4 : decode cX2_init 4 = .ok (.aload_n 0, 1) := by decide +kernel
theorem dX2_init_5 : decode cX2_init 5 = .ok (.iload_n 1, 1) := by decide +kernel
theorem dX2_init_6 : decode cX2_init 6 = .ok (.putfield 7, 3) := by decide +kernel
theorem dX2_init_9 : decode cX2_init 9 = .ok (.aload_n 0, 1) := by decide +kernel
theorem dX2_init_10 : decode cX2_init 10 = .ok (.iload_n 2, 1) := by decide +kernel
theorem dX2_init_11 : decode cX2_init 11 = .ok (.putfield 13, 3) := by decide +kernel
theorem dX2_init_14 : decode cX2_init 14 = .ok (.aload_n 0, 1) := by decide +kernel
theorem dX2_init_15 : decode cX2_init 15 = .ok (.iload_n 3, 1) := by decide +kernel
theorem dX2_init_16 : decode cX2_init 16 = .ok (.putfield 16, 3) := by decide +kernel
theorem dX2_init_19 : decode cX2_init 19 = .ok (.return_, 1) := by decide +kernel
theorem dX3_init_0 : decode cX3_init 0 = .ok (.aload_n 0, 1) := by decide +kernel
theorem dX3_init_1 : decode cX3_init 1 = .ok (.invokespecial 3, 3) := by decide +kernel
theorem dX3_init_4 : decode cX3_init 4 = .ok (.aload_n 0, 1) := by decide +kernel
theorem dX3_init_5 : decode cX3_init 5 = .ok (.new 9, 3) := by decide +kernel
theorem dX3_init_8 : decode cX3_init 8 = .ok (.dup, 1) := by decide +kernel
theorem dX3_init_9 : decode cX3_init 9 = .ok (.invokespecial 11, 3) := by decide +kernel
theorem dX3_init_12 : decode cX3_init 12 = .ok (.putfield 12, 3) := by decide +kernel
theorem dX3_init_15 : decode cX3_init 15 = .ok (.aload_n 0, 1) := by decide +kernel
theorem dX3_init_16 : decode cX3_init 16 = .ok (.new 9, 3) := by decide +kernel
theorem dX3_init_19 : decode cX3_init 19 = .ok (.dup, 1) := by decide +kernel
theorem dX3_init_20 : decode cX3_init 20 = .ok (.invokespecial 11, 3) := by decide +kernel
theorem dX3_init_23 : decode cX3_init 23 = .ok (.putfield 18, 3) := by decide +kernel
theorem dX3_init_26 : decode cX3_init 26 = .ok (.aload_n 0, 1) := by decide +kernel
theorem dX3_init_27 : decode cX3_init 27 = .ok (.new 21, 3) := by decide +kernel
theorem dX3_init_30 : decode cX3_init 30 = .ok (.dup, 1) := by decide +kernel
theorem dX3_init_31 : decode cX3_init 31 = .ok (.invokespecial 23, 3) := by decide +kernel
theorem dX3_init_34 : decode cX3_init 34 = .ok (.putfield 24, 3) := by decide +kernel
theorem dX3_init_37 : decode cX3_init 37 = .ok (.aload_n 0, 1) := by decide +kernel
theorem dX3_init_38 : decode cX3_init 38 = .ok (.new 21, 3) := by decide +kernel
theorem dX3_init_41 : decode cX3_init 41 = .ok (.dup, 1) := by decide +kernel
theorem dX3_init_42 : decode cX3_init 42 = .ok (.invokespecial 23, 3) := by decide +kernel
theorem dX3_init_45 : decode cX3_init 45 = .ok (.putfield 28, 3) := by decide +kernel
theorem dX3_init_48 : decode cX3_init 48 = .ok (.aload_n 0, 1) := by decide +kernel
theorem dX3_init_49 : decode cX3_init 49 = .ok (.iconst 4, 1) := by decide +kernel
theorem dX3_init_50 : decode cX3_init 50 = .ok (.newarray .int, 2) := by decide +kernel
theorem dX3_init_52 : decode cX3_init 52 = .ok (.putfield 31, 3) := by decide +kernel
theorem dX3_init_55 : decode cX3_init 55 = .ok (.aload_n 0, 1) := by decide +kernel
theorem dX3_init_56 : decode cX3_init 56 = .ok (.iconst (-1), 1) := by decide +kernel
theorem dX3_init_57 : decode cX3_init 57 = .ok (.putfield 35, 3) := by decide +kernel
theorem dX3_init_60 : decode cX3_init 60 = .ok (.aload_n 0, 1) := by decide +kernel
theorem dX3_init_61 : decode cX3_init 61 = .ok (.iload_n 1, 1) := by decide +kernel
theorem dX3_init_62 : decode cX3_init 62 = .ok (.putfield 39, 3) := by decide +kernel
theorem dX3_init_65 : decode cX3_init 65 = .ok (.aload_n 0, 1) := by decide +kernel
theorem dX3_init_66 : decode cX3_init 66 = .ok (.iload_n 2, 1) := by decide +kernel
theorem dX3_init_67 : decode cX3_init 67 = .ok (.putfield 42, 3) := by decide +kernel
theorem dX3_init_70 : decode cX3_init 70 = .ok (.return_, 1) := by decide +kernel
theorem dX3_hasEnded_0 : decode cX3_hasEnded 0 = .ok (.aload_n 0, 1) := by decide +kernel
theorem dX3_hasEnded_1 : decode cX3_hasEnded 1 = .ok (.getfield 45, 3) := by decide +kernel
theorem dX3_hasEnded_4 : decode cX3_hasEnded 4 = .ok (.ifCond .eq 23, 3) := by decide +kernel
theorem dX3_hasEnded_7 : decode cX3_hasEnded 7 = .ok (.aload_n 0, 1) := by decide +kernel
theorem dX3_hasEnded_8 : decode cX3_hasEnded 8 = .ok (.getfield 49, 3) := by decide +kernel
theorem dX3_hasEnded_11 : decode cX3_hasEnded 11 = .ok (.iload_n 2, 1) := by decide +kernel
theorem dX3_hasEnded_12 : decode cX3_hasEnded 12 = .ok (.if_icmp .gt 15, 3) := by decide +kernel
theorem dX3_hasEnded_15 : decode cX3_hasEnded 15 = .ok (.aload_n 0, 1) := by decide +kernel
theorem dX3_hasEnded_16 : decode cX3_hasEnded 16 = .ok (.getfield 52, 3) := by decide +kernel
theorem dX3_hasEnded_19 : decode cX3_hasEnded 19 = .ok (.iload_n 1, 1) := by decide +kernel
theorem dX3_hasEnded_20 : decode cX3_hasEnded 20 = .ok (.if_icmp .gt 7, 3) := by decide +kernel
theorem dX3_hasEnded_23 : decode cX3_hasEnded 23 = .ok (.iconst 1, 1) := by decide +kernel
theorem dX3_hasEnded_24 : decode cX3_hasEnded 24 = .ok (.goto 4, 3) := by decide +kernel
theorem dX3_hasEnded_27 : decode cX3_hasEnded 27 = .ok (.iconst 0, 1) := by decide +kernel
theorem dX3_hasEnded_28 : decode cX3_hasEnded 28 = .ok (.ireturn, 1) := by decide +kernel
theorem dX3_isThere_0 : decode cX3_isThere 0 = .ok (.aload_n 0, 1) := by decide +kernel
theorem dX3_isThere_1 : decode cX3_isThere 1 = .ok (.getfield 42, 3) := by decide +kernel
theorem dX3_isThere_4 : decode cX3_isThere 4 = .ok (.iload_n 1, 1) := by decide +kernel
theorem dX3_isThere_5 : decode cX3_isThere 5 = .ok (.if_icmp .gt 24, 3) := by decide +kernel
theorem dX3_isThere_8 : decode cX3_isThere 8 = .ok (.aload_n 0, 1) := by decide +kernel
theorem dX3_isThere_9 : decode cX3_isThere 9 = .ok (.getfield 42, 3) := by decide +kernel
theorem dX3_isThere_12 : decode cX3_isThere 12 = .ok (.iload_n 2, 1) := by decide +kernel
theorem dX3_isThere_13 : decode cX3_isThere 13 = .ok (.if_icmp .gt 16, 3) := by decide +kernel
theorem dX3_isThere_16 : decode cX3_isThere 16 = .ok (.aload_n 0, 1) := by decide +kernel
theorem dX3_isThere_17 : decode cX3_isThere 17 = .ok (.iload_n 1, 1) := by decide +kernel
theorem dX3_isThere_18 : decode cX3_isThere 18 = .ok (.iload_n 2, 1) := by decide +kernel
theorem dX3_isThere_19 : decode cX3_isThere 19 = .ok (.invokevirtual 55, 3) := by decide +kernel
theorem dX3_isThere_22 : decode cX3_isThere 22 = .ok (.ifCond .ne 7, 3) := by decide +kernel
theorem dX3_isThere_25 : decode cX3_isThere 25 = .ok (.iconst 1, 1) := by decide +kernel
theorem dX3_isThere_26 : decode cX3_isThere 26 = .ok (.goto 4, 3) := by decide +kernel
theorem dX3_isThere_29 : decode cX3_isThere 29 = .ok (.iconst 0, 1) := by decide +kernel
theorem dX3_isThere_30 : decode cX3_isThere 30 = .ok (.ireturn, 1) := by decide +kernel
theorem dX3_nameOn_0 : decode cX3_nameOn 0 = .ok (.aconst_null, 1) := by decide +kernel
theorem dX3_nameOn_1 : decode cX3_nameOn 1 = .ok (.astore 4, 2) := by decide +kernel
theorem dX3_nameOn_3 : decode cX3_nameOn 3 = .ok (.iconst 0, 1) := by decide +kernel
theorem dX3_nameOn_4 : decode cX3_nameOn 4 = .ok (.istore 5, 2) := by decide +kernel
theorem dX3_nameOn_6 : decode cX3_nameOn 6 = .ok (.iload 5, 2) := by decide +kernel
theorem dX3_nameOn_8 : decode cX3_nameOn 8 = .ok (.aload_n 0, 1) := by decide +kernel
theorem dX3_nameOn_9 : decode cX3_nameOn 9 = .ok (.getfield 24, 3) := by decide +kernel
theorem dX3_nameOn_12 : decode cX3_nameOn 12 = .ok (.invokevirtual 59, 3) := by decide +kernel
theorem dX3_nameOn_15 : decode cX3_nameOn 15 = .ok (.if_icmp .ge 72, 3) := by decide +kernel
theorem dX3_nameOn_18 : decode cX3_nameOn 18 = .ok (.aload_n 0, 1) := by decide +kernel
theorem dX3_nameOn_19 : decode cX3_nameOn 19 = .ok (.getfield 24, 3) := by decide +kernel
theorem dX3_nameOn_22 : decode cX3_nameOn 22 = .ok (.iload 5, 2) := by decide +kernel
theorem dX3_nameOn_24 : decode cX3_nameOn 24 = .ok (.invokevirtual 63, 3) := by decide +kernel
theorem dX3_nameOn_27 : decode cX3_nameOn 27 = .ok (.checkcast 67, 3) := by decide +kernel
theorem dX3_nameOn_30 : decode cX3_nameOn 30 = .ok (.astore 6, 2) := by decide +kernel
theorem dX3_nameOn_32 : decode cX3_nameOn 32 = .ok (.aload 6, 2) := by decide +kernel
theorem dX3_nameOn_34 : decode cX3_nameOn 34 = .ok (.getfield 69, 3) := by decide +kernel
theorem dX3_nameOn_37 : decode cX3_nameOn 37 = .ok (.iload_n 1, 1) := by decide +kernel
theorem dX3_nameOn_38 : decode cX3_nameOn 38 = .ok (.if_icmp .ne 43, 3) := by decide +kernel
theorem dX3_nameOn_41 : decode cX3_nameOn 41 = .ok (.aload 6, 2) := by decide +kernel
theorem dX3_nameOn_43 : decode cX3_nameOn 43 = .ok (.getfield 72, 3) := by decide +kernel
theorem dX3_nameOn_46 : decode cX3_nameOn 46 = .ok (.iload_n 2, 1) := by decide +kernel
theorem dX3_nameOn_47 : decode cX3_nameOn 47 = .ok (.if_icmp .gt 34, 3) := by decide +kernel
theorem dX3_nameOn_50 : decode cX3_nameOn 50 = .ok (.aload 6, 2) := by decide +kernel
theorem dX3_nameOn_52 : decode cX3_nameOn 52 = .ok (.iload_n 3, 1) := by decide +kernel
theorem dX3_nameOn_53 : decode cX3_nameOn 53 = .ok (.invokevirtual 75, 3) := by decide +kernel
theorem dX3_nameOn_56 : decode cX3_nameOn 56 = .ok (.ifCond .eq 25, 3) := by decide +kernel
theorem dX3_nameOn_59 : decode cX3_nameOn 59 = .ok (.aload 4, 2) := by decide +kernel
theorem dX3_nameOn_61 : decode cX3_nameOn 61 = .ok (.ifnull 16, 3) := by decide +kernel
theorem dX3_nameOn_64 : decode cX3_nameOn 64 = .ok (.aload 6, 2) := by decide +kernel
theorem dX3_nameOn_66 : decode cX3_nameOn 66 = .ok (.getfield 72, 3) := by decide +kernel
theorem dX3_nameOn_69 : decode cX3_nameOn 69 = .ok (.aload 4, 2) := by decide +kernel
theorem dX3_nameOn_71 : decode cX3_nameOn 71 = .ok (.getfield 72, 3) := by decide +kernel
theorem dX3_nameOn_74 : decode cX3_nameOn 74 = .ok (.if_icmp .lt 7, 3) := by decide +kernel
theorem dX3_nameOn_77 : decode cX3_nameOn 77 = .ok (.aload 6, 2) := by decide +kernel
theorem dX3_nameOn_79 : decode cX3_nameOn 79 = .ok (.astore 4, 2) := by decide +kernel
theorem dX3_nameOn_81 : decode cX3_nameOn 81 = .ok (.iinc 5 1, 3) := by decide +kernel
theorem dX3_nameOn_84 : decode cX3_nameOn 84 = .ok (.goto (-78), 3) := by decide +kernel
theorem dX3_nameOn_87 : decode cX3_nameOn 87 = .ok (.aload 4, 2) := by decide +kernel
theorem dX3_nameOn_89 : decode cX3_nameOn 89 = .ok (.areturn, 1) := by decide +kernel
theorem dX3_hasEverBeen_0 : decode cX3_hasEverBeen 0 = .ok (.iconst 0, 1) := by decide +kernel
theorem dX3_hasEverBeen_1 : decode cX3_hasEverBeen 1 = .ok (.istore_n 3, 1) := by decide +kernel
theorem dX3_hasEverBeen_2 : decode cX3_hasEverBeen 2 = .ok (.iload_n 3, 1) := by decide +kernel
theorem dX3_hasEverBeen_3 : decode cX3_hasEverBeen 3 = .ok (.aload_n 0, 1) := by decide +kernel
theorem dX3_hasEverBeen_4 : decode cX3_hasEverBeen 4 = .ok (.getfield 24, 3) := by decide +kernel
theorem dX3_hasEverBeen_7 : decode cX3_hasEverBeen 7 = .ok (.invokevirtual 59, 3) := by decide +kernel
theorem dX3_hasEverBeen_10 : decode cX3_hasEverBeen 10 = .ok (.if_icmp .ge 30, 3) := by decide +kernel
theorem dX3_hasEverBeen_13 : decode cX3_hasEverBeen 13 = .ok (.aload_n 0, 1) := by decide +kernel
theorem dX3_hasEverBeen_14 : decode cX3_hasEverBeen 14 = .ok (.getfield 24, 3) := by decide +kernel
theorem dX3_hasEverBeen_17 : decode cX3_hasEverBeen 17 = .ok (.iload_n 3, 1) := by decide +kernel
theorem dX3_hasEverBeen_18 : decode cX3_hasEverBeen 18 = .ok (.invokevirtual 63, 3) := by decide +kernel
theorem dX3_hasEverBeen_21 : decode cX3_hasEverBeen 21 = .ok (.checkcast 67, 3) := by decide +kernel
theorem dX3_hasEverBeen_24 : decode cX3_hasEverBeen 24 = .ok (.getfield 79, 3) := by decide +kernel
theorem dX3_hasEverBeen_27 : decode cX3_hasEverBeen 27 = .ok (.lload_n 1, 1) := by decide +kernel
theorem dX3_hasEverBeen_28 : decode cX3_hasEverBeen 28 = .ok (.lcmp, 1) := by decide +kernel
theorem dX3_hasEverBeen_29 : decode cX3_hasEverBeen 29 = .ok (.ifCond .ne 5, 3) := by decide +kernel
theorem dX3_hasEverBeen_32 : decode cX3_hasEverBeen 32 = .ok (.iconst 1, 1) := by decide +kernel
theorem dX3_hasEverBeen_33 : decode cX3_hasEverBeen 33 = .ok (.ireturn, 1) := by decide +kernel
theorem dX3_hasEverBeen_34 : decode cX3_hasEverBeen 34 = .ok (.iinc 3 1, 3) := by decide +kernel
theorem dX3_hasEverBeen_37 : decode cX3_hasEverBeen 37 = .ok (.goto (-35), 3) := by decide +kernel
theorem dX3_hasEverBeen_40 : decode cX3_hasEverBeen 40 = .ok (.iconst 0, 1) := by decide +kernel
theorem dX3_hasEverBeen_41 : decode cX3_hasEverBeen 41 = .ok (.ireturn, 1) := by decide +kernel
theorem dX3_exemptFrom_0 : decode cX3_exemptFrom 0 = .ok (.sipush 10000, 3) := by decide +kernel
theorem dX3_exemptFrom_3 : decode cX3_exemptFrom 3 = .ok (.istore_n 3, 1) := by decide +kernel
theorem dX3_exemptFrom_4 : decode cX3_exemptFrom 4 = .ok (.iconst 0, 1) := by decide +kernel
theorem dX3_exemptFrom_5 : decode cX3_exemptFrom 5 = .ok (.istore 4, 2) := by decide +kernel
theorem dX3_exemptFrom_7 : decode cX3_exemptFrom 7 = .ok (.iload 4, 2) := by decide +kernel
theorem dX3_exemptFrom_9 : decode cX3_exemptFrom 9 = .ok (.aload_n 0, 1) := by decide +kernel
theorem dX3_exemptFrom_10 : decode cX3_exemptFrom 10 = .ok (.getfield 28, 3) := by decide +kernel
theorem dX3_exemptFrom_13 : decode cX3_exemptFrom 13 = .ok (.invokevirtual 59, 3) := by decide +kernel
theorem dX3_exemptFrom_16 : decode cX3_exemptFrom 16 = .ok (.if_icmp .ge 51, 3) := by decide +kernel
theorem dX3_exemptFrom_19 : decode cX3_exemptFrom 19 = .ok (.aload_n 0, 1) := by decide +kernel
theorem dX3_exemptFrom_20 : decode cX3_exemptFrom 20 = .ok (.getfield 28, 3) := by decide +kernel
theorem dX3_exemptFrom_23 : decode cX3_exemptFrom 23 = .ok (.iload 4, 2) := by decide +kernel
theorem dX3_exemptFrom_25 : decode cX3_exemptFrom 25 = .ok (.invokevirtual 63, 3) := by decide +kernel
theorem dX3_exemptFrom_28 : decode cX3_exemptFrom 28 = .ok (.checkcast 83, 3) := by decide +kernel
theorem dX3_exemptFrom_31 : decode cX3_exemptFrom 31 = .ok (.astore 5, 2) := by decide +kernel
theorem dX3_exemptFrom_33 : decode cX3_exemptFrom 33 = .ok (.aload 5, 2) := by decide +kernel
theorem dX3_exemptFrom_35 : decode cX3_exemptFrom 35 = .ok (.getfield 85, 3) := by decide +kernel
theorem dX3_exemptFrom_38 : decode cX3_exemptFrom 38 = .ok (.iload_n 1, 1) := by decide +kernel
theorem dX3_exemptFrom_39 : decode cX3_exemptFrom 39 = .ok (.if_icmp .ne 22, 3) := by decide +kernel
theorem dX3_exemptFrom_42 : decode cX3_exemptFrom 42 = .ok (.aload 5, 2) := by decide +kernel
theorem dX3_exemptFrom_44 : decode cX3_exemptFrom 44 = .ok (.getfield 86, 3) := by decide +kernel
theorem dX3_exemptFrom_47 : decode cX3_exemptFrom 47 = .ok (.iload_n 2, 1) := by decide +kernel
theorem dX3_exemptFrom_48 : decode cX3_exemptFrom 48 = .ok (.if_icmp .gt 13, 3) := by decide +kernel
theorem dX3_exemptFrom_51 : decode cX3_exemptFrom 51 = .ok (.iload_n 3, 1) := by decide +kernel
theorem dX3_exemptFrom_52 : decode cX3_exemptFrom 52 = .ok (.aload 5, 2) := by decide +kernel
theorem dX3_exemptFrom_54 : decode cX3_exemptFrom 54 = .ok (.getfield 89, 3) := by decide +kernel
theorem dX3_exemptFrom_57 : decode cX3_exemptFrom 57 = .ok (.invokestatic 90, 3) := by decide +kernel
theorem dX3_exemptFrom_60 : decode cX3_exemptFrom 60 = .ok (.istore_n 3, 1) := by decide +kernel
theorem dX3_exemptFrom_61 : decode cX3_exemptFrom 61 = .ok (.iinc 4 1, 3) := by decide +kernel
theorem dX3_exemptFrom_64 : decode cX3_exemptFrom 64 = .ok (.goto (-57), 3) := by decide +kernel
theorem dX3_exemptFrom_67 : decode cX3_exemptFrom 67 = .ok (.iload_n 3, 1) := by decide +kernel
theorem dX3_exemptFrom_68 : decode cX3_exemptFrom 68 = .ok (.ireturn, 1) := by decide +kernel
theorem dX3_hundredthsOf_0 : decode cX3_hundredthsOf 0 = .ok (.iload_n 1, 1) := by decide +kernel
theorem dX3_hundredthsOf_1 : decode cX3_hundredthsOf 1 = .ok (.ifCond .lt 21, 3) := by decide +kernel
theorem dX3_hundredthsOf_4 : decode cX3_hundredthsOf 4 = .ok (.iload_n 1, 1) := by decide +kernel
theorem dX3_hundredthsOf_5 : decode cX3_hundredthsOf 5 = .ok (.aload_n 0, 1) := by decide +kernel
theorem dX3_hundredthsOf_6 : decode cX3_hundredthsOf 6 = .ok (.getfield 31, 3) := by decide +kernel
theorem dX3_hundredthsOf_9 : decode cX3_hundredthsOf 9 = .ok (.arraylength, 1) := by decide +kernel
theorem dX3_hundredthsOf_10 : decode cX3_hundredthsOf 10 = .ok (.if_icmp .ge 12, 3) := by decide +kernel
theorem dX3_hundredthsOf_13 : decode cX3_hundredthsOf 13 = .ok (.aload_n 0, 1) := by decide +kernel
theorem dX3_hundredthsOf_14 : decode cX3_hundredthsOf 14 = .ok (.getfield 31, 3) := by decide +kernel
theorem dX3_hundredthsOf_17 : decode cX3_hundredthsOf 17 = .ok (.iload_n 1, 1) := by decide +kernel
theorem dX3_hundredthsOf_18 : decode cX3_hundredthsOf 18 = .ok (.iaload, 1) := by decide +kernel
theorem dX3_hundredthsOf_19 : decode cX3_hundredthsOf 19 = .ok (.goto 4, 3) := by decide +kernel
theorem dX3_hundredthsOf_22 : decode cX3_hundredthsOf 22 = .ok (.iconst 0, 1) := by decide +kernel
theorem dX3_hundredthsOf_23 : decode cX3_hundredthsOf 23 = .ok (.ireturn, 1) := by decide +kernel
theorem dX3_setHundredths_0 : decode cX3_setHundredths 0 = .ok (.iload_n 1, 1) := by decide +kernel
theorem dX3_setHundredths_1 : decode cX3_setHundredths 1 = .ok (.ifCond .lt 19, 3) := by decide +kernel
theorem dX3_setHundredths_4 : decode cX3_setHundredths 4 = .ok (.iload_n 1, 1) := by decide +kernel
theorem dX3_setHundredths_5 : decode cX3_setHundredths 5 = .ok (.aload_n 0, 1) := by decide +kernel
theorem dX3_setHundredths_6 : decode cX3_setHundredths 6 = .ok (.getfield 31, 3) := by decide +kernel
theorem dX3_setHundredths_9 : decode cX3_setHundredths 9 = .ok (.arraylength, 1) := by decide +kernel
theorem dX3_setHundredths_10 : decode cX3_setHundredths 10 = .ok (.if_icmp .ge 10, 3) := by decide +kernel
theorem dX3_setHundredths_13 : decode cX3_setHundredths 13 = .ok (.aload_n 0, 1) := by decide +kernel
theorem dX3_setHundredths_14 : decode cX3_setHundredths 14 = .ok (.getfield 31, 3) := by decide +kernel
theorem dX3_setHundredths_17 : decode cX3_setHundredths 17 = .ok (.iload_n 1, 1) := by decide +kernel
theorem dX3_setHundredths_18 : decode cX3_setHundredths 18 = .ok (.iload_n 2, 1) := by decide +kernel
theorem dX3_setHundredths_19 : decode cX3_setHundredths 19 = .ok (.iastore, 1) := by decide +kernel
theorem dX3_setHundredths_20 : decode cX3_setHundredths 20 = .ok (.return_, 1) := by decide +kernel
theorem dX3_isDisputed_0 : decode cX3_isDisputed 0 = .ok (.aload_n 0, 1) := by decide +kernel
theorem dX3_isDisputed_1 : decode cX3_isDisputed 1 = .ok (.getfield 96, 3) := by decide +kernel
theorem dX3_isDisputed_4 : decode cX3_isDisputed 4 = .ok (.aload_n 0, 1) := by decide +kernel
theorem dX3_isDisputed_5 : decode cX3_isDisputed 5 = .ok (.getfield 99, 3) := by decide +kernel
theorem dX3_isDisputed_8 : decode cX3_isDisputed 8 = .ok (.if_icmp .eq 7, 3) := by decide +kernel
theorem dX3_isDisputed_11 : decode cX3_isDisputed 11 = .ok (.iconst 1, 1) := by decide +kernel
theorem dX3_isDisputed_12 : decode cX3_isDisputed 12 = .ok (.goto 4, 3) := by decide +kernel
theorem dX3_isDisputed_15 : decode cX3_isDisputed 15 = .ok (.iconst 0, 1) := by decide +kernel
theorem dX3_isDisputed_16 : decode cX3_isDisputed 16 = .ok (.ireturn, 1) := by decide +kernel
theorem dX3_disputedTongueFor_0 : decode cX3_disputedTongueFor 0 = .ok (.iload_n 1, 1) := by decide +kernel
theorem dX3_disputedTongueFor_1 : decode cX3_disputedTongueFor 1 = .ok (.aload_n 0, 1) := by decide +kernel
theorem dX3_disputedTongueFor_2 : decode cX3_disputedTongueFor 2 = .ok (.getfield 96, 3) := by decide +kernel
theorem dX3_disputedTongueFor_5 : decode cX3_disputedTongueFor 5 = .ok (.if_icmp .eq 11, 3) := by decide +kernel
theorem dX3_disputedTongueFor_8 : decode cX3_disputedTongueFor 8 = .ok (.iload_n 1, 1) := by decide +kernel
theorem dX3_disputedTongueFor_9 : decode cX3_disputedTongueFor 9 = .ok (.aload_n 0, 1) := by decide +kernel
theorem dX3_disputedTongueFor_10 : decode cX3_disputedTongueFor 10 = .ok (.getfield 99, 3) := by decide +kernel
theorem dX3_disputedTongueFor_13 : decode cX3_disputedTongueFor 13 = .ok (.if_icmp .ne 7, 3) := by decide +kernel
theorem dX3_disputedTongueFor_16 : decode cX3_disputedTongueFor 16 = .ok (.iconst 1, 1) := by decide +kernel
theorem dX3_disputedTongueFor_17 : decode cX3_disputedTongueFor 17 = .ok (.goto 4, 3) := by decide +kernel
theorem dX3_disputedTongueFor_20 : decode cX3_disputedTongueFor 20 = .ok (.iconst 0, 1) := by decide +kernel
theorem dX3_disputedTongueFor_21 : decode cX3_disputedTongueFor 21 = .ok (.istore_n 2, 1) := by decide +kernel
theorem dX3_disputedTongueFor_22 : decode cX3_disputedTongueFor 22 = .ok (.iload_n 2, 1) := by decide +kernel
theorem dX3_disputedTongueFor_23 : decode cX3_disputedTongueFor 23 = .ok (.ifCond .eq 7, 3) := by decide +kernel
theorem dX3_disputedTongueFor_26 : decode cX3_disputedTongueFor 26 = .ok (.iload_n 1, 1) := by decide +kernel
theorem dX3_disputedTongueFor_27 : decode cX3_disputedTongueFor 27 = .ok (.goto 14, 3) := by decide +kernel
theorem dX3_disputedTongueFor_30 : decode cX3_disputedTongueFor 30 = .ok (.aload_n 0, 1) := by decide +kernel
theorem dX3_disputedTongueFor_31 : decode cX3_disputedTongueFor 31 = .ok (.getfield 96, 3) := by decide +kernel
theorem dX3_disputedTongueFor_34 : decode cX3_disputedTongueFor 34 = .ok (.aload_n 0, 1) := by decide +kernel
theorem dX3_disputedTongueFor_35 : decode cX3_disputedTongueFor 35 = .ok (.getfield 99, 3) := by decide +kernel
theorem dX3_disputedTongueFor_38 : decode cX3_disputedTongueFor 38 = .ok (.invokestatic 90, 3) := by decide +kernel
theorem dX3_disputedTongueFor_41 : decode cX3_disputedTongueFor 41 = .ok (.ireturn, 1) := by decide +kernel
theorem dX4_init_0 : decode cX4_init 0 = .ok (.aload_n 0, 1) := by decide +kernel
theorem dX4_init_1 : decode cX4_init 1 = .ok (.invokespecial 3, 3) := by decide +kernel
theorem dX4_init_4 : decode cX4_init 4 = .ok (.aload_n 0, 1) := by decide +kernel
theorem dX4_init_5 : decode cX4_init 5 = .ok (.new 9, 3) := by decide +kernel
theorem dX4_init_8 : decode cX4_init 8 = .ok (.dup, 1) := by decide +kernel
theorem dX4_init_9 : decode cX4_init 9 = .ok (.invokespecial 11, 3) := by decide +kernel
theorem dX4_init_12 : decode cX4_init 12 = .ok (.putfield 12, 3) := by decide +kernel
theorem dX4_init_15 : decode cX4_init 15 = .ok (.return_, 1) := by decide +kernel
theorem dX4_isFull_0 : decode cX4_isFull 0 = .ok (.aload_n 0, 1) := by decide +kernel
theorem dX4_isFull_1 : decode cX4_isFull 1 = .ok (.getfield 12, 3) := by decide +kernel
theorem dX4_isFull_4 : decode cX4_isFull 4 = .ok (.invokevirtual 18, 3) := by decide +kernel
theorem dX4_isFull_7 : decode cX4_isFull 7 = .ok (.bipush 40, 2) := by decide +kernel
theorem dX4_isFull_9 : decode cX4_isFull 9 = .ok (.if_icmp .lt 7, 3) := by decide +kernel
theorem dX4_isFull_12 : decode cX4_isFull 12 = .ok (.iconst 1, 1) := by decide +kernel
theorem dX4_isFull_13 : decode cX4_isFull 13 = .ok (.goto 4, 3) := by decide +kernel
theorem dX4_isFull_16 : decode cX4_isFull 16 = .ok (.iconst 0, 1) := by decide +kernel
theorem dX4_isFull_17 : decode cX4_isFull 17 = .ok (.ireturn, 1) := by decide +kernel
theorem dX4_tell_0 : decode cX4_tell 0 = .ok (.aload_n 0, 1) := by decide +kernel
theorem dX4_tell_1 : decode cX4_tell 1 = .ok (.getfield 12, 3) := by decide +kernel
theorem dX4_tell_4 : decode cX4_tell 4 = .ok (.new 22, 3) := by decide +kernel
theorem dX4_tell_7 : decode cX4_tell 7 = .ok (.dup, 1) := by decide +kernel
theorem dX4_tell_8 : decode cX4_tell 8 = .ok (.iload_n 1, 1) := by decide +kernel
theorem dX4_tell_9 : decode cX4_tell 9 = .ok (.iload_n 2, 1) := by decide +kernel
theorem dX4_tell_10 : decode cX4_tell 10 = .ok (.iload_n 3, 1) := by decide +kernel
theorem dX4_tell_11 : decode cX4_tell 11 = .ok (.invokespecial 24, 3) := by decide +kernel
theorem dX4_tell_14 : decode cX4_tell 14 = .ok (.invokevirtual 27, 3) := by decide +kernel
theorem dX4_tell_17 : decode cX4_tell 17 = .ok (.pop, 1) := by decide +kernel
theorem dX4_tell_18 : decode cX4_tell 18 = .ok (.return_, 1) := by decide +kernel
theorem dX4_valueOn_0 : decode cX4_valueOn 0 = .ok (.iconst (-1), 1) := by decide +kernel
theorem dX4_valueOn_1 : decode cX4_valueOn 1 = .ok (.istore_n 3, 1) := by decide +kernel
theorem dX4_valueOn_2 : decode cX4_valueOn 2 = .ok (.iconst (-1), 1) := by decide +kernel
theorem dX4_valueOn_3 : decode cX4_valueOn 3 = .ok (.istore 4, 2) := by decide +kernel
theorem dX4_valueOn_5 : decode cX4_valueOn 5 = .ok (.iconst 0, 1) := by decide +kernel
theorem dX4_valueOn_6 : decode cX4_valueOn 6 = .ok (.istore 5, 2) := by decide +kernel
theorem dX4_valueOn_8 : decode cX4_valueOn 8 = .ok (.iload 5, 2) := by decide +kernel
theorem dX4_valueOn_10 : decode cX4_valueOn 10 = .ok (.aload_n 0, 1) := by decide +kernel
theorem dX4_valueOn_11 : decode cX4_valueOn 11 = .ok (.getfield 12, 3) := by decide +kernel
theorem dX4_valueOn_14 : decode cX4_valueOn 14 = .ok (.invokevirtual 18, 3) := by decide +kernel
theorem dX4_valueOn_17 : decode cX4_valueOn 17 = .ok (.if_icmp .ge 63, 3) := by decide +kernel
theorem dX4_valueOn_20 : decode cX4_valueOn 20 = .ok (.aload_n 0, 1) := by decide +kernel
theorem dX4_valueOn_21 : decode cX4_valueOn 21 = .ok (.getfield 12, 3) := by decide +kernel
theorem dX4_valueOn_24 : decode cX4_valueOn 24 = .ok (.iload 5, 2) := by decide +kernel
theorem dX4_valueOn_26 : decode cX4_valueOn 26 = .ok (.invokevirtual 31, 3) := by decide +kernel
theorem dX4_valueOn_29 : decode cX4_valueOn 29 = .ok (.checkcast 22, 3) := by decide +kernel
theorem dX4_valueOn_32 : decode cX4_valueOn 32 = .ok (.astore 6, 2) := by decide +kernel
theorem dX4_valueOn_34 : decode cX4_valueOn 34 = .ok (.aload 6, 2) := by decide +kernel
theorem dX4_valueOn_36 : decode cX4_valueOn 36 = .ok (.getfield 35, 3) := by decide +kernel
theorem dX4_valueOn_39 : decode cX4_valueOn 39 = .ok (.iload_n 1, 1) := by decide +kernel
theorem dX4_valueOn_40 : decode cX4_valueOn 40 = .ok (.if_icmp .gt 34, 3) := by decide +kernel
theorem dX4_valueOn_43 : decode cX4_valueOn 43 = .ok (.aload 6, 2) := by decide +kernel
theorem dX4_valueOn_45 : decode cX4_valueOn 45 = .ok (.getfield 39, 3) := by decide +kernel
theorem dX4_valueOn_48 : decode cX4_valueOn 48 = .ok (.iload_n 2, 1) := by decide +kernel
theorem dX4_valueOn_49 : decode cX4_valueOn 49 = .ok (.if_icmp .gt 25, 3) := by decide +kernel
theorem dX4_valueOn_52 : decode cX4_valueOn 52 = .ok (.aload 6, 2) := by decide +kernel
theorem dX4_valueOn_54 : decode cX4_valueOn 54 = .ok (.getfield 35, 3) := by decide +kernel
theorem dX4_valueOn_57 : decode cX4_valueOn 57 = .ok (.iload_n 3, 1) := by decide +kernel
theorem dX4_valueOn_58 : decode cX4_valueOn 58 = .ok (.if_icmp .lt 16, 3) := by decide +kernel
theorem dX4_valueOn_61 : decode cX4_valueOn 61 = .ok (.aload 6, 2) := by decide +kernel
theorem dX4_valueOn_63 : decode cX4_valueOn 63 = .ok (.getfield 35, 3) := by decide +kernel
theorem dX4_valueOn_66 : decode cX4_valueOn 66 = .ok (.istore_n 3, 1) := by decide +kernel
theorem dX4_valueOn_67 : decode cX4_valueOn 67 = .ok (.aload 6, 2) := by decide +kernel
theorem dX4_valueOn_69 : decode cX4_valueOn 69 = .ok (.getfield 42, 3) := by decide +kernel
theorem dX4_valueOn_72 : decode cX4_valueOn 72 = .ok (.istore 4, 2) := by decide +kernel
theorem dX4_valueOn_74 : decode cX4_valueOn 74 = .ok (.iinc 5 1, 3) := by decide +kernel
theorem dX4_valueOn_77 : decode cX4_valueOn 77 = .ok (.goto (-69), 3) := by decide +kernel
theorem dX4_valueOn_80 : decode cX4_valueOn 80 = .ok (.iload 4, 2) := by decide +kernel
theorem dX4_valueOn_82 : decode cX4_valueOn 82 = .ok (.ireturn, 1) := by decide +kernel
theorem dX5_init_0 : decode cX5_init 0 = .ok (.aload_n 0, 1) := by decide +kernel
theorem dX5_init_1 : decode cX5_init 1 = .ok (.invokespecial 3, 3) := by decide +kernel
theorem dX5_init_4 : decode cX5_init 4 = .ok (.aload_n 0, 1) := by decide +kernel
theorem dX5_init_5 : decode cX5_init 5 = .ok (.iload_n 1, 1) := by decide +kernel
theorem dX5_init_6 : decode cX5_init 6 = .ok (.putfield 9, 3) := by decide +kernel
theorem dX5_init_9 : decode cX5_init 9 = .ok (.aload_n 0, 1) := by decide +kernel
theorem dX5_init_10 : decode cX5_init 10 = .ok (.iload_n 2, 1) := by decide +kernel
theorem dX5_init_11 : decode cX5_init 11 = .ok (.putfield 15, 3) := by decide +kernel
theorem dX5_init_14 : decode cX5_init 14 = .ok (.aload_n 0, 1) := by decide +kernel
theorem dX5_init_15 : decode cX5_init 15 = .ok (.iload_n 3, 1) := by decide +kernel
theorem dX5_init_16 : decode cX5_init 16 = .ok (.putfield 18, 3) := by decide +kernel
theorem dX5_init_19 : decode cX5_init 19 = .ok (.aload_n 0, 1) := by decide +kernel
theorem dX5_init_20 : decode cX5_init 20 = .ok (.iload 4, 2) := by decide +kernel
theorem dX5_init_22 : decode cX5_init 22 = .ok (.putfield 21, 3) := by decide +kernel
theorem dX5_init_25 : decode cX5_init 25 = .ok (.aload_n 0, 1) := by decide +kernel
theorem dX5_init_26 : decode cX5_init 26 = .ok (.iload 5, 2) := by decide +kernel
theorem dX5_init_28 : decode cX5_init 28 = .ok (.putfield 24, 3) := by decide +kernel
theorem dX5_init_31 : decode cX5_init 31 = .ok (.aload_n 0, 1) := by decide +kernel
theorem dX5_init_32 : decode cX5_init 32 = .ok (.iload 6, 2) := by decide +kernel
theorem dX5_init_34 : decode cX5_init 34 = .ok (.putfield 27, 3) := by decide +kernel
theorem dX5_init_37 : decode cX5_init 37 = .ok (.return_, 1) := by decide +kernel
theorem dX5_changed_0 : decode cX5_changed 0 = .ok (.lload_n 1, 1) := by decide +kernel
theorem dX5_changed_1 : decode cX5_changed 1 = .ok (.invokestatic 30, 3) := by decide +kernel
theorem dX5_changed_4 : decode cX5_changed 4 = .ok (.lstore_n 3, 1) := by decide +kernel
theorem dX5_changed_5 : decode cX5_changed 5 = .ok (.lconst 0, 1) := by decide +kernel
theorem dX5_changed_6 : decode cX5_changed 6 = .ok (.lstore 5, 2) := by decide +kernel
theorem dX5_changed_8 : decode cX5_changed 8 = .ok (.iconst 0, 1) := by decide +kernel
theorem dX5_changed_9 : decode cX5_changed 9 = .ok (.istore 7, 2) := by decide +kernel
theorem dX5_changed_11 : decode cX5_changed 11 = .ok (.iload 7, 2) := by decide +kernel
theorem dX5_changed_13 : decode cX5_changed 13 = .ok (.bipush 12, 2) := by decide +kernel
theorem dX5_changed_15 : decode cX5_changed 15 = .ok (.if_icmp .ge 68, 3) := by decide +kernel
theorem dX5_changed_18 : decode cX5_changed 18 = .ok (.lload_n 3, 1) := by decide +kernel
theorem dX5_changed_19 : decode cX5_changed 19 = .ok (.lconst 0, 1) := by decide +kernel
theorem dX5_changed_20 : decode cX5_changed 20 = .ok (.lcmp, 1) := by decide +kernel
theorem dX5_changed_21 : decode cX5_changed 21 = .ok (.ifCond .le 62, 3) := by decide +kernel
theorem dX5_changed_24 : decode cX5_changed 24 = .ok (.lload_n 3, 1) := by decide +kernel
theorem dX5_changed_25 : decode cX5_changed 25 = .ok (.ldc2_w 34, 3) := by decide +kernel
theorem dX5_changed_28 : decode cX5_changed 28 = .ok (.lrem, 1) := by decide +kernel
theorem dX5_changed_29 : decode cX5_changed 29 = .ok (.l2i, 1) := by decide +kernel
theorem dX5_changed_30 : decode cX5_changed 30 = .ok (.istore 8, 2) := by decide +kernel
theorem dX5_changed_32 : decode cX5_changed 32 = .ok (.iload 8, 2) := by decide +kernel
theorem dX5_changed_34 : decode cX5_changed 34 = .ok (.aload_n 0, 1) := by decide +kernel
theorem dX5_changed_35 : decode cX5_changed 35 = .ok (.getfield 21, 3) := by decide +kernel
theorem dX5_changed_38 : decode cX5_changed 38 = .ok (.if_icmp .ne 24, 3) := by decide +kernel
theorem dX5_changed_41 : decode cX5_changed 41 = .ok (.lload 5, 2) := by decide +kernel
theorem dX5_changed_43 : decode cX5_changed 43 = .ok (.aload_n 0, 1) := by decide +kernel
theorem dX5_changed_44 : decode cX5_changed 44 = .ok (.getfield 24, 3) := by decide +kernel
theorem dX5_changed_47 : decode cX5_changed 47 = .ok (.invokestatic 36, 3) := by decide +kernel
theorem dX5_changed_50 : decode cX5_changed 50 = .ok (.aload_n 0, 1) := by decide +kernel
theorem dX5_changed_51 : decode cX5_changed 51 = .ok (.getfield 27, 3) := by decide +kernel
theorem dX5_changed_54 : decode cX5_changed 54 = .ok (.invokestatic 36, 3) := by decide +kernel
theorem dX5_changed_57 : decode cX5_changed 57 = .ok (.lstore 5, 2) := by decide +kernel
theorem dX5_changed_59 : decode cX5_changed 59 = .ok (.goto 12, 3) := by decide +kernel
theorem dX5_changed_62 : decode cX5_changed 62 = .ok (.lload 5, 2) := by decide +kernel
theorem dX5_changed_64 : decode cX5_changed 64 = .ok (.iload 8, 2) := by decide +kernel
theorem dX5_changed_66 : decode cX5_changed 66 = .ok (.invokestatic 36, 3) := by decide +kernel
theorem dX5_changed_69 : decode cX5_changed 69 = .ok (.lstore 5, 2) := by decide +kernel
theorem dX5_changed_71 : decode cX5_changed 71 = .ok (.lload_n 3, 1) := by decide +kernel
theorem dX5_changed_72 : decode cX5_changed 72 = .ok (.ldc2_w 34, 3) := by decide +kernel
theorem dX5_changed_75 : decode cX5_changed 75 = .ok (.ldiv, 1) := by decide +kernel
theorem dX5_changed_76 : decode cX5_changed 76 = .ok (.lstore_n 3, 1) := by decide +kernel
theorem dX5_changed_77 : decode cX5_changed 77 = .ok (.iinc 7 1, 3) := by decide +kernel
theorem dX5_changed_80 : decode cX5_changed 80 = .ok (.goto (-69), 3) := by decide +kernel
theorem dX5_changed_83 : decode cX5_changed 83 = .ok (.lload 5, 2) := by decide +kernel
theorem dX5_changed_85 : decode cX5_changed 85 = .ok (.lreturn, 1) := by decide +kernel
theorem dX6_init_0 : decode cX6_init 0 = .ok (.aload_n 0, 1) := by decide +kernel
theorem dX6_init_1 : decode cX6_init 1 = .ok (.invokespecial 1, 3) := by decide +kernel
theorem dX6_init_4 : decode cX6_init 4 = .ok (.aload_n 0, 1) := by decide +kernel
theorem dX6_init_5 : decode cX6_init 5 = .ok (.iload_n 1, 1) := by decide +kernel
theorem dX6_init_6 : decode cX6_init 6 = .ok (.putfield 7, 3) := by decide +kernel
theorem dX6_init_9 : decode cX6_init 9 = .ok (.aload_n 0, 1) := by decide +kernel
theorem dX6_init_10 : decode cX6_init 10 = .ok (.lload_n 2, 1) := by decide +kernel
theorem dX6_init_11 : decode cX6_init 11 = .ok (.putfield 13, 3) := by decide +kernel
theorem dX6_init_14 : decode cX6_init 14 = .ok (.aload_n 0, 1) := by decide +kernel
theorem dX6_init_15 : decode cX6_init 15 = .ok (.iload 4, 2) := by decide +kernel
theorem dX6_init_17 : decode cX6_init 17 = .ok (.putfield 17, 3) := by decide +kernel
theorem dX6_init_20 : decode cX6_init 20 = .ok (.aload_n 0, 1) := by decide +kernel
theorem dX6_init_21 : decode cX6_init 21 = .ok (.iload 5, 2) := by decide +kernel
theorem dX6_init_23 : decode cX6_init 23 = .ok (.putfield 20, 3) := by decide +kernel
theorem dX6_init_26 : decode cX6_init 26 = .ok (.return_, 1) := by decide +kernel
theorem dX6_counts_0 : decode cX6_counts 0 = .ok (.aload_n 0, 1) := by decide +kernel
theorem dX6_counts_1 : decode cX6_counts 1 = .ok (.getfield 20, 3) := by decide +kernel
theorem dX6_counts_4 : decode cX6_counts 4 = .ok (.iload_n 1, 1) := by decide +kernel
theorem dX6_counts_5 : decode cX6_counts 5 = .ok (.if_icmp .gt 22, 3) := by decide +kernel
theorem dX6_counts_8 : decode cX6_counts 8 = .ok (.aload_n 0, 1) := by decide +kernel
theorem dX6_counts_9 : decode cX6_counts 9 = .ok (.getfield 23, 3) := by decide +kernel
theorem dX6_counts_12 : decode cX6_counts 12 = .ok (.ifCond .eq 11, 3) := by decide +kernel
theorem dX6_counts_15 : decode cX6_counts 15 = .ok (.aload_n 0, 1) := by decide +kernel
theorem dX6_counts_16 : decode cX6_counts 16 = .ok (.getfield 27, 3) := by decide +kernel
theorem dX6_counts_19 : decode cX6_counts 19 = .ok (.iload_n 1, 1) := by decide +kernel
theorem dX6_counts_20 : decode cX6_counts 20 = .ok (.if_icmp .le 7, 3) := by decide +kernel
theorem dX6_counts_23 : decode cX6_counts 23 = .ok (.iconst 1, 1) := by decide +kernel
theorem dX6_counts_24 : decode cX6_counts 24 = .ok (.goto 4, 3) := by decide +kernel
theorem dX6_counts_27 : decode cX6_counts 27 = .ok (.iconst 0, 1) := by decide +kernel
theorem dX6_counts_28 : decode cX6_counts 28 = .ok (.ireturn, 1) := by decide +kernel
theorem dX7_init_0 : decode cX7_init 0 = .ok (.aload_n 0, 1) := by decide +kernel
theorem dX7_init_1 : decode cX7_init 1 = .ok (.invokespecial 3, 3) := by decide +kernel
theorem dX7_init_4 : decode cX7_init 4 = .ok (.aload_n 0, 1) := by decide +kernel
theorem dX7_init_5 : decode cX7_init 5 = .ok (.iconst 0, 1) := by decide +kernel
theorem dX7_init_6 : decode cX7_init 6 = .ok (.putfield 9, 3) := by decide +kernel
theorem dX7_init_9 : decode cX7_init 9 = .ok (.aload_n 0, 1) := by decide +kernel
theorem dX7_init_10 : decode cX7_init 10 = .ok (.iconst (-1), 1) := by decide +kernel
theorem dX7_init_11 : decode cX7_init 11 = .ok (.putfield 15, 3) := by decide +kernel
theorem dX7_init_14 : decode cX7_init 14 = .ok (.aload_n 0, 1) := by decide +kernel
theorem dX7_init_15 : decode cX7_init 15 = .ok (.aload_n 1, 1) := by decide +kernel
theorem dX7_init_16 : decode cX7_init 16 = .ok (.putfield 18, 3) := by decide +kernel
theorem dX7_init_19 : decode cX7_init 19 = .ok (.aload_n 0, 1) := by decide +kernel
theorem dX7_init_20 : decode cX7_init 20 = .ok (.iload_n 2, 1) := by decide +kernel
theorem dX7_init_21 : decode cX7_init 21 = .ok (.putfield 22, 3) := by decide +kernel
theorem dX7_init_24 : decode cX7_init 24 = .ok (.aload_n 0, 1) := by decide +kernel
theorem dX7_init_25 : decode cX7_init 25 = .ok (.lload_n 3, 1) := by decide +kernel
theorem dX7_init_26 : decode cX7_init 26 = .ok (.putfield 25, 3) := by decide +kernel
theorem dX7_init_29 : decode cX7_init 29 = .ok (.aload_n 0, 1) := by decide +kernel
theorem dX7_init_30 : decode cX7_init 30 = .ok (.iload 5, 2) := by decide +kernel
theorem dX7_init_32 : decode cX7_init 32 = .ok (.putfield 29, 3) := by decide +kernel
theorem dX7_init_35 : decode cX7_init 35 = .ok (.return_, 1) := by decide +kernel
theorem dX7_hasVoted_0 : decode cX7_hasVoted 0 = .ok (.aload_n 0, 1) := by decide +kernel
theorem dX7_hasVoted_1 : decode cX7_hasVoted 1 = .ok (.getfield 32, 3) := by decide +kernel
theorem dX7_hasVoted_4 : decode cX7_hasVoted 4 = .ok (.aload_n 0, 1) := by decide +kernel
theorem dX7_hasVoted_5 : decode cX7_hasVoted 5 = .ok (.getfield 35, 3) := by decide +kernel
theorem dX7_hasVoted_8 : decode cX7_hasVoted 8 = .ok (.ior, 1) := by decide +kernel
theorem dX7_hasVoted_9 : decode cX7_hasVoted 9 = .ok (.iconst 1, 1) := by decide +kernel
theorem dX7_hasVoted_10 : decode cX7_hasVoted 10 = .ok (.iload_n 1, 1) := by decide +kernel
theorem dX7_hasVoted_11 : decode cX7_hasVoted 11 = .ok (.ishl, 1) := by decide +kernel
theorem dX7_hasVoted_12 : decode cX7_hasVoted 12 = .ok (.iand, 1) := by decide +kernel
theorem dX7_hasVoted_13 : decode cX7_hasVoted 13 = .ok (.ifCond .eq 7, 3) := by decide +kernel
theorem dX7_hasVoted_16 : decode cX7_hasVoted 16 = .ok (.iconst 1, 1) := by decide +kernel
theorem dX7_hasVoted_17 : decode cX7_hasVoted 17 = .ok (.goto 4, 3) := by decide +kernel
theorem dX7_hasVoted_20 : decode cX7_hasVoted 20 = .ok (.iconst 0, 1) := by decide +kernel
theorem dX7_hasVoted_21 : decode cX7_hasVoted 21 = .ok (.ireturn, 1) := by decide +kernel
theorem dX7_countVotes_0 : decode cX7_countVotes 0 = .ok (.aload_n 0, 1) := by decide +kernel
theorem dX7_countVotes_1 : decode cX7_countVotes 1 = .ok (.getfield 32, 3) := by decide +kernel
theorem dX7_countVotes_4 : decode cX7_countVotes 4 = .ok (.aload_n 0, 1) := by decide +kernel
theorem dX7_countVotes_5 : decode cX7_countVotes 5 = .ok (.getfield 35, 3) := by decide +kernel
theorem dX7_countVotes_8 : decode cX7_countVotes 8 = .ok (.ior, 1) := by decide +kernel
theorem dX7_countVotes_9 : decode cX7_countVotes 9 = .ok (.invokestatic 38, 3) := by decide +kernel
theorem dX7_countVotes_12 : decode cX7_countVotes 12 = .ok (.ireturn, 1) := by decide +kernel
theorem dX7_hasMoreFor_0 : decode cX7_hasMoreFor 0 = .ok (.aload_n 0, 1) := by decide +kernel
theorem dX7_hasMoreFor_1 : decode cX7_hasMoreFor 1 = .ok (.getfield 32, 3) := by decide +kernel
theorem dX7_hasMoreFor_4 : decode cX7_hasMoreFor 4 = .ok (.invokestatic 38, 3) := by decide +kernel
theorem dX7_hasMoreFor_7 : decode cX7_hasMoreFor 7 = .ok (.aload_n 0, 1) := by decide +kernel
theorem dX7_hasMoreFor_8 : decode cX7_hasMoreFor 8 = .ok (.getfield 35, 3) := by decide +kernel
theorem dX7_hasMoreFor_11 : decode cX7_hasMoreFor 11 = .ok (.invokestatic 38, 3) := by decide +kernel
theorem dX7_hasMoreFor_14 : decode cX7_hasMoreFor 14 = .ok (.if_icmp .le 7, 3) := by decide +kernel
theorem dX7_hasMoreFor_17 : decode cX7_hasMoreFor 17 = .ok (.iconst 1, 1) := by decide +kernel
theorem dX7_hasMoreFor_18 : decode cX7_hasMoreFor 18 = .ok (.goto 4, 3) := by decide +kernel
theorem dX7_hasMoreFor_21 : decode cX7_hasMoreFor 21 = .ok (.iconst 0, 1) := by decide +kernel
theorem dX7_hasMoreFor_22 : decode cX7_hasMoreFor 22 = .ok (.ireturn, 1) := by decide +kernel
theorem dX7_canBeDecided_0 : decode cX7_canBeDecided 0 = .ok (.aload_n 0, 1) := by decide +kernel
theorem dX7_canBeDecided_1 : decode cX7_canBeDecided 1 = .ok (.getfield 9, 3) := by decide +kernel
theorem dX7_canBeDecided_4 : decode cX7_canBeDecided 4 = .ok (.ifCond .ne 30, 3) := by decide +kernel
theorem dX7_canBeDecided_7 : decode cX7_canBeDecided 7 = .ok (.iload_n 1, 1) := by decide +kernel
theorem dX7_canBeDecided_8 : decode cX7_canBeDecided 8 = .ok (.aload_n 0, 1) := by decide +kernel
theorem dX7_canBeDecided_9 : decode cX7_canBeDecided 9 = .ok (.getfield 29, 3) := by decide +kernel
theorem dX7_canBeDecided_12 : decode cX7_canBeDecided 12 = .ok (.if_icmp .ge 22, 3) := by decide +kernel
theorem dX7_canBeDecided_15 : decode cX7_canBeDecided 15 = .ok (.aload_n 0, 1) := by decide +kernel
theorem dX7_canBeDecided_16 : decode cX7_canBeDecided 16 = .ok (.invokevirtual 44, 3) := by decide +kernel
theorem dX7_canBeDecided_19 : decode cX7_canBeDecided 19 = .ok (.iconst 5, 1) := by decide +kernel
theorem dX7_canBeDecided_20 : decode cX7_canBeDecided 20 = .ok (.if_icmp .lt 14, 3) := by decide +kernel
theorem dX7_canBeDecided_23 : decode cX7_canBeDecided 23 = .ok (.aload_n 0, 1) := by decide +kernel
theorem dX7_canBeDecided_24 : decode cX7_canBeDecided 24 = .ok (.getfield 48, 3) := by decide +kernel
theorem dX7_canBeDecided_27 : decode cX7_canBeDecided 27 = .ok (.ifCond .ne 7, 3) := by decide +kernel
theorem dX7_canBeDecided_30 : decode cX7_canBeDecided 30 = .ok (.iconst 1, 1) := by decide +kernel
theorem dX7_canBeDecided_31 : decode cX7_canBeDecided 31 = .ok (.goto 4, 3) := by decide +kernel
theorem dX7_canBeDecided_34 : decode cX7_canBeDecided 34 = .ok (.iconst 0, 1) := by decide +kernel
theorem dX7_canBeDecided_35 : decode cX7_canBeDecided 35 = .ok (.ireturn, 1) := by decide +kernel
theorem dX8_init_0 : decode cX8_init 0 = .ok (.aload_n 0, 1) := by decide +kernel
theorem dX8_init_1 : decode cX8_init 1 = .ok (.invokespecial 1, 3) := by decide +kernel
theorem dX8_init_4 : decode cX8_init 4 = .ok (.aload_n 0, 1) := by decide +kernel
theorem dX8_init_5 : decode cX8_init 5 = .ok (.lload_n 1, 1) := by decide +kernel
theorem dX8_init_6 : decode cX8_init 6 = .ok (.putfield 7, 3) := by decide +kernel
theorem dX8_init_9 : decode cX8_init 9 = .ok (.aload_n 0, 1) := by decide +kernel
theorem dX8_init_10 : decode cX8_init 10 = .ok (.iload_n 3, 1) := by decide +kernel
theorem dX8_init_11 : decode cX8_init 11 = .ok (.putfield 13, 3) := by decide +kernel
theorem dX8_init_14 : decode cX8_init 14 = .ok (.aload_n 0, 1) := by decide +kernel
theorem dX8_init_15 : decode cX8_init 15 = .ok (.iload 4, 2) := by decide +kernel
theorem dX8_init_17 : decode cX8_init 17 = .ok (.putfield 17, 3) := by decide +kernel
theorem dX8_init_20 : decode cX8_init 20 = .ok (.return_, 1) := by decide +kernel
theorem dX9_init_0 : decode cX9_init 0 = .ok (.aload_n 0, 1) := by decide +kernel
theorem dX9_init_1 : decode cX9_init 1 = .ok (.invokespecial 3, 3) := by decide +kernel
theorem dX9_init_4 : decode cX9_init 4 = .ok (.aload_n 0, 1) := by decide +kernel
theorem dX9_init_5 : decode cX9_init 5 = .ok (.bipush 27, 2) := by decide +kernel
theorem dX9_init_7 : decode cX9_init 7 = .ok (.newarray .int, 2) := by decide +kernel
theorem dX9_init_9 : decode cX9_init 9 = .ok (.putfield 9, 3) := by decide +kernel
theorem dX9_init_12 : decode cX9_init 12 = .ok (.iconst 0, 1) := by decide +kernel
theorem dX9_init_13 : decode cX9_init 13 = .ok (.istore_n 1, 1) := by decide +kernel
theorem dX9_init_14 : decode cX9_init 14 = .ok (.iload_n 1, 1) := by decide +kernel
theorem dX9_init_15 : decode cX9_init 15 = .ok (.aload_n 0, 1) := by decide +kernel
theorem dX9_init_16 : decode cX9_init 16 = .ok (.getfield 9, 3) := by decide +kernel
theorem dX9_init_19 : decode cX9_init 19 = .ok (.arraylength, 1) := by decide +kernel
theorem dX9_init_20 : decode cX9_init 20 = .ok (.if_icmp .ge 16, 3) := by decide +kernel
theorem dX9_init_23 : decode cX9_init 23 = .ok (.aload_n 0, 1) := by decide +kernel
theorem dX9_init_24 : decode cX9_init 24 = .ok (.getfield 9, 3) := by decide +kernel
theorem dX9_init_27 : decode cX9_init 27 = .ok (.iload_n 1, 1) := by decide +kernel
theorem dX9_init_28 : decode cX9_init 28 = .ok (.iload_n 1, 1) := by decide +kernel
theorem dX9_init_29 : decode cX9_init 29 = .ok (.iastore, 1) := by decide +kernel
theorem dX9_init_30 : decode cX9_init 30 = .ok (.iinc 1 1, 3) := by decide +kernel
theorem dX9_init_33 : decode cX9_init 33 = .ok (.goto (-19), 3) := by decide +kernel
theorem dX9_init_36 : decode cX9_init 36 = .ok (.return_, 1) := by decide +kernel
theorem dX9_letterFor_0 : decode cX9_letterFor 0 = .ok (.iload_n 1, 1) := by decide +kernel
theorem dX9_letterFor_1 : decode cX9_letterFor 1 = .ok (.ifCond .lt 21, 3) := by decide +kernel
theorem dX9_letterFor_4 : decode cX9_letterFor 4 = .ok (.iload_n 1, 1) := by decide +kernel
theorem dX9_letterFor_5 : decode cX9_letterFor 5 = .ok (.aload_n 0, 1) := by decide +kernel
theorem dX9_letterFor_6 : decode cX9_letterFor 6 = .ok (.getfield 9, 3) := by decide +kernel
theorem dX9_letterFor_9 : decode cX9_letterFor 9 = .ok (.arraylength, 1) := by decide +kernel
theorem dX9_letterFor_10 : decode cX9_letterFor 10 = .ok (.if_icmp .ge 12, 3) := by decide +kernel
theorem dX9_letterFor_13 : decode cX9_letterFor 13 = .ok (.aload_n 0, 1) := by decide +kernel
theorem dX9_letterFor_14 : decode cX9_letterFor 14 = .ok (.getfield 9, 3) := by decide +kernel
theorem dX9_letterFor_17 : decode cX9_letterFor 17 = .ok (.iload_n 1, 1) := by decide +kernel
theorem dX9_letterFor_18 : decode cX9_letterFor 18 = .ok (.iaload, 1) := by decide +kernel
theorem dX9_letterFor_19 : decode cX9_letterFor 19 = .ok (.goto 4, 3) := by decide +kernel
theorem dX9_letterFor_22 : decode cX9_letterFor 22 = .ok (.iconst 0, 1) := by decide +kernel
theorem dX9_letterFor_23 : decode cX9_letterFor 23 = .ok (.ireturn, 1) := by decide +kernel
theorem dX9_setLetter_0 : decode cX9_setLetter 0 = .ok (.iload_n 1, 1) := by decide +kernel
theorem dX9_setLetter_1 : decode cX9_setLetter 1 = .ok (.ifCond .lt 19, 3) := by decide +kernel
theorem dX9_setLetter_4 : decode cX9_setLetter 4 = .ok (.iload_n 1, 1) := by decide +kernel
theorem dX9_setLetter_5 : decode cX9_setLetter 5 = .ok (.aload_n 0, 1) := by decide +kernel
theorem dX9_setLetter_6 : decode cX9_setLetter 6 = .ok (.getfield 9, 3) := by decide +kernel
theorem dX9_setLetter_9 : decode cX9_setLetter 9 = .ok (.arraylength, 1) := by decide +kernel
theorem dX9_setLetter_10 : decode cX9_setLetter 10 = .ok (.if_icmp .ge 10, 3) := by decide +kernel
theorem dX9_setLetter_13 : decode cX9_setLetter 13 = .ok (.aload_n 0, 1) := by decide +kernel
theorem dX9_setLetter_14 : decode cX9_setLetter 14 = .ok (.getfield 9, 3) := by decide +kernel
theorem dX9_setLetter_17 : decode cX9_setLetter 17 = .ok (.iload_n 1, 1) := by decide +kernel
theorem dX9_setLetter_18 : decode cX9_setLetter 18 = .ok (.iload_n 2, 1) := by decide +kernel
theorem dX9_setLetter_19 : decode cX9_setLetter 19 = .ok (.iastore, 1) := by decide +kernel
theorem dX9_setLetter_20 : decode cX9_setLetter 20 = .ok (.return_, 1) := by decide +kernel
theorem dX9_onlyLetterTold_0 : decode cX9_onlyLetterTold 0 = .ok (.iconst (-1), 1) := by decide +kernel
theorem dX9_onlyLetterTold_1 : decode cX9_onlyLetterTold 1 = .ok (.istore_n 2, 1) := by decide +kernel
theorem dX9_onlyLetterTold_2 : decode cX9_onlyLetterTold 2 = .ok (.iconst 1, 1) := by decide +kernel
theorem dX9_onlyLetterTold_3 : decode cX9_onlyLetterTold 3 = .ok (.istore_n 3, 1) := by decide +kernel
theorem dX9_onlyLetterTold_4 : decode cX9_onlyLetterTold 4 = .ok (.iload_n 3, 1) := by decide +kernel
theorem dX9_onlyLetterTold_5 : decode cX9_onlyLetterTold 5 = .ok (.aload_n 0, 1) := by decide +kernel
theorem dX9_onlyLetterTold_6 : decode cX9_onlyLetterTold 6 = .ok (.getfield 9, 3) := by decide +kernel
theorem dX9_onlyLetterTold_9 : decode cX9_onlyLetterTold 9 = .ok (.arraylength, 1) := by decide +kernel
theorem dX9_onlyLetterTold_10 : decode cX9_onlyLetterTold 10 = .ok (.if_icmp .ge 28, 3) := by decide +kernel
theorem dX9_onlyLetterTold_13 : decode cX9_onlyLetterTold 13 = .ok (.aload_n 0, 1) := by decide +kernel
theorem dX9_onlyLetterTold_14 : decode cX9_onlyLetterTold 14 = .ok (.getfield 9, 3) := by decide +kernel
theorem dX9_onlyLetterTold_17 : decode cX9_onlyLetterTold 17 = .ok (.iload_n 3, 1) := by decide +kernel
theorem dX9_onlyLetterTold_18 : decode cX9_onlyLetterTold 18 = .ok (.iaload, 1) := by decide +kernel
theorem dX9_onlyLetterTold_19 : decode cX9_onlyLetterTold 19 = .ok (.iload_n 1, 1) := by decide +kernel
theorem dX9_onlyLetterTold_20 : decode cX9_onlyLetterTold 20 = .ok (.if_icmp .ne 12, 3) := by decide +kernel
theorem dX9_onlyLetterTold_23 : decode cX9_onlyLetterTold 23 = .ok (.iload_n 2, 1) := by decide +kernel
theorem dX9_onlyLetterTold_24 : decode cX9_onlyLetterTold 24 = .ok (.iconst (-1), 1) := by decide +kernel
theorem dX9_onlyLetterTold_25 : decode cX9_onlyLetterTold 25 = .ok (.if_icmp .eq 5, 3) := by decide +kernel
theorem dX9_onlyLetterTold_28 : decode cX9_onlyLetterTold 28 = .ok (.iconst (-1), 1) := by decide +kernel
theorem dX9_onlyLetterTold_29 : decode cX9_onlyLetterTold 29 = .ok (.ireturn, 1) := by decide +kernel
theorem dX9_onlyLetterTold_30 : decode cX9_onlyLetterTold 30 = .ok (.iload_n 3, 1) := by decide +kernel
theorem dX9_onlyLetterTold_31 : decode cX9_onlyLetterTold 31 = .ok (.istore_n 2, 1) := by decide +kernel
theorem dX9_onlyLetterTold_32 : decode cX9_onlyLetterTold 32 = .ok (.iinc 3 1, 3) := by decide +kernel
theorem dX9_onlyLetterTold_35 : decode cX9_onlyLetterTold 35 = .ok (.goto (-31), 3) := by decide +kernel
theorem dX9_onlyLetterTold_38 : decode cX9_onlyLetterTold 38 = .ok (.iload_n 2, 1) := by decide +kernel
theorem dX9_onlyLetterTold_39 : decode cX9_onlyLetterTold 39 = .ok (.ireturn, 1) := by decide +kernel
theorem dX9_countDifferent_0 : decode cX9_countDifferent 0 = .ok (.iconst 0, 1) := by decide +kernel
theorem dX9_countDifferent_1 : decode cX9_countDifferent 1 = .ok (.istore_n 1, 1) := by decide +kernel
theorem dX9_countDifferent_2 : decode cX9_countDifferent 2 = .ok (.iconst 1, 1) := by decide +kernel
theorem dX9_countDifferent_3 : decode cX9_countDifferent 3 = .ok (.istore_n 2, 1) := by decide +kernel
theorem dX9_countDifferent_4 : decode cX9_countDifferent 4 = .ok (.iload_n 2, 1) := by decide +kernel
theorem dX9_countDifferent_5 : decode cX9_countDifferent 5 = .ok (.aload_n 0, 1) := by decide +kernel
theorem dX9_countDifferent_6 : decode cX9_countDifferent 6 = .ok (.getfield 9, 3) := by decide +kernel
theorem dX9_countDifferent_9 : decode cX9_countDifferent 9 = .ok (.arraylength, 1) := by decide +kernel
theorem dX9_countDifferent_10 : decode cX9_countDifferent 10 = .ok (.if_icmp .ge 20, 3) := by decide +kernel
theorem dX9_countDifferent_13 : decode cX9_countDifferent 13 = .ok (.iload_n 1, 1) := by decide +kernel
theorem dX9_countDifferent_14 : decode cX9_countDifferent 14 = .ok (.iconst 1, 1) := by decide +kernel
theorem dX9_countDifferent_15 : decode cX9_countDifferent 15 = .ok (.aload_n 0, 1) := by decide +kernel
theorem dX9_countDifferent_16 : decode cX9_countDifferent 16 = .ok (.getfield 9, 3) := by decide +kernel
theorem dX9_countDifferent_19 : decode cX9_countDifferent 19 = .ok (.iload_n 2, 1) := by decide +kernel
theorem dX9_countDifferent_20 : decode cX9_countDifferent 20 = .ok (.iaload, 1) := by decide +kernel
theorem dX9_countDifferent_21 : decode cX9_countDifferent 21 = .ok (.ishl, 1) := by decide +kernel
theorem dX9_countDifferent_22 : decode cX9_countDifferent 22 = .ok (.ior, 1) := by decide +kernel
theorem dX9_countDifferent_23 : decode cX9_countDifferent 23 = .ok (.istore_n 1, 1) := by decide +kernel
theorem dX9_countDifferent_24 : decode cX9_countDifferent 24 = .ok (.iinc 2 1, 3) := by decide +kernel
theorem dX9_countDifferent_27 : decode cX9_countDifferent 27 = .ok (.goto (-23), 3) := by decide +kernel
theorem dX9_countDifferent_30 : decode cX9_countDifferent 30 = .ok (.iload_n 1, 1) := by decide +kernel
theorem dX9_countDifferent_31 : decode cX9_countDifferent 31 = .ok (.invokestatic 15, 3) := by decide +kernel
theorem dX9_countDifferent_34 : decode cX9_countDifferent 34 = .ok (.ireturn, 1) := by decide +kernel
theorem dX10_init_0 : decode cX10_init 0 = .ok (.aload_n 0, 1) := by decide +kernel
theorem dX10_init_1 : decode cX10_init 1 = .ok (.invokespecial 1, 3) := by decide +kernel
theorem dX10_init_4 : decode cX10_init 4 = .ok (.aload_n 0, 1) := by decide +kernel
theorem dX10_init_5 : decode cX10_init 5 = .ok (.new 7, 3) := by decide +kernel
theorem dX10_init_8 : decode cX10_init 8 = .ok (.dup, 1) := by decide +kernel
theorem dX10_init_9 : decode cX10_init 9 = .ok (.invokespecial 9, 3) := by decide +kernel
theorem dX10_init_12 : decode cX10_init 12 = .ok (.putfield 10, 3) := by decide +kernel
theorem dX10_init_15 : decode cX10_init 15 = .ok (.aload_n 0, 1) := by decide +kernel
theorem dX10_init_16 : decode cX10_init 16 = .ok (.new 7, 3) := by decide +kernel
theorem dX10_init_19 : decode cX10_init 19 = .ok (.dup, 1) := by decide +kernel
theorem dX10_init_20 : decode cX10_init 20 = .ok (.invokespecial 9, 3) := by decide +kernel
theorem dX10_init_23 : decode cX10_init 23 = .ok (.putfield 16, 3) := by decide +kernel
theorem dX10_init_26 : decode cX10_init 26 = .ok (.aload_n 0, 1) := by decide +kernel
theorem dX10_init_27 : decode cX10_init 27 = .ok (.new 7, 3) := by decide +kernel
theorem dX10_init_30 : decode cX10_init 30 = .ok (.dup, 1) := by decide +kernel
theorem dX10_init_31 : decode cX10_init 31 = .ok (.invokespecial 9, 3) := by decide +kernel
theorem dX10_init_34 : decode cX10_init 34 = .ok (.putfield 19, 3) := by decide +kernel
theorem dX10_init_37 : decode cX10_init 37 = .ok (.aload_n 0, 1) := by decide +kernel
theorem dX10_init_38 : decode cX10_init 38 = .ok (.new 7, 3) := by decide +kernel
theorem dX10_init_41 : decode cX10_init 41 = .ok (.dup, 1) := by decide +kernel
theorem dX10_init_42 : decode cX10_init 42 = .ok (.invokespecial 9, 3) := by decide +kernel
theorem dX10_init_45 : decode cX10_init 45 = .ok (.putfield 22, 3) := by decide +kernel
theorem dX10_init_48 : decode cX10_init 48 = .ok (.aload_n 0, 1) := by decide +kernel
theorem dX10_init_49 : decode cX10_init 49 = .ok (.new 7, 3) := by decide +kernel
theorem dX10_init_52 : decode cX10_init 52 = .ok (.dup, 1) := by decide +kernel
theorem dX10_init_53 : decode cX10_init 53 = .ok (.invokespecial 9, 3) := by decide +kernel
theorem dX10_init_56 : decode cX10_init 56 = .ok (.putfield 25, 3) := by decide +kernel
theorem dX10_init_59 : decode cX10_init 59 = .ok (.aload_n 0, 1) := by decide +kernel
theorem dX10_init_60 : decode cX10_init 60 = .ok (.new 7, 3) := by decide +kernel
theorem dX10_init_63 : decode cX10_init 63 = .ok (.dup, 1) := by decide +kernel
theorem dX10_init_64 : decode cX10_init 64 = .ok (.invokespecial 9, 3) := by decide +kernel
theorem dX10_init_67 : decode cX10_init 67 = .ok (.putfield 28, 3) := by decide +kernel
theorem dX10_init_70 : decode cX10_init 70 = .ok (.aload_n 0, 1) := by decide +kernel
theorem dX10_init_71 : decode cX10_init 71 = .ok (.new 31, 3) := by decide +kernel
theorem dX10_init_74 : decode cX10_init 74 = .ok (.dup, 1) := by decide +kernel
theorem dX10_init_75 : decode cX10_init 75 = .ok (.invokespecial 33, 3) := by decide +kernel
theorem dX10_init_78 : decode cX10_init 78 = .ok (.putfield 34, 3) := by decide +kernel
theorem dX10_init_81 : decode cX10_init 81 = .ok (.aload_n 0, 1) := by decide +kernel
theorem dX10_init_82 : decode cX10_init 82 = .ok (.iconst 4, 1) := by decide +kernel
theorem dX10_init_83 : decode cX10_init 83 = .ok (.newarray .int, 2) := by decide +kernel
theorem dX10_init_85 : decode cX10_init 85 = .ok (.putfield 38, 3) := by decide +kernel
theorem dX10_init_88 : decode cX10_init 88 = .ok (.aload_n 0, 1) := by decide +kernel
theorem dX10_init_89 : decode cX10_init 89 = .ok (.bipush 24, 2) := by decide +kernel
theorem dX10_init_91 : decode cX10_init 91 = .ok (.newarray .int, 2) := by decide +kernel
theorem dX10_init_93 : decode cX10_init 93 = .ok (.putfield 42, 3) := by decide +kernel
theorem dX10_init_96 : decode cX10_init 96 = .ok (.aload_n 0, 1) := by decide +kernel
theorem dX10_init_97 : decode cX10_init 97 = .ok (.bipush 9, 2) := by decide +kernel
theorem dX10_init_99 : decode cX10_init 99 = .ok (.newarray .int, 2) := by decide +kernel
theorem dX10_init_101 : decode cX10_init 101 = .ok (.putfield 45, 3) := by decide +kernel
theorem dX10_init_104 : decode cX10_init 104 = .ok (.aload_n 0, 1) := by decide +kernel
theorem dX10_init_105 : decode cX10_init 105 = .ok (.iconst 2, 1) := by decide +kernel
theorem dX10_init_106 : decode cX10_init 106 = .ok (.putfield 48, 3) := by decide +kernel
theorem dX10_init_109 : decode cX10_init 109 = .ok (.iconst 0, 1) := by decide +kernel
theorem dX10_init_110 : decode cX10_init 110 = .ok (.istore_n 1, 1) := by decide +kernel
theorem dX10_init_111 : decode cX10_init 111 = .ok (.iload_n 1, 1) := by decide +kernel
theorem dX10_init_112 : decode cX10_init 112 = .ok (.iconst 4, 1) := by decide +kernel
theorem dX10_init_113 : decode cX10_init 113 = .ok (.if_icmp .ge 24, 3) := by decide +kernel
theorem dX10_init_116 : decode cX10_init 116 = .ok (.aload_n 0, 1) := by decide +kernel
theorem dX10_init_117 : decode cX10_init 117 = .ok (.getfield 22, 3) := by decide +kernel
theorem dX10_init_120 : decode cX10_init 120 = .ok (.new 52, 3) := by decide +kernel
theorem dX10_init_123 : decode cX10_init 123 = .ok (.dup, 1) := by decide +kernel
theorem dX10_init_124 : decode cX10_init 124 = .ok (.invokespecial 54, 3) := by decide +kernel
theorem dX10_init_127 : decode cX10_init 127 = .ok (.invokevirtual 55, 3) := by decide +kernel
theorem dX10_init_130 : decode cX10_init 130 = .ok (.pop, 1) := by decide +kernel
theorem dX10_init_131 : decode cX10_init 131 = .ok (.iinc 1 1, 3) := by decide +kernel
theorem dX10_init_134 : decode cX10_init 134 = .ok (.goto (-23), 3) := by decide +kernel
theorem dX10_init_137 : decode cX10_init 137 = .ok (.return_, 1) := by decide +kernel
theorem dX10_feature_0 : decode cX10_feature 0 = .ok (.iload_n 1, 1) := by decide +kernel
theorem dX10_feature_1 : decode cX10_feature 1 = .ok (.ifCond .lt 21, 3) := by decide +kernel
theorem dX10_feature_4 : decode cX10_feature 4 = .ok (.iload_n 1, 1) := by decide +kernel
theorem dX10_feature_5 : decode cX10_feature 5 = .ok (.bipush 6, 2) := by decide +kernel
theorem dX10_feature_7 : decode cX10_feature 7 = .ok (.if_icmp .ge 15, 3) := by decide +kernel
theorem dX10_feature_10 : decode cX10_feature 10 = .ok (.iload_n 2, 1) := by decide +kernel
theorem dX10_feature_11 : decode cX10_feature 11 = .ok (.iload_n 3, 1) := by decide +kernel
theorem dX10_feature_12 : decode cX10_feature 12 = .ok (.invokestatic 59, 3) := by decide +kernel
theorem dX10_feature_15 : decode cX10_feature 15 = .ok (.ifCond .eq 7, 3) := by decide +kernel
theorem dX10_feature_18 : decode cX10_feature 18 = .ok (.iconst 1, 1) := by decide +kernel
theorem dX10_feature_19 : decode cX10_feature 19 = .ok (.goto 4, 3) := by decide +kernel
theorem dX10_feature_22 : decode cX10_feature 22 = .ok (.iconst 0, 1) := by decide +kernel
theorem dX10_feature_23 : decode cX10_feature 23 = .ok (.invokestatic 63, 3) := by decide +kernel
theorem dX10_feature_26 : decode cX10_feature 26 = .ok (.aload_n 0, 1) := by decide +kernel
theorem dX10_feature_27 : decode cX10_feature 27 = .ok (.getfield 10, 3) := by decide +kernel
theorem dX10_feature_30 : decode cX10_feature 30 = .ok (.invokevirtual 67, 3) := by decide +kernel
theorem dX10_feature_33 : decode cX10_feature 33 = .ok (.bipush 24, 2) := by decide +kernel
theorem dX10_feature_35 : decode cX10_feature 35 = .ok (.if_icmp .ge 7, 3) := by decide +kernel
theorem dX10_feature_38 : decode cX10_feature 38 = .ok (.iconst 1, 1) := by decide +kernel
theorem dX10_feature_39 : decode cX10_feature 39 = .ok (.goto 4, 3) := by decide +kernel
theorem dX10_feature_42 : decode cX10_feature 42 = .ok (.iconst 0, 1) := by decide +kernel
theorem dX10_feature_43 : decode cX10_feature 43 = .ok (.invokestatic 71, 3) := by decide +kernel
theorem dX10_feature_46 : decode cX10_feature 46 = .ok (.new 74, 3) := by decide +kernel
theorem dX10_feature_49 : decode cX10_feature 49 = .ok (.dup, 1) := by decide +kernel
theorem dX10_feature_50 : decode cX10_feature 50 = .ok (.iload_n 1, 1) := by decide +kernel
theorem dX10_feature_51 : decode cX10_feature 51 = .ok (.aload_n 0, 1) := by decide +kernel
theorem dX10_feature_52 : decode cX10_feature 52 = .ok (.getfield 76, 3) := by decide +kernel
theorem dX10_feature_55 : decode cX10_feature 55 = .ok (.invokespecial 79, 3) := by decide +kernel
theorem dX10_feature_58 : decode cX10_feature 58 = .ok (.astore 4, 2) := by decide +kernel
theorem dX10_feature_60 : decode cX10_feature 60 = .ok (.aload 4, 2) := by decide +kernel
theorem dX10_feature_62 : decode cX10_feature 62 = .ok (.getfield 82, 3) := by decide +kernel
theorem dX10_feature_65 : decode cX10_feature 65 = .ok (.iload_n 2, 1) := by decide +kernel
theorem dX10_feature_66 : decode cX10_feature 66 = .ok (.iload_n 3, 1) := by decide +kernel
theorem dX10_feature_67 : decode cX10_feature 67 = .ok (.invokestatic 86, 3) := by decide +kernel
theorem dX10_feature_70 : decode cX10_feature 70 = .ok (.aload_n 0, 1) := by decide +kernel
theorem dX10_feature_71 : decode cX10_feature 71 = .ok (.getfield 76, 3) := by decide +kernel
theorem dX10_feature_74 : decode cX10_feature 74 = .ok (.aload_n 0, 1) := by decide +kernel
theorem dX10_feature_75 : decode cX10_feature 75 = .ok (.getfield 76, 3) := by decide +kernel
theorem dX10_feature_78 : decode cX10_feature 78 = .ok (.invokevirtual 90, 3) := by decide +kernel
theorem dX10_feature_81 : decode cX10_feature 81 = .ok (.aload_n 0, 1) := by decide +kernel
theorem dX10_feature_82 : decode cX10_feature 82 = .ok (.getfield 10, 3) := by decide +kernel
theorem dX10_feature_85 : decode cX10_feature 85 = .ok (.aload 4, 2) := by decide +kernel
theorem dX10_feature_87 : decode cX10_feature 87 = .ok (.invokevirtual 55, 3) := by decide +kernel
theorem dX10_feature_90 : decode cX10_feature 90 = .ok (.pop, 1) := by decide +kernel
theorem dX10_feature_91 : decode cX10_feature 91 = .ok (.aload_n 0, 1) := by decide +kernel
theorem dX10_feature_92 : decode cX10_feature 92 = .ok (.getfield 10, 3) := by decide +kernel
theorem dX10_feature_95 : decode cX10_feature 95 = .ok (.invokevirtual 67, 3) := by decide +kernel
theorem dX10_feature_98 : decode cX10_feature 98 = .ok (.iconst 1, 1) := by decide +kernel
theorem dX10_feature_99 : decode cX10_feature 99 = .ok (.isub, 1) := by decide +kernel
theorem dX10_feature_100 : decode cX10_feature 100 = .ok (.ireturn, 1) := by decide +kernel
theorem dX10_move_0 : decode cX10_move 0 = .ok (.aload_n 0, 1) := by decide +kernel
theorem dX10_move_1 : decode cX10_move 1 = .ok (.iload_n 1, 1) := by decide +kernel
theorem dX10_move_2 : decode cX10_move 2 = .ok (.invokevirtual 96, 3) := by decide +kernel
theorem dX10_move_5 : decode cX10_move 5 = .ok (.astore 5, 2) := by decide +kernel
theorem dX10_move_7 : decode cX10_move 7 = .ok (.iload_n 2, 1) := by decide +kernel
theorem dX10_move_8 : decode cX10_move 8 = .ok (.iload_n 3, 1) := by decide +kernel
theorem dX10_move_9 : decode cX10_move 9 = .ok (.invokestatic 59, 3) := by decide +kernel
theorem dX10_move_12 : decode cX10_move 12 = .ok (.ifCond .eq 15, 3) := by decide +kernel
theorem dX10_move_15 : decode cX10_move 15 = .ok (.iload 4, 2) := by decide +kernel
theorem dX10_move_17 : decode cX10_move 17 = .ok (.invokestatic 100, 3) := by decide +kernel
theorem dX10_move_20 : decode cX10_move 20 = .ok (.ifCond .eq 7, 3) := by decide +kernel
theorem dX10_move_23 : decode cX10_move 23 = .ok (.iconst 1, 1) := by decide +kernel
theorem dX10_move_24 : decode cX10_move 24 = .ok (.goto 4, 3) := by decide +kernel
theorem dX10_move_27 : decode cX10_move 27 = .ok (.iconst 0, 1) := by decide +kernel
theorem dX10_move_28 : decode cX10_move 28 = .ok (.invokestatic 63, 3) := by decide +kernel
theorem dX10_move_31 : decode cX10_move 31 = .ok (.aload 5, 2) := by decide +kernel
theorem dX10_move_33 : decode cX10_move 33 = .ok (.getfield 82, 3) := by decide +kernel
theorem dX10_move_36 : decode cX10_move 36 = .ok (.invokevirtual 104, 3) := by decide +kernel
theorem dX10_move_39 : decode cX10_move 39 = .ok (.ifCond .ne 7, 3) := by decide +kernel
theorem dX10_move_42 : decode cX10_move 42 = .ok (.iconst 1, 1) := by decide +kernel
theorem dX10_move_43 : decode cX10_move 43 = .ok (.goto 4, 3) := by decide +kernel
theorem dX10_move_46 : decode cX10_move 46 = .ok (.iconst 0, 1) := by decide +kernel
theorem dX10_move_47 : decode cX10_move 47 = .ok (.invokestatic 71, 3) := by decide +kernel
theorem dX10_move_50 : decode cX10_move 50 = .ok (.aload 5, 2) := by decide +kernel
theorem dX10_move_52 : decode cX10_move 52 = .ok (.getfield 82, 3) := by decide +kernel
theorem dX10_move_55 : decode cX10_move 55 = .ok (.iload_n 2, 1) := by decide +kernel
theorem dX10_move_56 : decode cX10_move 56 = .ok (.iload_n 3, 1) := by decide +kernel
theorem dX10_move_57 : decode cX10_move 57 = .ok (.invokestatic 86, 3) := by decide +kernel
theorem dX10_move_60 : decode cX10_move 60 = .ok (.iload 4, 2) := by decide +kernel
theorem dX10_move_62 : decode cX10_move 62 = .ok (.aload_n 0, 1) := by decide +kernel
theorem dX10_move_63 : decode cX10_move 63 = .ok (.getfield 76, 3) := by decide +kernel
theorem dX10_move_66 : decode cX10_move 66 = .ok (.invokevirtual 90, 3) := by decide +kernel
theorem dX10_move_69 : decode cX10_move 69 = .ok (.return_, 1) := by decide +kernel
theorem dX10_part_0 : decode cX10_part 0 = .ok (.aload_n 0, 1) := by decide +kernel
theorem dX10_part_1 : decode cX10_part 1 = .ok (.iload_n 1, 1) := by decide +kernel
theorem dX10_part_2 : decode cX10_part 2 = .ok (.invokevirtual 96, 3) := by decide +kernel
theorem dX10_part_5 : decode cX10_part 5 = .ok (.astore 4, 2) := by decide +kernel
theorem dX10_part_7 : decode cX10_part 7 = .ok (.aload_n 0, 1) := by decide +kernel
theorem dX10_part_8 : decode cX10_part 8 = .ok (.iload_n 2, 1) := by decide +kernel
theorem dX10_part_9 : decode cX10_part 9 = .ok (.invokevirtual 108, 3) := by decide +kernel
theorem dX10_part_12 : decode cX10_part 12 = .ok (.iload_n 2, 1) := by decide +kernel
theorem dX10_part_13 : decode cX10_part 13 = .ok (.iload_n 1, 1) := by decide +kernel
theorem dX10_part_14 : decode cX10_part 14 = .ok (.if_icmp .ge 14, 3) := by decide +kernel
theorem dX10_part_17 : decode cX10_part 17 = .ok (.iload_n 3, 1) := by decide +kernel
theorem dX10_part_18 : decode cX10_part 18 = .ok (.invokestatic 100, 3) := by decide +kernel
theorem dX10_part_21 : decode cX10_part 21 = .ok (.ifCond .eq 7, 3) := by decide +kernel
theorem dX10_part_24 : decode cX10_part 24 = .ok (.iconst 1, 1) := by decide +kernel
theorem dX10_part_25 : decode cX10_part 25 = .ok (.goto 4, 3) := by decide +kernel
theorem dX10_part_28 : decode cX10_part 28 = .ok (.iconst 0, 1) := by decide +kernel
theorem dX10_part_29 : decode cX10_part 29 = .ok (.invokestatic 63, 3) := by decide +kernel
theorem dX10_part_32 : decode cX10_part 32 = .ok (.aload 4, 2) := by decide +kernel
theorem dX10_part_34 : decode cX10_part 34 = .ok (.getfield 112, 3) := by decide +kernel
theorem dX10_part_37 : decode cX10_part 37 = .ok (.invokevirtual 104, 3) := by decide +kernel
theorem dX10_part_40 : decode cX10_part 40 = .ok (.ifCond .ne 7, 3) := by decide +kernel
theorem dX10_part_43 : decode cX10_part 43 = .ok (.iconst 1, 1) := by decide +kernel
theorem dX10_part_44 : decode cX10_part 44 = .ok (.goto 4, 3) := by decide +kernel
theorem dX10_part_47 : decode cX10_part 47 = .ok (.iconst 0, 1) := by decide +kernel
theorem dX10_part_48 : decode cX10_part 48 = .ok (.invokestatic 71, 3) := by decide +kernel
theorem dX10_part_51 : decode cX10_part 51 = .ok (.aload 4, 2) := by decide +kernel
theorem dX10_part_53 : decode cX10_part 53 = .ok (.getfield 112, 3) := by decide +kernel
theorem dX10_part_56 : decode cX10_part 56 = .ok (.iload_n 2, 1) := by decide +kernel
theorem dX10_part_57 : decode cX10_part 57 = .ok (.iload_n 3, 1) := by decide +kernel
theorem dX10_part_58 : decode cX10_part 58 = .ok (.aload_n 0, 1) := by decide +kernel
theorem dX10_part_59 : decode cX10_part 59 = .ok (.getfield 76, 3) := by decide +kernel
theorem dX10_part_62 : decode cX10_part 62 = .ok (.invokevirtual 90, 3) := by decide +kernel
theorem dX10_part_65 : decode cX10_part 65 = .ok (.return_, 1) := by decide +kernel
theorem dX10_end_0 : decode cX10_end 0 = .ok (.aload_n 0, 1) := by decide +kernel
theorem dX10_end_1 : decode cX10_end 1 = .ok (.iload_n 1, 1) := by decide +kernel
theorem dX10_end_2 : decode cX10_end 2 = .ok (.invokevirtual 96, 3) := by decide +kernel
theorem dX10_end_5 : decode cX10_end 5 = .ok (.astore 4, 2) := by decide +kernel
theorem dX10_end_7 : decode cX10_end 7 = .ok (.aload_n 0, 1) := by decide +kernel
theorem dX10_end_8 : decode cX10_end 8 = .ok (.iload_n 2, 1) := by decide +kernel
theorem dX10_end_9 : decode cX10_end 9 = .ok (.invokevirtual 108, 3) := by decide +kernel
theorem dX10_end_12 : decode cX10_end 12 = .ok (.iload_n 2, 1) := by decide +kernel
theorem dX10_end_13 : decode cX10_end 13 = .ok (.iload_n 1, 1) := by decide +kernel
theorem dX10_end_14 : decode cX10_end 14 = .ok (.if_icmp .eq 14, 3) := by decide +kernel
theorem dX10_end_17 : decode cX10_end 17 = .ok (.iload_n 3, 1) := by decide +kernel
theorem dX10_end_18 : decode cX10_end 18 = .ok (.invokestatic 100, 3) := by decide +kernel
theorem dX10_end_21 : decode cX10_end 21 = .ok (.ifCond .eq 7, 3) := by decide +kernel
theorem dX10_end_24 : decode cX10_end 24 = .ok (.iconst 1, 1) := by decide +kernel
theorem dX10_end_25 : decode cX10_end 25 = .ok (.goto 4, 3) := by decide +kernel
theorem dX10_end_28 : decode cX10_end 28 = .ok (.iconst 0, 1) := by decide +kernel
theorem dX10_end_29 : decode cX10_end 29 = .ok (.invokestatic 63, 3) := by decide +kernel
theorem dX10_end_32 : decode cX10_end 32 = .ok (.aload 4, 2) := by decide +kernel
theorem dX10_end_34 : decode cX10_end 34 = .ok (.getfield 115, 3) := by decide +kernel
theorem dX10_end_37 : decode cX10_end 37 = .ok (.ifCond .ne 7, 3) := by decide +kernel
theorem dX10_end_40 : decode cX10_end 40 = .ok (.iconst 1, 1) := by decide +kernel
theorem dX10_end_41 : decode cX10_end 41 = .ok (.goto 4, 3) := by decide +kernel
theorem dX10_end_44 : decode cX10_end 44 = .ok (.iconst 0, 1) := by decide +kernel
theorem dX10_end_45 : decode cX10_end 45 = .ok (.invokestatic 71, 3) := by decide +kernel
theorem dX10_end_48 : decode cX10_end 48 = .ok (.aload 4, 2) := by decide +kernel
theorem dX10_end_50 : decode cX10_end 50 = .ok (.iconst 1, 1) := by decide +kernel
theorem dX10_end_51 : decode cX10_end 51 = .ok (.putfield 115, 3) := by decide +kernel
theorem dX10_end_54 : decode cX10_end 54 = .ok (.aload 4, 2) := by decide +kernel
theorem dX10_end_56 : decode cX10_end 56 = .ok (.aload_n 0, 1) := by decide +kernel
theorem dX10_end_57 : decode cX10_end 57 = .ok (.getfield 76, 3) := by decide +kernel
theorem dX10_end_60 : decode cX10_end 60 = .ok (.putfield 119, 3) := by decide +kernel
theorem dX10_end_63 : decode cX10_end 63 = .ok (.aload 4, 2) := by decide +kernel
theorem dX10_end_65 : decode cX10_end 65 = .ok (.iload_n 3, 1) := by decide +kernel
theorem dX10_end_66 : decode cX10_end 66 = .ok (.putfield 122, 3) := by decide +kernel
theorem dX10_end_69 : decode cX10_end 69 = .ok (.aload 4, 2) := by decide +kernel
theorem dX10_end_71 : decode cX10_end 71 = .ok (.iload_n 2, 1) := by decide +kernel
theorem dX10_end_72 : decode cX10_end 72 = .ok (.putfield 125, 3) := by decide +kernel
theorem dX10_end_75 : decode cX10_end 75 = .ok (.return_, 1) := by decide +kernel
theorem dX10_of_0 : decode cX10_of 0 = .ok (.aload_n 0, 1) := by decide +kernel
theorem dX10_of_1 : decode cX10_of 1 = .ok (.iload_n 1, 1) := by decide +kernel
theorem dX10_of_2 : decode cX10_of 2 = .ok (.invokevirtual 96, 3) := by decide +kernel
theorem dX10_of_5 : decode cX10_of 5 = .ok (.astore 5, 2) := by decide +kernel
theorem dX10_of_7 : decode cX10_of 7 = .ok (.iload_n 2, 1) := by decide +kernel
theorem dX10_of_8 : decode cX10_of 8 = .ok (.ifCond .lt 27, 3) := by decide +kernel
theorem dX10_of_11 : decode cX10_of 11 = .ok (.iload_n 2, 1) := by decide +kernel
theorem dX10_of_12 : decode cX10_of 12 = .ok (.iconst 4, 1) := by decide +kernel
theorem dX10_of_13 : decode cX10_of 13 = .ok (.if_icmp .gt 22, 3) := by decide +kernel
theorem dX10_of_16 : decode cX10_of 16 = .ok (.iload_n 3, 1) := by decide +kernel
theorem dX10_of_17 : decode cX10_of 17 = .ok (.invokestatic 100, 3) := by decide +kernel
theorem dX10_of_20 : decode cX10_of 20 = .ok (.ifCond .eq 15, 3) := by decide +kernel
theorem dX10_of_23 : decode cX10_of 23 = .ok (.iload 4, 2) := by decide +kernel
theorem dX10_of_25 : decode cX10_of 25 = .ok (.invokestatic 100, 3) := by decide +kernel
theorem dX10_of_28 : decode cX10_of 28 = .ok (.ifCond .eq 7, 3) := by decide +kernel
theorem dX10_of_31 : decode cX10_of 31 = .ok (.iconst 1, 1) := by decide +kernel
theorem dX10_of_32 : decode cX10_of 32 = .ok (.goto 4, 3) := by decide +kernel
theorem dX10_of_35 : decode cX10_of 35 = .ok (.iconst 0, 1) := by decide +kernel
theorem dX10_of_36 : decode cX10_of 36 = .ok (.invokestatic 63, 3) := by decide +kernel
theorem dX10_of_39 : decode cX10_of 39 = .ok (.iload_n 2, 1) := by decide +kernel
theorem dX10_of_40 : decode cX10_of 40 = .ok (.tableswitch 91 0 3 #[32, 49, 64, 79], 32) := by decide +kernel
theorem dX10_of_72 : decode cX10_of 72 = .ok (.aload 5, 2) := by decide +kernel
theorem dX10_of_74 : decode cX10_of 74 = .ok (.iload_n 3, 1) := by decide +kernel
theorem dX10_of_75 : decode cX10_of 75 = .ok (.iload 4, 2) := by decide +kernel
theorem dX10_of_77 : decode cX10_of 77 = .ok (.invokevirtual 128, 3) := by decide +kernel
theorem dX10_of_80 : decode cX10_of 80 = .ok (.ifCond .eq 7, 3) := by decide +kernel
theorem dX10_of_83 : decode cX10_of 83 = .ok (.iconst 1, 1) := by decide +kernel
theorem dX10_of_84 : decode cX10_of 84 = .ok (.goto 4, 3) := by decide +kernel
theorem dX10_of_87 : decode cX10_of 87 = .ok (.iconst 0, 1) := by decide +kernel
theorem dX10_of_88 : decode cX10_of 88 = .ok (.ireturn, 1) := by decide +kernel
theorem dX10_of_89 : decode cX10_of 89 = .ok (.aload 5, 2) := by decide +kernel
theorem dX10_of_91 : decode cX10_of 91 = .ok (.getfield 82, 3) := by decide +kernel
theorem dX10_of_94 : decode cX10_of 94 = .ok (.iload_n 3, 1) := by decide +kernel
theorem dX10_of_95 : decode cX10_of 95 = .ok (.iload 4, 2) := by decide +kernel
theorem dX10_of_97 : decode cX10_of 97 = .ok (.invokevirtual 131, 3) := by decide +kernel
theorem dX10_of_100 : decode cX10_of 100 = .ok (.invokestatic 134, 3) := by decide +kernel
theorem dX10_of_103 : decode cX10_of 103 = .ok (.ireturn, 1) := by decide +kernel
theorem dX10_of_104 : decode cX10_of 104 = .ok (.aload 5, 2) := by decide +kernel
theorem dX10_of_106 : decode cX10_of 106 = .ok (.getfield 82, 3) := by decide +kernel
theorem dX10_of_109 : decode cX10_of 109 = .ok (.iload_n 3, 1) := by decide +kernel
theorem dX10_of_110 : decode cX10_of 110 = .ok (.iload 4, 2) := by decide +kernel
theorem dX10_of_112 : decode cX10_of 112 = .ok (.invokevirtual 131, 3) := by decide +kernel
theorem dX10_of_115 : decode cX10_of 115 = .ok (.invokestatic 138, 3) := by decide +kernel
theorem dX10_of_118 : decode cX10_of 118 = .ok (.ireturn, 1) := by decide +kernel
theorem dX10_of_119 : decode cX10_of 119 = .ok (.aload 5, 2) := by decide +kernel
theorem dX10_of_121 : decode cX10_of 121 = .ok (.getfield 112, 3) := by decide +kernel
theorem dX10_of_124 : decode cX10_of 124 = .ok (.iload_n 3, 1) := by decide +kernel
theorem dX10_of_125 : decode cX10_of 125 = .ok (.iload 4, 2) := by decide +kernel
theorem dX10_of_127 : decode cX10_of 127 = .ok (.invokevirtual 131, 3) := by decide +kernel
theorem dX10_of_130 : decode cX10_of 130 = .ok (.ireturn, 1) := by decide +kernel
theorem dX10_of_131 : decode cX10_of 131 = .ok (.aload 5, 2) := by decide +kernel
theorem dX10_of_133 : decode cX10_of 133 = .ok (.iload_n 3, 1) := by decide +kernel
theorem dX10_of_134 : decode cX10_of 134 = .ok (.iload 4, 2) := by decide +kernel
theorem dX10_of_136 : decode cX10_of 136 = .ok (.invokevirtual 141, 3) := by decide +kernel
theorem dX10_of_139 : decode cX10_of 139 = .ok (.ifCond .eq 11, 3) := by decide +kernel
theorem dX10_of_142 : decode cX10_of 142 = .ok (.aload 5, 2) := by decide +kernel
theorem dX10_of_144 : decode cX10_of 144 = .ok (.getfield 125, 3) := by decide +kernel
theorem dX10_of_147 : decode cX10_of 147 = .ok (.goto 4, 3) := by decide +kernel
theorem dX10_of_150 : decode cX10_of 150 = .ok (.iconst (-1), 1) := by decide +kernel
theorem dX10_of_151 : decode cX10_of 151 = .ok (.ireturn, 1) := by decide +kernel
theorem dX10_name_0 : decode cX10_name 0 = .ok (.aload_n 0, 1) := by decide +kernel
theorem dX10_name_1 : decode cX10_name 1 = .ok (.iload_n 1, 1) := by decide +kernel
theorem dX10_name_2 : decode cX10_name 2 = .ok (.invokevirtual 96, 3) := by decide +kernel
theorem dX10_name_5 : decode cX10_name 5 = .ok (.astore 6, 2) := by decide +kernel
theorem dX10_name_7 : decode cX10_name 7 = .ok (.iload_n 2, 1) := by decide +kernel
theorem dX10_name_8 : decode cX10_name 8 = .ok (.invokestatic 144, 3) := by decide +kernel
theorem dX10_name_11 : decode cX10_name 11 = .ok (.lload_n 3, 1) := by decide +kernel
theorem dX10_name_12 : decode cX10_name 12 = .ok (.bipush 8, 2) := by decide +kernel
theorem dX10_name_14 : decode cX10_name 14 = .ok (.invokestatic 147, 3) := by decide +kernel
theorem dX10_name_17 : decode cX10_name 17 = .ok (.ifCond .eq 15, 3) := by decide +kernel
theorem dX10_name_20 : decode cX10_name 20 = .ok (.iload 5, 2) := by decide +kernel
theorem dX10_name_22 : decode cX10_name 22 = .ok (.invokestatic 100, 3) := by decide +kernel
theorem dX10_name_25 : decode cX10_name 25 = .ok (.ifCond .eq 7, 3) := by decide +kernel
theorem dX10_name_28 : decode cX10_name 28 = .ok (.iconst 1, 1) := by decide +kernel
theorem dX10_name_29 : decode cX10_name 29 = .ok (.goto 4, 3) := by decide +kernel
theorem dX10_name_32 : decode cX10_name 32 = .ok (.iconst 0, 1) := by decide +kernel
theorem dX10_name_33 : decode cX10_name 33 = .ok (.invokestatic 63, 3) := by decide +kernel
theorem dX10_name_36 : decode cX10_name 36 = .ok (.aload_n 0, 1) := by decide +kernel
theorem dX10_name_37 : decode cX10_name 37 = .ok (.getfield 151, 3) := by decide +kernel
theorem dX10_name_40 : decode cX10_name 40 = .ok (.bipush 100, 2) := by decide +kernel
theorem dX10_name_42 : decode cX10_name 42 = .ok (.if_icmp .ge 20, 3) := by decide +kernel
theorem dX10_name_45 : decode cX10_name 45 = .ok (.aload_n 0, 1) := by decide +kernel
theorem dX10_name_46 : decode cX10_name 46 = .ok (.aload 6, 2) := by decide +kernel
theorem dX10_name_48 : decode cX10_name 48 = .ok (.iload_n 2, 1) := by decide +kernel
theorem dX10_name_49 : decode cX10_name 49 = .ok (.lload_n 3, 1) := by decide +kernel
theorem dX10_name_50 : decode cX10_name 50 = .ok (.iload 5, 2) := by decide +kernel
theorem dX10_name_52 : decode cX10_name 52 = .ok (.invokevirtual 154, 3) := by decide +kernel
theorem dX10_name_55 : decode cX10_name 55 = .ok (.ifCond .ne 7, 3) := by decide +kernel
theorem dX10_name_58 : decode cX10_name 58 = .ok (.iconst 1, 1) := by decide +kernel
theorem dX10_name_59 : decode cX10_name 59 = .ok (.goto 4, 3) := by decide +kernel
theorem dX10_name_62 : decode cX10_name 62 = .ok (.iconst 0, 1) := by decide +kernel
theorem dX10_name_63 : decode cX10_name 63 = .ok (.invokestatic 71, 3) := by decide +kernel
theorem dX10_name_66 : decode cX10_name 66 = .ok (.aload 6, 2) := by decide +kernel
theorem dX10_name_68 : decode cX10_name 68 = .ok (.getfield 158, 3) := by decide +kernel
theorem dX10_name_71 : decode cX10_name 71 = .ok (.new 161, 3) := by decide +kernel
theorem dX10_name_74 : decode cX10_name 74 = .ok (.dup, 1) := by decide +kernel
theorem dX10_name_75 : decode cX10_name 75 = .ok (.iload_n 2, 1) := by decide +kernel
theorem dX10_name_76 : decode cX10_name 76 = .ok (.lload_n 3, 1) := by decide +kernel
theorem dX10_name_77 : decode cX10_name 77 = .ok (.iload 5, 2) := by decide +kernel
theorem dX10_name_79 : decode cX10_name 79 = .ok (.aload_n 0, 1) := by decide +kernel
theorem dX10_name_80 : decode cX10_name 80 = .ok (.getfield 76, 3) := by decide +kernel
theorem dX10_name_83 : decode cX10_name 83 = .ok (.invokespecial 163, 3) := by decide +kernel
theorem dX10_name_86 : decode cX10_name 86 = .ok (.invokevirtual 55, 3) := by decide +kernel
theorem dX10_name_89 : decode cX10_name 89 = .ok (.pop, 1) := by decide +kernel
theorem dX10_name_90 : decode cX10_name 90 = .ok (.aload_n 0, 1) := by decide +kernel
theorem dX10_name_91 : decode cX10_name 91 = .ok (.dup, 1) := by decide +kernel
theorem dX10_name_92 : decode cX10_name 92 = .ok (.getfield 151, 3) := by decide +kernel
theorem dX10_name_95 : decode cX10_name 95 = .ok (.iconst 1, 1) := by decide +kernel
theorem dX10_name_96 : decode cX10_name 96 = .ok (.iadd, 1) := by decide +kernel
theorem dX10_name_97 : decode cX10_name 97 = .ok (.putfield 151, 3) := by decide +kernel
theorem dX10_name_100 : decode cX10_name 100 = .ok (.aload_n 0, 1) := by decide +kernel
theorem dX10_name_101 : decode cX10_name 101 = .ok (.getfield 151, 3) := by decide +kernel
theorem dX10_name_104 : decode cX10_name 104 = .ok (.ireturn, 1) := by decide +kernel
theorem dX10_law_0 : decode cX10_law 0 = .ok (.iload_n 1, 1) := by decide +kernel
theorem dX10_law_1 : decode cX10_law 1 = .ok (.invokestatic 144, 3) := by decide +kernel
theorem dX10_law_4 : decode cX10_law 4 = .ok (.iload_n 2, 1) := by decide +kernel
theorem dX10_law_5 : decode cX10_law 5 = .ok (.invokestatic 100, 3) := by decide +kernel
theorem dX10_law_8 : decode cX10_law 8 = .ok (.ifCond .eq 30, 3) := by decide +kernel
theorem dX10_law_11 : decode cX10_law 11 = .ok (.iload_n 3, 1) := by decide +kernel
theorem dX10_law_12 : decode cX10_law 12 = .ok (.invokestatic 166, 3) := by decide +kernel
theorem dX10_law_15 : decode cX10_law 15 = .ok (.ifCond .eq 23, 3) := by decide +kernel
theorem dX10_law_18 : decode cX10_law 18 = .ok (.iload 4, 2) := by decide +kernel
theorem dX10_law_20 : decode cX10_law 20 = .ok (.invokestatic 169, 3) := by decide +kernel
theorem dX10_law_23 : decode cX10_law 23 = .ok (.ifCond .eq 15, 3) := by decide +kernel
theorem dX10_law_26 : decode cX10_law 26 = .ok (.iload 5, 2) := by decide +kernel
theorem dX10_law_28 : decode cX10_law 28 = .ok (.invokestatic 169, 3) := by decide +kernel
theorem dX10_law_31 : decode cX10_law 31 = .ok (.ifCond .eq 7, 3) := by decide +kernel
theorem dX10_law_34 : decode cX10_law 34 = .ok (.iconst 1, 1) := by decide +kernel
theorem dX10_law_35 : decode cX10_law 35 = .ok (.goto 4, 3) := by decide +kernel
theorem dX10_law_38 : decode cX10_law 38 = .ok (.iconst 0, 1) := by decide +kernel
theorem dX10_law_39 : decode cX10_law 39 = .ok (.invokestatic 63, 3) := by decide +kernel
theorem dX10_law_42 : decode cX10_law 42 = .ok (.iload 4, 2) := by decide +kernel
theorem dX10_law_44 : decode cX10_law 44 = .ok (.ifCond .ne 8, 3) := by decide +kernel
theorem dX10_law_47 : decode cX10_law 47 = .ok (.iload 5, 2) := by decide +kernel
theorem dX10_law_49 : decode cX10_law 49 = .ok (.ifCond .ne 7, 3) := by decide +kernel
theorem dX10_law_52 : decode cX10_law 52 = .ok (.iconst 1, 1) := by decide +kernel
theorem dX10_law_53 : decode cX10_law 53 = .ok (.goto 4, 3) := by decide +kernel
theorem dX10_law_56 : decode cX10_law 56 = .ok (.iconst 0, 1) := by decide +kernel
theorem dX10_law_57 : decode cX10_law 57 = .ok (.invokestatic 63, 3) := by decide +kernel
theorem dX10_law_60 : decode cX10_law 60 = .ok (.aload_n 0, 1) := by decide +kernel
theorem dX10_law_61 : decode cX10_law 61 = .ok (.getfield 16, 3) := by decide +kernel
theorem dX10_law_64 : decode cX10_law 64 = .ok (.invokevirtual 67, 3) := by decide +kernel
theorem dX10_law_67 : decode cX10_law 67 = .ok (.bipush 12, 2) := by decide +kernel
theorem dX10_law_69 : decode cX10_law 69 = .ok (.if_icmp .ge 7, 3) := by decide +kernel
theorem dX10_law_72 : decode cX10_law 72 = .ok (.iconst 1, 1) := by decide +kernel
theorem dX10_law_73 : decode cX10_law 73 = .ok (.goto 4, 3) := by decide +kernel
theorem dX10_law_76 : decode cX10_law 76 = .ok (.iconst 0, 1) := by decide +kernel
theorem dX10_law_77 : decode cX10_law 77 = .ok (.invokestatic 71, 3) := by decide +kernel
theorem dX10_law_80 : decode cX10_law 80 = .ok (.new 172, 3) := by decide +kernel
theorem dX10_law_83 : decode cX10_law 83 = .ok (.dup, 1) := by decide +kernel
theorem dX10_law_84 : decode cX10_law 84 = .ok (.iload_n 1, 1) := by decide +kernel
theorem dX10_law_85 : decode cX10_law 85 = .ok (.iload_n 2, 1) := by decide +kernel
theorem dX10_law_86 : decode cX10_law 86 = .ok (.aload_n 0, 1) := by decide +kernel
theorem dX10_law_87 : decode cX10_law 87 = .ok (.getfield 76, 3) := by decide +kernel
theorem dX10_law_90 : decode cX10_law 90 = .ok (.iload_n 3, 1) := by decide +kernel
theorem dX10_law_91 : decode cX10_law 91 = .ok (.iload 4, 2) := by decide +kernel
theorem dX10_law_93 : decode cX10_law 93 = .ok (.iload 5, 2) := by decide +kernel
theorem dX10_law_95 : decode cX10_law 95 = .ok (.invokespecial 174, 3) := by decide +kernel
theorem dX10_law_98 : decode cX10_law 98 = .ok (.astore 6, 2) := by decide +kernel
theorem dX10_law_100 : decode cX10_law 100 = .ok (.aload_n 0, 1) := by decide +kernel
theorem dX10_law_101 : decode cX10_law 101 = .ok (.getfield 16, 3) := by decide +kernel
theorem dX10_law_104 : decode cX10_law 104 = .ok (.aload_n 0, 1) := by decide +kernel
theorem dX10_law_105 : decode cX10_law 105 = .ok (.iload_n 2, 1) := by decide +kernel
theorem dX10_law_106 : decode cX10_law 106 = .ok (.invokevirtual 177, 3) := by decide +kernel
theorem dX10_law_109 : decode cX10_law 109 = .ok (.aload 6, 2) := by decide +kernel
theorem dX10_law_111 : decode cX10_law 111 = .ok (.invokevirtual 180, 3) := by decide +kernel
theorem dX10_law_114 : decode cX10_law 114 = .ok (.aload_n 0, 1) := by decide +kernel
theorem dX10_law_115 : decode cX10_law 115 = .ok (.getfield 16, 3) := by decide +kernel
theorem dX10_law_118 : decode cX10_law 118 = .ok (.invokevirtual 67, 3) := by decide +kernel
theorem dX10_law_121 : decode cX10_law 121 = .ok (.ireturn, 1) := by decide +kernel
theorem dX10_except_0 : decode cX10_except 0 = .ok (.aload_n 0, 1) := by decide +kernel
theorem dX10_except_1 : decode cX10_except 1 = .ok (.iload_n 1, 1) := by decide +kernel
theorem dX10_except_2 : decode cX10_except 2 = .ok (.invokevirtual 96, 3) := by decide +kernel
theorem dX10_except_5 : decode cX10_except 5 = .ok (.astore 4, 2) := by decide +kernel
theorem dX10_except_7 : decode cX10_except 7 = .ok (.iload_n 2, 1) := by decide +kernel
theorem dX10_except_8 : decode cX10_except 8 = .ok (.invokestatic 144, 3) := by decide +kernel
theorem dX10_except_11 : decode cX10_except 11 = .ok (.iload_n 3, 1) := by decide +kernel
theorem dX10_except_12 : decode cX10_except 12 = .ok (.invokestatic 100, 3) := by decide +kernel
theorem dX10_except_15 : decode cX10_except 15 = .ok (.invokestatic 63, 3) := by decide +kernel
theorem dX10_except_18 : decode cX10_except 18 = .ok (.aload_n 0, 1) := by decide +kernel
theorem dX10_except_19 : decode cX10_except 19 = .ok (.getfield 183, 3) := by decide +kernel
theorem dX10_except_22 : decode cX10_except 22 = .ok (.bipush 40, 2) := by decide +kernel
theorem dX10_except_24 : decode cX10_except 24 = .ok (.if_icmp .ge 7, 3) := by decide +kernel
theorem dX10_except_27 : decode cX10_except 27 = .ok (.iconst 1, 1) := by decide +kernel
theorem dX10_except_28 : decode cX10_except 28 = .ok (.goto 4, 3) := by decide +kernel
theorem dX10_except_31 : decode cX10_except 31 = .ok (.iconst 0, 1) := by decide +kernel
theorem dX10_except_32 : decode cX10_except 32 = .ok (.invokestatic 71, 3) := by decide +kernel
theorem dX10_except_35 : decode cX10_except 35 = .ok (.aload 4, 2) := by decide +kernel
theorem dX10_except_37 : decode cX10_except 37 = .ok (.getfield 186, 3) := by decide +kernel
theorem dX10_except_40 : decode cX10_except 40 = .ok (.new 189, 3) := by decide +kernel
theorem dX10_except_43 : decode cX10_except 43 = .ok (.dup, 1) := by decide +kernel
theorem dX10_except_44 : decode cX10_except 44 = .ok (.iload_n 2, 1) := by decide +kernel
theorem dX10_except_45 : decode cX10_except 45 = .ok (.iload_n 3, 1) := by decide +kernel
theorem dX10_except_46 : decode cX10_except 46 = .ok (.aload_n 0, 1) := by decide +kernel
theorem dX10_except_47 : decode cX10_except 47 = .ok (.getfield 76, 3) := by decide +kernel
theorem dX10_except_50 : decode cX10_except 50 = .ok (.invokespecial 191, 3) := by decide +kernel
theorem dX10_except_53 : decode cX10_except 53 = .ok (.invokevirtual 55, 3) := by decide +kernel
theorem dX10_except_56 : decode cX10_except 56 = .ok (.pop, 1) := by decide +kernel
theorem dX10_except_57 : decode cX10_except 57 = .ok (.aload_n 0, 1) := by decide +kernel
theorem dX10_except_58 : decode cX10_except 58 = .ok (.dup, 1) := by decide +kernel
theorem dX10_except_59 : decode cX10_except 59 = .ok (.getfield 183, 3) := by decide +kernel
theorem dX10_except_62 : decode cX10_except 62 = .ok (.iconst 1, 1) := by decide +kernel
theorem dX10_except_63 : decode cX10_except 63 = .ok (.iadd, 1) := by decide +kernel
theorem dX10_except_64 : decode cX10_except 64 = .ok (.putfield 183, 3) := by decide +kernel
theorem dX10_except_67 : decode cX10_except 67 = .ok (.return_, 1) := by decide +kernel
theorem dX10_form_0 : decode cX10_form 0 = .ok (.aload_n 0, 1) := by decide +kernel
theorem dX10_form_1 : decode cX10_form 1 = .ok (.iload_n 1, 1) := by decide +kernel
theorem dX10_form_2 : decode cX10_form 2 = .ok (.invokevirtual 96, 3) := by decide +kernel
theorem dX10_form_5 : decode cX10_form 5 = .ok (.astore 5, 2) := by decide +kernel
theorem dX10_form_7 : decode cX10_form 7 = .ok (.iload_n 2, 1) := by decide +kernel
theorem dX10_form_8 : decode cX10_form 8 = .ok (.invokestatic 144, 3) := by decide +kernel
theorem dX10_form_11 : decode cX10_form 11 = .ok (.iload_n 3, 1) := by decide +kernel
theorem dX10_form_12 : decode cX10_form 12 = .ok (.invokestatic 100, 3) := by decide +kernel
theorem dX10_form_15 : decode cX10_form 15 = .ok (.ifCond .eq 15, 3) := by decide +kernel
theorem dX10_form_18 : decode cX10_form 18 = .ok (.iload 4, 2) := by decide +kernel
theorem dX10_form_20 : decode cX10_form 20 = .ok (.invokestatic 100, 3) := by decide +kernel
theorem dX10_form_23 : decode cX10_form 23 = .ok (.ifCond .eq 7, 3) := by decide +kernel
theorem dX10_form_26 : decode cX10_form 26 = .ok (.iconst 1, 1) := by decide +kernel
theorem dX10_form_27 : decode cX10_form 27 = .ok (.goto 4, 3) := by decide +kernel
theorem dX10_form_30 : decode cX10_form 30 = .ok (.iconst 0, 1) := by decide +kernel
theorem dX10_form_31 : decode cX10_form 31 = .ok (.invokestatic 63, 3) := by decide +kernel
theorem dX10_form_34 : decode cX10_form 34 = .ok (.aload_n 0, 1) := by decide +kernel
theorem dX10_form_35 : decode cX10_form 35 = .ok (.aload 5, 2) := by decide +kernel
theorem dX10_form_37 : decode cX10_form 37 = .ok (.iload_n 2, 1) := by decide +kernel
theorem dX10_form_38 : decode cX10_form 38 = .ok (.iload_n 3, 1) := by decide +kernel
theorem dX10_form_39 : decode cX10_form 39 = .ok (.iload 4, 2) := by decide +kernel
theorem dX10_form_41 : decode cX10_form 41 = .ok (.invokevirtual 193, 3) := by decide +kernel
theorem dX10_form_44 : decode cX10_form 44 = .ok (.lreturn, 1) := by decide +kernel
theorem dX10_petition_0 : decode cX10_petition 0 = .ok (.aload_n 0, 1) := by decide +kernel
theorem dX10_petition_1 : decode cX10_petition 1 = .ok (.iload_n 1, 1) := by decide +kernel
theorem dX10_petition_2 : decode cX10_petition 2 = .ok (.invokevirtual 96, 3) := by decide +kernel
theorem dX10_petition_5 : decode cX10_petition 5 = .ok (.astore 6, 2) := by decide +kernel
theorem dX10_petition_7 : decode cX10_petition 7 = .ok (.iload_n 2, 1) := by decide +kernel
theorem dX10_petition_8 : decode cX10_petition 8 = .ok (.invokestatic 144, 3) := by decide +kernel
theorem dX10_petition_11 : decode cX10_petition 11 = .ok (.lload_n 3, 1) := by decide +kernel
theorem dX10_petition_12 : decode cX10_petition 12 = .ok (.bipush 8, 2) := by decide +kernel
theorem dX10_petition_14 : decode cX10_petition 14 = .ok (.invokestatic 147, 3) := by decide +kernel
theorem dX10_petition_17 : decode cX10_petition 17 = .ok (.ifCond .eq 27, 3) := by decide +kernel
theorem dX10_petition_20 : decode cX10_petition 20 = .ok (.iload 5, 2) := by decide +kernel
theorem dX10_petition_22 : decode cX10_petition 22 = .ok (.invokestatic 100, 3) := by decide +kernel
theorem dX10_petition_25 : decode cX10_petition 25 = .ok (.ifCond .eq 19, 3) := by decide +kernel
theorem dX10_petition_28 : decode cX10_petition 28 = .ok (.iload 5, 2) := by decide +kernel
theorem dX10_petition_30 : decode cX10_petition 30 = .ok (.aload_n 0, 1) := by decide +kernel
theorem dX10_petition_31 : decode cX10_petition 31 = .ok (.getfield 76, 3) := by decide +kernel
theorem dX10_petition_34 : decode cX10_petition 34 = .ok (.bipush 30, 2) := by decide +kernel
theorem dX10_petition_36 : decode cX10_petition 36 = .ok (.iadd, 1) := by decide +kernel
theorem dX10_petition_37 : decode cX10_petition 37 = .ok (.if_icmp .lt 7, 3) := by decide +kernel
theorem dX10_petition_40 : decode cX10_petition 40 = .ok (.iconst 1, 1) := by decide +kernel
theorem dX10_petition_41 : decode cX10_petition 41 = .ok (.goto 4, 3) := by decide +kernel
theorem dX10_petition_44 : decode cX10_petition 44 = .ok (.iconst 0, 1) := by decide +kernel
theorem dX10_petition_45 : decode cX10_petition 45 = .ok (.invokestatic 63, 3) := by decide +kernel
theorem dX10_petition_48 : decode cX10_petition 48 = .ok (.aload_n 0, 1) := by decide +kernel
theorem dX10_petition_49 : decode cX10_petition 49 = .ok (.getfield 19, 3) := by decide +kernel
theorem dX10_petition_52 : decode cX10_petition 52 = .ok (.invokevirtual 67, 3) := by decide +kernel
theorem dX10_petition_55 : decode cX10_petition 55 = .ok (.bipush 16, 2) := by decide +kernel
theorem dX10_petition_57 : decode cX10_petition 57 = .ok (.if_icmp .ge 7, 3) := by decide +kernel
theorem dX10_petition_60 : decode cX10_petition 60 = .ok (.iconst 1, 1) := by decide +kernel
theorem dX10_petition_61 : decode cX10_petition 61 = .ok (.goto 4, 3) := by decide +kernel
theorem dX10_petition_64 : decode cX10_petition 64 = .ok (.iconst 0, 1) := by decide +kernel
theorem dX10_petition_65 : decode cX10_petition 65 = .ok (.invokestatic 71, 3) := by decide +kernel
theorem dX10_petition_68 : decode cX10_petition 68 = .ok (.aload_n 0, 1) := by decide +kernel
theorem dX10_petition_69 : decode cX10_petition 69 = .ok (.getfield 19, 3) := by decide +kernel
theorem dX10_petition_72 : decode cX10_petition 72 = .ok (.new 197, 3) := by decide +kernel
theorem dX10_petition_75 : decode cX10_petition 75 = .ok (.dup, 1) := by decide +kernel
theorem dX10_petition_76 : decode cX10_petition 76 = .ok (.aload 6, 2) := by decide +kernel
theorem dX10_petition_78 : decode cX10_petition 78 = .ok (.iload_n 2, 1) := by decide +kernel
theorem dX10_petition_79 : decode cX10_petition 79 = .ok (.lload_n 3, 1) := by decide +kernel
theorem dX10_petition_80 : decode cX10_petition 80 = .ok (.iload 5, 2) := by decide +kernel
theorem dX10_petition_82 : decode cX10_petition 82 = .ok (.invokespecial 199, 3) := by decide +kernel
theorem dX10_petition_85 : decode cX10_petition 85 = .ok (.invokevirtual 55, 3) := by decide +kernel
theorem dX10_petition_88 : decode cX10_petition 88 = .ok (.pop, 1) := by decide +kernel
theorem dX10_petition_89 : decode cX10_petition 89 = .ok (.aload_n 0, 1) := by decide +kernel
theorem dX10_petition_90 : decode cX10_petition 90 = .ok (.getfield 19, 3) := by decide +kernel
theorem dX10_petition_93 : decode cX10_petition 93 = .ok (.invokevirtual 67, 3) := by decide +kernel
theorem dX10_petition_96 : decode cX10_petition 96 = .ok (.iconst 1, 1) := by decide +kernel
theorem dX10_petition_97 : decode cX10_petition 97 = .ok (.isub, 1) := by decide +kernel
theorem dX10_petition_98 : decode cX10_petition 98 = .ok (.ireturn, 1) := by decide +kernel
theorem dX10_vote_0 : decode cX10_vote 0 = .ok (.aload_n 0, 1) := by decide +kernel
theorem dX10_vote_1 : decode cX10_vote 1 = .ok (.iload_n 1, 1) := by decide +kernel
theorem dX10_vote_2 : decode cX10_vote 2 = .ok (.invokevirtual 202, 3) := by decide +kernel
theorem dX10_vote_5 : decode cX10_vote 5 = .ok (.astore 4, 2) := by decide +kernel
theorem dX10_vote_7 : decode cX10_vote 7 = .ok (.iload_n 2, 1) := by decide +kernel
theorem dX10_vote_8 : decode cX10_vote 8 = .ok (.bipush 9, 2) := by decide +kernel
theorem dX10_vote_10 : decode cX10_vote 10 = .ok (.invokestatic 206, 3) := by decide +kernel
theorem dX10_vote_13 : decode cX10_vote 13 = .ok (.aload 4, 2) := by decide +kernel
theorem dX10_vote_15 : decode cX10_vote 15 = .ok (.getfield 209, 3) := by decide +kernel
theorem dX10_vote_18 : decode cX10_vote 18 = .ok (.ifCond .ne 16, 3) := by decide +kernel
theorem dX10_vote_21 : decode cX10_vote 21 = .ok (.aload 4, 2) := by decide +kernel
theorem dX10_vote_23 : decode cX10_vote 23 = .ok (.iload_n 2, 1) := by decide +kernel
theorem dX10_vote_24 : decode cX10_vote 24 = .ok (.invokevirtual 212, 3) := by decide +kernel
theorem dX10_vote_27 : decode cX10_vote 27 = .ok (.ifCond .ne 7, 3) := by decide +kernel
theorem dX10_vote_30 : decode cX10_vote 30 = .ok (.iconst 1, 1) := by decide +kernel
theorem dX10_vote_31 : decode cX10_vote 31 = .ok (.goto 4, 3) := by decide +kernel
theorem dX10_vote_34 : decode cX10_vote 34 = .ok (.iconst 0, 1) := by decide +kernel
theorem dX10_vote_35 : decode cX10_vote 35 = .ok (.invokestatic 71, 3) := by decide +kernel
theorem dX10_vote_38 : decode cX10_vote 38 = .ok (.iload_n 3, 1) := by decide +kernel
theorem dX10_vote_39 : decode cX10_vote 39 = .ok (.ifCond .eq 19, 3) := by decide +kernel
theorem dX10_vote_42 : decode cX10_vote 42 = .ok (.aload 4, 2) := by decide +kernel
theorem dX10_vote_44 : decode cX10_vote 44 = .ok (.dup, 1) := by decide +kernel
theorem dX10_vote_45 : decode cX10_vote 45 = .ok (.getfield 215, 3) := by decide +kernel
theorem dX10_vote_48 : decode cX10_vote 48 = .ok (.iconst 1, 1) := by decide +kernel
theorem dX10_vote_49 : decode cX10_vote 49 = .ok (.iload_n 2, 1) := by decide +kernel
theorem dX10_vote_50 : decode cX10_vote 50 = .ok (.ishl, 1) := by decide +kernel
theorem dX10_vote_51 : decode cX10_vote 51 = .ok (.ior, 1) := by decide +kernel
theorem dX10_vote_52 : decode cX10_vote 52 = .ok (.putfield 215, 3) := by decide +kernel
theorem dX10_vote_55 : decode cX10_vote 55 = .ok (.goto 16, 3) := by decide +kernel
theorem dX10_vote_58 : decode cX10_vote 58 = .ok (.aload 4, 2) := by decide +kernel
theorem dX10_vote_60 : decode cX10_vote 60 = .ok (.dup, 1) := by decide +kernel
theorem dX10_vote_61 : decode cX10_vote 61 = .ok (.getfield 218, 3) := by decide +kernel
theorem dX10_vote_64 : decode cX10_vote 64 = .ok (.iconst 1, 1) := by decide +kernel
theorem dX10_vote_65 : decode cX10_vote 65 = .ok (.iload_n 2, 1) := by decide +kernel
theorem dX10_vote_66 : decode cX10_vote 66 = .ok (.ishl, 1) := by decide +kernel
theorem dX10_vote_67 : decode cX10_vote 67 = .ok (.ior, 1) := by decide +kernel
theorem dX10_vote_68 : decode cX10_vote 68 = .ok (.putfield 218, 3) := by decide +kernel
theorem dX10_vote_71 : decode cX10_vote 71 = .ok (.aload 4, 2) := by decide +kernel
theorem dX10_vote_73 : decode cX10_vote 73 = .ok (.invokevirtual 221, 3) := by decide +kernel
theorem dX10_vote_76 : decode cX10_vote 76 = .ok (.ireturn, 1) := by decide +kernel
theorem dX10_protest_0 : decode cX10_protest 0 = .ok (.aload_n 0, 1) := by decide +kernel
theorem dX10_protest_1 : decode cX10_protest 1 = .ok (.iload_n 1, 1) := by decide +kernel
theorem dX10_protest_2 : decode cX10_protest 2 = .ok (.invokevirtual 202, 3) := by decide +kernel
theorem dX10_protest_5 : decode cX10_protest 5 = .ok (.astore_n 3, 1) := by decide +kernel
theorem dX10_protest_6 : decode cX10_protest 6 = .ok (.iload_n 2, 1) := by decide +kernel
theorem dX10_protest_7 : decode cX10_protest 7 = .ok (.bipush 8, 2) := by decide +kernel
theorem dX10_protest_9 : decode cX10_protest 9 = .ok (.invokestatic 206, 3) := by decide +kernel
theorem dX10_protest_12 : decode cX10_protest 12 = .ok (.aload_n 3, 1) := by decide +kernel
theorem dX10_protest_13 : decode cX10_protest 13 = .ok (.getfield 209, 3) := by decide +kernel
theorem dX10_protest_16 : decode cX10_protest 16 = .ok (.ifCond .ne 7, 3) := by decide +kernel
theorem dX10_protest_19 : decode cX10_protest 19 = .ok (.iconst 1, 1) := by decide +kernel
theorem dX10_protest_20 : decode cX10_protest 20 = .ok (.goto 4, 3) := by decide +kernel
theorem dX10_protest_23 : decode cX10_protest 23 = .ok (.iconst 0, 1) := by decide +kernel
theorem dX10_protest_24 : decode cX10_protest 24 = .ok (.invokestatic 71, 3) := by decide +kernel
theorem dX10_protest_27 : decode cX10_protest 27 = .ok (.aload_n 3, 1) := by decide +kernel
theorem dX10_protest_28 : decode cX10_protest 28 = .ok (.dup, 1) := by decide +kernel
theorem dX10_protest_29 : decode cX10_protest 29 = .ok (.getfield 224, 3) := by decide +kernel
theorem dX10_protest_32 : decode cX10_protest 32 = .ok (.iconst 1, 1) := by decide +kernel
theorem dX10_protest_33 : decode cX10_protest 33 = .ok (.iload_n 2, 1) := by decide +kernel
theorem dX10_protest_34 : decode cX10_protest 34 = .ok (.ishl, 1) := by decide +kernel
theorem dX10_protest_35 : decode cX10_protest 35 = .ok (.ixor, 1) := by decide +kernel
theorem dX10_protest_36 : decode cX10_protest 36 = .ok (.putfield 224, 3) := by decide +kernel
theorem dX10_protest_39 : decode cX10_protest 39 = .ok (.aload_n 3, 1) := by decide +kernel
theorem dX10_protest_40 : decode cX10_protest 40 = .ok (.getfield 224, 3) := by decide +kernel
theorem dX10_protest_43 : decode cX10_protest 43 = .ok (.iconst 1, 1) := by decide +kernel
theorem dX10_protest_44 : decode cX10_protest 44 = .ok (.iload_n 2, 1) := by decide +kernel
theorem dX10_protest_45 : decode cX10_protest 45 = .ok (.ishl, 1) := by decide +kernel
theorem dX10_protest_46 : decode cX10_protest 46 = .ok (.iand, 1) := by decide +kernel
theorem dX10_protest_47 : decode cX10_protest 47 = .ok (.ifCond .eq 7, 3) := by decide +kernel
theorem dX10_protest_50 : decode cX10_protest 50 = .ok (.iconst 1, 1) := by decide +kernel
theorem dX10_protest_51 : decode cX10_protest 51 = .ok (.goto 4, 3) := by decide +kernel
theorem dX10_protest_54 : decode cX10_protest 54 = .ok (.iconst 0, 1) := by decide +kernel
theorem dX10_protest_55 : decode cX10_protest 55 = .ok (.ireturn, 1) := by decide +kernel
theorem dX10_decide_0 : decode cX10_decide 0 = .ok (.aload_n 0, 1) := by decide +kernel
theorem dX10_decide_1 : decode cX10_decide 1 = .ok (.iload_n 1, 1) := by decide +kernel
theorem dX10_decide_2 : decode cX10_decide 2 = .ok (.invokevirtual 202, 3) := by decide +kernel
theorem dX10_decide_5 : decode cX10_decide 5 = .ok (.astore_n 2, 1) := by decide +kernel
theorem dX10_decide_6 : decode cX10_decide 6 = .ok (.aload_n 2, 1) := by decide +kernel
theorem dX10_decide_7 : decode cX10_decide 7 = .ok (.aload_n 0, 1) := by decide +kernel
theorem dX10_decide_8 : decode cX10_decide 8 = .ok (.getfield 76, 3) := by decide +kernel
theorem dX10_decide_11 : decode cX10_decide 11 = .ok (.invokevirtual 227, 3) := by decide +kernel
theorem dX10_decide_14 : decode cX10_decide 14 = .ok (.ifCond .eq 16, 3) := by decide +kernel
theorem dX10_decide_17 : decode cX10_decide 17 = .ok (.aload_n 0, 1) := by decide +kernel
theorem dX10_decide_18 : decode cX10_decide 18 = .ok (.getfield 151, 3) := by decide +kernel
theorem dX10_decide_21 : decode cX10_decide 21 = .ok (.bipush 100, 2) := by decide +kernel
theorem dX10_decide_23 : decode cX10_decide 23 = .ok (.if_icmp .ge 7, 3) := by decide +kernel
theorem dX10_decide_26 : decode cX10_decide 26 = .ok (.iconst 1, 1) := by decide +kernel
theorem dX10_decide_27 : decode cX10_decide 27 = .ok (.goto 4, 3) := by decide +kernel
theorem dX10_decide_30 : decode cX10_decide 30 = .ok (.iconst 0, 1) := by decide +kernel
theorem dX10_decide_31 : decode cX10_decide 31 = .ok (.invokestatic 71, 3) := by decide +kernel
theorem dX10_decide_34 : decode cX10_decide 34 = .ok (.aload_n 2, 1) := by decide +kernel
theorem dX10_decide_35 : decode cX10_decide 35 = .ok (.aload_n 0, 1) := by decide +kernel
theorem dX10_decide_36 : decode cX10_decide 36 = .ok (.getfield 76, 3) := by decide +kernel
theorem dX10_decide_39 : decode cX10_decide 39 = .ok (.putfield 230, 3) := by decide +kernel
theorem dX10_decide_42 : decode cX10_decide 42 = .ok (.aload_n 2, 1) := by decide +kernel
theorem dX10_decide_43 : decode cX10_decide 43 = .ok (.invokevirtual 233, 3) := by decide +kernel
theorem dX10_decide_46 : decode cX10_decide 46 = .ok (.ifCond .eq 86, 3) := by decide +kernel
theorem dX10_decide_49 : decode cX10_decide 49 = .ok (.aload_n 0, 1) := by decide +kernel
theorem dX10_decide_50 : decode cX10_decide 50 = .ok (.aload_n 2, 1) := by decide +kernel
theorem dX10_decide_51 : decode cX10_decide 51 = .ok (.getfield 236, 3) := by decide +kernel
theorem dX10_decide_54 : decode cX10_decide 54 = .ok (.aload_n 2, 1) := by decide +kernel
theorem dX10_decide_55 : decode cX10_decide 55 = .ok (.getfield 240, 3) := by decide +kernel
theorem dX10_decide_58 : decode cX10_decide 58 = .ok (.aload_n 2, 1) := by decide +kernel
theorem dX10_decide_59 : decode cX10_decide 59 = .ok (.getfield 243, 3) := by decide +kernel
theorem dX10_decide_62 : decode cX10_decide 62 = .ok (.aload_n 2, 1) := by decide +kernel
theorem dX10_decide_63 : decode cX10_decide 63 = .ok (.getfield 247, 3) := by decide +kernel
theorem dX10_decide_66 : decode cX10_decide 66 = .ok (.invokevirtual 154, 3) := by decide +kernel
theorem dX10_decide_69 : decode cX10_decide 69 = .ok (.ifCond .ne 63, 3) := by decide +kernel
theorem dX10_decide_72 : decode cX10_decide 72 = .ok (.aload_n 2, 1) := by decide +kernel
theorem dX10_decide_73 : decode cX10_decide 73 = .ok (.iconst 1, 1) := by decide +kernel
theorem dX10_decide_74 : decode cX10_decide 74 = .ok (.putfield 209, 3) := by decide +kernel
theorem dX10_decide_77 : decode cX10_decide 77 = .ok (.aload_n 2, 1) := by decide +kernel
theorem dX10_decide_78 : decode cX10_decide 78 = .ok (.new 161, 3) := by decide +kernel
theorem dX10_decide_81 : decode cX10_decide 81 = .ok (.dup, 1) := by decide +kernel
theorem dX10_decide_82 : decode cX10_decide 82 = .ok (.aload_n 2, 1) := by decide +kernel
theorem dX10_decide_83 : decode cX10_decide 83 = .ok (.getfield 240, 3) := by decide +kernel
theorem dX10_decide_86 : decode cX10_decide 86 = .ok (.aload_n 2, 1) := by decide +kernel
theorem dX10_decide_87 : decode cX10_decide 87 = .ok (.getfield 243, 3) := by decide +kernel
theorem dX10_decide_90 : decode cX10_decide 90 = .ok (.aload_n 2, 1) := by decide +kernel
theorem dX10_decide_91 : decode cX10_decide 91 = .ok (.getfield 247, 3) := by decide +kernel
theorem dX10_decide_94 : decode cX10_decide 94 = .ok (.aload_n 0, 1) := by decide +kernel
theorem dX10_decide_95 : decode cX10_decide 95 = .ok (.getfield 76, 3) := by decide +kernel
theorem dX10_decide_98 : decode cX10_decide 98 = .ok (.invokespecial 163, 3) := by decide +kernel
theorem dX10_decide_101 : decode cX10_decide 101 = .ok (.putfield 250, 3) := by decide +kernel
theorem dX10_decide_104 : decode cX10_decide 104 = .ok (.aload_n 2, 1) := by decide +kernel
theorem dX10_decide_105 : decode cX10_decide 105 = .ok (.getfield 236, 3) := by decide +kernel
theorem dX10_decide_108 : decode cX10_decide 108 = .ok (.getfield 158, 3) := by decide +kernel
theorem dX10_decide_111 : decode cX10_decide 111 = .ok (.aload_n 2, 1) := by decide +kernel
theorem dX10_decide_112 : decode cX10_decide 112 = .ok (.getfield 250, 3) := by decide +kernel
theorem dX10_decide_115 : decode cX10_decide 115 = .ok (.invokevirtual 55, 3) := by decide +kernel
theorem dX10_decide_118 : decode cX10_decide 118 = .ok (.pop, 1) := by decide +kernel
theorem dX10_decide_119 : decode cX10_decide 119 = .ok (.aload_n 0, 1) := by decide +kernel
theorem dX10_decide_120 : decode cX10_decide 120 = .ok (.dup, 1) := by decide +kernel
theorem dX10_decide_121 : decode cX10_decide 121 = .ok (.getfield 151, 3) := by decide +kernel
theorem dX10_decide_124 : decode cX10_decide 124 = .ok (.iconst 1, 1) := by decide +kernel
theorem dX10_decide_125 : decode cX10_decide 125 = .ok (.iadd, 1) := by decide +kernel
theorem dX10_decide_126 : decode cX10_decide 126 = .ok (.putfield 151, 3) := by decide +kernel
theorem dX10_decide_129 : decode cX10_decide 129 = .ok (.goto 8, 3) := by decide +kernel
theorem dX10_decide_132 : decode cX10_decide 132 = .ok (.aload_n 2, 1) := by decide +kernel
theorem dX10_decide_133 : decode cX10_decide 133 = .ok (.iconst 2, 1) := by decide +kernel
theorem dX10_decide_134 : decode cX10_decide 134 = .ok (.putfield 209, 3) := by decide +kernel
theorem dX10_decide_137 : decode cX10_decide 137 = .ok (.aload_n 2, 1) := by decide +kernel
theorem dX10_decide_138 : decode cX10_decide 138 = .ok (.getfield 209, 3) := by decide +kernel
theorem dX10_decide_141 : decode cX10_decide 141 = .ok (.ireturn, 1) := by decide +kernel
theorem dX10_appeal_0 : decode cX10_appeal 0 = .ok (.aload_n 0, 1) := by decide +kernel
theorem dX10_appeal_1 : decode cX10_appeal 1 = .ok (.iload_n 1, 1) := by decide +kernel
theorem dX10_appeal_2 : decode cX10_appeal 2 = .ok (.invokevirtual 202, 3) := by decide +kernel
theorem dX10_appeal_5 : decode cX10_appeal 5 = .ok (.astore_n 2, 1) := by decide +kernel
theorem dX10_appeal_6 : decode cX10_appeal 6 = .ok (.aload_n 2, 1) := by decide +kernel
theorem dX10_appeal_7 : decode cX10_appeal 7 = .ok (.getfield 209, 3) := by decide +kernel
theorem dX10_appeal_10 : decode cX10_appeal 10 = .ok (.iconst 1, 1) := by decide +kernel
theorem dX10_appeal_11 : decode cX10_appeal 11 = .ok (.if_icmp .ne 21, 3) := by decide +kernel
theorem dX10_appeal_14 : decode cX10_appeal 14 = .ok (.aload_n 0, 1) := by decide +kernel
theorem dX10_appeal_15 : decode cX10_appeal 15 = .ok (.getfield 76, 3) := by decide +kernel
theorem dX10_appeal_18 : decode cX10_appeal 18 = .ok (.aload_n 2, 1) := by decide +kernel
theorem dX10_appeal_19 : decode cX10_appeal 19 = .ok (.getfield 230, 3) := by decide +kernel
theorem dX10_appeal_22 : decode cX10_appeal 22 = .ok (.isub, 1) := by decide +kernel
theorem dX10_appeal_23 : decode cX10_appeal 23 = .ok (.bipush 60, 2) := by decide +kernel
theorem dX10_appeal_25 : decode cX10_appeal 25 = .ok (.if_icmp .gt 7, 3) := by decide +kernel
theorem dX10_appeal_28 : decode cX10_appeal 28 = .ok (.iconst 1, 1) := by decide +kernel
theorem dX10_appeal_29 : decode cX10_appeal 29 = .ok (.goto 4, 3) := by decide +kernel
theorem dX10_appeal_32 : decode cX10_appeal 32 = .ok (.iconst 0, 1) := by decide +kernel
theorem dX10_appeal_33 : decode cX10_appeal 33 = .ok (.invokestatic 71, 3) := by decide +kernel
theorem dX10_appeal_36 : decode cX10_appeal 36 = .ok (.aload_n 2, 1) := by decide +kernel
theorem dX10_appeal_37 : decode cX10_appeal 37 = .ok (.iconst 3, 1) := by decide +kernel
theorem dX10_appeal_38 : decode cX10_appeal 38 = .ok (.putfield 209, 3) := by decide +kernel
theorem dX10_appeal_41 : decode cX10_appeal 41 = .ok (.aload_n 2, 1) := by decide +kernel
theorem dX10_appeal_42 : decode cX10_appeal 42 = .ok (.getfield 250, 3) := by decide +kernel
theorem dX10_appeal_45 : decode cX10_appeal 45 = .ok (.astore_n 3, 1) := by decide +kernel
theorem dX10_appeal_46 : decode cX10_appeal 46 = .ok (.aload_n 3, 1) := by decide +kernel
theorem dX10_appeal_47 : decode cX10_appeal 47 = .ok (.ifnull 16, 3) := by decide +kernel
theorem dX10_appeal_50 : decode cX10_appeal 50 = .ok (.aload_n 3, 1) := by decide +kernel
theorem dX10_appeal_51 : decode cX10_appeal 51 = .ok (.iconst 1, 1) := by decide +kernel
theorem dX10_appeal_52 : decode cX10_appeal 52 = .ok (.putfield 254, 3) := by decide +kernel
theorem dX10_appeal_55 : decode cX10_appeal 55 = .ok (.aload_n 3, 1) := by decide +kernel
theorem dX10_appeal_56 : decode cX10_appeal 56 = .ok (.aload_n 0, 1) := by decide +kernel
theorem dX10_appeal_57 : decode cX10_appeal 57 = .ok (.getfield 76, 3) := by decide +kernel
theorem dX10_appeal_60 : decode cX10_appeal 60 = .ok (.putfield 257, 3) := by decide +kernel
theorem dX10_appeal_63 : decode cX10_appeal 63 = .ok (.aload_n 0, 1) := by decide +kernel
theorem dX10_appeal_64 : decode cX10_appeal 64 = .ok (.getfield 76, 3) := by decide +kernel
theorem dX10_appeal_67 : decode cX10_appeal 67 = .ok (.aload_n 2, 1) := by decide +kernel
theorem dX10_appeal_68 : decode cX10_appeal 68 = .ok (.getfield 230, 3) := by decide +kernel
theorem dX10_appeal_71 : decode cX10_appeal 71 = .ok (.isub, 1) := by decide +kernel
theorem dX10_appeal_72 : decode cX10_appeal 72 = .ok (.ireturn, 1) := by decide +kernel
theorem dX10_petitionOf_0 : decode cX10_petitionOf 0 = .ok (.aload_n 0, 1) := by decide +kernel
theorem dX10_petitionOf_1 : decode cX10_petitionOf 1 = .ok (.iload_n 1, 1) := by decide +kernel
theorem dX10_petitionOf_2 : decode cX10_petitionOf 2 = .ok (.invokevirtual 202, 3) := by decide +kernel
theorem dX10_petitionOf_5 : decode cX10_petitionOf 5 = .ok (.astore_n 3, 1) := by decide +kernel
theorem dX10_petitionOf_6 : decode cX10_petitionOf 6 = .ok (.iload_n 2, 1) := by decide +kernel
theorem dX10_petitionOf_7 : decode cX10_petitionOf 7 = .ok (.ifCond .lt 12, 3) := by decide +kernel
theorem dX10_petitionOf_10 : decode cX10_petitionOf 10 = .ok (.iload_n 2, 1) := by decide +kernel
theorem dX10_petitionOf_11 : decode cX10_petitionOf 11 = .ok (.iconst 4, 1) := by decide +kernel
theorem dX10_petitionOf_12 : decode cX10_petitionOf 12 = .ok (.if_icmp .gt 7, 3) := by decide +kernel
theorem dX10_petitionOf_15 : decode cX10_petitionOf 15 = .ok (.iconst 1, 1) := by decide +kernel
theorem dX10_petitionOf_16 : decode cX10_petitionOf 16 = .ok (.goto 4, 3) := by decide +kernel
theorem dX10_petitionOf_19 : decode cX10_petitionOf 19 = .ok (.iconst 0, 1) := by decide +kernel
theorem dX10_petitionOf_20 : decode cX10_petitionOf 20 = .ok (.invokestatic 63, 3) := by decide +kernel
theorem dX10_petitionOf_23 : decode cX10_petitionOf 23 = .ok (.iload_n 2, 1) := by decide +kernel
theorem dX10_petitionOf_24 : decode cX10_petitionOf 24 = .ok (.tableswitch 61 0 3 #[32, 37, 45, 53], 32) := by decide +kernel
theorem dX10_petitionOf_56 : decode cX10_petitionOf 56 = .ok (.aload_n 3, 1) := by decide +kernel
theorem dX10_petitionOf_57 : decode cX10_petitionOf 57 = .ok (.getfield 209, 3) := by decide +kernel
theorem dX10_petitionOf_60 : decode cX10_petitionOf 60 = .ok (.ireturn, 1) := by decide +kernel
theorem dX10_petitionOf_61 : decode cX10_petitionOf 61 = .ok (.aload_n 3, 1) := by decide +kernel
theorem dX10_petitionOf_62 : decode cX10_petitionOf 62 = .ok (.getfield 215, 3) := by decide +kernel
theorem dX10_petitionOf_65 : decode cX10_petitionOf 65 = .ok (.invokestatic 260, 3) := by decide +kernel
theorem dX10_petitionOf_68 : decode cX10_petitionOf 68 = .ok (.ireturn, 1) := by decide +kernel
theorem dX10_petitionOf_69 : decode cX10_petitionOf 69 = .ok (.aload_n 3, 1) := by decide +kernel
theorem dX10_petitionOf_70 : decode cX10_petitionOf 70 = .ok (.getfield 218, 3) := by decide +kernel
theorem dX10_petitionOf_73 : decode cX10_petitionOf 73 = .ok (.invokestatic 260, 3) := by decide +kernel
theorem dX10_petitionOf_76 : decode cX10_petitionOf 76 = .ok (.ireturn, 1) := by decide +kernel
theorem dX10_petitionOf_77 : decode cX10_petitionOf 77 = .ok (.aload_n 3, 1) := by decide +kernel
theorem dX10_petitionOf_78 : decode cX10_petitionOf 78 = .ok (.getfield 224, 3) := by decide +kernel
theorem dX10_petitionOf_81 : decode cX10_petitionOf 81 = .ok (.invokestatic 260, 3) := by decide +kernel
theorem dX10_petitionOf_84 : decode cX10_petitionOf 84 = .ok (.ireturn, 1) := by decide +kernel
theorem dX10_petitionOf_85 : decode cX10_petitionOf 85 = .ok (.aload_n 3, 1) := by decide +kernel
theorem dX10_petitionOf_86 : decode cX10_petitionOf 86 = .ok (.getfield 230, 3) := by decide +kernel
theorem dX10_petitionOf_89 : decode cX10_petitionOf 89 = .ok (.ireturn, 1) := by decide +kernel
theorem dX10_census_0 : decode cX10_census 0 = .ok (.aload_n 0, 1) := by decide +kernel
theorem dX10_census_1 : decode cX10_census 1 = .ok (.iload_n 1, 1) := by decide +kernel
theorem dX10_census_2 : decode cX10_census 2 = .ok (.invokevirtual 96, 3) := by decide +kernel
theorem dX10_census_5 : decode cX10_census 5 = .ok (.astore 4, 2) := by decide +kernel
theorem dX10_census_7 : decode cX10_census 7 = .ok (.iload_n 2, 1) := by decide +kernel
theorem dX10_census_8 : decode cX10_census 8 = .ok (.invokestatic 144, 3) := by decide +kernel
theorem dX10_census_11 : decode cX10_census 11 = .ok (.iload_n 3, 1) := by decide +kernel
theorem dX10_census_12 : decode cX10_census 12 = .ok (.ifCond .lt 13, 3) := by decide +kernel
theorem dX10_census_15 : decode cX10_census 15 = .ok (.iload_n 3, 1) := by decide +kernel
theorem dX10_census_16 : decode cX10_census 16 = .ok (.bipush 100, 2) := by decide +kernel
theorem dX10_census_18 : decode cX10_census 18 = .ok (.if_icmp .gt 7, 3) := by decide +kernel
theorem dX10_census_21 : decode cX10_census 21 = .ok (.iconst 1, 1) := by decide +kernel
theorem dX10_census_22 : decode cX10_census 22 = .ok (.goto 4, 3) := by decide +kernel
theorem dX10_census_25 : decode cX10_census 25 = .ok (.iconst 0, 1) := by decide +kernel
theorem dX10_census_26 : decode cX10_census 26 = .ok (.invokestatic 63, 3) := by decide +kernel
theorem dX10_census_29 : decode cX10_census 29 = .ok (.aload 4, 2) := by decide +kernel
theorem dX10_census_31 : decode cX10_census 31 = .ok (.iload_n 2, 1) := by decide +kernel
theorem dX10_census_32 : decode cX10_census 32 = .ok (.invokevirtual 265, 3) := by decide +kernel
theorem dX10_census_35 : decode cX10_census 35 = .ok (.istore 5, 2) := by decide +kernel
theorem dX10_census_37 : decode cX10_census 37 = .ok (.aload 4, 2) := by decide +kernel
theorem dX10_census_39 : decode cX10_census 39 = .ok (.iload_n 2, 1) := by decide +kernel
theorem dX10_census_40 : decode cX10_census 40 = .ok (.iload_n 3, 1) := by decide +kernel
theorem dX10_census_41 : decode cX10_census 41 = .ok (.invokevirtual 268, 3) := by decide +kernel
theorem dX10_census_44 : decode cX10_census 44 = .ok (.iload 5, 2) := by decide +kernel
theorem dX10_census_46 : decode cX10_census 46 = .ok (.ireturn, 1) := by decide +kernel
theorem dX10_dispute_0 : decode cX10_dispute 0 = .ok (.aload_n 0, 1) := by decide +kernel
theorem dX10_dispute_1 : decode cX10_dispute 1 = .ok (.iload_n 1, 1) := by decide +kernel
theorem dX10_dispute_2 : decode cX10_dispute 2 = .ok (.invokevirtual 96, 3) := by decide +kernel
theorem dX10_dispute_5 : decode cX10_dispute 5 = .ok (.astore 4, 2) := by decide +kernel
theorem dX10_dispute_7 : decode cX10_dispute 7 = .ok (.iload_n 2, 1) := by decide +kernel
theorem dX10_dispute_8 : decode cX10_dispute 8 = .ok (.invokestatic 144, 3) := by decide +kernel
theorem dX10_dispute_11 : decode cX10_dispute 11 = .ok (.iload_n 3, 1) := by decide +kernel
theorem dX10_dispute_12 : decode cX10_dispute 12 = .ok (.invokestatic 144, 3) := by decide +kernel
theorem dX10_dispute_15 : decode cX10_dispute 15 = .ok (.aload 4, 2) := by decide +kernel
theorem dX10_dispute_17 : decode cX10_dispute 17 = .ok (.iload_n 2, 1) := by decide +kernel
theorem dX10_dispute_18 : decode cX10_dispute 18 = .ok (.putfield 271, 3) := by decide +kernel
theorem dX10_dispute_21 : decode cX10_dispute 21 = .ok (.aload 4, 2) := by decide +kernel
theorem dX10_dispute_23 : decode cX10_dispute 23 = .ok (.iload_n 3, 1) := by decide +kernel
theorem dX10_dispute_24 : decode cX10_dispute 24 = .ok (.putfield 274, 3) := by decide +kernel
theorem dX10_dispute_27 : decode cX10_dispute 27 = .ok (.return_, 1) := by decide +kernel
theorem dX10_shown_0 : decode cX10_shown 0 = .ok (.aload_n 0, 1) := by decide +kernel
theorem dX10_shown_1 : decode cX10_shown 1 = .ok (.iload_n 1, 1) := by decide +kernel
theorem dX10_shown_2 : decode cX10_shown 2 = .ok (.invokevirtual 96, 3) := by decide +kernel
theorem dX10_shown_5 : decode cX10_shown 5 = .ok (.astore_n 3, 1) := by decide +kernel
theorem dX10_shown_6 : decode cX10_shown 6 = .ok (.iload_n 2, 1) := by decide +kernel
theorem dX10_shown_7 : decode cX10_shown 7 = .ok (.invokestatic 100, 3) := by decide +kernel
theorem dX10_shown_10 : decode cX10_shown 10 = .ok (.invokestatic 63, 3) := by decide +kernel
theorem dX10_shown_13 : decode cX10_shown 13 = .ok (.iconst 0, 1) := by decide +kernel
theorem dX10_shown_14 : decode cX10_shown 14 = .ok (.istore 4, 2) := by decide +kernel
theorem dX10_shown_16 : decode cX10_shown 16 = .ok (.iconst (-1), 1) := by decide +kernel
theorem dX10_shown_17 : decode cX10_shown 17 = .ok (.istore 5, 2) := by decide +kernel
theorem dX10_shown_19 : decode cX10_shown 19 = .ok (.iconst 0, 1) := by decide +kernel
theorem dX10_shown_20 : decode cX10_shown 20 = .ok (.istore 6, 2) := by decide +kernel
theorem dX10_shown_22 : decode cX10_shown 22 = .ok (.iload 6, 2) := by decide +kernel
theorem dX10_shown_24 : decode cX10_shown 24 = .ok (.iconst 4, 1) := by decide +kernel
theorem dX10_shown_25 : decode cX10_shown 25 = .ok (.if_icmp .ge 71, 3) := by decide +kernel
theorem dX10_shown_28 : decode cX10_shown 28 = .ok (.aload_n 0, 1) := by decide +kernel
theorem dX10_shown_29 : decode cX10_shown 29 = .ok (.aload_n 3, 1) := by decide +kernel
theorem dX10_shown_30 : decode cX10_shown 30 = .ok (.iload 6, 2) := by decide +kernel
theorem dX10_shown_32 : decode cX10_shown 32 = .ok (.iload_n 2, 1) := by decide +kernel
theorem dX10_shown_33 : decode cX10_shown 33 = .ok (.aload_n 0, 1) := by decide +kernel
theorem dX10_shown_34 : decode cX10_shown 34 = .ok (.getfield 76, 3) := by decide +kernel
theorem dX10_shown_37 : decode cX10_shown 37 = .ok (.invokevirtual 193, 3) := by decide +kernel
theorem dX10_shown_40 : decode cX10_shown 40 = .ok (.lconst 0, 1) := by decide +kernel
theorem dX10_shown_41 : decode cX10_shown 41 = .ok (.lcmp, 1) := by decide +kernel
theorem dX10_shown_42 : decode cX10_shown 42 = .ok (.ifCond .eq 48, 3) := by decide +kernel
theorem dX10_shown_45 : decode cX10_shown 45 = .ok (.aload_n 3, 1) := by decide +kernel
theorem dX10_shown_46 : decode cX10_shown 46 = .ok (.iload 6, 2) := by decide +kernel
theorem dX10_shown_48 : decode cX10_shown 48 = .ok (.invokevirtual 265, 3) := by decide +kernel
theorem dX10_shown_51 : decode cX10_shown 51 = .ok (.bipush 20, 2) := by decide +kernel
theorem dX10_shown_53 : decode cX10_shown 53 = .ok (.if_icmp .lt 12, 3) := by decide +kernel
theorem dX10_shown_56 : decode cX10_shown 56 = .ok (.iload 4, 2) := by decide +kernel
theorem dX10_shown_58 : decode cX10_shown 58 = .ok (.iconst 1, 1) := by decide +kernel
theorem dX10_shown_59 : decode cX10_shown 59 = .ok (.iload 6, 2) := by decide +kernel
theorem dX10_shown_61 : decode cX10_shown 61 = .ok (.ishl, 1) := by decide +kernel
theorem dX10_shown_62 : decode cX10_shown 62 = .ok (.ior, 1) := by decide +kernel
theorem dX10_shown_63 : decode cX10_shown 63 = .ok (.istore 4, 2) := by decide +kernel
theorem dX10_shown_65 : decode cX10_shown 65 = .ok (.iload 5, 2) := by decide +kernel
theorem dX10_shown_67 : decode cX10_shown 67 = .ok (.iconst (-1), 1) := by decide +kernel
theorem dX10_shown_68 : decode cX10_shown 68 = .ok (.if_icmp .eq 18, 3) := by decide +kernel
theorem dX10_shown_71 : decode cX10_shown 71 = .ok (.aload_n 3, 1) := by decide +kernel
theorem dX10_shown_72 : decode cX10_shown 72 = .ok (.iload 6, 2) := by decide +kernel
theorem dX10_shown_74 : decode cX10_shown 74 = .ok (.invokevirtual 265, 3) := by decide +kernel
theorem dX10_shown_77 : decode cX10_shown 77 = .ok (.aload_n 3, 1) := by decide +kernel
theorem dX10_shown_78 : decode cX10_shown 78 = .ok (.iload 5, 2) := by decide +kernel
theorem dX10_shown_80 : decode cX10_shown 80 = .ok (.invokevirtual 265, 3) := by decide +kernel
theorem dX10_shown_83 : decode cX10_shown 83 = .ok (.if_icmp .le 7, 3) := by decide +kernel
theorem dX10_shown_86 : decode cX10_shown 86 = .ok (.iload 6, 2) := by decide +kernel
theorem dX10_shown_88 : decode cX10_shown 88 = .ok (.istore 5, 2) := by decide +kernel
theorem dX10_shown_90 : decode cX10_shown 90 = .ok (.iinc 6 1, 3) := by decide +kernel
theorem dX10_shown_93 : decode cX10_shown 93 = .ok (.goto (-71), 3) := by decide +kernel
theorem dX10_shown_96 : decode cX10_shown 96 = .ok (.iload 4, 2) := by decide +kernel
theorem dX10_shown_98 : decode cX10_shown 98 = .ok (.ifCond .ne 9, 3) := by decide +kernel
theorem dX10_shown_101 : decode cX10_shown 101 = .ok (.iload 5, 2) := by decide +kernel
theorem dX10_shown_103 : decode cX10_shown 103 = .ok (.iconst (-1), 1) := by decide +kernel
theorem dX10_shown_104 : decode cX10_shown 104 = .ok (.if_icmp .ne 6, 3) := by decide +kernel
theorem dX10_shown_107 : decode cX10_shown 107 = .ok (.iload 4, 2) := by decide +kernel
theorem dX10_shown_109 : decode cX10_shown 109 = .ok (.ireturn, 1) := by decide +kernel
theorem dX10_shown_110 : decode cX10_shown 110 = .ok (.iconst 1, 1) := by decide +kernel
theorem dX10_shown_111 : decode cX10_shown 111 = .ok (.iload 5, 2) := by decide +kernel
theorem dX10_shown_113 : decode cX10_shown 113 = .ok (.ishl, 1) := by decide +kernel
theorem dX10_shown_114 : decode cX10_shown 114 = .ok (.ireturn, 1) := by decide +kernel
theorem dX10_display_0 : decode cX10_display 0 = .ok (.aload_n 0, 1) := by decide +kernel
theorem dX10_display_1 : decode cX10_display 1 = .ok (.iload_n 1, 1) := by decide +kernel
theorem dX10_display_2 : decode cX10_display 2 = .ok (.invokevirtual 96, 3) := by decide +kernel
theorem dX10_display_5 : decode cX10_display 5 = .ok (.astore_n 3, 1) := by decide +kernel
theorem dX10_display_6 : decode cX10_display 6 = .ok (.iload_n 2, 1) := by decide +kernel
theorem dX10_display_7 : decode cX10_display 7 = .ok (.invokestatic 144, 3) := by decide +kernel
theorem dX10_display_10 : decode cX10_display 10 = .ok (.aload_n 0, 1) := by decide +kernel
theorem dX10_display_11 : decode cX10_display 11 = .ok (.aload_n 3, 1) := by decide +kernel
theorem dX10_display_12 : decode cX10_display 12 = .ok (.iload_n 2, 1) := by decide +kernel
theorem dX10_display_13 : decode cX10_display 13 = .ok (.invokevirtual 277, 3) := by decide +kernel
theorem dX10_display_16 : decode cX10_display 16 = .ok (.lreturn, 1) := by decide +kernel
theorem dX10_table_0 : decode cX10_table 0 = .ok (.aload_n 0, 1) := by decide +kernel
theorem dX10_table_1 : decode cX10_table 1 = .ok (.iload_n 1, 1) := by decide +kernel
theorem dX10_table_2 : decode cX10_table 2 = .ok (.invokevirtual 281, 3) := by decide +kernel
theorem dX10_table_5 : decode cX10_table 5 = .ok (.astore 4, 2) := by decide +kernel
theorem dX10_table_7 : decode cX10_table 7 = .ok (.iload_n 2, 1) := by decide +kernel
theorem dX10_table_8 : decode cX10_table 8 = .ok (.invokestatic 166, 3) := by decide +kernel
theorem dX10_table_11 : decode cX10_table 11 = .ok (.ifCond .eq 14, 3) := by decide +kernel
theorem dX10_table_14 : decode cX10_table 14 = .ok (.iload_n 3, 1) := by decide +kernel
theorem dX10_table_15 : decode cX10_table 15 = .ok (.invokestatic 166, 3) := by decide +kernel
theorem dX10_table_18 : decode cX10_table 18 = .ok (.ifCond .eq 7, 3) := by decide +kernel
theorem dX10_table_21 : decode cX10_table 21 = .ok (.iconst 1, 1) := by decide +kernel
theorem dX10_table_22 : decode cX10_table 22 = .ok (.goto 4, 3) := by decide +kernel
theorem dX10_table_25 : decode cX10_table 25 = .ok (.iconst 0, 1) := by decide +kernel
theorem dX10_table_26 : decode cX10_table 26 = .ok (.invokestatic 63, 3) := by decide +kernel
theorem dX10_table_29 : decode cX10_table 29 = .ok (.aload 4, 2) := by decide +kernel
theorem dX10_table_31 : decode cX10_table 31 = .ok (.iload_n 2, 1) := by decide +kernel
theorem dX10_table_32 : decode cX10_table 32 = .ok (.invokevirtual 285, 3) := by decide +kernel
theorem dX10_table_35 : decode cX10_table 35 = .ok (.istore 5, 2) := by decide +kernel
theorem dX10_table_37 : decode cX10_table 37 = .ok (.aload 4, 2) := by decide +kernel
theorem dX10_table_39 : decode cX10_table 39 = .ok (.iload_n 2, 1) := by decide +kernel
theorem dX10_table_40 : decode cX10_table 40 = .ok (.iload_n 3, 1) := by decide +kernel
theorem dX10_table_41 : decode cX10_table 41 = .ok (.invokevirtual 288, 3) := by decide +kernel
theorem dX10_table_44 : decode cX10_table 44 = .ok (.iload 5, 2) := by decide +kernel
theorem dX10_table_46 : decode cX10_table 46 = .ok (.ireturn, 1) := by decide +kernel
theorem dX10_write_0 : decode cX10_write 0 = .ok (.aload_n 0, 1) := by decide +kernel
theorem dX10_write_1 : decode cX10_write 1 = .ok (.iload_n 3, 1) := by decide +kernel
theorem dX10_write_2 : decode cX10_write 2 = .ok (.invokevirtual 281, 3) := by decide +kernel
theorem dX10_write_5 : decode cX10_write 5 = .ok (.astore 4, 2) := by decide +kernel
theorem dX10_write_7 : decode cX10_write 7 = .ok (.lload_n 1, 1) := by decide +kernel
theorem dX10_write_8 : decode cX10_write 8 = .ok (.bipush 12, 2) := by decide +kernel
theorem dX10_write_10 : decode cX10_write 10 = .ok (.invokestatic 147, 3) := by decide +kernel
theorem dX10_write_13 : decode cX10_write 13 = .ok (.invokestatic 63, 3) := by decide +kernel
theorem dX10_write_16 : decode cX10_write 16 = .ok (.lload_n 1, 1) := by decide +kernel
theorem dX10_write_17 : decode cX10_write 17 = .ok (.invokestatic 291, 3) := by decide +kernel
theorem dX10_write_20 : decode cX10_write 20 = .ok (.lstore 5, 2) := by decide +kernel
theorem dX10_write_22 : decode cX10_write 22 = .ok (.lconst 0, 1) := by decide +kernel
theorem dX10_write_23 : decode cX10_write 23 = .ok (.lstore 7, 2) := by decide +kernel
theorem dX10_write_25 : decode cX10_write 25 = .ok (.iconst 0, 1) := by decide +kernel
theorem dX10_write_26 : decode cX10_write 26 = .ok (.istore 9, 2) := by decide +kernel
theorem dX10_write_28 : decode cX10_write 28 = .ok (.iload 9, 2) := by decide +kernel
theorem dX10_write_30 : decode cX10_write 30 = .ok (.bipush 12, 2) := by decide +kernel
theorem dX10_write_32 : decode cX10_write 32 = .ok (.if_icmp .ge 46, 3) := by decide +kernel
theorem dX10_write_35 : decode cX10_write 35 = .ok (.lload 5, 2) := by decide +kernel
theorem dX10_write_37 : decode cX10_write 37 = .ok (.lconst 0, 1) := by decide +kernel
theorem dX10_write_38 : decode cX10_write 38 = .ok (.lcmp, 1) := by decide +kernel
theorem dX10_write_39 : decode cX10_write 39 = .ok (.ifCond .le 39, 3) := by decide +kernel
theorem dX10_write_42 : decode cX10_write 42 = .ok (.lload 7, 2) := by decide +kernel
theorem dX10_write_44 : decode cX10_write 44 = .ok (.ldc2_w 295, 3) := by decide +kernel
theorem dX10_write_47 : decode cX10_write 47 = .ok (.lmul, 1) := by decide +kernel
theorem dX10_write_48 : decode cX10_write 48 = .ok (.aload 4, 2) := by decide +kernel
theorem dX10_write_50 : decode cX10_write 50 = .ok (.lload 5, 2) := by decide +kernel
theorem dX10_write_52 : decode cX10_write 52 = .ok (.ldc2_w 295, 3) := by decide +kernel
theorem dX10_write_55 : decode cX10_write 55 = .ok (.lrem, 1) := by decide +kernel
theorem dX10_write_56 : decode cX10_write 56 = .ok (.l2i, 1) := by decide +kernel
theorem dX10_write_57 : decode cX10_write 57 = .ok (.invokevirtual 285, 3) := by decide +kernel
theorem dX10_write_60 : decode cX10_write 60 = .ok (.i2l, 1) := by decide +kernel
theorem dX10_write_61 : decode cX10_write 61 = .ok (.ladd, 1) := by decide +kernel
theorem dX10_write_62 : decode cX10_write 62 = .ok (.lstore 7, 2) := by decide +kernel
theorem dX10_write_64 : decode cX10_write 64 = .ok (.lload 5, 2) := by decide +kernel
theorem dX10_write_66 : decode cX10_write 66 = .ok (.ldc2_w 295, 3) := by decide +kernel
theorem dX10_write_69 : decode cX10_write 69 = .ok (.ldiv, 1) := by decide +kernel
theorem dX10_write_70 : decode cX10_write 70 = .ok (.lstore 5, 2) := by decide +kernel
theorem dX10_write_72 : decode cX10_write 72 = .ok (.iinc 9 1, 3) := by decide +kernel
theorem dX10_write_75 : decode cX10_write 75 = .ok (.goto (-47), 3) := by decide +kernel
theorem dX10_write_78 : decode cX10_write 78 = .ok (.lload 7, 2) := by decide +kernel
theorem dX10_write_80 : decode cX10_write 80 = .ok (.lreturn, 1) := by decide +kernel
theorem dX10_back_0 : decode cX10_back 0 = .ok (.aload_n 0, 1) := by decide +kernel
theorem dX10_back_1 : decode cX10_back 1 = .ok (.iload_n 3, 1) := by decide +kernel
theorem dX10_back_2 : decode cX10_back 2 = .ok (.invokevirtual 281, 3) := by decide +kernel
theorem dX10_back_5 : decode cX10_back 5 = .ok (.astore 4, 2) := by decide +kernel
theorem dX10_back_7 : decode cX10_back 7 = .ok (.lload_n 1, 1) := by decide +kernel
theorem dX10_back_8 : decode cX10_back 8 = .ok (.bipush 12, 2) := by decide +kernel
theorem dX10_back_10 : decode cX10_back 10 = .ok (.invokestatic 147, 3) := by decide +kernel
theorem dX10_back_13 : decode cX10_back 13 = .ok (.invokestatic 63, 3) := by decide +kernel
theorem dX10_back_16 : decode cX10_back 16 = .ok (.lload_n 1, 1) := by decide +kernel
theorem dX10_back_17 : decode cX10_back 17 = .ok (.invokestatic 291, 3) := by decide +kernel
theorem dX10_back_20 : decode cX10_back 20 = .ok (.lstore 5, 2) := by decide +kernel
theorem dX10_back_22 : decode cX10_back 22 = .ok (.lconst 0, 1) := by decide +kernel
theorem dX10_back_23 : decode cX10_back 23 = .ok (.lstore 7, 2) := by decide +kernel
theorem dX10_back_25 : decode cX10_back 25 = .ok (.iconst 0, 1) := by decide +kernel
theorem dX10_back_26 : decode cX10_back 26 = .ok (.istore 9, 2) := by decide +kernel
theorem dX10_back_28 : decode cX10_back 28 = .ok (.iload 9, 2) := by decide +kernel
theorem dX10_back_30 : decode cX10_back 30 = .ok (.bipush 12, 2) := by decide +kernel
theorem dX10_back_32 : decode cX10_back 32 = .ok (.if_icmp .ge 60, 3) := by decide +kernel
theorem dX10_back_35 : decode cX10_back 35 = .ok (.lload 5, 2) := by decide +kernel
theorem dX10_back_37 : decode cX10_back 37 = .ok (.lconst 0, 1) := by decide +kernel
theorem dX10_back_38 : decode cX10_back 38 = .ok (.lcmp, 1) := by decide +kernel
theorem dX10_back_39 : decode cX10_back 39 = .ok (.ifCond .le 53, 3) := by decide +kernel
theorem dX10_back_42 : decode cX10_back 42 = .ok (.aload 4, 2) := by decide +kernel
theorem dX10_back_44 : decode cX10_back 44 = .ok (.lload 5, 2) := by decide +kernel
theorem dX10_back_46 : decode cX10_back 46 = .ok (.ldc2_w 295, 3) := by decide +kernel
theorem dX10_back_49 : decode cX10_back 49 = .ok (.lrem, 1) := by decide +kernel
theorem dX10_back_50 : decode cX10_back 50 = .ok (.l2i, 1) := by decide +kernel
theorem dX10_back_51 : decode cX10_back 51 = .ok (.invokevirtual 297, 3) := by decide +kernel
theorem dX10_back_54 : decode cX10_back 54 = .ok (.istore 10, 2) := by decide +kernel
theorem dX10_back_56 : decode cX10_back 56 = .ok (.iload 10, 2) := by decide +kernel
theorem dX10_back_58 : decode cX10_back 58 = .ok (.iconst (-1), 1) := by decide +kernel
theorem dX10_back_59 : decode cX10_back 59 = .ok (.if_icmp .ne 7, 3) := by decide +kernel
theorem dX10_back_62 : decode cX10_back 62 = .ok (.ldc2_w 300, 3) := by decide +kernel
theorem dX10_back_65 : decode cX10_back 65 = .ok (.lreturn, 1) := by decide +kernel
theorem dX10_back_66 : decode cX10_back 66 = .ok (.lload 7, 2) := by decide +kernel
theorem dX10_back_68 : decode cX10_back 68 = .ok (.ldc2_w 295, 3) := by decide +kernel
theorem dX10_back_71 : decode cX10_back 71 = .ok (.lmul, 1) := by decide +kernel
theorem dX10_back_72 : decode cX10_back 72 = .ok (.iload 10, 2) := by decide +kernel
theorem dX10_back_74 : decode cX10_back 74 = .ok (.i2l, 1) := by decide +kernel
theorem dX10_back_75 : decode cX10_back 75 = .ok (.ladd, 1) := by decide +kernel
theorem dX10_back_76 : decode cX10_back 76 = .ok (.lstore 7, 2) := by decide +kernel
theorem dX10_back_78 : decode cX10_back 78 = .ok (.lload 5, 2) := by decide +kernel
theorem dX10_back_80 : decode cX10_back 80 = .ok (.ldc2_w 295, 3) := by decide +kernel
theorem dX10_back_83 : decode cX10_back 83 = .ok (.ldiv, 1) := by decide +kernel
theorem dX10_back_84 : decode cX10_back 84 = .ok (.lstore 5, 2) := by decide +kernel
theorem dX10_back_86 : decode cX10_back 86 = .ok (.iinc 9 1, 3) := by decide +kernel
theorem dX10_back_89 : decode cX10_back 89 = .ok (.goto (-61), 3) := by decide +kernel
theorem dX10_back_92 : decode cX10_back 92 = .ok (.lload 7, 2) := by decide +kernel
theorem dX10_back_94 : decode cX10_back 94 = .ok (.lreturn, 1) := by decide +kernel
theorem dX10_loss_0 : decode cX10_loss 0 = .ok (.bipush 26, 2) := by decide +kernel
theorem dX10_loss_2 : decode cX10_loss 2 = .ok (.aload_n 0, 1) := by decide +kernel
theorem dX10_loss_3 : decode cX10_loss 3 = .ok (.iload_n 1, 1) := by decide +kernel
theorem dX10_loss_4 : decode cX10_loss 4 = .ok (.invokevirtual 281, 3) := by decide +kernel
theorem dX10_loss_7 : decode cX10_loss 7 = .ok (.invokevirtual 302, 3) := by decide +kernel
theorem dX10_loss_10 : decode cX10_loss 10 = .ok (.isub, 1) := by decide +kernel
theorem dX10_loss_11 : decode cX10_loss 11 = .ok (.ireturn, 1) := by decide +kernel
theorem dX10_reading_0 : decode cX10_reading 0 = .ok (.lload_n 1, 1) := by decide +kernel
theorem dX10_reading_1 : decode cX10_reading 1 = .ok (.bipush 8, 2) := by decide +kernel
theorem dX10_reading_3 : decode cX10_reading 3 = .ok (.invokestatic 147, 3) := by decide +kernel
theorem dX10_reading_6 : decode cX10_reading 6 = .ok (.ifCond .eq 16, 3) := by decide +kernel
theorem dX10_reading_9 : decode cX10_reading 9 = .ok (.iload_n 3, 1) := by decide +kernel
theorem dX10_reading_10 : decode cX10_reading 10 = .ok (.iload 4, 2) := by decide +kernel
theorem dX10_reading_12 : decode cX10_reading 12 = .ok (.invokestatic 59, 3) := by decide +kernel
theorem dX10_reading_15 : decode cX10_reading 15 = .ok (.ifCond .eq 7, 3) := by decide +kernel
theorem dX10_reading_18 : decode cX10_reading 18 = .ok (.iconst 1, 1) := by decide +kernel
theorem dX10_reading_19 : decode cX10_reading 19 = .ok (.goto 4, 3) := by decide +kernel
theorem dX10_reading_22 : decode cX10_reading 22 = .ok (.iconst 0, 1) := by decide +kernel
theorem dX10_reading_23 : decode cX10_reading 23 = .ok (.invokestatic 63, 3) := by decide +kernel
theorem dX10_reading_26 : decode cX10_reading 26 = .ok (.aload_n 0, 1) := by decide +kernel
theorem dX10_reading_27 : decode cX10_reading 27 = .ok (.getfield 25, 3) := by decide +kernel
theorem dX10_reading_30 : decode cX10_reading 30 = .ok (.invokevirtual 67, 3) := by decide +kernel
theorem dX10_reading_33 : decode cX10_reading 33 = .ok (.iconst 4, 1) := by decide +kernel
theorem dX10_reading_34 : decode cX10_reading 34 = .ok (.if_icmp .ge 7, 3) := by decide +kernel
theorem dX10_reading_37 : decode cX10_reading 37 = .ok (.iconst 1, 1) := by decide +kernel
theorem dX10_reading_38 : decode cX10_reading 38 = .ok (.goto 4, 3) := by decide +kernel
theorem dX10_reading_41 : decode cX10_reading 41 = .ok (.iconst 0, 1) := by decide +kernel
theorem dX10_reading_42 : decode cX10_reading 42 = .ok (.invokestatic 71, 3) := by decide +kernel
theorem dX10_reading_45 : decode cX10_reading 45 = .ok (.aload_n 0, 1) := by decide +kernel
theorem dX10_reading_46 : decode cX10_reading 46 = .ok (.getfield 25, 3) := by decide +kernel
theorem dX10_reading_49 : decode cX10_reading 49 = .ok (.new 305, 3) := by decide +kernel
theorem dX10_reading_52 : decode cX10_reading 52 = .ok (.dup, 1) := by decide +kernel
theorem dX10_reading_53 : decode cX10_reading 53 = .ok (.lload_n 1, 1) := by decide +kernel
theorem dX10_reading_54 : decode cX10_reading 54 = .ok (.iload_n 3, 1) := by decide +kernel
theorem dX10_reading_55 : decode cX10_reading 55 = .ok (.iload 4, 2) := by decide +kernel
theorem dX10_reading_57 : decode cX10_reading 57 = .ok (.invokespecial 307, 3) := by decide +kernel
theorem dX10_reading_60 : decode cX10_reading 60 = .ok (.invokevirtual 55, 3) := by decide +kernel
theorem dX10_reading_63 : decode cX10_reading 63 = .ok (.pop, 1) := by decide +kernel
theorem dX10_reading_64 : decode cX10_reading 64 = .ok (.aload_n 0, 1) := by decide +kernel
theorem dX10_reading_65 : decode cX10_reading 65 = .ok (.getfield 25, 3) := by decide +kernel
theorem dX10_reading_68 : decode cX10_reading 68 = .ok (.invokevirtual 67, 3) := by decide +kernel
theorem dX10_reading_71 : decode cX10_reading 71 = .ok (.iconst 1, 1) := by decide +kernel
theorem dX10_reading_72 : decode cX10_reading 72 = .ok (.isub, 1) := by decide +kernel
theorem dX10_reading_73 : decode cX10_reading 73 = .ok (.ireturn, 1) := by decide +kernel
theorem dX10_cost_0 : decode cX10_cost 0 = .ok (.iload_n 1, 1) := by decide +kernel
theorem dX10_cost_1 : decode cX10_cost 1 = .ok (.aload_n 0, 1) := by decide +kernel
theorem dX10_cost_2 : decode cX10_cost 2 = .ok (.getfield 25, 3) := by decide +kernel
theorem dX10_cost_5 : decode cX10_cost 5 = .ok (.invokevirtual 67, 3) := by decide +kernel
theorem dX10_cost_8 : decode cX10_cost 8 = .ok (.invokestatic 206, 3) := by decide +kernel
theorem dX10_cost_11 : decode cX10_cost 11 = .ok (.aload_n 0, 1) := by decide +kernel
theorem dX10_cost_12 : decode cX10_cost 12 = .ok (.iload_n 2, 1) := by decide +kernel
theorem dX10_cost_13 : decode cX10_cost 13 = .ok (.invokevirtual 96, 3) := by decide +kernel
theorem dX10_cost_16 : decode cX10_cost 16 = .ok (.astore_n 3, 1) := by decide +kernel
theorem dX10_cost_17 : decode cX10_cost 17 = .ok (.aload_n 0, 1) := by decide +kernel
theorem dX10_cost_18 : decode cX10_cost 18 = .ok (.aload_n 0, 1) := by decide +kernel
theorem dX10_cost_19 : decode cX10_cost 19 = .ok (.getfield 25, 3) := by decide +kernel
theorem dX10_cost_22 : decode cX10_cost 22 = .ok (.iload_n 1, 1) := by decide +kernel
theorem dX10_cost_23 : decode cX10_cost 23 = .ok (.invokevirtual 310, 3) := by decide +kernel
theorem dX10_cost_26 : decode cX10_cost 26 = .ok (.checkcast 305, 3) := by decide +kernel
theorem dX10_cost_29 : decode cX10_cost 29 = .ok (.aload_n 3, 1) := by decide +kernel
theorem dX10_cost_30 : decode cX10_cost 30 = .ok (.invokevirtual 314, 3) := by decide +kernel
theorem dX10_cost_33 : decode cX10_cost 33 = .ok (.ireturn, 1) := by decide +kernel
theorem dX10_assign_0 : decode cX10_assign 0 = .ok (.aload_n 0, 1) := by decide +kernel
theorem dX10_assign_1 : decode cX10_assign 1 = .ok (.invokevirtual 318, 3) := by decide +kernel
theorem dX10_assign_4 : decode cX10_assign 4 = .ok (.aload_n 0, 1) := by decide +kernel
theorem dX10_assign_5 : decode cX10_assign 5 = .ok (.getfield 34, 3) := by decide +kernel
theorem dX10_assign_8 : decode cX10_assign 8 = .ok (.aload_n 0, 1) := by decide +kernel
theorem dX10_assign_9 : decode cX10_assign 9 = .ok (.getfield 25, 3) := by decide +kernel
theorem dX10_assign_12 : decode cX10_assign 12 = .ok (.invokevirtual 67, 3) := by decide +kernel
theorem dX10_assign_15 : decode cX10_assign 15 = .ok (.invokevirtual 321, 3) := by decide +kernel
theorem dX10_assign_18 : decode cX10_assign 18 = .ok (.ireturn, 1) := by decide +kernel
theorem dX10_ways_0 : decode cX10_ways 0 = .ok (.aload_n 0, 1) := by decide +kernel
theorem dX10_ways_1 : decode cX10_ways 1 = .ok (.invokevirtual 318, 3) := by decide +kernel
theorem dX10_ways_4 : decode cX10_ways 4 = .ok (.aload_n 0, 1) := by decide +kernel
theorem dX10_ways_5 : decode cX10_ways 5 = .ok (.getfield 34, 3) := by decide +kernel
theorem dX10_ways_8 : decode cX10_ways 8 = .ok (.aload_n 0, 1) := by decide +kernel
theorem dX10_ways_9 : decode cX10_ways 9 = .ok (.getfield 25, 3) := by decide +kernel
theorem dX10_ways_12 : decode cX10_ways 12 = .ok (.invokevirtual 67, 3) := by decide +kernel
theorem dX10_ways_15 : decode cX10_ways 15 = .ok (.invokevirtual 324, 3) := by decide +kernel
theorem dX10_ways_18 : decode cX10_ways 18 = .ok (.ireturn, 1) := by decide +kernel
theorem dX10_find_0 : decode cX10_find 0 = .ok (.iload 5, 2) := by decide +kernel
theorem dX10_find_2 : decode cX10_find 2 = .ok (.ifCond .ge 14, 3) := by decide +kernel
theorem dX10_find_5 : decode cX10_find 5 = .ok (.new 327, 3) := by decide +kernel
theorem dX10_find_8 : decode cX10_find 8 = .ok (.dup, 1) := by decide +kernel
theorem dX10_find_9 : decode cX10_find 9 = .ok (.ldc_w 329, 3) := by decide +kernel
theorem dX10_find_12 : decode cX10_find 12 = .ok (.invokespecial 331, 3) := by decide +kernel
theorem dX10_find_15 : decode cX10_find 15 = .ok (.athrow, 1) := by decide +kernel
theorem dX10_find_16 : decode cX10_find 16 = .ok (.lload_n 1, 1) := by decide +kernel
theorem dX10_find_17 : decode cX10_find 17 = .ok (.bipush 12, 2) := by decide +kernel
theorem dX10_find_19 : decode cX10_find 19 = .ok (.invokestatic 147, 3) := by decide +kernel
theorem dX10_find_22 : decode cX10_find 22 = .ok (.ifCond .eq 16, 3) := by decide +kernel
theorem dX10_find_25 : decode cX10_find 25 = .ok (.iload_n 3, 1) := by decide +kernel
theorem dX10_find_26 : decode cX10_find 26 = .ok (.iload 4, 2) := by decide +kernel
theorem dX10_find_28 : decode cX10_find 28 = .ok (.invokestatic 59, 3) := by decide +kernel
theorem dX10_find_31 : decode cX10_find 31 = .ok (.ifCond .eq 7, 3) := by decide +kernel
theorem dX10_find_34 : decode cX10_find 34 = .ok (.iconst 1, 1) := by decide +kernel
theorem dX10_find_35 : decode cX10_find 35 = .ok (.goto 4, 3) := by decide +kernel
theorem dX10_find_38 : decode cX10_find 38 = .ok (.iconst 0, 1) := by decide +kernel
theorem dX10_find_39 : decode cX10_find 39 = .ok (.invokestatic 63, 3) := by decide +kernel
theorem dX10_find_42 : decode cX10_find 42 = .ok (.iconst 0, 1) := by decide +kernel
theorem dX10_find_43 : decode cX10_find 43 = .ok (.istore 6, 2) := by decide +kernel
theorem dX10_find_45 : decode cX10_find 45 = .ok (.iload 6, 2) := by decide +kernel
theorem dX10_find_47 : decode cX10_find 47 = .ok (.aload_n 0, 1) := by decide +kernel
theorem dX10_find_48 : decode cX10_find 48 = .ok (.getfield 42, 3) := by decide +kernel
theorem dX10_find_51 : decode cX10_find 51 = .ok (.arraylength, 1) := by decide +kernel
theorem dX10_find_52 : decode cX10_find 52 = .ok (.if_icmp .ge 54, 3) := by decide +kernel
theorem dX10_find_55 : decode cX10_find 55 = .ok (.aload_n 0, 1) := by decide +kernel
theorem dX10_find_56 : decode cX10_find 56 = .ok (.getfield 42, 3) := by decide +kernel
theorem dX10_find_59 : decode cX10_find 59 = .ok (.iload 6, 2) := by decide +kernel
theorem dX10_find_61 : decode cX10_find 61 = .ok (.iload 6, 2) := by decide +kernel
theorem dX10_find_63 : decode cX10_find 63 = .ok (.aload_n 0, 1) := by decide +kernel
theorem dX10_find_64 : decode cX10_find 64 = .ok (.getfield 10, 3) := by decide +kernel
theorem dX10_find_67 : decode cX10_find 67 = .ok (.invokevirtual 67, 3) := by decide +kernel
theorem dX10_find_70 : decode cX10_find 70 = .ok (.if_icmp .ge 28, 3) := by decide +kernel
theorem dX10_find_73 : decode cX10_find 73 = .ok (.aload_n 0, 1) := by decide +kernel
theorem dX10_find_74 : decode cX10_find 74 = .ok (.iload 6, 2) := by decide +kernel
theorem dX10_find_76 : decode cX10_find 76 = .ok (.aload_n 0, 1) := by decide +kernel
theorem dX10_find_77 : decode cX10_find 77 = .ok (.getfield 10, 3) := by decide +kernel
theorem dX10_find_80 : decode cX10_find 80 = .ok (.iload 6, 2) := by decide +kernel
theorem dX10_find_82 : decode cX10_find 82 = .ok (.invokevirtual 310, 3) := by decide +kernel
theorem dX10_find_85 : decode cX10_find 85 = .ok (.checkcast 74, 3) := by decide +kernel
theorem dX10_find_88 : decode cX10_find 88 = .ok (.lload_n 1, 1) := by decide +kernel
theorem dX10_find_89 : decode cX10_find 89 = .ok (.iload_n 3, 1) := by decide +kernel
theorem dX10_find_90 : decode cX10_find 90 = .ok (.iload 4, 2) := by decide +kernel
theorem dX10_find_92 : decode cX10_find 92 = .ok (.invokevirtual 334, 3) := by decide +kernel
theorem dX10_find_95 : decode cX10_find 95 = .ok (.goto 4, 3) := by decide +kernel
theorem dX10_find_98 : decode cX10_find 98 = .ok (.iconst (-1), 1) := by decide +kernel
theorem dX10_find_99 : decode cX10_find 99 = .ok (.iastore, 1) := by decide +kernel
theorem dX10_find_100 : decode cX10_find 100 = .ok (.iinc 6 1, 3) := by decide +kernel
theorem dX10_find_103 : decode cX10_find 103 = .ok (.goto (-58), 3) := by decide +kernel
theorem dX10_find_106 : decode cX10_find 106 = .ok (.iconst 0, 1) := by decide +kernel
theorem dX10_find_107 : decode cX10_find 107 = .ok (.istore 6, 2) := by decide +kernel
theorem dX10_find_109 : decode cX10_find 109 = .ok (.iload 6, 2) := by decide +kernel
theorem dX10_find_111 : decode cX10_find 111 = .ok (.aload_n 0, 1) := by decide +kernel
theorem dX10_find_112 : decode cX10_find 112 = .ok (.getfield 42, 3) := by decide +kernel
theorem dX10_find_115 : decode cX10_find 115 = .ok (.arraylength, 1) := by decide +kernel
theorem dX10_find_116 : decode cX10_find 116 = .ok (.if_icmp .ge 39, 3) := by decide +kernel
theorem dX10_find_119 : decode cX10_find 119 = .ok (.aload_n 0, 1) := by decide +kernel
theorem dX10_find_120 : decode cX10_find 120 = .ok (.getfield 42, 3) := by decide +kernel
theorem dX10_find_123 : decode cX10_find 123 = .ok (.iload 6, 2) := by decide +kernel
theorem dX10_find_125 : decode cX10_find 125 = .ok (.iaload, 1) := by decide +kernel
theorem dX10_find_126 : decode cX10_find 126 = .ok (.iconst (-1), 1) := by decide +kernel
theorem dX10_find_127 : decode cX10_find 127 = .ok (.if_icmp .eq 22, 3) := by decide +kernel
theorem dX10_find_130 : decode cX10_find 130 = .ok (.aload_n 0, 1) := by decide +kernel
theorem dX10_find_131 : decode cX10_find 131 = .ok (.aload_n 0, 1) := by decide +kernel
theorem dX10_find_132 : decode cX10_find 132 = .ok (.getfield 42, 3) := by decide +kernel
theorem dX10_find_135 : decode cX10_find 135 = .ok (.iload 6, 2) := by decide +kernel
theorem dX10_find_137 : decode cX10_find 137 = .ok (.iaload, 1) := by decide +kernel
theorem dX10_find_138 : decode cX10_find 138 = .ok (.invokevirtual 338, 3) := by decide +kernel
theorem dX10_find_141 : decode cX10_find 141 = .ok (.iload 5, 2) := by decide +kernel
theorem dX10_find_143 : decode cX10_find 143 = .ok (.if_icmp .ne 6, 3) := by decide +kernel
theorem dX10_find_146 : decode cX10_find 146 = .ok (.iload 6, 2) := by decide +kernel
theorem dX10_find_148 : decode cX10_find 148 = .ok (.ireturn, 1) := by decide +kernel
theorem dX10_find_149 : decode cX10_find 149 = .ok (.iinc 6 1, 3) := by decide +kernel
theorem dX10_find_152 : decode cX10_find 152 = .ok (.goto (-43), 3) := by decide +kernel
theorem dX10_find_155 : decode cX10_find 155 = .ok (.iconst (-1), 1) := by decide +kernel
theorem dX10_find_156 : decode cX10_find 156 = .ok (.ireturn, 1) := by decide +kernel
theorem dX10_pull_0 : decode cX10_pull 0 = .ok (.iload_n 1, 1) := by decide +kernel
theorem dX10_pull_1 : decode cX10_pull 1 = .ok (.aload_n 0, 1) := by decide +kernel
theorem dX10_pull_2 : decode cX10_pull 2 = .ok (.getfield 38, 3) := by decide +kernel
theorem dX10_pull_5 : decode cX10_pull 5 = .ok (.arraylength, 1) := by decide +kernel
theorem dX10_pull_6 : decode cX10_pull 6 = .ok (.invokestatic 206, 3) := by decide +kernel
theorem dX10_pull_9 : decode cX10_pull 9 = .ok (.aload_n 0, 1) := by decide +kernel
theorem dX10_pull_10 : decode cX10_pull 10 = .ok (.getfield 76, 3) := by decide +kernel
theorem dX10_pull_13 : decode cX10_pull 13 = .ok (.aload_n 0, 1) := by decide +kernel
theorem dX10_pull_14 : decode cX10_pull 14 = .ok (.getfield 38, 3) := by decide +kernel
theorem dX10_pull_17 : decode cX10_pull 17 = .ok (.iload_n 1, 1) := by decide +kernel
theorem dX10_pull_18 : decode cX10_pull 18 = .ok (.iaload, 1) := by decide +kernel
theorem dX10_pull_19 : decode cX10_pull 19 = .ok (.isub, 1) := by decide +kernel
theorem dX10_pull_20 : decode cX10_pull 20 = .ok (.istore_n 2, 1) := by decide +kernel
theorem dX10_pull_21 : decode cX10_pull 21 = .ok (.aload_n 0, 1) := by decide +kernel
theorem dX10_pull_22 : decode cX10_pull 22 = .ok (.getfield 38, 3) := by decide +kernel
theorem dX10_pull_25 : decode cX10_pull 25 = .ok (.iload_n 1, 1) := by decide +kernel
theorem dX10_pull_26 : decode cX10_pull 26 = .ok (.aload_n 0, 1) := by decide +kernel
theorem dX10_pull_27 : decode cX10_pull 27 = .ok (.getfield 76, 3) := by decide +kernel
theorem dX10_pull_30 : decode cX10_pull 30 = .ok (.iastore, 1) := by decide +kernel
theorem dX10_pull_31 : decode cX10_pull 31 = .ok (.iload_n 2, 1) := by decide +kernel
theorem dX10_pull_32 : decode cX10_pull 32 = .ok (.ireturn, 1) := by decide +kernel
theorem dX10_copy_0 : decode cX10_copy 0 = .ok (.iload_n 1, 1) := by decide +kernel
theorem dX10_copy_1 : decode cX10_copy 1 = .ok (.aload_n 0, 1) := by decide +kernel
theorem dX10_copy_2 : decode cX10_copy 2 = .ok (.getfield 38, 3) := by decide +kernel
theorem dX10_copy_5 : decode cX10_copy 5 = .ok (.arraylength, 1) := by decide +kernel
theorem dX10_copy_6 : decode cX10_copy 6 = .ok (.invokestatic 206, 3) := by decide +kernel
theorem dX10_copy_9 : decode cX10_copy 9 = .ok (.aload_n 0, 1) := by decide +kernel
theorem dX10_copy_10 : decode cX10_copy 10 = .ok (.iload_n 2, 1) := by decide +kernel
theorem dX10_copy_11 : decode cX10_copy 11 = .ok (.invokevirtual 96, 3) := by decide +kernel
theorem dX10_copy_14 : decode cX10_copy 14 = .ok (.astore 4, 2) := by decide +kernel
theorem dX10_copy_16 : decode cX10_copy 16 = .ok (.iload_n 3, 1) := by decide +kernel
theorem dX10_copy_17 : decode cX10_copy 17 = .ok (.invokestatic 144, 3) := by decide +kernel
theorem dX10_copy_20 : decode cX10_copy 20 = .ok (.aload_n 0, 1) := by decide +kernel
theorem dX10_copy_21 : decode cX10_copy 21 = .ok (.aload 4, 2) := by decide +kernel
theorem dX10_copy_23 : decode cX10_copy 23 = .ok (.iload_n 3, 1) := by decide +kernel
theorem dX10_copy_24 : decode cX10_copy 24 = .ok (.aload_n 0, 1) := by decide +kernel
theorem dX10_copy_25 : decode cX10_copy 25 = .ok (.getfield 76, 3) := by decide +kernel
theorem dX10_copy_28 : decode cX10_copy 28 = .ok (.aload_n 0, 1) := by decide +kernel
theorem dX10_copy_29 : decode cX10_copy 29 = .ok (.getfield 38, 3) := by decide +kernel
theorem dX10_copy_32 : decode cX10_copy 32 = .ok (.iload_n 1, 1) := by decide +kernel
theorem dX10_copy_33 : decode cX10_copy 33 = .ok (.iaload, 1) := by decide +kernel
theorem dX10_copy_34 : decode cX10_copy 34 = .ok (.invokevirtual 193, 3) := by decide +kernel
theorem dX10_copy_37 : decode cX10_copy 37 = .ok (.lreturn, 1) := by decide +kernel
theorem dX10_order_0 : decode cX10_order 0 = .ok (.aload_n 0, 1) := by decide +kernel
theorem dX10_order_1 : decode cX10_order 1 = .ok (.iload_n 1, 1) := by decide +kernel
theorem dX10_order_2 : decode cX10_order 2 = .ok (.invokevirtual 96, 3) := by decide +kernel
theorem dX10_order_5 : decode cX10_order 5 = .ok (.astore_n 2, 1) := by decide +kernel
theorem dX10_order_6 : decode cX10_order 6 = .ok (.aload_n 2, 1) := by decide +kernel
theorem dX10_order_7 : decode cX10_order 7 = .ok (.getfield 341, 3) := by decide +kernel
theorem dX10_order_10 : decode cX10_order 10 = .ok (.ifCond .ne 7, 3) := by decide +kernel
theorem dX10_order_13 : decode cX10_order 13 = .ok (.iconst 1, 1) := by decide +kernel
theorem dX10_order_14 : decode cX10_order 14 = .ok (.goto 4, 3) := by decide +kernel
theorem dX10_order_17 : decode cX10_order 17 = .ok (.iconst 0, 1) := by decide +kernel
theorem dX10_order_18 : decode cX10_order 18 = .ok (.invokestatic 71, 3) := by decide +kernel
theorem dX10_order_21 : decode cX10_order 21 = .ok (.aload_n 2, 1) := by decide +kernel
theorem dX10_order_22 : decode cX10_order 22 = .ok (.iconst 1, 1) := by decide +kernel
theorem dX10_order_23 : decode cX10_order 23 = .ok (.putfield 341, 3) := by decide +kernel
theorem dX10_order_26 : decode cX10_order 26 = .ok (.aload_n 0, 1) := by decide +kernel
theorem dX10_order_27 : decode cX10_order 27 = .ok (.getfield 28, 3) := by decide +kernel
theorem dX10_order_30 : decode cX10_order 30 = .ok (.aload_n 2, 1) := by decide +kernel
theorem dX10_order_31 : decode cX10_order 31 = .ok (.invokevirtual 55, 3) := by decide +kernel
theorem dX10_order_34 : decode cX10_order 34 = .ok (.pop, 1) := by decide +kernel
theorem dX10_order_35 : decode cX10_order 35 = .ok (.aload_n 0, 1) := by decide +kernel
theorem dX10_order_36 : decode cX10_order 36 = .ok (.getfield 28, 3) := by decide +kernel
theorem dX10_order_39 : decode cX10_order 39 = .ok (.invokevirtual 67, 3) := by decide +kernel
theorem dX10_order_42 : decode cX10_order 42 = .ok (.ireturn, 1) := by decide +kernel
theorem dX10_budget_0 : decode cX10_budget 0 = .ok (.iload_n 1, 1) := by decide +kernel
theorem dX10_budget_1 : decode cX10_budget 1 = .ok (.ifCond .lt 13, 3) := by decide +kernel
theorem dX10_budget_4 : decode cX10_budget 4 = .ok (.iload_n 1, 1) := by decide +kernel
theorem dX10_budget_5 : decode cX10_budget 5 = .ok (.bipush 10, 2) := by decide +kernel
theorem dX10_budget_7 : decode cX10_budget 7 = .ok (.if_icmp .gt 7, 3) := by decide +kernel
theorem dX10_budget_10 : decode cX10_budget 10 = .ok (.iconst 1, 1) := by decide +kernel
theorem dX10_budget_11 : decode cX10_budget 11 = .ok (.goto 4, 3) := by decide +kernel
theorem dX10_budget_14 : decode cX10_budget 14 = .ok (.iconst 0, 1) := by decide +kernel
theorem dX10_budget_15 : decode cX10_budget 15 = .ok (.invokestatic 63, 3) := by decide +kernel
theorem dX10_budget_18 : decode cX10_budget 18 = .ok (.aload_n 0, 1) := by decide +kernel
theorem dX10_budget_19 : decode cX10_budget 19 = .ok (.getfield 48, 3) := by decide +kernel
theorem dX10_budget_22 : decode cX10_budget 22 = .ok (.istore_n 2, 1) := by decide +kernel
theorem dX10_budget_23 : decode cX10_budget 23 = .ok (.aload_n 0, 1) := by decide +kernel
theorem dX10_budget_24 : decode cX10_budget 24 = .ok (.iload_n 1, 1) := by decide +kernel
theorem dX10_budget_25 : decode cX10_budget 25 = .ok (.putfield 48, 3) := by decide +kernel
theorem dX10_budget_28 : decode cX10_budget 28 = .ok (.iload_n 2, 1) := by decide +kernel
theorem dX10_budget_29 : decode cX10_budget 29 = .ok (.ireturn, 1) := by decide +kernel
theorem dX10_sign_0 : decode cX10_sign 0 = .ok (.aload_n 0, 1) := by decide +kernel
theorem dX10_sign_1 : decode cX10_sign 1 = .ok (.iload_n 1, 1) := by decide +kernel
theorem dX10_sign_2 : decode cX10_sign 2 = .ok (.invokevirtual 96, 3) := by decide +kernel
theorem dX10_sign_5 : decode cX10_sign 5 = .ok (.getfield 344, 3) := by decide +kernel
theorem dX10_sign_8 : decode cX10_sign 8 = .ok (.lreturn, 1) := by decide +kernel
theorem dX10_pass_0 : decode cX10_pass 0 = .ok (.iload_n 1, 1) := by decide +kernel
theorem dX10_pass_1 : decode cX10_pass 1 = .ok (.iconst 1, 1) := by decide +kernel
theorem dX10_pass_2 : decode cX10_pass 2 = .ok (.if_icmp .lt 14, 3) := by decide +kernel
theorem dX10_pass_5 : decode cX10_pass 5 = .ok (.iload_n 1, 1) := by decide +kernel
theorem dX10_pass_6 : decode cX10_pass 6 = .ok (.sipush 400, 3) := by decide +kernel
theorem dX10_pass_9 : decode cX10_pass 9 = .ok (.if_icmp .gt 7, 3) := by decide +kernel
theorem dX10_pass_12 : decode cX10_pass 12 = .ok (.iconst 1, 1) := by decide +kernel
theorem dX10_pass_13 : decode cX10_pass 13 = .ok (.goto 4, 3) := by decide +kernel
theorem dX10_pass_16 : decode cX10_pass 16 = .ok (.iconst 0, 1) := by decide +kernel
theorem dX10_pass_17 : decode cX10_pass 17 = .ok (.invokestatic 63, 3) := by decide +kernel
theorem dX10_pass_20 : decode cX10_pass 20 = .ok (.aload_n 0, 1) := by decide +kernel
theorem dX10_pass_21 : decode cX10_pass 21 = .ok (.getfield 76, 3) := by decide +kernel
theorem dX10_pass_24 : decode cX10_pass 24 = .ok (.iload_n 1, 1) := by decide +kernel
theorem dX10_pass_25 : decode cX10_pass 25 = .ok (.iadd, 1) := by decide +kernel
theorem dX10_pass_26 : decode cX10_pass 26 = .ok (.sipush 9999, 3) := by decide +kernel
theorem dX10_pass_29 : decode cX10_pass 29 = .ok (.if_icmp .gt 7, 3) := by decide +kernel
theorem dX10_pass_32 : decode cX10_pass 32 = .ok (.iconst 1, 1) := by decide +kernel
theorem dX10_pass_33 : decode cX10_pass 33 = .ok (.goto 4, 3) := by decide +kernel
theorem dX10_pass_36 : decode cX10_pass 36 = .ok (.iconst 0, 1) := by decide +kernel
theorem dX10_pass_37 : decode cX10_pass 37 = .ok (.invokestatic 71, 3) := by decide +kernel
theorem dX10_pass_40 : decode cX10_pass 40 = .ok (.iconst 0, 1) := by decide +kernel
theorem dX10_pass_41 : decode cX10_pass 41 = .ok (.istore_n 2, 1) := by decide +kernel
theorem dX10_pass_42 : decode cX10_pass 42 = .ok (.iload_n 2, 1) := by decide +kernel
theorem dX10_pass_43 : decode cX10_pass 43 = .ok (.iload_n 1, 1) := by decide +kernel
theorem dX10_pass_44 : decode cX10_pass 44 = .ok (.if_icmp .ge 23, 3) := by decide +kernel
theorem dX10_pass_47 : decode cX10_pass 47 = .ok (.aload_n 0, 1) := by decide +kernel
theorem dX10_pass_48 : decode cX10_pass 48 = .ok (.invokevirtual 347, 3) := by decide +kernel
theorem dX10_pass_51 : decode cX10_pass 51 = .ok (.aload_n 0, 1) := by decide +kernel
theorem dX10_pass_52 : decode cX10_pass 52 = .ok (.dup, 1) := by decide +kernel
theorem dX10_pass_53 : decode cX10_pass 53 = .ok (.getfield 76, 3) := by decide +kernel
theorem dX10_pass_56 : decode cX10_pass 56 = .ok (.iconst 1, 1) := by decide +kernel
theorem dX10_pass_57 : decode cX10_pass 57 = .ok (.iadd, 1) := by decide +kernel
theorem dX10_pass_58 : decode cX10_pass 58 = .ok (.putfield 76, 3) := by decide +kernel
theorem dX10_pass_61 : decode cX10_pass 61 = .ok (.iinc 2 1, 3) := by decide +kernel
theorem dX10_pass_64 : decode cX10_pass 64 = .ok (.goto (-22), 3) := by decide +kernel
theorem dX10_pass_67 : decode cX10_pass 67 = .ok (.aload_n 0, 1) := by decide +kernel
theorem dX10_pass_68 : decode cX10_pass 68 = .ok (.getfield 76, 3) := by decide +kernel
theorem dX10_pass_71 : decode cX10_pass 71 = .ok (.ireturn, 1) := by decide +kernel
theorem dX10_needArgument_0 : decode cX10_needArgument 0 = .ok (.iload_n 0, 1) := by decide +kernel
theorem dX10_needArgument_1 : decode cX10_needArgument 1 = .ok (.ifCond .ne 14, 3) := by decide +kernel
theorem dX10_needArgument_4 : decode cX10_needArgument 4 = .ok (.new 350, 3) := by decide +kernel
theorem dX10_needArgument_7 : decode cX10_needArgument 7 = .ok (.dup, 1) := by decide +kernel
theorem dX10_needArgument_8 : decode cX10_needArgument 8 = .ok (.ldc_w 352, 3) := by decide +kernel
theorem dX10_needArgument_11 : decode cX10_needArgument 11 = .ok (.invokespecial 354, 3) := by decide +kernel
theorem dX10_needArgument_14 : decode cX10_needArgument 14 = .ok (.athrow, 1) := by decide +kernel
theorem dX10_needArgument_15 : decode cX10_needArgument 15 = .ok (.return_, 1) := by decide +kernel
theorem dX10_needState_0 : decode cX10_needState 0 = .ok (.iload_n 0, 1) := by decide +kernel
theorem dX10_needState_1 : decode cX10_needState 1 = .ok (.ifCond .ne 14, 3) := by decide +kernel
theorem dX10_needState_4 : decode cX10_needState 4 = .ok (.new 355, 3) := by decide +kernel
theorem dX10_needState_7 : decode cX10_needState 7 = .ok (.dup, 1) := by decide +kernel
theorem dX10_needState_8 : decode cX10_needState 8 = .ok (.ldc_w 357, 3) := by decide +kernel
theorem dX10_needState_11 : decode cX10_needState 11 = .ok (.invokespecial 359, 3) := by decide +kernel
theorem dX10_needState_14 : decode cX10_needState 14 = .ok (.athrow, 1) := by decide +kernel
theorem dX10_needState_15 : decode cX10_needState 15 = .ok (.return_, 1) := by decide +kernel
theorem dX10_needIndex_0 : decode cX10_needIndex 0 = .ok (.iload_n 0, 1) := by decide +kernel
theorem dX10_needIndex_1 : decode cX10_needIndex 1 = .ok (.ifCond .lt 8, 3) := by decide +kernel
theorem dX10_needIndex_4 : decode cX10_needIndex 4 = .ok (.iload_n 0, 1) := by decide +kernel
theorem dX10_needIndex_5 : decode cX10_needIndex 5 = .ok (.iload_n 1, 1) := by decide +kernel
theorem dX10_needIndex_6 : decode cX10_needIndex 6 = .ok (.if_icmp .lt 14, 3) := by decide +kernel
theorem dX10_needIndex_9 : decode cX10_needIndex 9 = .ok (.new 327, 3) := by decide +kernel
theorem dX10_needIndex_12 : decode cX10_needIndex 12 = .ok (.dup, 1) := by decide +kernel
theorem dX10_needIndex_13 : decode cX10_needIndex 13 = .ok (.ldc_w 360, 3) := by decide +kernel
theorem dX10_needIndex_16 : decode cX10_needIndex 16 = .ok (.invokespecial 331, 3) := by decide +kernel
theorem dX10_needIndex_19 : decode cX10_needIndex 19 = .ok (.athrow, 1) := by decide +kernel
theorem dX10_needIndex_20 : decode cX10_needIndex 20 = .ok (.return_, 1) := by decide +kernel
theorem dX10_needTongue_0 : decode cX10_needTongue 0 = .ok (.iload_n 0, 1) := by decide +kernel
theorem dX10_needTongue_1 : decode cX10_needTongue 1 = .ok (.iconst 4, 1) := by decide +kernel
theorem dX10_needTongue_2 : decode cX10_needTongue 2 = .ok (.invokestatic 206, 3) := by decide +kernel
theorem dX10_needTongue_5 : decode cX10_needTongue 5 = .ok (.return_, 1) := by decide +kernel
theorem dX10_needFeatureOrNone_0 : decode cX10_needFeatureOrNone 0 = .ok (.iload_n 1, 1) := by decide +kernel
theorem dX10_needFeatureOrNone_1 : decode cX10_needFeatureOrNone 1 = .ok (.iconst (-1), 1) := by decide +kernel
theorem dX10_needFeatureOrNone_2 : decode cX10_needFeatureOrNone 2 = .ok (.if_icmp .eq 14, 3) := by decide +kernel
theorem dX10_needFeatureOrNone_5 : decode cX10_needFeatureOrNone 5 = .ok (.iload_n 1, 1) := by decide +kernel
theorem dX10_needFeatureOrNone_6 : decode cX10_needFeatureOrNone 6 = .ok (.aload_n 0, 1) := by decide +kernel
theorem dX10_needFeatureOrNone_7 : decode cX10_needFeatureOrNone 7 = .ok (.getfield 10, 3) := by decide +kernel
theorem dX10_needFeatureOrNone_10 : decode cX10_needFeatureOrNone 10 = .ok (.invokevirtual 67, 3) := by decide +kernel
theorem dX10_needFeatureOrNone_13 : decode cX10_needFeatureOrNone 13 = .ok (.invokestatic 206, 3) := by decide +kernel
theorem dX10_needFeatureOrNone_16 : decode cX10_needFeatureOrNone 16 = .ok (.return_, 1) := by decide +kernel
theorem dX10_featureAt_0 : decode cX10_featureAt 0 = .ok (.iload_n 1, 1) := by decide +kernel
theorem dX10_featureAt_1 : decode cX10_featureAt 1 = .ok (.aload_n 0, 1) := by decide +kernel
theorem dX10_featureAt_2 : decode cX10_featureAt 2 = .ok (.getfield 10, 3) := by decide +kernel
theorem dX10_featureAt_5 : decode cX10_featureAt 5 = .ok (.invokevirtual 67, 3) := by decide +kernel
theorem dX10_featureAt_8 : decode cX10_featureAt 8 = .ok (.invokestatic 206, 3) := by decide +kernel
theorem dX10_featureAt_11 : decode cX10_featureAt 11 = .ok (.aload_n 0, 1) := by decide +kernel
theorem dX10_featureAt_12 : decode cX10_featureAt 12 = .ok (.getfield 10, 3) := by decide +kernel
theorem dX10_featureAt_15 : decode cX10_featureAt 15 = .ok (.iload_n 1, 1) := by decide +kernel
theorem dX10_featureAt_16 : decode cX10_featureAt 16 = .ok (.invokevirtual 310, 3) := by decide +kernel
theorem dX10_featureAt_19 : decode cX10_featureAt 19 = .ok (.checkcast 74, 3) := by decide +kernel
theorem dX10_featureAt_22 : decode cX10_featureAt 22 = .ok (.areturn, 1) := by decide +kernel
theorem dX10_petitionAt_0 : decode cX10_petitionAt 0 = .ok (.iload_n 1, 1) := by decide +kernel
theorem dX10_petitionAt_1 : decode cX10_petitionAt 1 = .ok (.aload_n 0, 1) := by decide +kernel
theorem dX10_petitionAt_2 : decode cX10_petitionAt 2 = .ok (.getfield 19, 3) := by decide +kernel
theorem dX10_petitionAt_5 : decode cX10_petitionAt 5 = .ok (.invokevirtual 67, 3) := by decide +kernel
theorem dX10_petitionAt_8 : decode cX10_petitionAt 8 = .ok (.invokestatic 206, 3) := by decide +kernel
theorem dX10_petitionAt_11 : decode cX10_petitionAt 11 = .ok (.aload_n 0, 1) := by decide +kernel
theorem dX10_petitionAt_12 : decode cX10_petitionAt 12 = .ok (.getfield 19, 3) := by decide +kernel
theorem dX10_petitionAt_15 : decode cX10_petitionAt 15 = .ok (.iload_n 1, 1) := by decide +kernel
theorem dX10_petitionAt_16 : decode cX10_petitionAt 16 = .ok (.invokevirtual 310, 3) := by decide +kernel
theorem dX10_petitionAt_19 : decode cX10_petitionAt 19 = .ok (.checkcast 197, 3) := by decide +kernel
theorem dX10_petitionAt_22 : decode cX10_petitionAt 22 = .ok (.areturn, 1) := by decide +kernel
theorem dX10_tableAt_0 : decode cX10_tableAt 0 = .ok (.iload_n 1, 1) := by decide +kernel
theorem dX10_tableAt_1 : decode cX10_tableAt 1 = .ok (.aload_n 0, 1) := by decide +kernel
theorem dX10_tableAt_2 : decode cX10_tableAt 2 = .ok (.getfield 22, 3) := by decide +kernel
theorem dX10_tableAt_5 : decode cX10_tableAt 5 = .ok (.invokevirtual 67, 3) := by decide +kernel
theorem dX10_tableAt_8 : decode cX10_tableAt 8 = .ok (.invokestatic 206, 3) := by decide +kernel
theorem dX10_tableAt_11 : decode cX10_tableAt 11 = .ok (.aload_n 0, 1) := by decide +kernel
theorem dX10_tableAt_12 : decode cX10_tableAt 12 = .ok (.getfield 22, 3) := by decide +kernel
theorem dX10_tableAt_15 : decode cX10_tableAt 15 = .ok (.iload_n 1, 1) := by decide +kernel
theorem dX10_tableAt_16 : decode cX10_tableAt 16 = .ok (.invokevirtual 310, 3) := by decide +kernel
theorem dX10_tableAt_19 : decode cX10_tableAt 19 = .ok (.checkcast 52, 3) := by decide +kernel
theorem dX10_tableAt_22 : decode cX10_tableAt 22 = .ok (.areturn, 1) := by decide +kernel
theorem dX10_isDay_0 : decode cX10_isDay 0 = .ok (.iload_n 0, 1) := by decide +kernel
theorem dX10_isDay_1 : decode cX10_isDay 1 = .ok (.ifCond .lt 14, 3) := by decide +kernel
theorem dX10_isDay_4 : decode cX10_isDay 4 = .ok (.iload_n 0, 1) := by decide +kernel
theorem dX10_isDay_5 : decode cX10_isDay 5 = .ok (.sipush 9999, 3) := by decide +kernel
theorem dX10_isDay_8 : decode cX10_isDay 8 = .ok (.if_icmp .gt 7, 3) := by decide +kernel
theorem dX10_isDay_11 : decode cX10_isDay 11 = .ok (.iconst 1, 1) := by decide +kernel
theorem dX10_isDay_12 : decode cX10_isDay 12 = .ok (.goto 4, 3) := by decide +kernel
theorem dX10_isDay_15 : decode cX10_isDay 15 = .ok (.iconst 0, 1) := by decide +kernel
theorem dX10_isDay_16 : decode cX10_isDay 16 = .ok (.ireturn, 1) := by decide +kernel
theorem dX10_isLetter_0 : decode cX10_isLetter 0 = .ok (.iload_n 0, 1) := by decide +kernel
theorem dX10_isLetter_1 : decode cX10_isLetter 1 = .ok (.iconst 1, 1) := by decide +kernel
theorem dX10_isLetter_2 : decode cX10_isLetter 2 = .ok (.if_icmp .lt 13, 3) := by decide +kernel
theorem dX10_isLetter_5 : decode cX10_isLetter 5 = .ok (.iload_n 0, 1) := by decide +kernel
theorem dX10_isLetter_6 : decode cX10_isLetter 6 = .ok (.bipush 26, 2) := by decide +kernel
theorem dX10_isLetter_8 : decode cX10_isLetter 8 = .ok (.if_icmp .gt 7, 3) := by decide +kernel
theorem dX10_isLetter_11 : decode cX10_isLetter 11 = .ok (.iconst 1, 1) := by decide +kernel
theorem dX10_isLetter_12 : decode cX10_isLetter 12 = .ok (.goto 4, 3) := by decide +kernel
theorem dX10_isLetter_15 : decode cX10_isLetter 15 = .ok (.iconst 0, 1) := by decide +kernel
theorem dX10_isLetter_16 : decode cX10_isLetter 16 = .ok (.ireturn, 1) := by decide +kernel
theorem dX10_isLetterOrNone_0 : decode cX10_isLetterOrNone 0 = .ok (.iload_n 0, 1) := by decide +kernel
theorem dX10_isLetterOrNone_1 : decode cX10_isLetterOrNone 1 = .ok (.ifCond .eq 10, 3) := by decide +kernel
theorem dX10_isLetterOrNone_4 : decode cX10_isLetterOrNone 4 = .ok (.iload_n 0, 1) := by decide +kernel
theorem dX10_isLetterOrNone_5 : decode cX10_isLetterOrNone 5 = .ok (.invokestatic 166, 3) := by decide +kernel
theorem dX10_isLetterOrNone_8 : decode cX10_isLetterOrNone 8 = .ok (.ifCond .eq 7, 3) := by decide +kernel
theorem dX10_isLetterOrNone_11 : decode cX10_isLetterOrNone 11 = .ok (.iconst 1, 1) := by decide +kernel
theorem dX10_isLetterOrNone_12 : decode cX10_isLetterOrNone 12 = .ok (.goto 4, 3) := by decide +kernel
theorem dX10_isLetterOrNone_15 : decode cX10_isLetterOrNone 15 = .ok (.iconst 0, 1) := by decide +kernel
theorem dX10_isLetterOrNone_16 : decode cX10_isLetterOrNone 16 = .ok (.ireturn, 1) := by decide +kernel
theorem dX10_isPlace_0 : decode cX10_isPlace 0 = .ok (.iload_n 0, 1) := by decide +kernel
theorem dX10_isPlace_1 : decode cX10_isPlace 1 = .ok (.ifCond .lt 23, 3) := by decide +kernel
theorem dX10_isPlace_4 : decode cX10_isPlace 4 = .ok (.iload_n 0, 1) := by decide +kernel
theorem dX10_isPlace_5 : decode cX10_isPlace 5 = .ok (.bipush 100, 2) := by decide +kernel
theorem dX10_isPlace_7 : decode cX10_isPlace 7 = .ok (.if_icmp .ge 17, 3) := by decide +kernel
theorem dX10_isPlace_10 : decode cX10_isPlace 10 = .ok (.iload_n 1, 1) := by decide +kernel
theorem dX10_isPlace_11 : decode cX10_isPlace 11 = .ok (.ifCond .lt 13, 3) := by decide +kernel
theorem dX10_isPlace_14 : decode cX10_isPlace 14 = .ok (.iload_n 1, 1) := by decide +kernel
theorem dX10_isPlace_15 : decode cX10_isPlace 15 = .ok (.bipush 100, 2) := by decide +kernel
theorem dX10_isPlace_17 : decode cX10_isPlace 17 = .ok (.if_icmp .ge 7, 3) := by decide +kernel
theorem dX10_isPlace_20 : decode cX10_isPlace 20 = .ok (.iconst 1, 1) := by decide +kernel
theorem dX10_isPlace_21 : decode cX10_isPlace 21 = .ok (.goto 4, 3) := by decide +kernel
theorem dX10_isPlace_24 : decode cX10_isPlace 24 = .ok (.iconst 0, 1) := by decide +kernel
theorem dX10_isPlace_25 : decode cX10_isPlace 25 = .ok (.ireturn, 1) := by decide +kernel
theorem dX10_placeNumber_0 : decode cX10_placeNumber 0 = .ok (.iload_n 0, 1) := by decide +kernel
theorem dX10_placeNumber_1 : decode cX10_placeNumber 1 = .ok (.bipush 100, 2) := by decide +kernel
theorem dX10_placeNumber_3 : decode cX10_placeNumber 3 = .ok (.imul, 1) := by decide +kernel
theorem dX10_placeNumber_4 : decode cX10_placeNumber 4 = .ok (.iload_n 1, 1) := by decide +kernel
theorem dX10_placeNumber_5 : decode cX10_placeNumber 5 = .ok (.iadd, 1) := by decide +kernel
theorem dX10_placeNumber_6 : decode cX10_placeNumber 6 = .ok (.ireturn, 1) := by decide +kernel
theorem dX10_firstNumber_0 : decode cX10_firstNumber 0 = .ok (.iload_n 0, 1) := by decide +kernel
theorem dX10_firstNumber_1 : decode cX10_firstNumber 1 = .ok (.iconst (-1), 1) := by decide +kernel
theorem dX10_firstNumber_2 : decode cX10_firstNumber 2 = .ok (.if_icmp .ne 7, 3) := by decide +kernel
theorem dX10_firstNumber_5 : decode cX10_firstNumber 5 = .ok (.iconst (-1), 1) := by decide +kernel
theorem dX10_firstNumber_6 : decode cX10_firstNumber 6 = .ok (.goto 7, 3) := by decide +kernel
theorem dX10_firstNumber_9 : decode cX10_firstNumber 9 = .ok (.iload_n 0, 1) := by decide +kernel
theorem dX10_firstNumber_10 : decode cX10_firstNumber 10 = .ok (.bipush 100, 2) := by decide +kernel
theorem dX10_firstNumber_12 : decode cX10_firstNumber 12 = .ok (.idiv, 1) := by decide +kernel
theorem dX10_firstNumber_13 : decode cX10_firstNumber 13 = .ok (.ireturn, 1) := by decide +kernel
theorem dX10_secondNumber_0 : decode cX10_secondNumber 0 = .ok (.iload_n 0, 1) := by decide +kernel
theorem dX10_secondNumber_1 : decode cX10_secondNumber 1 = .ok (.iconst (-1), 1) := by decide +kernel
theorem dX10_secondNumber_2 : decode cX10_secondNumber 2 = .ok (.if_icmp .ne 7, 3) := by decide +kernel
theorem dX10_secondNumber_5 : decode cX10_secondNumber 5 = .ok (.iconst (-1), 1) := by decide +kernel
theorem dX10_secondNumber_6 : decode cX10_secondNumber 6 = .ok (.goto 7, 3) := by decide +kernel
theorem dX10_secondNumber_9 : decode cX10_secondNumber 9 = .ok (.iload_n 0, 1) := by decide +kernel
theorem dX10_secondNumber_10 : decode cX10_secondNumber 10 = .ok (.bipush 100, 2) := by decide +kernel
theorem dX10_secondNumber_12 : decode cX10_secondNumber 12 = .ok (.irem, 1) := by decide +kernel
theorem dX10_secondNumber_13 : decode cX10_secondNumber 13 = .ok (.ireturn, 1) := by decide +kernel
theorem dX10_distance_0 : decode cX10_distance 0 = .ok (.aload_n 1, 1) := by decide +kernel
theorem dX10_distance_1 : decode cX10_distance 1 = .ok (.getfield 82, 3) := by decide +kernel
theorem dX10_distance_4 : decode cX10_distance 4 = .ok (.aload_n 0, 1) := by decide +kernel
theorem dX10_distance_5 : decode cX10_distance 5 = .ok (.getfield 76, 3) := by decide +kernel
theorem dX10_distance_8 : decode cX10_distance 8 = .ok (.aload_n 0, 1) := by decide +kernel
theorem dX10_distance_9 : decode cX10_distance 9 = .ok (.getfield 76, 3) := by decide +kernel
theorem dX10_distance_12 : decode cX10_distance 12 = .ok (.invokevirtual 131, 3) := by decide +kernel
theorem dX10_distance_15 : decode cX10_distance 15 = .ok (.istore 4, 2) := by decide +kernel
theorem dX10_distance_17 : decode cX10_distance 17 = .ok (.iload 4, 2) := by decide +kernel
theorem dX10_distance_19 : decode cX10_distance 19 = .ok (.invokestatic 134, 3) := by decide +kernel
theorem dX10_distance_22 : decode cX10_distance 22 = .ok (.iload_n 2, 1) := by decide +kernel
theorem dX10_distance_23 : decode cX10_distance 23 = .ok (.isub, 1) := by decide +kernel
theorem dX10_distance_24 : decode cX10_distance 24 = .ok (.invokestatic 362, 3) := by decide +kernel
theorem dX10_distance_27 : decode cX10_distance 27 = .ok (.iload 4, 2) := by decide +kernel
theorem dX10_distance_29 : decode cX10_distance 29 = .ok (.invokestatic 138, 3) := by decide +kernel
theorem dX10_distance_32 : decode cX10_distance 32 = .ok (.iload_n 3, 1) := by decide +kernel
theorem dX10_distance_33 : decode cX10_distance 33 = .ok (.isub, 1) := by decide +kernel
theorem dX10_distance_34 : decode cX10_distance 34 = .ok (.invokestatic 362, 3) := by decide +kernel
theorem dX10_distance_37 : decode cX10_distance 37 = .ok (.iadd, 1) := by decide +kernel
theorem dX10_distance_38 : decode cX10_distance 38 = .ok (.ireturn, 1) := by decide +kernel
theorem dX10_isWord_0 : decode cX10_isWord 0 = .ok (.lload_n 0, 1) := by decide +kernel
theorem dX10_isWord_1 : decode cX10_isWord 1 = .ok (.lstore_n 3, 1) := by decide +kernel
theorem dX10_isWord_2 : decode cX10_isWord 2 = .ok (.iconst 0, 1) := by decide +kernel
theorem dX10_isWord_3 : decode cX10_isWord 3 = .ok (.istore 5, 2) := by decide +kernel
theorem dX10_isWord_5 : decode cX10_isWord 5 = .ok (.iload 5, 2) := by decide +kernel
theorem dX10_isWord_7 : decode cX10_isWord 7 = .ok (.iload_n 2, 1) := by decide +kernel
theorem dX10_isWord_8 : decode cX10_isWord 8 = .ok (.if_icmp .ge 33, 3) := by decide +kernel
theorem dX10_isWord_11 : decode cX10_isWord 11 = .ok (.lload_n 3, 1) := by decide +kernel
theorem dX10_isWord_12 : decode cX10_isWord 12 = .ok (.lconst 0, 1) := by decide +kernel
theorem dX10_isWord_13 : decode cX10_isWord 13 = .ok (.lcmp, 1) := by decide +kernel
theorem dX10_isWord_14 : decode cX10_isWord 14 = .ok (.ifCond .le 27, 3) := by decide +kernel
theorem dX10_isWord_17 : decode cX10_isWord 17 = .ok (.lload_n 3, 1) := by decide +kernel
theorem dX10_isWord_18 : decode cX10_isWord 18 = .ok (.ldc2_w 295, 3) := by decide +kernel
theorem dX10_isWord_21 : decode cX10_isWord 21 = .ok (.lrem, 1) := by decide +kernel
theorem dX10_isWord_22 : decode cX10_isWord 22 = .ok (.lconst 0, 1) := by decide +kernel
theorem dX10_isWord_23 : decode cX10_isWord 23 = .ok (.lcmp, 1) := by decide +kernel
theorem dX10_isWord_24 : decode cX10_isWord 24 = .ok (.ifCond .ne 5, 3) := by decide +kernel
theorem dX10_isWord_27 : decode cX10_isWord 27 = .ok (.iconst 0, 1) := by decide +kernel
theorem dX10_isWord_28 : decode cX10_isWord 28 = .ok (.ireturn, 1) := by decide +kernel
theorem dX10_isWord_29 : decode cX10_isWord 29 = .ok (.lload_n 3, 1) := by decide +kernel
theorem dX10_isWord_30 : decode cX10_isWord 30 = .ok (.ldc2_w 295, 3) := by decide +kernel
theorem dX10_isWord_33 : decode cX10_isWord 33 = .ok (.ldiv, 1) := by decide +kernel
theorem dX10_isWord_34 : decode cX10_isWord 34 = .ok (.lstore_n 3, 1) := by decide +kernel
theorem dX10_isWord_35 : decode cX10_isWord 35 = .ok (.iinc 5 1, 3) := by decide +kernel
theorem dX10_isWord_38 : decode cX10_isWord 38 = .ok (.goto (-33), 3) := by decide +kernel
theorem dX10_isWord_41 : decode cX10_isWord 41 = .ok (.lload_n 0, 1) := by decide +kernel
theorem dX10_isWord_42 : decode cX10_isWord 42 = .ok (.lconst 0, 1) := by decide +kernel
theorem dX10_isWord_43 : decode cX10_isWord 43 = .ok (.lcmp, 1) := by decide +kernel
theorem dX10_isWord_44 : decode cX10_isWord 44 = .ok (.ifCond .le 13, 3) := by decide +kernel
theorem dX10_isWord_47 : decode cX10_isWord 47 = .ok (.lload_n 3, 1) := by decide +kernel
theorem dX10_isWord_48 : decode cX10_isWord 48 = .ok (.lconst 0, 1) := by decide +kernel
theorem dX10_isWord_49 : decode cX10_isWord 49 = .ok (.lcmp, 1) := by decide +kernel
theorem dX10_isWord_50 : decode cX10_isWord 50 = .ok (.ifCond .ne 7, 3) := by decide +kernel
theorem dX10_isWord_53 : decode cX10_isWord 53 = .ok (.iconst 1, 1) := by decide +kernel
theorem dX10_isWord_54 : decode cX10_isWord 54 = .ok (.goto 4, 3) := by decide +kernel
theorem dX10_isWord_57 : decode cX10_isWord 57 = .ok (.iconst 0, 1) := by decide +kernel
theorem dX10_isWord_58 : decode cX10_isWord 58 = .ok (.ireturn, 1) := by decide +kernel
theorem dX10_turned_0 : decode cX10_turned 0 = .ok (.lload_n 0, 1) := by decide +kernel
theorem dX10_turned_1 : decode cX10_turned 1 = .ok (.lstore_n 2, 1) := by decide +kernel
theorem dX10_turned_2 : decode cX10_turned 2 = .ok (.lconst 0, 1) := by decide +kernel
theorem dX10_turned_3 : decode cX10_turned 3 = .ok (.lstore 4, 2) := by decide +kernel
theorem dX10_turned_5 : decode cX10_turned 5 = .ok (.iconst 0, 1) := by decide +kernel
theorem dX10_turned_6 : decode cX10_turned 6 = .ok (.istore 6, 2) := by decide +kernel
theorem dX10_turned_8 : decode cX10_turned 8 = .ok (.iload 6, 2) := by decide +kernel
theorem dX10_turned_10 : decode cX10_turned 10 = .ok (.bipush 12, 2) := by decide +kernel
theorem dX10_turned_12 : decode cX10_turned 12 = .ok (.if_icmp .ge 35, 3) := by decide +kernel
theorem dX10_turned_15 : decode cX10_turned 15 = .ok (.lload_n 2, 1) := by decide +kernel
theorem dX10_turned_16 : decode cX10_turned 16 = .ok (.lconst 0, 1) := by decide +kernel
theorem dX10_turned_17 : decode cX10_turned 17 = .ok (.lcmp, 1) := by decide +kernel
theorem dX10_turned_18 : decode cX10_turned 18 = .ok (.ifCond .le 29, 3) := by decide +kernel
theorem dX10_turned_21 : decode cX10_turned 21 = .ok (.lload 4, 2) := by decide +kernel
theorem dX10_turned_23 : decode cX10_turned 23 = .ok (.ldc2_w 295, 3) := by decide +kernel
theorem dX10_turned_26 : decode cX10_turned 26 = .ok (.lmul, 1) := by decide +kernel
theorem dX10_turned_27 : decode cX10_turned 27 = .ok (.lload_n 2, 1) := by decide +kernel
theorem dX10_turned_28 : decode cX10_turned 28 = .ok (.ldc2_w 295, 3) := by decide +kernel
theorem dX10_turned_31 : decode cX10_turned 31 = .ok (.lrem, 1) := by decide +kernel
theorem dX10_turned_32 : decode cX10_turned 32 = .ok (.ladd, 1) := by decide +kernel
theorem dX10_turned_33 : decode cX10_turned 33 = .ok (.lstore 4, 2) := by decide +kernel
theorem dX10_turned_35 : decode cX10_turned 35 = .ok (.lload_n 2, 1) := by decide +kernel
theorem dX10_turned_36 : decode cX10_turned 36 = .ok (.ldc2_w 295, 3) := by decide +kernel
theorem dX10_turned_39 : decode cX10_turned 39 = .ok (.ldiv, 1) := by decide +kernel
theorem dX10_turned_40 : decode cX10_turned 40 = .ok (.lstore_n 2, 1) := by decide +kernel
theorem dX10_turned_41 : decode cX10_turned 41 = .ok (.iinc 6 1, 3) := by decide +kernel
theorem dX10_turned_44 : decode cX10_turned 44 = .ok (.goto (-36), 3) := by decide +kernel
theorem dX10_turned_47 : decode cX10_turned 47 = .ok (.lload 4, 2) := by decide +kernel
theorem dX10_turned_49 : decode cX10_turned 49 = .ok (.lreturn, 1) := by decide +kernel
theorem dX10_countLetters_0 : decode cX10_countLetters 0 = .ok (.lload_n 0, 1) := by decide +kernel
theorem dX10_countLetters_1 : decode cX10_countLetters 1 = .ok (.lstore_n 2, 1) := by decide +kernel
theorem dX10_countLetters_2 : decode cX10_countLetters 2 = .ok (.iconst 0, 1) := by decide +kernel
theorem dX10_countLetters_3 : decode cX10_countLetters 3 = .ok (.istore 4, 2) := by decide +kernel
theorem dX10_countLetters_5 : decode cX10_countLetters 5 = .ok (.iconst 0, 1) := by decide +kernel
theorem dX10_countLetters_6 : decode cX10_countLetters 6 = .ok (.istore 5, 2) := by decide +kernel
theorem dX10_countLetters_8 : decode cX10_countLetters 8 = .ok (.iload 5, 2) := by decide +kernel
theorem dX10_countLetters_10 : decode cX10_countLetters 10 = .ok (.bipush 12, 2) := by decide +kernel
theorem dX10_countLetters_12 : decode cX10_countLetters 12 = .ok (.if_icmp .ge 24, 3) := by decide +kernel
theorem dX10_countLetters_15 : decode cX10_countLetters 15 = .ok (.lload_n 2, 1) := by decide +kernel
theorem dX10_countLetters_16 : decode cX10_countLetters 16 = .ok (.lconst 0, 1) := by decide +kernel
theorem dX10_countLetters_17 : decode cX10_countLetters 17 = .ok (.lcmp, 1) := by decide +kernel
theorem dX10_countLetters_18 : decode cX10_countLetters 18 = .ok (.ifCond .le 18, 3) := by decide +kernel
theorem dX10_countLetters_21 : decode cX10_countLetters 21 = .ok (.iinc 4 1, 3) := by decide +kernel
theorem dX10_countLetters_24 : decode cX10_countLetters 24 = .ok (.lload_n 2, 1) := by decide +kernel
theorem dX10_countLetters_25 : decode cX10_countLetters 25 = .ok (.ldc2_w 295, 3) := by decide +kernel
theorem dX10_countLetters_28 : decode cX10_countLetters 28 = .ok (.ldiv, 1) := by decide +kernel
theorem dX10_countLetters_29 : decode cX10_countLetters 29 = .ok (.lstore_n 2, 1) := by decide +kernel
theorem dX10_countLetters_30 : decode cX10_countLetters 30 = .ok (.iinc 5 1, 3) := by decide +kernel
theorem dX10_countLetters_33 : decode cX10_countLetters 33 = .ok (.goto (-25), 3) := by decide +kernel
theorem dX10_countLetters_36 : decode cX10_countLetters 36 = .ok (.iload 4, 2) := by decide +kernel
theorem dX10_countLetters_38 : decode cX10_countLetters 38 = .ok (.ireturn, 1) := by decide +kernel
theorem dX10_withLetter_0 : decode cX10_withLetter 0 = .ok (.iload_n 2, 1) := by decide +kernel
theorem dX10_withLetter_1 : decode cX10_withLetter 1 = .ok (.ifCond .eq 11, 3) := by decide +kernel
theorem dX10_withLetter_4 : decode cX10_withLetter 4 = .ok (.lload_n 0, 1) := by decide +kernel
theorem dX10_withLetter_5 : decode cX10_withLetter 5 = .ok (.ldc2_w 367, 3) := by decide +kernel
theorem dX10_withLetter_8 : decode cX10_withLetter 8 = .ok (.lcmp, 1) := by decide +kernel
theorem dX10_withLetter_9 : decode cX10_withLetter 9 = .ok (.ifCond .lt 7, 3) := by decide +kernel
theorem dX10_withLetter_12 : decode cX10_withLetter 12 = .ok (.lload_n 0, 1) := by decide +kernel
theorem dX10_withLetter_13 : decode cX10_withLetter 13 = .ok (.goto 11, 3) := by decide +kernel
theorem dX10_withLetter_16 : decode cX10_withLetter 16 = .ok (.lload_n 0, 1) := by decide +kernel
theorem dX10_withLetter_17 : decode cX10_withLetter 17 = .ok (.ldc2_w 295, 3) := by decide +kernel
theorem dX10_withLetter_20 : decode cX10_withLetter 20 = .ok (.lmul, 1) := by decide +kernel
theorem dX10_withLetter_21 : decode cX10_withLetter 21 = .ok (.iload_n 2, 1) := by decide +kernel
theorem dX10_withLetter_22 : decode cX10_withLetter 22 = .ok (.i2l, 1) := by decide +kernel
theorem dX10_withLetter_23 : decode cX10_withLetter 23 = .ok (.ladd, 1) := by decide +kernel
theorem dX10_withLetter_24 : decode cX10_withLetter 24 = .ok (.lreturn, 1) := by decide +kernel
theorem dX10_placeOfLaw_0 : decode cX10_placeOfLaw 0 = .ok (.iconst 0, 1) := by decide +kernel
theorem dX10_placeOfLaw_1 : decode cX10_placeOfLaw 1 = .ok (.istore_n 2, 1) := by decide +kernel
theorem dX10_placeOfLaw_2 : decode cX10_placeOfLaw 2 = .ok (.iload_n 2, 1) := by decide +kernel
theorem dX10_placeOfLaw_3 : decode cX10_placeOfLaw 3 = .ok (.aload_n 0, 1) := by decide +kernel
theorem dX10_placeOfLaw_4 : decode cX10_placeOfLaw 4 = .ok (.getfield 16, 3) := by decide +kernel
theorem dX10_placeOfLaw_7 : decode cX10_placeOfLaw 7 = .ok (.invokevirtual 67, 3) := by decide +kernel
theorem dX10_placeOfLaw_10 : decode cX10_placeOfLaw 10 = .ok (.if_icmp .ge 29, 3) := by decide +kernel
theorem dX10_placeOfLaw_13 : decode cX10_placeOfLaw 13 = .ok (.aload_n 0, 1) := by decide +kernel
theorem dX10_placeOfLaw_14 : decode cX10_placeOfLaw 14 = .ok (.getfield 16, 3) := by decide +kernel
theorem dX10_placeOfLaw_17 : decode cX10_placeOfLaw 17 = .ok (.iload_n 2, 1) := by decide +kernel
theorem dX10_placeOfLaw_18 : decode cX10_placeOfLaw 18 = .ok (.invokevirtual 310, 3) := by decide +kernel
theorem dX10_placeOfLaw_21 : decode cX10_placeOfLaw 21 = .ok (.checkcast 172, 3) := by decide +kernel
theorem dX10_placeOfLaw_24 : decode cX10_placeOfLaw 24 = .ok (.getfield 369, 3) := by decide +kernel
theorem dX10_placeOfLaw_27 : decode cX10_placeOfLaw 27 = .ok (.iload_n 1, 1) := by decide +kernel
theorem dX10_placeOfLaw_28 : decode cX10_placeOfLaw 28 = .ok (.if_icmp .le 5, 3) := by decide +kernel
theorem dX10_placeOfLaw_31 : decode cX10_placeOfLaw 31 = .ok (.iload_n 2, 1) := by decide +kernel
theorem dX10_placeOfLaw_32 : decode cX10_placeOfLaw 32 = .ok (.ireturn, 1) := by decide +kernel
theorem dX10_placeOfLaw_33 : decode cX10_placeOfLaw 33 = .ok (.iinc 2 1, 3) := by decide +kernel
theorem dX10_placeOfLaw_36 : decode cX10_placeOfLaw 36 = .ok (.goto (-34), 3) := by decide +kernel
theorem dX10_placeOfLaw_39 : decode cX10_placeOfLaw 39 = .ok (.aload_n 0, 1) := by decide +kernel
theorem dX10_placeOfLaw_40 : decode cX10_placeOfLaw 40 = .ok (.getfield 16, 3) := by decide +kernel
theorem dX10_placeOfLaw_43 : decode cX10_placeOfLaw 43 = .ok (.invokevirtual 67, 3) := by decide +kernel
theorem dX10_placeOfLaw_46 : decode cX10_placeOfLaw 46 = .ok (.ireturn, 1) := by decide +kernel
theorem dX10_formOn_0 : decode cX10_formOn 0 = .ok (.aload_n 1, 1) := by decide +kernel
theorem dX10_formOn_1 : decode cX10_formOn 1 = .ok (.iload_n 2, 1) := by decide +kernel
theorem dX10_formOn_2 : decode cX10_formOn 2 = .ok (.iload_n 3, 1) := by decide +kernel
theorem dX10_formOn_3 : decode cX10_formOn 3 = .ok (.iload 4, 2) := by decide +kernel
theorem dX10_formOn_5 : decode cX10_formOn 5 = .ok (.invokevirtual 370, 3) := by decide +kernel
theorem dX10_formOn_8 : decode cX10_formOn 8 = .ok (.astore 5, 2) := by decide +kernel
theorem dX10_formOn_10 : decode cX10_formOn 10 = .ok (.aload 5, 2) := by decide +kernel
theorem dX10_formOn_12 : decode cX10_formOn 12 = .ok (.ifnonnull 5, 3) := by decide +kernel
theorem dX10_formOn_15 : decode cX10_formOn 15 = .ok (.lconst 0, 1) := by decide +kernel
theorem dX10_formOn_16 : decode cX10_formOn 16 = .ok (.lreturn, 1) := by decide +kernel
theorem dX10_formOn_17 : decode cX10_formOn 17 = .ok (.aload_n 1, 1) := by decide +kernel
theorem dX10_formOn_18 : decode cX10_formOn 18 = .ok (.iload_n 2, 1) := by decide +kernel
theorem dX10_formOn_19 : decode cX10_formOn 19 = .ok (.iload 4, 2) := by decide +kernel
theorem dX10_formOn_21 : decode cX10_formOn 21 = .ok (.invokevirtual 374, 3) := by decide +kernel
theorem dX10_formOn_24 : decode cX10_formOn 24 = .ok (.istore 6, 2) := by decide +kernel
theorem dX10_formOn_26 : decode cX10_formOn 26 = .ok (.aload 5, 2) := by decide +kernel
theorem dX10_formOn_28 : decode cX10_formOn 28 = .ok (.getfield 377, 3) := by decide +kernel
theorem dX10_formOn_31 : decode cX10_formOn 31 = .ok (.lstore 7, 2) := by decide +kernel
theorem dX10_formOn_33 : decode cX10_formOn 33 = .ok (.iconst 0, 1) := by decide +kernel
theorem dX10_formOn_34 : decode cX10_formOn 34 = .ok (.istore 9, 2) := by decide +kernel
theorem dX10_formOn_36 : decode cX10_formOn 36 = .ok (.iload 9, 2) := by decide +kernel
theorem dX10_formOn_38 : decode cX10_formOn 38 = .ok (.aload_n 0, 1) := by decide +kernel
theorem dX10_formOn_39 : decode cX10_formOn 39 = .ok (.getfield 16, 3) := by decide +kernel
theorem dX10_formOn_42 : decode cX10_formOn 42 = .ok (.invokevirtual 67, 3) := by decide +kernel
theorem dX10_formOn_45 : decode cX10_formOn 45 = .ok (.if_icmp .ge 95, 3) := by decide +kernel
theorem dX10_formOn_48 : decode cX10_formOn 48 = .ok (.aload_n 0, 1) := by decide +kernel
theorem dX10_formOn_49 : decode cX10_formOn 49 = .ok (.getfield 16, 3) := by decide +kernel
theorem dX10_formOn_52 : decode cX10_formOn 52 = .ok (.iload 9, 2) := by decide +kernel
theorem dX10_formOn_54 : decode cX10_formOn 54 = .ok (.invokevirtual 310, 3) := by decide +kernel
theorem dX10_formOn_57 : decode cX10_formOn 57 = .ok (.checkcast 172, 3) := by decide +kernel
theorem dX10_formOn_60 : decode cX10_formOn 60 = .ok (.astore 10, 2) := by decide +kernel
theorem dX10_formOn_62 : decode cX10_formOn 62 = .ok (.aload 10, 2) := by decide +kernel
theorem dX10_formOn_64 : decode cX10_formOn 64 = .ok (.getfield 378, 3) := by decide +kernel
theorem dX10_formOn_67 : decode cX10_formOn 67 = .ok (.iload_n 2, 1) := by decide +kernel
theorem dX10_formOn_68 : decode cX10_formOn 68 = .ok (.if_icmp .ne 17, 3) := by decide +kernel
theorem dX10_formOn_71 : decode cX10_formOn 71 = .ok (.aload 10, 2) := by decide +kernel
theorem dX10_formOn_73 : decode cX10_formOn 73 = .ok (.getfield 379, 3) := by decide +kernel
theorem dX10_formOn_76 : decode cX10_formOn 76 = .ok (.iload 4, 2) := by decide +kernel
theorem dX10_formOn_78 : decode cX10_formOn 78 = .ok (.if_icmp .gt 7, 3) := by decide +kernel
theorem dX10_formOn_81 : decode cX10_formOn 81 = .ok (.iconst 1, 1) := by decide +kernel
theorem dX10_formOn_82 : decode cX10_formOn 82 = .ok (.goto 4, 3) := by decide +kernel
theorem dX10_formOn_85 : decode cX10_formOn 85 = .ok (.iconst 0, 1) := by decide +kernel
theorem dX10_formOn_86 : decode cX10_formOn 86 = .ok (.istore 11, 2) := by decide +kernel
theorem dX10_formOn_88 : decode cX10_formOn 88 = .ok (.iload 11, 2) := by decide +kernel
theorem dX10_formOn_90 : decode cX10_formOn 90 = .ok (.ifCond .eq 44, 3) := by decide +kernel
theorem dX10_formOn_93 : decode cX10_formOn 93 = .ok (.aload 10, 2) := by decide +kernel
theorem dX10_formOn_95 : decode cX10_formOn 95 = .ok (.getfield 369, 3) := by decide +kernel
theorem dX10_formOn_98 : decode cX10_formOn 98 = .ok (.aload 5, 2) := by decide +kernel
theorem dX10_formOn_100 : decode cX10_formOn 100 = .ok (.getfield 382, 3) := by decide +kernel
theorem dX10_formOn_103 : decode cX10_formOn 103 = .ok (.if_icmp .le 31, 3) := by decide +kernel
theorem dX10_formOn_106 : decode cX10_formOn 106 = .ok (.aload 10, 2) := by decide +kernel
theorem dX10_formOn_108 : decode cX10_formOn 108 = .ok (.getfield 369, 3) := by decide +kernel
theorem dX10_formOn_111 : decode cX10_formOn 111 = .ok (.iload_n 3, 1) := by decide +kernel
theorem dX10_formOn_112 : decode cX10_formOn 112 = .ok (.if_icmp .gt 22, 3) := by decide +kernel
theorem dX10_formOn_115 : decode cX10_formOn 115 = .ok (.aload 10, 2) := by decide +kernel
theorem dX10_formOn_117 : decode cX10_formOn 117 = .ok (.getfield 369, 3) := by decide +kernel
theorem dX10_formOn_120 : decode cX10_formOn 120 = .ok (.iload 6, 2) := by decide +kernel
theorem dX10_formOn_122 : decode cX10_formOn 122 = .ok (.if_icmp .ge 12, 3) := by decide +kernel
theorem dX10_formOn_125 : decode cX10_formOn 125 = .ok (.aload 10, 2) := by decide +kernel
theorem dX10_formOn_127 : decode cX10_formOn 127 = .ok (.lload 7, 2) := by decide +kernel
theorem dX10_formOn_129 : decode cX10_formOn 129 = .ok (.invokevirtual 383, 3) := by decide +kernel
theorem dX10_formOn_132 : decode cX10_formOn 132 = .ok (.lstore 7, 2) := by decide +kernel
theorem dX10_formOn_134 : decode cX10_formOn 134 = .ok (.iinc 9 1, 3) := by decide +kernel
theorem dX10_formOn_137 : decode cX10_formOn 137 = .ok (.goto (-101), 3) := by decide +kernel
theorem dX10_formOn_140 : decode cX10_formOn 140 = .ok (.lload 7, 2) := by decide +kernel
theorem dX10_formOn_142 : decode cX10_formOn 142 = .ok (.lreturn, 1) := by decide +kernel
theorem dX10_hasFormNow_0 : decode cX10_hasFormNow 0 = .ok (.iconst 0, 1) := by decide +kernel
theorem dX10_hasFormNow_1 : decode cX10_hasFormNow 1 = .ok (.istore 4, 2) := by decide +kernel
theorem dX10_hasFormNow_3 : decode cX10_hasFormNow 3 = .ok (.iload 4, 2) := by decide +kernel
theorem dX10_hasFormNow_5 : decode cX10_hasFormNow 5 = .ok (.iconst 4, 1) := by decide +kernel
theorem dX10_hasFormNow_6 : decode cX10_hasFormNow 6 = .ok (.if_icmp .ge 31, 3) := by decide +kernel
theorem dX10_hasFormNow_9 : decode cX10_hasFormNow 9 = .ok (.aload_n 0, 1) := by decide +kernel
theorem dX10_hasFormNow_10 : decode cX10_hasFormNow 10 = .ok (.aload_n 1, 1) := by decide +kernel
theorem dX10_hasFormNow_11 : decode cX10_hasFormNow 11 = .ok (.iload 4, 2) := by decide +kernel
theorem dX10_hasFormNow_13 : decode cX10_hasFormNow 13 = .ok (.aload_n 0, 1) := by decide +kernel
theorem dX10_hasFormNow_14 : decode cX10_hasFormNow 14 = .ok (.getfield 76, 3) := by decide +kernel
theorem dX10_hasFormNow_17 : decode cX10_hasFormNow 17 = .ok (.aload_n 0, 1) := by decide +kernel
theorem dX10_hasFormNow_18 : decode cX10_hasFormNow 18 = .ok (.getfield 76, 3) := by decide +kernel
theorem dX10_hasFormNow_21 : decode cX10_hasFormNow 21 = .ok (.invokevirtual 193, 3) := by decide +kernel
theorem dX10_hasFormNow_24 : decode cX10_hasFormNow 24 = .ok (.lload_n 2, 1) := by decide +kernel
theorem dX10_hasFormNow_25 : decode cX10_hasFormNow 25 = .ok (.lcmp, 1) := by decide +kernel
theorem dX10_hasFormNow_26 : decode cX10_hasFormNow 26 = .ok (.ifCond .ne 5, 3) := by decide +kernel
theorem dX10_hasFormNow_29 : decode cX10_hasFormNow 29 = .ok (.iconst 1, 1) := by decide +kernel
theorem dX10_hasFormNow_30 : decode cX10_hasFormNow 30 = .ok (.ireturn, 1) := by decide +kernel
theorem dX10_hasFormNow_31 : decode cX10_hasFormNow 31 = .ok (.iinc 4 1, 3) := by decide +kernel
theorem dX10_hasFormNow_34 : decode cX10_hasFormNow 34 = .ok (.goto (-31), 3) := by decide +kernel
theorem dX10_hasFormNow_37 : decode cX10_hasFormNow 37 = .ok (.iconst 0, 1) := by decide +kernel
theorem dX10_hasFormNow_38 : decode cX10_hasFormNow 38 = .ok (.ireturn, 1) := by decide +kernel
theorem dX10_isRefused_0 : decode cX10_isRefused 0 = .ok (.aload_n 1, 1) := by decide +kernel
theorem dX10_isRefused_1 : decode cX10_isRefused 1 = .ok (.getfield 112, 3) := by decide +kernel
theorem dX10_isRefused_4 : decode cX10_isRefused 4 = .ok (.iload 5, 2) := by decide +kernel
theorem dX10_isRefused_6 : decode cX10_isRefused 6 = .ok (.aload_n 0, 1) := by decide +kernel
theorem dX10_isRefused_7 : decode cX10_isRefused 7 = .ok (.getfield 76, 3) := by decide +kernel
theorem dX10_isRefused_10 : decode cX10_isRefused 10 = .ok (.invokevirtual 131, 3) := by decide +kernel
theorem dX10_isRefused_13 : decode cX10_isRefused 13 = .ok (.istore 6, 2) := by decide +kernel
theorem dX10_isRefused_15 : decode cX10_isRefused 15 = .ok (.aload_n 1, 1) := by decide +kernel
theorem dX10_isRefused_16 : decode cX10_isRefused 16 = .ok (.getfield 386, 3) := by decide +kernel
theorem dX10_isRefused_19 : decode cX10_isRefused 19 = .ok (.iconst 5, 1) := by decide +kernel
theorem dX10_isRefused_20 : decode cX10_isRefused 20 = .ok (.if_icmp .ne 9, 3) := by decide +kernel
theorem dX10_isRefused_23 : decode cX10_isRefused 23 = .ok (.iload 6, 2) := by decide +kernel
theorem dX10_isRefused_25 : decode cX10_isRefused 25 = .ok (.iconst (-1), 1) := by decide +kernel
theorem dX10_isRefused_26 : decode cX10_isRefused 26 = .ok (.if_icmp .ne 5, 3) := by decide +kernel
theorem dX10_isRefused_29 : decode cX10_isRefused 29 = .ok (.iconst 0, 1) := by decide +kernel
theorem dX10_isRefused_30 : decode cX10_isRefused 30 = .ok (.ireturn, 1) := by decide +kernel
theorem dX10_isRefused_31 : decode cX10_isRefused 31 = .ok (.iconst 0, 1) := by decide +kernel
theorem dX10_isRefused_32 : decode cX10_isRefused 32 = .ok (.istore 7, 2) := by decide +kernel
theorem dX10_isRefused_34 : decode cX10_isRefused 34 = .ok (.iload 7, 2) := by decide +kernel
theorem dX10_isRefused_36 : decode cX10_isRefused 36 = .ok (.aload_n 0, 1) := by decide +kernel
theorem dX10_isRefused_37 : decode cX10_isRefused 37 = .ok (.getfield 10, 3) := by decide +kernel
theorem dX10_isRefused_40 : decode cX10_isRefused 40 = .ok (.invokevirtual 67, 3) := by decide +kernel
theorem dX10_isRefused_43 : decode cX10_isRefused 43 = .ok (.if_icmp .ge 103, 3) := by decide +kernel
theorem dX10_isRefused_46 : decode cX10_isRefused 46 = .ok (.aload_n 0, 1) := by decide +kernel
theorem dX10_isRefused_47 : decode cX10_isRefused 47 = .ok (.getfield 10, 3) := by decide +kernel
theorem dX10_isRefused_50 : decode cX10_isRefused 50 = .ok (.iload 7, 2) := by decide +kernel
theorem dX10_isRefused_52 : decode cX10_isRefused 52 = .ok (.invokevirtual 310, 3) := by decide +kernel
theorem dX10_isRefused_55 : decode cX10_isRefused 55 = .ok (.checkcast 74, 3) := by decide +kernel
theorem dX10_isRefused_58 : decode cX10_isRefused 58 = .ok (.astore 8, 2) := by decide +kernel
theorem dX10_isRefused_60 : decode cX10_isRefused 60 = .ok (.aload 8, 2) := by decide +kernel
theorem dX10_isRefused_62 : decode cX10_isRefused 62 = .ok (.aload_n 1, 1) := by decide +kernel
theorem dX10_isRefused_63 : decode cX10_isRefused 63 = .ok (.if_acmp .eq 49, 3) := by decide +kernel
theorem dX10_isRefused_66 : decode cX10_isRefused 66 = .ok (.aload 8, 2) := by decide +kernel
theorem dX10_isRefused_68 : decode cX10_isRefused 68 = .ok (.getfield 386, 3) := by decide +kernel
theorem dX10_isRefused_71 : decode cX10_isRefused 71 = .ok (.iconst 5, 1) := by decide +kernel
theorem dX10_isRefused_72 : decode cX10_isRefused 72 = .ok (.if_icmp .ne 40, 3) := by decide +kernel
theorem dX10_isRefused_75 : decode cX10_isRefused 75 = .ok (.aload 8, 2) := by decide +kernel
theorem dX10_isRefused_77 : decode cX10_isRefused 77 = .ok (.iload 5, 2) := by decide +kernel
theorem dX10_isRefused_79 : decode cX10_isRefused 79 = .ok (.aload_n 0, 1) := by decide +kernel
theorem dX10_isRefused_80 : decode cX10_isRefused 80 = .ok (.getfield 76, 3) := by decide +kernel
theorem dX10_isRefused_83 : decode cX10_isRefused 83 = .ok (.invokevirtual 128, 3) := by decide +kernel
theorem dX10_isRefused_86 : decode cX10_isRefused 86 = .ok (.ifCond .eq 26, 3) := by decide +kernel
theorem dX10_isRefused_89 : decode cX10_isRefused 89 = .ok (.aload 8, 2) := by decide +kernel
theorem dX10_isRefused_91 : decode cX10_isRefused 91 = .ok (.getfield 112, 3) := by decide +kernel
theorem dX10_isRefused_94 : decode cX10_isRefused 94 = .ok (.iload 5, 2) := by decide +kernel
theorem dX10_isRefused_96 : decode cX10_isRefused 96 = .ok (.aload_n 0, 1) := by decide +kernel
theorem dX10_isRefused_97 : decode cX10_isRefused 97 = .ok (.getfield 76, 3) := by decide +kernel
theorem dX10_isRefused_100 : decode cX10_isRefused 100 = .ok (.invokevirtual 131, 3) := by decide +kernel
theorem dX10_isRefused_103 : decode cX10_isRefused 103 = .ok (.iload 6, 2) := by decide +kernel
theorem dX10_isRefused_105 : decode cX10_isRefused 105 = .ok (.if_icmp .ne 7, 3) := by decide +kernel
theorem dX10_isRefused_108 : decode cX10_isRefused 108 = .ok (.iconst 1, 1) := by decide +kernel
theorem dX10_isRefused_109 : decode cX10_isRefused 109 = .ok (.goto 4, 3) := by decide +kernel
theorem dX10_isRefused_112 : decode cX10_isRefused 112 = .ok (.iconst 0, 1) := by decide +kernel
theorem dX10_isRefused_113 : decode cX10_isRefused 113 = .ok (.istore 9, 2) := by decide +kernel
theorem dX10_isRefused_115 : decode cX10_isRefused 115 = .ok (.iload 9, 2) := by decide +kernel
theorem dX10_isRefused_117 : decode cX10_isRefused 117 = .ok (.ifCond .eq 23, 3) := by decide +kernel
theorem dX10_isRefused_120 : decode cX10_isRefused 120 = .ok (.aload_n 0, 1) := by decide +kernel
theorem dX10_isRefused_121 : decode cX10_isRefused 121 = .ok (.aload 8, 2) := by decide +kernel
theorem dX10_isRefused_123 : decode cX10_isRefused 123 = .ok (.iload_n 2, 1) := by decide +kernel
theorem dX10_isRefused_124 : decode cX10_isRefused 124 = .ok (.iload 5, 2) := by decide +kernel
theorem dX10_isRefused_126 : decode cX10_isRefused 126 = .ok (.aload_n 0, 1) := by decide +kernel
theorem dX10_isRefused_127 : decode cX10_isRefused 127 = .ok (.getfield 76, 3) := by decide +kernel
theorem dX10_isRefused_130 : decode cX10_isRefused 130 = .ok (.invokevirtual 193, 3) := by decide +kernel
theorem dX10_isRefused_133 : decode cX10_isRefused 133 = .ok (.lload_n 3, 1) := by decide +kernel
theorem dX10_isRefused_134 : decode cX10_isRefused 134 = .ok (.lcmp, 1) := by decide +kernel
theorem dX10_isRefused_135 : decode cX10_isRefused 135 = .ok (.ifCond .ne 5, 3) := by decide +kernel
theorem dX10_isRefused_138 : decode cX10_isRefused 138 = .ok (.iconst 1, 1) := by decide +kernel
theorem dX10_isRefused_139 : decode cX10_isRefused 139 = .ok (.ireturn, 1) := by decide +kernel
theorem dX10_isRefused_140 : decode cX10_isRefused 140 = .ok (.iinc 7 1, 3) := by decide +kernel
theorem dX10_isRefused_143 : decode cX10_isRefused 143 = .ok (.goto (-109), 3) := by decide +kernel
theorem dX10_isRefused_146 : decode cX10_isRefused 146 = .ok (.iconst 0, 1) := by decide +kernel
theorem dX10_isRefused_147 : decode cX10_isRefused 147 = .ok (.ireturn, 1) := by decide +kernel
theorem dX10_seenBy_0 : decode cX10_seenBy 0 = .ok (.aload_n 1, 1) := by decide +kernel
theorem dX10_seenBy_1 : decode cX10_seenBy 1 = .ok (.invokevirtual 389, 3) := by decide +kernel
theorem dX10_seenBy_4 : decode cX10_seenBy 4 = .ok (.ifCond .eq 22, 3) := by decide +kernel
theorem dX10_seenBy_7 : decode cX10_seenBy 7 = .ok (.aload_n 0, 1) := by decide +kernel
theorem dX10_seenBy_8 : decode cX10_seenBy 8 = .ok (.aload_n 1, 1) := by decide +kernel
theorem dX10_seenBy_9 : decode cX10_seenBy 9 = .ok (.aload_n 1, 1) := by decide +kernel
theorem dX10_seenBy_10 : decode cX10_seenBy 10 = .ok (.iload_n 2, 1) := by decide +kernel
theorem dX10_seenBy_11 : decode cX10_seenBy 11 = .ok (.invokevirtual 392, 3) := by decide +kernel
theorem dX10_seenBy_14 : decode cX10_seenBy 14 = .ok (.aload_n 0, 1) := by decide +kernel
theorem dX10_seenBy_15 : decode cX10_seenBy 15 = .ok (.getfield 76, 3) := by decide +kernel
theorem dX10_seenBy_18 : decode cX10_seenBy 18 = .ok (.aload_n 0, 1) := by decide +kernel
theorem dX10_seenBy_19 : decode cX10_seenBy 19 = .ok (.getfield 76, 3) := by decide +kernel
theorem dX10_seenBy_22 : decode cX10_seenBy 22 = .ok (.invokevirtual 193, 3) := by decide +kernel
theorem dX10_seenBy_25 : decode cX10_seenBy 25 = .ok (.lreturn, 1) := by decide +kernel
theorem dX10_seenBy_26 : decode cX10_seenBy 26 = .ok (.aload_n 0, 1) := by decide +kernel
theorem dX10_seenBy_27 : decode cX10_seenBy 27 = .ok (.aload_n 1, 1) := by decide +kernel
theorem dX10_seenBy_28 : decode cX10_seenBy 28 = .ok (.iload_n 2, 1) := by decide +kernel
theorem dX10_seenBy_29 : decode cX10_seenBy 29 = .ok (.aload_n 0, 1) := by decide +kernel
theorem dX10_seenBy_30 : decode cX10_seenBy 30 = .ok (.getfield 76, 3) := by decide +kernel
theorem dX10_seenBy_33 : decode cX10_seenBy 33 = .ok (.aload_n 0, 1) := by decide +kernel
theorem dX10_seenBy_34 : decode cX10_seenBy 34 = .ok (.getfield 76, 3) := by decide +kernel
theorem dX10_seenBy_37 : decode cX10_seenBy 37 = .ok (.invokevirtual 193, 3) := by decide +kernel
theorem dX10_seenBy_40 : decode cX10_seenBy 40 = .ok (.lstore_n 3, 1) := by decide +kernel
theorem dX10_seenBy_41 : decode cX10_seenBy 41 = .ok (.iconst 0, 1) := by decide +kernel
theorem dX10_seenBy_42 : decode cX10_seenBy 42 = .ok (.istore 5, 2) := by decide +kernel
theorem dX10_seenBy_44 : decode cX10_seenBy 44 = .ok (.iload 5, 2) := by decide +kernel
theorem dX10_seenBy_46 : decode cX10_seenBy 46 = .ok (.iconst 4, 1) := by decide +kernel
theorem dX10_seenBy_47 : decode cX10_seenBy 47 = .ok (.if_icmp .ge 31, 3) := by decide +kernel
theorem dX10_seenBy_50 : decode cX10_seenBy 50 = .ok (.lload_n 3, 1) := by decide +kernel
theorem dX10_seenBy_51 : decode cX10_seenBy 51 = .ok (.lconst 0, 1) := by decide +kernel
theorem dX10_seenBy_52 : decode cX10_seenBy 52 = .ok (.lcmp, 1) := by decide +kernel
theorem dX10_seenBy_53 : decode cX10_seenBy 53 = .ok (.ifCond .ne 25, 3) := by decide +kernel
theorem dX10_seenBy_56 : decode cX10_seenBy 56 = .ok (.aload_n 0, 1) := by decide +kernel
theorem dX10_seenBy_57 : decode cX10_seenBy 57 = .ok (.aload_n 1, 1) := by decide +kernel
theorem dX10_seenBy_58 : decode cX10_seenBy 58 = .ok (.iload 5, 2) := by decide +kernel
theorem dX10_seenBy_60 : decode cX10_seenBy 60 = .ok (.aload_n 0, 1) := by decide +kernel
theorem dX10_seenBy_61 : decode cX10_seenBy 61 = .ok (.getfield 76, 3) := by decide +kernel
theorem dX10_seenBy_64 : decode cX10_seenBy 64 = .ok (.aload_n 0, 1) := by decide +kernel
theorem dX10_seenBy_65 : decode cX10_seenBy 65 = .ok (.getfield 76, 3) := by decide +kernel
theorem dX10_seenBy_68 : decode cX10_seenBy 68 = .ok (.invokevirtual 193, 3) := by decide +kernel
theorem dX10_seenBy_71 : decode cX10_seenBy 71 = .ok (.lstore_n 3, 1) := by decide +kernel
theorem dX10_seenBy_72 : decode cX10_seenBy 72 = .ok (.iinc 5 1, 3) := by decide +kernel
theorem dX10_seenBy_75 : decode cX10_seenBy 75 = .ok (.goto (-31), 3) := by decide +kernel
theorem dX10_seenBy_78 : decode cX10_seenBy 78 = .ok (.lload_n 3, 1) := by decide +kernel
theorem dX10_seenBy_79 : decode cX10_seenBy 79 = .ok (.lreturn, 1) := by decide +kernel
theorem dX10_replaceSigns_0 : decode cX10_replaceSigns 0 = .ok (.iconst 0, 1) := by decide +kernel
theorem dX10_replaceSigns_1 : decode cX10_replaceSigns 1 = .ok (.istore_n 1, 1) := by decide +kernel
theorem dX10_replaceSigns_2 : decode cX10_replaceSigns 2 = .ok (.iload_n 1, 1) := by decide +kernel
theorem dX10_replaceSigns_3 : decode cX10_replaceSigns 3 = .ok (.aload_n 0, 1) := by decide +kernel
theorem dX10_replaceSigns_4 : decode cX10_replaceSigns 4 = .ok (.getfield 48, 3) := by decide +kernel
theorem dX10_replaceSigns_7 : decode cX10_replaceSigns 7 = .ok (.if_icmp .ge 46, 3) := by decide +kernel
theorem dX10_replaceSigns_10 : decode cX10_replaceSigns 10 = .ok (.aload_n 0, 1) := by decide +kernel
theorem dX10_replaceSigns_11 : decode cX10_replaceSigns 11 = .ok (.getfield 28, 3) := by decide +kernel
theorem dX10_replaceSigns_14 : decode cX10_replaceSigns 14 = .ok (.invokevirtual 395, 3) := by decide +kernel
theorem dX10_replaceSigns_17 : decode cX10_replaceSigns 17 = .ok (.ifCond .ne 36, 3) := by decide +kernel
theorem dX10_replaceSigns_20 : decode cX10_replaceSigns 20 = .ok (.aload_n 0, 1) := by decide +kernel
theorem dX10_replaceSigns_21 : decode cX10_replaceSigns 21 = .ok (.getfield 28, 3) := by decide +kernel
theorem dX10_replaceSigns_24 : decode cX10_replaceSigns 24 = .ok (.iconst 0, 1) := by decide +kernel
theorem dX10_replaceSigns_25 : decode cX10_replaceSigns 25 = .ok (.invokevirtual 398, 3) := by decide +kernel
theorem dX10_replaceSigns_28 : decode cX10_replaceSigns 28 = .ok (.checkcast 74, 3) := by decide +kernel
theorem dX10_replaceSigns_31 : decode cX10_replaceSigns 31 = .ok (.astore_n 2, 1) := by decide +kernel
theorem dX10_replaceSigns_32 : decode cX10_replaceSigns 32 = .ok (.aload_n 2, 1) := by decide +kernel
theorem dX10_replaceSigns_33 : decode cX10_replaceSigns 33 = .ok (.aload_n 0, 1) := by decide +kernel
theorem dX10_replaceSigns_34 : decode cX10_replaceSigns 34 = .ok (.aload_n 2, 1) := by decide +kernel
theorem dX10_replaceSigns_35 : decode cX10_replaceSigns 35 = .ok (.iconst 0, 1) := by decide +kernel
theorem dX10_replaceSigns_36 : decode cX10_replaceSigns 36 = .ok (.invokevirtual 277, 3) := by decide +kernel
theorem dX10_replaceSigns_39 : decode cX10_replaceSigns 39 = .ok (.putfield 344, 3) := by decide +kernel
theorem dX10_replaceSigns_42 : decode cX10_replaceSigns 42 = .ok (.aload_n 2, 1) := by decide +kernel
theorem dX10_replaceSigns_43 : decode cX10_replaceSigns 43 = .ok (.iconst 0, 1) := by decide +kernel
theorem dX10_replaceSigns_44 : decode cX10_replaceSigns 44 = .ok (.putfield 341, 3) := by decide +kernel
theorem dX10_replaceSigns_47 : decode cX10_replaceSigns 47 = .ok (.iinc 1 1, 3) := by decide +kernel
theorem dX10_replaceSigns_50 : decode cX10_replaceSigns 50 = .ok (.goto (-48), 3) := by decide +kernel
theorem dX10_replaceSigns_53 : decode cX10_replaceSigns 53 = .ok (.return_, 1) := by decide +kernel
theorem dX10_costAt_0 : decode cX10_costAt 0 = .ok (.aload_n 2, 1) := by decide +kernel
theorem dX10_costAt_1 : decode cX10_costAt 1 = .ok (.aload_n 0, 1) := by decide +kernel
theorem dX10_costAt_2 : decode cX10_costAt 2 = .ok (.getfield 76, 3) := by decide +kernel
theorem dX10_costAt_5 : decode cX10_costAt 5 = .ok (.aload_n 0, 1) := by decide +kernel
theorem dX10_costAt_6 : decode cX10_costAt 6 = .ok (.getfield 76, 3) := by decide +kernel
theorem dX10_costAt_9 : decode cX10_costAt 9 = .ok (.invokevirtual 128, 3) := by decide +kernel
theorem dX10_costAt_12 : decode cX10_costAt 12 = .ok (.ifCond .eq 13, 3) := by decide +kernel
theorem dX10_costAt_15 : decode cX10_costAt 15 = .ok (.aload_n 2, 1) := by decide +kernel
theorem dX10_costAt_16 : decode cX10_costAt 16 = .ok (.getfield 158, 3) := by decide +kernel
theorem dX10_costAt_19 : decode cX10_costAt 19 = .ok (.invokevirtual 395, 3) := by decide +kernel
theorem dX10_costAt_22 : decode cX10_costAt 22 = .ok (.ifCond .eq 5, 3) := by decide +kernel
theorem dX10_costAt_25 : decode cX10_costAt 25 = .ok (.iconst (-1), 1) := by decide +kernel
theorem dX10_costAt_26 : decode cX10_costAt 26 = .ok (.ireturn, 1) := by decide +kernel
theorem dX10_costAt_27 : decode cX10_costAt 27 = .ok (.bipush 12, 2) := by decide +kernel
theorem dX10_costAt_29 : decode cX10_costAt 29 = .ok (.istore_n 3, 1) := by decide +kernel
theorem dX10_costAt_30 : decode cX10_costAt 30 = .ok (.iconst 0, 1) := by decide +kernel
theorem dX10_costAt_31 : decode cX10_costAt 31 = .ok (.istore 4, 2) := by decide +kernel
theorem dX10_costAt_33 : decode cX10_costAt 33 = .ok (.iload 4, 2) := by decide +kernel
theorem dX10_costAt_35 : decode cX10_costAt 35 = .ok (.aload_n 2, 1) := by decide +kernel
theorem dX10_costAt_36 : decode cX10_costAt 36 = .ok (.getfield 158, 3) := by decide +kernel
theorem dX10_costAt_39 : decode cX10_costAt 39 = .ok (.invokevirtual 67, 3) := by decide +kernel
theorem dX10_costAt_42 : decode cX10_costAt 42 = .ok (.if_icmp .ge 37, 3) := by decide +kernel
theorem dX10_costAt_45 : decode cX10_costAt 45 = .ok (.iload_n 3, 1) := by decide +kernel
theorem dX10_costAt_46 : decode cX10_costAt 46 = .ok (.aload_n 0, 1) := by decide +kernel
theorem dX10_costAt_47 : decode cX10_costAt 47 = .ok (.aload_n 1, 1) := by decide +kernel
theorem dX10_costAt_48 : decode cX10_costAt 48 = .ok (.getfield 401, 3) := by decide +kernel
theorem dX10_costAt_51 : decode cX10_costAt 51 = .ok (.aload_n 2, 1) := by decide +kernel
theorem dX10_costAt_52 : decode cX10_costAt 52 = .ok (.getfield 158, 3) := by decide +kernel
theorem dX10_costAt_55 : decode cX10_costAt 55 = .ok (.iload 4, 2) := by decide +kernel
theorem dX10_costAt_57 : decode cX10_costAt 57 = .ok (.invokevirtual 310, 3) := by decide +kernel
theorem dX10_costAt_60 : decode cX10_costAt 60 = .ok (.checkcast 161, 3) := by decide +kernel
theorem dX10_costAt_63 : decode cX10_costAt 63 = .ok (.getfield 377, 3) := by decide +kernel
theorem dX10_costAt_66 : decode cX10_costAt 66 = .ok (.invokevirtual 402, 3) := by decide +kernel
theorem dX10_costAt_69 : decode cX10_costAt 69 = .ok (.invokestatic 406, 3) := by decide +kernel
theorem dX10_costAt_72 : decode cX10_costAt 72 = .ok (.istore_n 3, 1) := by decide +kernel
theorem dX10_costAt_73 : decode cX10_costAt 73 = .ok (.iinc 4 1, 3) := by decide +kernel
theorem dX10_costAt_76 : decode cX10_costAt 76 = .ok (.goto (-43), 3) := by decide +kernel
theorem dX10_costAt_79 : decode cX10_costAt 79 = .ok (.aload_n 0, 1) := by decide +kernel
theorem dX10_costAt_80 : decode cX10_costAt 80 = .ok (.aload_n 2, 1) := by decide +kernel
theorem dX10_costAt_81 : decode cX10_costAt 81 = .ok (.aload_n 1, 1) := by decide +kernel
theorem dX10_costAt_82 : decode cX10_costAt 82 = .ok (.getfield 409, 3) := by decide +kernel
theorem dX10_costAt_85 : decode cX10_costAt 85 = .ok (.aload_n 1, 1) := by decide +kernel
theorem dX10_costAt_86 : decode cX10_costAt 86 = .ok (.getfield 412, 3) := by decide +kernel
theorem dX10_costAt_89 : decode cX10_costAt 89 = .ok (.invokevirtual 415, 3) := by decide +kernel
theorem dX10_costAt_92 : decode cX10_costAt 92 = .ok (.bipush 10, 2) := by decide +kernel
theorem dX10_costAt_94 : decode cX10_costAt 94 = .ok (.iload_n 3, 1) := by decide +kernel
theorem dX10_costAt_95 : decode cX10_costAt 95 = .ok (.imul, 1) := by decide +kernel
theorem dX10_costAt_96 : decode cX10_costAt 96 = .ok (.iadd, 1) := by decide +kernel
theorem dX10_costAt_97 : decode cX10_costAt 97 = .ok (.istore 4, 2) := by decide +kernel
theorem dX10_costAt_99 : decode cX10_costAt 99 = .ok (.iload 4, 2) := by decide +kernel
theorem dX10_costAt_101 : decode cX10_costAt 101 = .ok (.bipush 60, 2) := by decide +kernel
theorem dX10_costAt_103 : decode cX10_costAt 103 = .ok (.if_icmp .gt 8, 3) := by decide +kernel
theorem dX10_costAt_106 : decode cX10_costAt 106 = .ok (.iload 4, 2) := by decide +kernel
theorem dX10_costAt_108 : decode cX10_costAt 108 = .ok (.goto 4, 3) := by decide +kernel
theorem dX10_costAt_111 : decode cX10_costAt 111 = .ok (.iconst (-1), 1) := by decide +kernel
theorem dX10_costAt_112 : decode cX10_costAt 112 = .ok (.ireturn, 1) := by decide +kernel
theorem dX10_countEdits_0 : decode cX10_countEdits 0 = .ok (.iconst 0, 1) := by decide +kernel
theorem dX10_countEdits_1 : decode cX10_countEdits 1 = .ok (.istore 5, 2) := by decide +kernel
theorem dX10_countEdits_3 : decode cX10_countEdits 3 = .ok (.iload 5, 2) := by decide +kernel
theorem dX10_countEdits_5 : decode cX10_countEdits 5 = .ok (.aload_n 0, 1) := by decide +kernel
theorem dX10_countEdits_6 : decode cX10_countEdits 6 = .ok (.getfield 45, 3) := by decide +kernel
theorem dX10_countEdits_9 : decode cX10_countEdits 9 = .ok (.arraylength, 1) := by decide +kernel
theorem dX10_countEdits_10 : decode cX10_countEdits 10 = .ok (.if_icmp .ge 18, 3) := by decide +kernel
theorem dX10_countEdits_13 : decode cX10_countEdits 13 = .ok (.aload_n 0, 1) := by decide +kernel
theorem dX10_countEdits_14 : decode cX10_countEdits 14 = .ok (.getfield 45, 3) := by decide +kernel
theorem dX10_countEdits_17 : decode cX10_countEdits 17 = .ok (.iload 5, 2) := by decide +kernel
theorem dX10_countEdits_19 : decode cX10_countEdits 19 = .ok (.iload 5, 2) := by decide +kernel
theorem dX10_countEdits_21 : decode cX10_countEdits 21 = .ok (.iastore, 1) := by decide +kernel
theorem dX10_countEdits_22 : decode cX10_countEdits 22 = .ok (.iinc 5 1, 3) := by decide +kernel
theorem dX10_countEdits_25 : decode cX10_countEdits 25 = .ok (.goto (-22), 3) := by decide +kernel
theorem dX10_countEdits_28 : decode cX10_countEdits 28 = .ok (.lload_n 1, 1) := by decide +kernel
theorem dX10_countEdits_29 : decode cX10_countEdits 29 = .ok (.lstore 5, 2) := by decide +kernel
theorem dX10_countEdits_31 : decode cX10_countEdits 31 = .ok (.iconst 0, 1) := by decide +kernel
theorem dX10_countEdits_32 : decode cX10_countEdits 32 = .ok (.istore 7, 2) := by decide +kernel
theorem dX10_countEdits_34 : decode cX10_countEdits 34 = .ok (.iload 7, 2) := by decide +kernel
theorem dX10_countEdits_36 : decode cX10_countEdits 36 = .ok (.bipush 8, 2) := by decide +kernel
theorem dX10_countEdits_38 : decode cX10_countEdits 38 = .ok (.if_icmp .ge 35, 3) := by decide +kernel
theorem dX10_countEdits_41 : decode cX10_countEdits 41 = .ok (.lload 5, 2) := by decide +kernel
theorem dX10_countEdits_43 : decode cX10_countEdits 43 = .ok (.lconst 0, 1) := by decide +kernel
theorem dX10_countEdits_44 : decode cX10_countEdits 44 = .ok (.lcmp, 1) := by decide +kernel
theorem dX10_countEdits_45 : decode cX10_countEdits 45 = .ok (.ifCond .le 28, 3) := by decide +kernel
theorem dX10_countEdits_48 : decode cX10_countEdits 48 = .ok (.aload_n 0, 1) := by decide +kernel
theorem dX10_countEdits_49 : decode cX10_countEdits 49 = .ok (.lload 5, 2) := by decide +kernel
theorem dX10_countEdits_51 : decode cX10_countEdits 51 = .ok (.ldc2_w 295, 3) := by decide +kernel
theorem dX10_countEdits_54 : decode cX10_countEdits 54 = .ok (.lrem, 1) := by decide +kernel
theorem dX10_countEdits_55 : decode cX10_countEdits 55 = .ok (.lload_n 3, 1) := by decide +kernel
theorem dX10_countEdits_56 : decode cX10_countEdits 56 = .ok (.invokevirtual 419, 3) := by decide +kernel
theorem dX10_countEdits_59 : decode cX10_countEdits 59 = .ok (.lload 5, 2) := by decide +kernel
theorem dX10_countEdits_61 : decode cX10_countEdits 61 = .ok (.ldc2_w 295, 3) := by decide +kernel
theorem dX10_countEdits_64 : decode cX10_countEdits 64 = .ok (.ldiv, 1) := by decide +kernel
theorem dX10_countEdits_65 : decode cX10_countEdits 65 = .ok (.lstore 5, 2) := by decide +kernel
theorem dX10_countEdits_67 : decode cX10_countEdits 67 = .ok (.iinc 7 1, 3) := by decide +kernel
theorem dX10_countEdits_70 : decode cX10_countEdits 70 = .ok (.goto (-36), 3) := by decide +kernel
theorem dX10_countEdits_73 : decode cX10_countEdits 73 = .ok (.lload_n 3, 1) := by decide +kernel
theorem dX10_countEdits_74 : decode cX10_countEdits 74 = .ok (.invokestatic 423, 3) := by decide +kernel
theorem dX10_countEdits_77 : decode cX10_countEdits 77 = .ok (.istore 7, 2) := by decide +kernel
theorem dX10_countEdits_79 : decode cX10_countEdits 79 = .ok (.iload 7, 2) := by decide +kernel
theorem dX10_countEdits_81 : decode cX10_countEdits 81 = .ok (.aload_n 0, 1) := by decide +kernel
theorem dX10_countEdits_82 : decode cX10_countEdits 82 = .ok (.getfield 45, 3) := by decide +kernel
theorem dX10_countEdits_85 : decode cX10_countEdits 85 = .ok (.arraylength, 1) := by decide +kernel
theorem dX10_countEdits_86 : decode cX10_countEdits 86 = .ok (.if_icmp .ge 13, 3) := by decide +kernel
theorem dX10_countEdits_89 : decode cX10_countEdits 89 = .ok (.aload_n 0, 1) := by decide +kernel
theorem dX10_countEdits_90 : decode cX10_countEdits 90 = .ok (.getfield 45, 3) := by decide +kernel
theorem dX10_countEdits_93 : decode cX10_countEdits 93 = .ok (.iload 7, 2) := by decide +kernel
theorem dX10_countEdits_95 : decode cX10_countEdits 95 = .ok (.iaload, 1) := by decide +kernel
theorem dX10_countEdits_96 : decode cX10_countEdits 96 = .ok (.goto 5, 3) := by decide +kernel
theorem dX10_countEdits_99 : decode cX10_countEdits 99 = .ok (.bipush 8, 2) := by decide +kernel
theorem dX10_countEdits_101 : decode cX10_countEdits 101 = .ok (.ireturn, 1) := by decide +kernel
theorem dX10_addToEdits_0 : decode cX10_addToEdits 0 = .ok (.iconst 0, 1) := by decide +kernel
theorem dX10_addToEdits_1 : decode cX10_addToEdits 1 = .ok (.istore 5, 2) := by decide +kernel
theorem dX10_addToEdits_3 : decode cX10_addToEdits 3 = .ok (.iconst 0, 1) := by decide +kernel
theorem dX10_addToEdits_4 : decode cX10_addToEdits 4 = .ok (.istore 6, 2) := by decide +kernel
theorem dX10_addToEdits_6 : decode cX10_addToEdits 6 = .ok (.lload_n 3, 1) := by decide +kernel
theorem dX10_addToEdits_7 : decode cX10_addToEdits 7 = .ok (.lstore 7, 2) := by decide +kernel
theorem dX10_addToEdits_9 : decode cX10_addToEdits 9 = .ok (.iconst 0, 1) := by decide +kernel
theorem dX10_addToEdits_10 : decode cX10_addToEdits 10 = .ok (.istore 9, 2) := by decide +kernel
theorem dX10_addToEdits_12 : decode cX10_addToEdits 12 = .ok (.iload 9, 2) := by decide +kernel
theorem dX10_addToEdits_14 : decode cX10_addToEdits 14 = .ok (.aload_n 0, 1) := by decide +kernel
theorem dX10_addToEdits_15 : decode cX10_addToEdits 15 = .ok (.getfield 45, 3) := by decide +kernel
theorem dX10_addToEdits_18 : decode cX10_addToEdits 18 = .ok (.arraylength, 1) := by decide +kernel
theorem dX10_addToEdits_19 : decode cX10_addToEdits 19 = .ok (.if_icmp .ge 90, 3) := by decide +kernel
theorem dX10_addToEdits_22 : decode cX10_addToEdits 22 = .ok (.aload_n 0, 1) := by decide +kernel
theorem dX10_addToEdits_23 : decode cX10_addToEdits 23 = .ok (.getfield 45, 3) := by decide +kernel
theorem dX10_addToEdits_26 : decode cX10_addToEdits 26 = .ok (.iload 9, 2) := by decide +kernel
theorem dX10_addToEdits_28 : decode cX10_addToEdits 28 = .ok (.iaload, 1) := by decide +kernel
theorem dX10_addToEdits_29 : decode cX10_addToEdits 29 = .ok (.istore 10, 2) := by decide +kernel
theorem dX10_addToEdits_31 : decode cX10_addToEdits 31 = .ok (.iload 9, 2) := by decide +kernel
theorem dX10_addToEdits_33 : decode cX10_addToEdits 33 = .ok (.ifCond .ne 12, 3) := by decide +kernel
theorem dX10_addToEdits_36 : decode cX10_addToEdits 36 = .ok (.iload 10, 2) := by decide +kernel
theorem dX10_addToEdits_38 : decode cX10_addToEdits 38 = .ok (.iconst 1, 1) := by decide +kernel
theorem dX10_addToEdits_39 : decode cX10_addToEdits 39 = .ok (.iadd, 1) := by decide +kernel
theorem dX10_addToEdits_40 : decode cX10_addToEdits 40 = .ok (.istore 6, 2) := by decide +kernel
theorem dX10_addToEdits_42 : decode cX10_addToEdits 42 = .ok (.goto 48, 3) := by decide +kernel
theorem dX10_addToEdits_45 : decode cX10_addToEdits 45 = .ok (.iload 5, 2) := by decide +kernel
theorem dX10_addToEdits_47 : decode cX10_addToEdits 47 = .ok (.lload 7, 2) := by decide +kernel
theorem dX10_addToEdits_49 : decode cX10_addToEdits 49 = .ok (.ldc2_w 295, 3) := by decide +kernel
theorem dX10_addToEdits_52 : decode cX10_addToEdits 52 = .ok (.lrem, 1) := by decide +kernel
theorem dX10_addToEdits_53 : decode cX10_addToEdits 53 = .ok (.lload_n 1, 1) := by decide +kernel
theorem dX10_addToEdits_54 : decode cX10_addToEdits 54 = .ok (.lcmp, 1) := by decide +kernel
theorem dX10_addToEdits_55 : decode cX10_addToEdits 55 = .ok (.ifCond .ne 7, 3) := by decide +kernel
theorem dX10_addToEdits_58 : decode cX10_addToEdits 58 = .ok (.iconst 0, 1) := by decide +kernel
theorem dX10_addToEdits_59 : decode cX10_addToEdits 59 = .ok (.goto 4, 3) := by decide +kernel
theorem dX10_addToEdits_62 : decode cX10_addToEdits 62 = .ok (.iconst 1, 1) := by decide +kernel
theorem dX10_addToEdits_63 : decode cX10_addToEdits 63 = .ok (.iadd, 1) := by decide +kernel
theorem dX10_addToEdits_64 : decode cX10_addToEdits 64 = .ok (.istore 11, 2) := by decide +kernel
theorem dX10_addToEdits_66 : decode cX10_addToEdits 66 = .ok (.iload 11, 2) := by decide +kernel
theorem dX10_addToEdits_68 : decode cX10_addToEdits 68 = .ok (.iload 10, 2) := by decide +kernel
theorem dX10_addToEdits_70 : decode cX10_addToEdits 70 = .ok (.iload 6, 2) := by decide +kernel
theorem dX10_addToEdits_72 : decode cX10_addToEdits 72 = .ok (.invokestatic 406, 3) := by decide +kernel
theorem dX10_addToEdits_75 : decode cX10_addToEdits 75 = .ok (.iconst 1, 1) := by decide +kernel
theorem dX10_addToEdits_76 : decode cX10_addToEdits 76 = .ok (.iadd, 1) := by decide +kernel
theorem dX10_addToEdits_77 : decode cX10_addToEdits 77 = .ok (.invokestatic 406, 3) := by decide +kernel
theorem dX10_addToEdits_80 : decode cX10_addToEdits 80 = .ok (.istore 6, 2) := by decide +kernel
theorem dX10_addToEdits_82 : decode cX10_addToEdits 82 = .ok (.lload 7, 2) := by decide +kernel
theorem dX10_addToEdits_84 : decode cX10_addToEdits 84 = .ok (.ldc2_w 295, 3) := by decide +kernel
theorem dX10_addToEdits_87 : decode cX10_addToEdits 87 = .ok (.ldiv, 1) := by decide +kernel
theorem dX10_addToEdits_88 : decode cX10_addToEdits 88 = .ok (.lstore 7, 2) := by decide +kernel
theorem dX10_addToEdits_90 : decode cX10_addToEdits 90 = .ok (.aload_n 0, 1) := by decide +kernel
theorem dX10_addToEdits_91 : decode cX10_addToEdits 91 = .ok (.getfield 45, 3) := by decide +kernel
theorem dX10_addToEdits_94 : decode cX10_addToEdits 94 = .ok (.iload 9, 2) := by decide +kernel
theorem dX10_addToEdits_96 : decode cX10_addToEdits 96 = .ok (.iload 6, 2) := by decide +kernel
theorem dX10_addToEdits_98 : decode cX10_addToEdits 98 = .ok (.iastore, 1) := by decide +kernel
theorem dX10_addToEdits_99 : decode cX10_addToEdits 99 = .ok (.iload 10, 2) := by decide +kernel
theorem dX10_addToEdits_101 : decode cX10_addToEdits 101 = .ok (.istore 5, 2) := by decide +kernel
theorem dX10_addToEdits_103 : decode cX10_addToEdits 103 = .ok (.iinc 9 1, 3) := by decide +kernel
theorem dX10_addToEdits_106 : decode cX10_addToEdits 106 = .ok (.goto (-94), 3) := by decide +kernel
theorem dX10_addToEdits_109 : decode cX10_addToEdits 109 = .ok (.return_, 1) := by decide +kernel
theorem dX10_assignAll_0 : decode cX10_assignAll 0 = .ok (.aload_n 0, 1) := by decide +kernel
theorem dX10_assignAll_1 : decode cX10_assignAll 1 = .ok (.getfield 34, 3) := by decide +kernel
theorem dX10_assignAll_4 : decode cX10_assignAll 4 = .ok (.invokevirtual 427, 3) := by decide +kernel
theorem dX10_assignAll_7 : decode cX10_assignAll 7 = .ok (.iconst 0, 1) := by decide +kernel
theorem dX10_assignAll_8 : decode cX10_assignAll 8 = .ok (.istore_n 1, 1) := by decide +kernel
theorem dX10_assignAll_9 : decode cX10_assignAll 9 = .ok (.iload_n 1, 1) := by decide +kernel
theorem dX10_assignAll_10 : decode cX10_assignAll 10 = .ok (.aload_n 0, 1) := by decide +kernel
theorem dX10_assignAll_11 : decode cX10_assignAll 11 = .ok (.getfield 10, 3) := by decide +kernel
theorem dX10_assignAll_14 : decode cX10_assignAll 14 = .ok (.invokevirtual 67, 3) := by decide +kernel
theorem dX10_assignAll_17 : decode cX10_assignAll 17 = .ok (.if_icmp .ge 78, 3) := by decide +kernel
theorem dX10_assignAll_20 : decode cX10_assignAll 20 = .ok (.iconst 0, 1) := by decide +kernel
theorem dX10_assignAll_21 : decode cX10_assignAll 21 = .ok (.istore_n 2, 1) := by decide +kernel
theorem dX10_assignAll_22 : decode cX10_assignAll 22 = .ok (.iload_n 2, 1) := by decide +kernel
theorem dX10_assignAll_23 : decode cX10_assignAll 23 = .ok (.iconst 4, 1) := by decide +kernel
theorem dX10_assignAll_24 : decode cX10_assignAll 24 = .ok (.if_icmp .ge 58, 3) := by decide +kernel
theorem dX10_assignAll_27 : decode cX10_assignAll 27 = .ok (.aload_n 0, 1) := by decide +kernel
theorem dX10_assignAll_28 : decode cX10_assignAll 28 = .ok (.getfield 34, 3) := by decide +kernel
theorem dX10_assignAll_31 : decode cX10_assignAll 31 = .ok (.iload_n 2, 1) := by decide +kernel
theorem dX10_assignAll_32 : decode cX10_assignAll 32 = .ok (.iload_n 2, 1) := by decide +kernel
theorem dX10_assignAll_33 : decode cX10_assignAll 33 = .ok (.aload_n 0, 1) := by decide +kernel
theorem dX10_assignAll_34 : decode cX10_assignAll 34 = .ok (.getfield 25, 3) := by decide +kernel
theorem dX10_assignAll_37 : decode cX10_assignAll 37 = .ok (.invokevirtual 67, 3) := by decide +kernel
theorem dX10_assignAll_40 : decode cX10_assignAll 40 = .ok (.if_icmp .ge 32, 3) := by decide +kernel
theorem dX10_assignAll_43 : decode cX10_assignAll 43 = .ok (.aload_n 0, 1) := by decide +kernel
theorem dX10_assignAll_44 : decode cX10_assignAll 44 = .ok (.aload_n 0, 1) := by decide +kernel
theorem dX10_assignAll_45 : decode cX10_assignAll 45 = .ok (.getfield 25, 3) := by decide +kernel
theorem dX10_assignAll_48 : decode cX10_assignAll 48 = .ok (.iload_n 2, 1) := by decide +kernel
theorem dX10_assignAll_49 : decode cX10_assignAll 49 = .ok (.invokevirtual 310, 3) := by decide +kernel
theorem dX10_assignAll_52 : decode cX10_assignAll 52 = .ok (.checkcast 305, 3) := by decide +kernel
theorem dX10_assignAll_55 : decode cX10_assignAll 55 = .ok (.aload_n 0, 1) := by decide +kernel
theorem dX10_assignAll_56 : decode cX10_assignAll 56 = .ok (.getfield 10, 3) := by decide +kernel
theorem dX10_assignAll_59 : decode cX10_assignAll 59 = .ok (.iload_n 1, 1) := by decide +kernel
theorem dX10_assignAll_60 : decode cX10_assignAll 60 = .ok (.invokevirtual 310, 3) := by decide +kernel
theorem dX10_assignAll_63 : decode cX10_assignAll 63 = .ok (.checkcast 74, 3) := by decide +kernel
theorem dX10_assignAll_66 : decode cX10_assignAll 66 = .ok (.invokevirtual 314, 3) := by decide +kernel
theorem dX10_assignAll_69 : decode cX10_assignAll 69 = .ok (.goto 4, 3) := by decide +kernel
theorem dX10_assignAll_72 : decode cX10_assignAll 72 = .ok (.iconst (-1), 1) := by decide +kernel
theorem dX10_assignAll_73 : decode cX10_assignAll 73 = .ok (.invokevirtual 430, 3) := by decide +kernel
theorem dX10_assignAll_76 : decode cX10_assignAll 76 = .ok (.iinc 2 1, 3) := by decide +kernel
theorem dX10_assignAll_79 : decode cX10_assignAll 79 = .ok (.goto (-57), 3) := by decide +kernel
theorem dX10_assignAll_82 : decode cX10_assignAll 82 = .ok (.aload_n 0, 1) := by decide +kernel
theorem dX10_assignAll_83 : decode cX10_assignAll 83 = .ok (.getfield 34, 3) := by decide +kernel
theorem dX10_assignAll_86 : decode cX10_assignAll 86 = .ok (.invokevirtual 433, 3) := by decide +kernel
theorem dX10_assignAll_89 : decode cX10_assignAll 89 = .ok (.iinc 1 1, 3) := by decide +kernel
theorem dX10_assignAll_92 : decode cX10_assignAll 92 = .ok (.goto (-83), 3) := by decide +kernel
theorem dX10_assignAll_95 : decode cX10_assignAll 95 = .ok (.return_, 1) := by decide +kernel
theorem dX10_searchKey_0 : decode cX10_searchKey 0 = .ok (.aload_n 0, 1) := by decide +kernel
theorem dX10_searchKey_1 : decode cX10_searchKey 1 = .ok (.aload_n 2, 1) := by decide +kernel
theorem dX10_searchKey_2 : decode cX10_searchKey 2 = .ok (.iload 5, 2) := by decide +kernel
theorem dX10_searchKey_4 : decode cX10_searchKey 4 = .ok (.iload 6, 2) := by decide +kernel
theorem dX10_searchKey_6 : decode cX10_searchKey 6 = .ok (.invokevirtual 415, 3) := by decide +kernel
theorem dX10_searchKey_9 : decode cX10_searchKey 9 = .ok (.istore 7, 2) := by decide +kernel
theorem dX10_searchKey_11 : decode cX10_searchKey 11 = .ok (.aload_n 0, 1) := by decide +kernel
theorem dX10_searchKey_12 : decode cX10_searchKey 12 = .ok (.aload_n 2, 1) := by decide +kernel
theorem dX10_searchKey_13 : decode cX10_searchKey 13 = .ok (.lload_n 3, 1) := by decide +kernel
theorem dX10_searchKey_14 : decode cX10_searchKey 14 = .ok (.invokevirtual 436, 3) := by decide +kernel
theorem dX10_searchKey_17 : decode cX10_searchKey 17 = .ok (.ifCond .eq 11, 3) := by decide +kernel
theorem dX10_searchKey_20 : decode cX10_searchKey 20 = .ok (.iload 7, 2) := by decide +kernel
theorem dX10_searchKey_22 : decode cX10_searchKey 22 = .ok (.bipush 24, 2) := by decide +kernel
theorem dX10_searchKey_24 : decode cX10_searchKey 24 = .ok (.imul, 1) := by decide +kernel
theorem dX10_searchKey_25 : decode cX10_searchKey 25 = .ok (.iload_n 1, 1) := by decide +kernel
theorem dX10_searchKey_26 : decode cX10_searchKey 26 = .ok (.iadd, 1) := by decide +kernel
theorem dX10_searchKey_27 : decode cX10_searchKey 27 = .ok (.ireturn, 1) := by decide +kernel
theorem dX10_searchKey_28 : decode cX10_searchKey 28 = .ok (.aload_n 2, 1) := by decide +kernel
theorem dX10_searchKey_29 : decode cX10_searchKey 29 = .ok (.lload_n 3, 1) := by decide +kernel
theorem dX10_searchKey_30 : decode cX10_searchKey 30 = .ok (.invokevirtual 440, 3) := by decide +kernel
theorem dX10_searchKey_33 : decode cX10_searchKey 33 = .ok (.ifCond .eq 17, 3) := by decide +kernel
theorem dX10_searchKey_36 : decode cX10_searchKey 36 = .ok (.sipush 200, 3) := by decide +kernel
theorem dX10_searchKey_39 : decode cX10_searchKey 39 = .ok (.iload 7, 2) := by decide +kernel
theorem dX10_searchKey_41 : decode cX10_searchKey 41 = .ok (.iadd, 1) := by decide +kernel
theorem dX10_searchKey_42 : decode cX10_searchKey 42 = .ok (.bipush 24, 2) := by decide +kernel
theorem dX10_searchKey_44 : decode cX10_searchKey 44 = .ok (.imul, 1) := by decide +kernel
theorem dX10_searchKey_45 : decode cX10_searchKey 45 = .ok (.iload_n 1, 1) := by decide +kernel
theorem dX10_searchKey_46 : decode cX10_searchKey 46 = .ok (.iadd, 1) := by decide +kernel
theorem dX10_searchKey_47 : decode cX10_searchKey 47 = .ok (.goto 4, 3) := by decide +kernel
theorem dX10_searchKey_50 : decode cX10_searchKey 50 = .ok (.iconst (-1), 1) := by decide +kernel
theorem dX10_searchKey_51 : decode cX10_searchKey 51 = .ok (.ireturn, 1) := by decide +kernel
theorem dX10_countFoundAhead_0 : decode cX10_countFoundAhead 0 = .ok (.iconst 0, 1) := by decide +kernel
theorem dX10_countFoundAhead_1 : decode cX10_countFoundAhead 1 = .ok (.istore_n 2, 1) := by decide +kernel
theorem dX10_countFoundAhead_2 : decode cX10_countFoundAhead 2 = .ok (.iconst 0, 1) := by decide +kernel
theorem dX10_countFoundAhead_3 : decode cX10_countFoundAhead 3 = .ok (.istore_n 3, 1) := by decide +kernel
theorem dX10_countFoundAhead_4 : decode cX10_countFoundAhead 4 = .ok (.iload_n 3, 1) := by decide +kernel
theorem dX10_countFoundAhead_5 : decode cX10_countFoundAhead 5 = .ok (.aload_n 0, 1) := by decide +kernel
theorem dX10_countFoundAhead_6 : decode cX10_countFoundAhead 6 = .ok (.getfield 42, 3) := by decide +kernel
theorem dX10_countFoundAhead_9 : decode cX10_countFoundAhead 9 = .ok (.arraylength, 1) := by decide +kernel
theorem dX10_countFoundAhead_10 : decode cX10_countFoundAhead 10 = .ok (.if_icmp .ge 32, 3) := by decide +kernel
theorem dX10_countFoundAhead_13 : decode cX10_countFoundAhead 13 = .ok (.aload_n 0, 1) := by decide +kernel
theorem dX10_countFoundAhead_14 : decode cX10_countFoundAhead 14 = .ok (.getfield 42, 3) := by decide +kernel
theorem dX10_countFoundAhead_17 : decode cX10_countFoundAhead 17 = .ok (.iload_n 3, 1) := by decide +kernel
theorem dX10_countFoundAhead_18 : decode cX10_countFoundAhead 18 = .ok (.iaload, 1) := by decide +kernel
theorem dX10_countFoundAhead_19 : decode cX10_countFoundAhead 19 = .ok (.iconst (-1), 1) := by decide +kernel
theorem dX10_countFoundAhead_20 : decode cX10_countFoundAhead 20 = .ok (.if_icmp .eq 16, 3) := by decide +kernel
theorem dX10_countFoundAhead_23 : decode cX10_countFoundAhead 23 = .ok (.aload_n 0, 1) := by decide +kernel
theorem dX10_countFoundAhead_24 : decode cX10_countFoundAhead 24 = .ok (.getfield 42, 3) := by decide +kernel
theorem dX10_countFoundAhead_27 : decode cX10_countFoundAhead 27 = .ok (.iload_n 3, 1) := by decide +kernel
theorem dX10_countFoundAhead_28 : decode cX10_countFoundAhead 28 = .ok (.iaload, 1) := by decide +kernel
theorem dX10_countFoundAhead_29 : decode cX10_countFoundAhead 29 = .ok (.iload_n 1, 1) := by decide +kernel
theorem dX10_countFoundAhead_30 : decode cX10_countFoundAhead 30 = .ok (.if_icmp .ge 6, 3) := by decide +kernel
theorem dX10_countFoundAhead_33 : decode cX10_countFoundAhead 33 = .ok (.iinc 2 1, 3) := by decide +kernel
theorem dX10_countFoundAhead_36 : decode cX10_countFoundAhead 36 = .ok (.iinc 3 1, 3) := by decide +kernel
theorem dX10_countFoundAhead_39 : decode cX10_countFoundAhead 39 = .ok (.goto (-35), 3) := by decide +kernel
theorem dX10_countFoundAhead_42 : decode cX10_countFoundAhead 42 = .ok (.iload_n 2, 1) := by decide +kernel
theorem dX10_countFoundAhead_43 : decode cX10_countFoundAhead 43 = .ok (.ireturn, 1) := by decide +kernel
theorem dX11_init_0 : decode cX11_init 0 = .ok (.aload_n 0, 1) := by decide +kernel
theorem dX11_init_1 : decode cX11_init 1 = .ok (.invokespecial 1, 3) := by decide +kernel
theorem dX11_init_4 : decode cX11_init 4 = .ok (.aload_n 0, 1) := by decide +kernel
theorem dX11_init_5 : decode cX11_init 5 = .ok (.bipush 24, 2) := by decide +kernel
theorem dX11_init_7 : decode cX11_init 7 = .ok (.newarray .int, 2) := by decide +kernel
theorem dX11_init_9 : decode cX11_init 9 = .ok (.putfield 7, 3) := by decide +kernel
theorem dX11_init_12 : decode cX11_init 12 = .ok (.aload_n 0, 1) := by decide +kernel
theorem dX11_init_13 : decode cX11_init 13 = .ok (.bipush 24, 2) := by decide +kernel
theorem dX11_init_15 : decode cX11_init 15 = .ok (.newarray .int, 2) := by decide +kernel
theorem dX11_init_17 : decode cX11_init 17 = .ok (.putfield 13, 3) := by decide +kernel
theorem dX11_init_20 : decode cX11_init 20 = .ok (.aload_n 0, 1) := by decide +kernel
theorem dX11_init_21 : decode cX11_init 21 = .ok (.bipush 24, 2) := by decide +kernel
theorem dX11_init_23 : decode cX11_init 23 = .ok (.newarray .int, 2) := by decide +kernel
theorem dX11_init_25 : decode cX11_init 25 = .ok (.putfield 16, 3) := by decide +kernel
theorem dX11_init_28 : decode cX11_init 28 = .ok (.aload_n 0, 1) := by decide +kernel
theorem dX11_init_29 : decode cX11_init 29 = .ok (.sipush 960, 3) := by decide +kernel
theorem dX11_init_32 : decode cX11_init 32 = .ok (.newarray .int, 2) := by decide +kernel
theorem dX11_init_34 : decode cX11_init 34 = .ok (.putfield 19, 3) := by decide +kernel
theorem dX11_init_37 : decode cX11_init 37 = .ok (.aload_n 0, 1) := by decide +kernel
theorem dX11_init_38 : decode cX11_init 38 = .ok (.sipush 960, 3) := by decide +kernel
theorem dX11_init_41 : decode cX11_init 41 = .ok (.newarray .int, 2) := by decide +kernel
theorem dX11_init_43 : decode cX11_init 43 = .ok (.putfield 22, 3) := by decide +kernel
theorem dX11_init_46 : decode cX11_init 46 = .ok (.aload_n 0, 1) := by decide +kernel
theorem dX11_init_47 : decode cX11_init 47 = .ok (.sipush 960, 3) := by decide +kernel
theorem dX11_init_50 : decode cX11_init 50 = .ok (.newarray .int, 2) := by decide +kernel
theorem dX11_init_52 : decode cX11_init 52 = .ok (.putfield 25, 3) := by decide +kernel
theorem dX11_init_55 : decode cX11_init 55 = .ok (.aload_n 0, 1) := by decide +kernel
theorem dX11_init_56 : decode cX11_init 56 = .ok (.sipush 960, 3) := by decide +kernel
theorem dX11_init_59 : decode cX11_init 59 = .ok (.newarray .int, 2) := by decide +kernel
theorem dX11_init_61 : decode cX11_init 61 = .ok (.putfield 28, 3) := by decide +kernel
theorem dX11_init_64 : decode cX11_init 64 = .ok (.aload_n 0, 1) := by decide +kernel
theorem dX11_init_65 : decode cX11_init 65 = .ok (.bipush 24, 2) := by decide +kernel
theorem dX11_init_67 : decode cX11_init 67 = .ok (.newarray .int, 2) := by decide +kernel
theorem dX11_init_69 : decode cX11_init 69 = .ok (.putfield 31, 3) := by decide +kernel
theorem dX11_init_72 : decode cX11_init 72 = .ok (.aload_n 0, 1) := by decide +kernel
theorem dX11_init_73 : decode cX11_init 73 = .ok (.sipush 960, 3) := by decide +kernel
theorem dX11_init_76 : decode cX11_init 76 = .ok (.newarray .int, 2) := by decide +kernel
theorem dX11_init_78 : decode cX11_init 78 = .ok (.putfield 34, 3) := by decide +kernel
theorem dX11_init_81 : decode cX11_init 81 = .ok (.aload_n 0, 1) := by decide +kernel
theorem dX11_init_82 : decode cX11_init 82 = .ok (.sipush 960, 3) := by decide +kernel
theorem dX11_init_85 : decode cX11_init 85 = .ok (.newarray .int, 2) := by decide +kernel
theorem dX11_init_87 : decode cX11_init 87 = .ok (.putfield 37, 3) := by decide +kernel
theorem dX11_init_90 : decode cX11_init 90 = .ok (.aload_n 0, 1) := by decide +kernel
theorem dX11_init_91 : decode cX11_init 91 = .ok (.sipush 960, 3) := by decide +kernel
theorem dX11_init_94 : decode cX11_init 94 = .ok (.newarray .int, 2) := by decide +kernel
theorem dX11_init_96 : decode cX11_init 96 = .ok (.putfield 40, 3) := by decide +kernel
theorem dX11_init_99 : decode cX11_init 99 = .ok (.aload_n 0, 1) := by decide +kernel
theorem dX11_init_100 : decode cX11_init 100 = .ok (.bipush 24, 2) := by decide +kernel
theorem dX11_init_102 : decode cX11_init 102 = .ok (.newarray .int, 2) := by decide +kernel
theorem dX11_init_104 : decode cX11_init 104 = .ok (.putfield 43, 3) := by decide +kernel
theorem dX11_init_107 : decode cX11_init 107 = .ok (.aload_n 0, 1) := by decide +kernel
theorem dX11_init_108 : decode cX11_init 108 = .ok (.bipush 24, 2) := by decide +kernel
theorem dX11_init_110 : decode cX11_init 110 = .ok (.newarray .int, 2) := by decide +kernel
theorem dX11_init_112 : decode cX11_init 112 = .ok (.putfield 46, 3) := by decide +kernel
theorem dX11_init_115 : decode cX11_init 115 = .ok (.aload_n 0, 1) := by decide +kernel
theorem dX11_init_116 : decode cX11_init 116 = .ok (.bipush 24, 2) := by decide +kernel
theorem dX11_init_118 : decode cX11_init 118 = .ok (.newarray .int, 2) := by decide +kernel
theorem dX11_init_120 : decode cX11_init 120 = .ok (.putfield 49, 3) := by decide +kernel
theorem dX11_init_123 : decode cX11_init 123 = .ok (.aload_n 0, 1) := by decide +kernel
theorem dX11_init_124 : decode cX11_init 124 = .ok (.bipush 100, 2) := by decide +kernel
theorem dX11_init_126 : decode cX11_init 126 = .ok (.newarray .int, 2) := by decide +kernel
theorem dX11_init_128 : decode cX11_init 128 = .ok (.putfield 52, 3) := by decide +kernel
theorem dX11_init_131 : decode cX11_init 131 = .ok (.aload_n 0, 1) := by decide +kernel
theorem dX11_init_132 : decode cX11_init 132 = .ok (.bipush 100, 2) := by decide +kernel
theorem dX11_init_134 : decode cX11_init 134 = .ok (.newarray .int, 2) := by decide +kernel
theorem dX11_init_136 : decode cX11_init 136 = .ok (.putfield 55, 3) := by decide +kernel
theorem dX11_init_139 : decode cX11_init 139 = .ok (.aload_n 0, 1) := by decide +kernel
theorem dX11_init_140 : decode cX11_init 140 = .ok (.bipush 100, 2) := by decide +kernel
theorem dX11_init_142 : decode cX11_init 142 = .ok (.newarray .long, 2) := by decide +kernel
theorem dX11_init_144 : decode cX11_init 144 = .ok (.putfield 58, 3) := by decide +kernel
theorem dX11_init_147 : decode cX11_init 147 = .ok (.aload_n 0, 1) := by decide +kernel
theorem dX11_init_148 : decode cX11_init 148 = .ok (.bipush 100, 2) := by decide +kernel
theorem dX11_init_150 : decode cX11_init 150 = .ok (.newarray .int, 2) := by decide +kernel
theorem dX11_init_152 : decode cX11_init 152 = .ok (.putfield 62, 3) := by decide +kernel
theorem dX11_init_155 : decode cX11_init 155 = .ok (.aload_n 0, 1) := by decide +kernel
theorem dX11_init_156 : decode cX11_init 156 = .ok (.bipush 100, 2) := by decide +kernel
theorem dX11_init_158 : decode cX11_init 158 = .ok (.newarray .int, 2) := by decide +kernel
theorem dX11_init_160 : decode cX11_init 160 = .ok (.putfield 65, 3) := by decide +kernel
theorem dX11_init_163 : decode cX11_init 163 = .ok (.aload_n 0, 1) := by decide +kernel
theorem dX11_init_164 : decode cX11_init 164 = .ok (.bipush 100, 2) := by decide +kernel
theorem dX11_init_166 : decode cX11_init 166 = .ok (.newarray .int, 2) := by decide +kernel
theorem dX11_init_168 : decode cX11_init 168 = .ok (.putfield 68, 3) := by decide +kernel
theorem dX11_init_171 : decode cX11_init 171 = .ok (.aload_n 0, 1) := by decide +kernel
theorem dX11_init_172 : decode cX11_init 172 = .ok (.bipush 12, 2) := by decide +kernel
theorem dX11_init_174 : decode cX11_init 174 = .ok (.newarray .int, 2) := by decide +kernel
theorem dX11_init_176 : decode cX11_init 176 = .ok (.putfield 71, 3) := by decide +kernel
theorem dX11_init_179 : decode cX11_init 179 = .ok (.aload_n 0, 1) := by decide +kernel
theorem dX11_init_180 : decode cX11_init 180 = .ok (.bipush 12, 2) := by decide +kernel
theorem dX11_init_182 : decode cX11_init 182 = .ok (.newarray .int, 2) := by decide +kernel
theorem dX11_init_184 : decode cX11_init 184 = .ok (.putfield 74, 3) := by decide +kernel
theorem dX11_init_187 : decode cX11_init 187 = .ok (.aload_n 0, 1) := by decide +kernel
theorem dX11_init_188 : decode cX11_init 188 = .ok (.bipush 12, 2) := by decide +kernel
theorem dX11_init_190 : decode cX11_init 190 = .ok (.newarray .int, 2) := by decide +kernel
theorem dX11_init_192 : decode cX11_init 192 = .ok (.putfield 77, 3) := by decide +kernel
theorem dX11_init_195 : decode cX11_init 195 = .ok (.aload_n 0, 1) := by decide +kernel
theorem dX11_init_196 : decode cX11_init 196 = .ok (.bipush 12, 2) := by decide +kernel
theorem dX11_init_198 : decode cX11_init 198 = .ok (.newarray .int, 2) := by decide +kernel
theorem dX11_init_200 : decode cX11_init 200 = .ok (.putfield 80, 3) := by decide +kernel
theorem dX11_init_203 : decode cX11_init 203 = .ok (.aload_n 0, 1) := by decide +kernel
theorem dX11_init_204 : decode cX11_init 204 = .ok (.bipush 12, 2) := by decide +kernel
theorem dX11_init_206 : decode cX11_init 206 = .ok (.newarray .int, 2) := by decide +kernel
theorem dX11_init_208 : decode cX11_init 208 = .ok (.putfield 83, 3) := by decide +kernel
theorem dX11_init_211 : decode cX11_init 211 = .ok (.aload_n 0, 1) := by decide +kernel
theorem dX11_init_212 : decode cX11_init 212 = .ok (.bipush 12, 2) := by decide +kernel
theorem dX11_init_214 : decode cX11_init 214 = .ok (.newarray .int, 2) := by decide +kernel
theorem dX11_init_216 : decode cX11_init 216 = .ok (.putfield 86, 3) := by decide +kernel
theorem dX11_init_219 : decode cX11_init 219 = .ok (.aload_n 0, 1) := by decide +kernel
theorem dX11_init_220 : decode cX11_init 220 = .ok (.bipush 40, 2) := by decide +kernel
theorem dX11_init_222 : decode cX11_init 222 = .ok (.newarray .int, 2) := by decide +kernel
theorem dX11_init_224 : decode cX11_init 224 = .ok (.putfield 89, 3) := by decide +kernel
theorem dX11_init_227 : decode cX11_init 227 = .ok (.aload_n 0, 1) := by decide +kernel
theorem dX11_init_228 : decode cX11_init 228 = .ok (.bipush 40, 2) := by decide +kernel
theorem dX11_init_230 : decode cX11_init 230 = .ok (.newarray .int, 2) := by decide +kernel
theorem dX11_init_232 : decode cX11_init 232 = .ok (.putfield 92, 3) := by decide +kernel
theorem dX11_init_235 : decode cX11_init 235 = .ok (.aload_n 0, 1) := by decide +kernel
theorem dX11_init_236 : decode cX11_init 236 = .ok (.bipush 40, 2) := by decide +kernel
theorem dX11_init_238 : decode cX11_init 238 = .ok (.newarray .int, 2) := by decide +kernel
theorem dX11_init_240 : decode cX11_init 240 = .ok (.putfield 95, 3) := by decide +kernel
theorem dX11_init_243 : decode cX11_init 243 = .ok (.aload_n 0, 1) := by decide +kernel
theorem dX11_init_244 : decode cX11_init 244 = .ok (.bipush 40, 2) := by decide +kernel
theorem dX11_init_246 : decode cX11_init 246 = .ok (.newarray .int, 2) := by decide +kernel
theorem dX11_init_248 : decode cX11_init 248 = .ok (.putfield 98, 3) := by decide +kernel
theorem dX11_init_251 : decode cX11_init 251 = .ok (.aload_n 0, 1) := by decide +kernel
theorem dX11_init_252 : decode cX11_init 252 = .ok (.bipush 16, 2) := by decide +kernel
theorem dX11_init_254 : decode cX11_init 254 = .ok (.newarray .int, 2) := by decide +kernel
theorem dX11_init_256 : decode cX11_init 256 = .ok (.putfield 101, 3) := by decide +kernel
theorem dX11_init_259 : decode cX11_init 259 = .ok (.aload_n 0, 1) := by decide +kernel
theorem dX11_init_260 : decode cX11_init 260 = .ok (.bipush 16, 2) := by decide +kernel
theorem dX11_init_262 : decode cX11_init 262 = .ok (.newarray .int, 2) := by decide +kernel
theorem dX11_init_264 : decode cX11_init 264 = .ok (.putfield 104, 3) := by decide +kernel
theorem dX11_init_267 : decode cX11_init 267 = .ok (.aload_n 0, 1) := by decide +kernel
theorem dX11_init_268 : decode cX11_init 268 = .ok (.bipush 16, 2) := by decide +kernel
theorem dX11_init_270 : decode cX11_init 270 = .ok (.newarray .long, 2) := by decide +kernel
theorem dX11_init_272 : decode cX11_init 272 = .ok (.putfield 107, 3) := by decide +kernel
theorem dX11_init_275 : decode cX11_init 275 = .ok (.aload_n 0, 1) := by decide +kernel
theorem dX11_init_276 : decode cX11_init 276 = .ok (.bipush 16, 2) := by decide +kernel
theorem dX11_init_278 : decode cX11_init 278 = .ok (.newarray .int, 2) := by decide +kernel
theorem dX11_init_280 : decode cX11_init 280 = .ok (.putfield 110, 3) := by decide +kernel
theorem dX11_init_283 : decode cX11_init 283 = .ok (.aload_n 0, 1) := by decide +kernel
theorem dX11_init_284 : decode cX11_init 284 = .ok (.bipush 16, 2) := by decide +kernel
theorem dX11_init_286 : decode cX11_init 286 = .ok (.newarray .int, 2) := by decide +kernel
theorem dX11_init_288 : decode cX11_init 288 = .ok (.putfield 113, 3) := by decide +kernel
theorem dX11_init_291 : decode cX11_init 291 = .ok (.aload_n 0, 1) := by decide +kernel
theorem dX11_init_292 : decode cX11_init 292 = .ok (.bipush 16, 2) := by decide +kernel
theorem dX11_init_294 : decode cX11_init 294 = .ok (.newarray .int, 2) := by decide +kernel
theorem dX11_init_296 : decode cX11_init 296 = .ok (.putfield 116, 3) := by decide +kernel
theorem dX11_init_299 : decode cX11_init 299 = .ok (.aload_n 0, 1) := by decide +kernel
theorem dX11_init_300 : decode cX11_init 300 = .ok (.bipush 16, 2) := by decide +kernel
theorem dX11_init_302 : decode cX11_init 302 = .ok (.newarray .int, 2) := by decide +kernel
theorem dX11_init_304 : decode cX11_init 304 = .ok (.putfield 119, 3) := by decide +kernel
theorem dX11_init_307 : decode cX11_init 307 = .ok (.aload_n 0, 1) := by decide +kernel
theorem dX11_init_308 : decode cX11_init 308 = .ok (.bipush 16, 2) := by decide +kernel
theorem dX11_init_310 : decode cX11_init 310 = .ok (.newarray .int, 2) := by decide +kernel
theorem dX11_init_312 : decode cX11_init 312 = .ok (.putfield 122, 3) := by decide +kernel
theorem dX11_init_315 : decode cX11_init 315 = .ok (.aload_n 0, 1) := by decide +kernel
theorem dX11_init_316 : decode cX11_init 316 = .ok (.bipush 16, 2) := by decide +kernel
theorem dX11_init_318 : decode cX11_init 318 = .ok (.newarray .int, 2) := by decide +kernel
theorem dX11_init_320 : decode cX11_init 320 = .ok (.putfield 125, 3) := by decide +kernel
theorem dX11_init_323 : decode cX11_init 323 = .ok (.aload_n 0, 1) := by decide +kernel
theorem dX11_init_324 : decode cX11_init 324 = .ok (.bipush 16, 2) := by decide +kernel
theorem dX11_init_326 : decode cX11_init 326 = .ok (.newarray .int, 2) := by decide +kernel
theorem dX11_init_328 : decode cX11_init 328 = .ok (.putfield 128, 3) := by decide +kernel
theorem dX11_init_331 : decode cX11_init 331 = .ok (.aload_n 0, 1) := by decide +kernel
theorem dX11_init_332 : decode cX11_init 332 = .ok (.bipush 96, 2) := by decide +kernel
theorem dX11_init_334 : decode cX11_init 334 = .ok (.newarray .int, 2) := by decide +kernel
theorem dX11_init_336 : decode cX11_init 336 = .ok (.putfield 131, 3) := by decide +kernel
theorem dX11_init_339 : decode cX11_init 339 = .ok (.aload_n 0, 1) := by decide +kernel
theorem dX11_init_340 : decode cX11_init 340 = .ok (.bipush 24, 2) := by decide +kernel
theorem dX11_init_342 : decode cX11_init 342 = .ok (.newarray .int, 2) := by decide +kernel
theorem dX11_init_344 : decode cX11_init 344 = .ok (.putfield 134, 3) := by decide +kernel
theorem dX11_init_347 : decode cX11_init 347 = .ok (.aload_n 0, 1) := by decide +kernel
theorem dX11_init_348 : decode cX11_init 348 = .ok (.bipush 24, 2) := by decide +kernel
theorem dX11_init_350 : decode cX11_init 350 = .ok (.newarray .int, 2) := by decide +kernel
theorem dX11_init_352 : decode cX11_init 352 = .ok (.putfield 137, 3) := by decide +kernel
theorem dX11_init_355 : decode cX11_init 355 = .ok (.aload_n 0, 1) := by decide +kernel
theorem dX11_init_356 : decode cX11_init 356 = .ok (.bipush 108, 2) := by decide +kernel
theorem dX11_init_358 : decode cX11_init 358 = .ok (.newarray .int, 2) := by decide +kernel
theorem dX11_init_360 : decode cX11_init 360 = .ok (.putfield 140, 3) := by decide +kernel
theorem dX11_init_363 : decode cX11_init 363 = .ok (.aload_n 0, 1) := by decide +kernel
theorem dX11_init_364 : decode cX11_init 364 = .ok (.iconst 4, 1) := by decide +kernel
theorem dX11_init_365 : decode cX11_init 365 = .ok (.newarray .long, 2) := by decide +kernel
theorem dX11_init_367 : decode cX11_init 367 = .ok (.putfield 143, 3) := by decide +kernel
theorem dX11_init_370 : decode cX11_init 370 = .ok (.aload_n 0, 1) := by decide +kernel
theorem dX11_init_371 : decode cX11_init 371 = .ok (.iconst 4, 1) := by decide +kernel
theorem dX11_init_372 : decode cX11_init 372 = .ok (.newarray .int, 2) := by decide +kernel
theorem dX11_init_374 : decode cX11_init 374 = .ok (.putfield 146, 3) := by decide +kernel
theorem dX11_init_377 : decode cX11_init 377 = .ok (.aload_n 0, 1) := by decide +kernel
theorem dX11_init_378 : decode cX11_init 378 = .ok (.iconst 4, 1) := by decide +kernel
theorem dX11_init_379 : decode cX11_init 379 = .ok (.newarray .int, 2) := by decide +kernel
theorem dX11_init_381 : decode cX11_init 381 = .ok (.putfield 149, 3) := by decide +kernel
theorem dX11_init_384 : decode cX11_init 384 = .ok (.aload_n 0, 1) := by decide +kernel
theorem dX11_init_385 : decode cX11_init 385 = .ok (.iconst 4, 1) := by decide +kernel
theorem dX11_init_386 : decode cX11_init 386 = .ok (.newarray .int, 2) := by decide +kernel
theorem dX11_init_388 : decode cX11_init 388 = .ok (.putfield 152, 3) := by decide +kernel
theorem dX11_init_391 : decode cX11_init 391 = .ok (.aload_n 0, 1) := by decide +kernel
theorem dX11_init_392 : decode cX11_init 392 = .ok (.bipush 24, 2) := by decide +kernel
theorem dX11_init_394 : decode cX11_init 394 = .ok (.newarray .long, 2) := by decide +kernel
theorem dX11_init_396 : decode cX11_init 396 = .ok (.putfield 155, 3) := by decide +kernel
theorem dX11_init_399 : decode cX11_init 399 = .ok (.aload_n 0, 1) := by decide +kernel
theorem dX11_init_400 : decode cX11_init 400 = .ok (.bipush 24, 2) := by decide +kernel
theorem dX11_init_402 : decode cX11_init 402 = .ok (.newarray .int, 2) := by decide +kernel
theorem dX11_init_404 : decode cX11_init 404 = .ok (.putfield 158, 3) := by decide +kernel
theorem dX11_init_407 : decode cX11_init 407 = .ok (.aload_n 0, 1) := by decide +kernel
theorem dX11_init_408 : decode cX11_init 408 = .ok (.iconst 2, 1) := by decide +kernel
theorem dX11_init_409 : decode cX11_init 409 = .ok (.putfield 161, 3) := by decide +kernel
theorem dX11_init_412 : decode cX11_init 412 = .ok (.aload_n 0, 1) := by decide +kernel
theorem dX11_init_413 : decode cX11_init 413 = .ok (.bipush 24, 2) := by decide +kernel
theorem dX11_init_415 : decode cX11_init 415 = .ok (.newarray .int, 2) := by decide +kernel
theorem dX11_init_417 : decode cX11_init 417 = .ok (.putfield 165, 3) := by decide +kernel
theorem dX11_init_420 : decode cX11_init 420 = .ok (.aload_n 0, 1) := by decide +kernel
theorem dX11_init_421 : decode cX11_init 421 = .ok (.bipush 24, 2) := by decide +kernel
theorem dX11_init_423 : decode cX11_init 423 = .ok (.newarray .int, 2) := by decide +kernel
theorem dX11_init_425 : decode cX11_init 425 = .ok (.putfield 168, 3) := by decide +kernel
theorem dX11_init_428 : decode cX11_init 428 = .ok (.aload_n 0, 1) := by decide +kernel
theorem dX11_init_429 : decode cX11_init 429 = .ok (.bipush 12, 2) := by decide +kernel
theorem dX11_init_431 : decode cX11_init 431 = .ok (.newarray .int, 2) := by decide +kernel
theorem dX11_init_433 : decode cX11_init 433 = .ok (.putfield 171, 3) := by decide +kernel
theorem dX11_init_436 : decode cX11_init 436 = .ok (.aload_n 0, 1) := by decide +kernel
theorem dX11_init_437 : decode cX11_init 437 = .ok (.bipush 13, 2) := by decide +kernel
theorem dX11_init_439 : decode cX11_init 439 = .ok (.newarray .int, 2) := by decide +kernel
theorem dX11_init_441 : decode cX11_init 441 = .ok (.putfield 174, 3) := by decide +kernel
theorem dX11_init_444 : decode cX11_init 444 = .ok (.aload_n 0, 1) := by decide +kernel
theorem dX11_init_445 : decode cX11_init 445 = .ok (.bipush 16, 2) := by decide +kernel
theorem dX11_init_447 : decode cX11_init 447 = .ok (.newarray .int, 2) := by decide +kernel
theorem dX11_init_449 : decode cX11_init 449 = .ok (.putfield 177, 3) := by decide +kernel
theorem dX11_init_452 : decode cX11_init 452 = .ok (.aload_n 0, 1) := by decide +kernel
theorem dX11_init_453 : decode cX11_init 453 = .ok (.bipush 16, 2) := by decide +kernel
theorem dX11_init_455 : decode cX11_init 455 = .ok (.newarray .int, 2) := by decide +kernel
theorem dX11_init_457 : decode cX11_init 457 = .ok (.putfield 180, 3) := by decide +kernel
theorem dX11_init_460 : decode cX11_init 460 = .ok (.iconst 0, 1) := by decide +kernel
theorem dX11_init_461 : decode cX11_init 461 = .ok (.istore_n 1, 1) := by decide +kernel
theorem dX11_init_462 : decode cX11_init 462 = .ok (.iload_n 1, 1) := by decide +kernel
theorem dX11_init_463 : decode cX11_init 463 = .ok (.bipush 108, 2) := by decide +kernel
theorem dX11_init_465 : decode cX11_init 465 = .ok (.if_icmp .ge 19, 3) := by decide +kernel
theorem dX11_init_468 : decode cX11_init 468 = .ok (.aload_n 0, 1) := by decide +kernel
theorem dX11_init_469 : decode cX11_init 469 = .ok (.getfield 140, 3) := by decide +kernel
theorem dX11_init_472 : decode cX11_init 472 = .ok (.iload_n 1, 1) := by decide +kernel
theorem dX11_init_473 : decode cX11_init 473 = .ok (.iload_n 1, 1) := by decide +kernel
theorem dX11_init_474 : decode cX11_init 474 = .ok (.bipush 27, 2) := by decide +kernel
theorem dX11_init_476 : decode cX11_init 476 = .ok (.irem, 1) := by decide +kernel
theorem dX11_init_477 : decode cX11_init 477 = .ok (.iastore, 1) := by decide +kernel
theorem dX11_init_478 : decode cX11_init 478 = .ok (.iinc 1 1, 3) := by decide +kernel
theorem dX11_init_481 : decode cX11_init 481 = .ok (.goto (-19), 3) := by decide +kernel
theorem dX11_init_484 : decode cX11_init 484 = .ok (.return_, 1) := by decide +kernel
theorem dX11_thrown_0 : decode cX11_thrown 0 = .ok (.aload_n 0, 1) := by decide +kernel
theorem dX11_thrown_1 : decode cX11_thrown 1 = .ok (.getfield 183, 3) := by decide +kernel
theorem dX11_thrown_4 : decode cX11_thrown 4 = .ok (.ireturn, 1) := by decide +kernel
theorem dX11_holds_0 : decode cX11_holds 0 = .ok (.aload_n 0, 1) := by decide +kernel
theorem dX11_holds_1 : decode cX11_holds 1 = .ok (.iload_n 1, 1) := by decide +kernel
theorem dX11_holds_2 : decode cX11_holds 2 = .ok (.putfield 183, 3) := by decide +kernel
theorem dX11_holds_5 : decode cX11_holds 5 = .ok (.iload_n 1, 1) := by decide +kernel
theorem dX11_holds_6 : decode cX11_holds 6 = .ok (.ifCond .ne 7, 3) := by decide +kernel
theorem dX11_holds_9 : decode cX11_holds 9 = .ok (.iconst 1, 1) := by decide +kernel
theorem dX11_holds_10 : decode cX11_holds 10 = .ok (.goto 4, 3) := by decide +kernel
theorem dX11_holds_13 : decode cX11_holds 13 = .ok (.iconst 0, 1) := by decide +kernel
theorem dX11_holds_14 : decode cX11_holds 14 = .ok (.ireturn, 1) := by decide +kernel
theorem dX11_in_0 : decode cX11_in 0 = .ok (.iload_n 0, 1) := by decide +kernel
theorem dX11_in_1 : decode cX11_in 1 = .ok (.iload_n 1, 1) := by decide +kernel
theorem dX11_in_2 : decode cX11_in 2 = .ok (.if_icmp .lt 12, 3) := by decide +kernel
theorem dX11_in_5 : decode cX11_in 5 = .ok (.iload_n 0, 1) := by decide +kernel
theorem dX11_in_6 : decode cX11_in 6 = .ok (.iload_n 2, 1) := by decide +kernel
theorem dX11_in_7 : decode cX11_in 7 = .ok (.if_icmp .gt 7, 3) := by decide +kernel
theorem dX11_in_10 : decode cX11_in 10 = .ok (.iconst 1, 1) := by decide +kernel
theorem dX11_in_11 : decode cX11_in 11 = .ok (.goto 4, 3) := by decide +kernel
theorem dX11_in_14 : decode cX11_in 14 = .ok (.iconst 0, 1) := by decide +kernel
theorem dX11_in_15 : decode cX11_in 15 = .ok (.ireturn, 1) := by decide +kernel
theorem dX11_isFeature_0 : decode cX11_isFeature 0 = .ok (.iload_n 1, 1) := by decide +kernel
theorem dX11_isFeature_1 : decode cX11_isFeature 1 = .ok (.iconst 0, 1) := by decide +kernel
theorem dX11_isFeature_2 : decode cX11_isFeature 2 = .ok (.aload_n 0, 1) := by decide +kernel
theorem dX11_isFeature_3 : decode cX11_isFeature 3 = .ok (.getfield 186, 3) := by decide +kernel
theorem dX11_isFeature_6 : decode cX11_isFeature 6 = .ok (.iconst 1, 1) := by decide +kernel
theorem dX11_isFeature_7 : decode cX11_isFeature 7 = .ok (.isub, 1) := by decide +kernel
theorem dX11_isFeature_8 : decode cX11_isFeature 8 = .ok (.invokestatic 189, 3) := by decide +kernel
theorem dX11_isFeature_11 : decode cX11_isFeature 11 = .ok (.ireturn, 1) := by decide +kernel
theorem dX11_isTongue_0 : decode cX11_isTongue 0 = .ok (.iload_n 0, 1) := by decide +kernel
theorem dX11_isTongue_1 : decode cX11_isTongue 1 = .ok (.iconst 0, 1) := by decide +kernel
theorem dX11_isTongue_2 : decode cX11_isTongue 2 = .ok (.iconst 3, 1) := by decide +kernel
theorem dX11_isTongue_3 : decode cX11_isTongue 3 = .ok (.invokestatic 189, 3) := by decide +kernel
