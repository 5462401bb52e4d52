theorem dX10_vote_13 : decode cX10_vote 13 = .ok (.aload 4, 2) := by decide +kernel
theorem dX10_vote_15 : decode cX10_vote 15 = .ok (.getfield 209, 3) := by decide +kernel
theorem dX10_vote_18 : decode cX10_vote 18 = .ok (.ifCond .ne 16, 3) := by decide +kernel
theorem dX10_vote_21 : decode cX10_vote 21 = .ok (.aload 4, 2) := by decide +kernel
theorem dX10_vote_23 : decode cX10_vote 23 = .ok (.iload_n 2, 1) := by decide +kernel
theorem dX10_vote_24 : decode cX10_vote 24 = .ok (.invokevirtual 212, 3) := by decide +kernel
theorem dX10_vote_27 : decode cX10_vote 27 = .ok (.ifCond .ne 7, 3) := by decide +kernel
theorem dX10_vote_30 : decode cX10_vote 30 = .ok (.iconst 1, 1) := by decide +kernel
theorem dX10_vote_31 : decode cX10_vote 31 = .ok (.goto 4, 3) := by decide +kernel
theorem dX10_vote_34 : decode cX10_vote 34 = .ok (.iconst 0, 1) := by decide +kernel
theorem dX10_vote_35 : decode cX10_vote 35 = .ok (.invokestatic 71, 3) := by decide +kernel
theorem dX10_vote_38 : decode cX10_vote 38 = .ok (.iload_n 3, 1) := by decide +kernel
theorem dX10_vote_39 : decode cX10_vote 39 = .ok (.ifCond .eq 19, 3) := by decide +kernel
theorem dX10_vote_42 : decode cX10_vote 42 = .ok (.aload 4, 2) := by decide +kernel
theorem dX10_vote_44 : decode cX10_vote 44 = .ok (.dup, 1) := by decide +kernel
theorem dX10_vote_45 : decode cX10_vote 45 = .ok (.getfield 215, 3) := by decide +kernel
theorem dX10_vote_48 : decode cX10_vote 48 = .ok (.iconst 1, 1) := by decide +kernel
theorem dX10_vote_49 : decode cX10_vote 49 = .ok (.iload_n 2, 1) := by decide +kernel
theorem dX10_vote_50 : decode cX10_vote 50 = .ok (.ishl, 1) := by decide +kernel
theorem dX10_vote_51 : decode cX10_vote 51 = .ok (.ior, 1) := by decide +kernel
theorem dX10_vote_52 : decode cX10_vote 52 = .ok (.putfield 215, 3) := by decide +kernel
theorem dX10_vote_55 : decode cX10_vote 55 = .ok (.goto 16, 3) := by decide +kernel
theorem dX10_vote_58 : decode cX10_vote 58 = .ok (.aload 4, 2) := by decide +kernel
theorem dX10_vote_60 : decode cX10_vote 60 = .ok (.dup, 1) := by decide +kernel
theorem dX10_vote_61 : decode cX10_vote 61 = .ok (.getfield 218, 3) := by decide +kernel
theorem dX10_vote_64 : decode cX10_vote 64 = .ok (.iconst 1, 1) := by decide +kernel
theorem dX10_vote_65 : decode cX10_vote 65 = .ok (.iload_n 2, 1) := by decide +kernel
theorem dX10_vote_66 : decode cX10_vote 66 = .ok (.ishl, 1) := by decide +kernel
theorem dX10_vote_67 : decode cX10_vote 67 = .ok (.ior, 1) := by decide +kernel
theorem dX10_vote_68 : decode cX10_vote 68 = .ok (.putfield 218, 3) := by decide +kernel
theorem dX10_vote_71 : decode cX10_vote 71 = .ok (.aload 4, 2) := by decide +kernel
theorem dX10_vote_73 : decode cX10_vote 73 = .ok (.invokevirtual 221, 3) := by decide +kernel
theorem dX10_vote_76 : decode cX10_vote 76 = .ok (.ireturn, 1) := by decide +kernel
theorem dX10_protest_0 : decode cX10_protest 0 = .ok (.aload_n 0, 1) := by decide +kernel
theorem dX10_protest_1 : decode cX10_protest 1 = .ok (.iload_n 1, 1) := by decide +kernel
theorem dX10_protest_2 : decode cX10_protest 2 = .ok (.invokevirtual 202, 3) := by decide +kernel
theorem dX10_protest_5 : decode cX10_protest 5 = .ok (.astore_n 3, 1) := by decide +kernel
theorem dX10_protest_6 : decode cX10_protest 6 = .ok (.iload_n 2, 1) := by decide +kernel
theorem dX10_protest_7 : decode cX10_protest 7 = .ok (.bipush 8, 2) := by decide +kernel
theorem dX10_protest_9 : decode cX10_protest 9 = .ok (.invokestatic 206, 3) := by decide +kernel
theorem dX10_protest_12 : decode cX10_protest 12 = .ok (.aload_n 3, 1) := by decide +kernel
theorem dX10_protest_13 : decode cX10_protest 13 = .ok (.getfield 209, 3) := by decide +kernel
theorem dX10_protest_16 : decode cX10_protest 16 = .ok (.ifCond .ne 7, 3) := by decide +kernel
theorem dX10_protest_19 : decode cX10_protest 19 = .ok (.iconst 1, 1) := by decide +kernel
theorem dX10_protest_20 : decode cX10_protest 20 = .ok (.goto 4, 3) := by decide +kernel
theorem dX10_protest_23 : decode cX10_protest 23 = .ok (.iconst 0, 1) := by decide +kernel
theorem dX10_protest_24 : decode cX10_protest 24 = .ok (.invokestatic 71, 3) := by decide +kernel
theorem dX10_protest_27 : decode cX10_protest 27 = .ok (.aload_n 3, 1) := by decide +kernel
theorem dX10_protest_28 : decode cX10_protest 28 = .ok (.dup, 1) := by decide +kernel
theorem dX10_protest_29 : decode cX10_protest 29 = .ok (.getfield 224, 3) := by decide +kernel
theorem dX10_protest_32 : decode cX10_protest 32 = .ok (.iconst 1, 1) := by decide +kernel
theorem dX10_protest_33 : decode cX10_protest 33 = .ok (.iload_n 2, 1) := by decide +kernel
theorem dX10_protest_34 : decode cX10_protest 34 = .ok (.ishl, 1) := by decide +kernel
theorem dX10_protest_35 : decode cX10_protest 35 = .ok (.ixor, 1) := by decide +kernel
theorem dX10_protest_36 : decode cX10_protest 36 = .ok (.putfield 224, 3) := by decide +kernel
theorem dX10_protest_39 : decode cX10_protest 39 = .ok (.aload_n 3, 1) := by decide +kernel
theorem dX10_protest_40 : decode cX10_protest 40 = .ok (.getfield 224, 3) := by decide +kernel
theorem dX10_protest_43 : decode cX10_protest 43 = .ok (.iconst 1, 1) := by decide +kernel
theorem dX10_protest_44 : decode cX10_protest 44 = .ok (.iload_n 2, 1) := by decide +kernel
theorem dX10_protest_45 : decode cX10_protest 45 = .ok (.ishl, 1) := by decide +kernel
theorem dX10_protest_46 : decode cX10_protest 46 = .ok (.iand, 1) := by decide +kernel
theorem dX10_protest_47 : decode cX10_protest 47 = .ok (.ifCond .eq 7, 3) := by decide +kernel
theorem dX10_protest_50 : decode cX10_protest 50 = .ok (.iconst 1, 1) := by decide +kernel
theorem dX10_protest_51 : decode cX10_protest 51 = .ok (.goto 4, 3) := by decide +kernel
theorem dX10_protest_54 : decode cX10_protest 54 = .ok (.iconst 0, 1) := by decide +kernel
theorem dX10_protest_55 : decode cX10_protest 55 = .ok (.ireturn, 1) := by decide +kernel
theorem dX10_decide_0 : decode cX10_decide 0 = .ok (.aload_n 0, 1) := by decide +kernel
theorem dX10_decide_1 : decode cX10_decide 1 = .ok (.iload_n 1, 1) := by decide +kernel
theorem dX10_decide_2 : decode cX10_decide 2 = .ok (.invokevirtual 202, 3) := by decide +kernel
theorem dX10_decide_5 : decode cX10_decide 5 = .ok (.astore_n 2, 1) := by decide +kernel
theorem dX10_decide_6 : decode cX10_decide 6 = .ok (.aload_n 2, 1) := by decide +kernel
theorem dX10_decide_7 : decode cX10_decide 7 = .ok (.aload_n 0, 1) := by decide +kernel
theorem dX10_decide_8 : decode cX10_decide 8 = .ok (.getfield 76, 3) := by decide +kernel
theorem dX10_decide_11 : decode cX10_decide 11 = .ok (.invokevirtual 227, 3) := by decide +kernel
theorem dX10_decide_14 : decode cX10_decide 14 = .ok (.ifCond .eq 16, 3) := by decide +kernel
theorem dX10_decide_17 : decode cX10_decide 17 = .ok (.aload_n 0, 1) := by decide +kernel
theorem dX10_decide_18 : decode cX10_decide 18 = .ok (.getfield 151, 3) := by decide +kernel
theorem dX10_decide_21 : decode cX10_decide 21 = .ok (.bipush 100, 2) := by decide +kernel
theorem dX10_decide_23 : decode cX10_decide 23 = .ok (.if_icmp .ge 7, 3) := by decide +kernel
theorem dX10_decide_26 : decode cX10_decide 26 = .ok (.iconst 1, 1) := by decide +kernel
theorem dX10_decide_27 : decode cX10_decide 27 = .ok (.goto 4, 3) := by decide +kernel
theorem dX10_decide_30 : decode cX10_decide 30 = .ok (.iconst 0, 1) := by decide +kernel
theorem dX10_decide_31 : decode cX10_decide 31 = .ok (.invokestatic 71, 3) := by decide +kernel
theorem dX10_decide_34 : decode cX10_decide 34 = .ok (.aload_n 2, 1) := by decide +kernel
theorem dX10_decide_35 : decode cX10_decide 35 = .ok (.aload_n 0, 1) := by decide +kernel
theorem dX10_decide_36 : decode cX10_decide 36 = .ok (.getfield 76, 3) := by decide +kernel
theorem dX10_decide_39 : decode cX10_decide 39 = .ok (.putfield 230, 3) := by decide +kernel
theorem dX10_decide_42 : decode cX10_decide 42 = .ok (.aload_n 2, 1) := by decide +kernel
theorem dX10_decide_43 : decode cX10_decide 43 = .ok (.invokevirtual 233, 3) := by decide +kernel
theorem dX10_decide_46 : decode cX10_decide 46 = .ok (.ifCond .eq 86, 3) := by decide +kernel
theorem dX10_decide_49 : decode cX10_decide 49 = .ok (.aload_n 0, 1) := by decide +kernel
theorem dX10_decide_50 : decode cX10_decide 50 = .ok (.aload_n 2, 1) := by decide +kernel
theorem dX10_decide_51 : decode cX10_decide 51 = .ok (.getfield 236, 3) := by decide +kernel
theorem dX10_decide_54 : decode cX10_decide 54 = .ok (.aload_n 2, 1) := by decide +kernel
theorem dX10_decide_55 : decode cX10_decide 55 = .ok (.getfield 240, 3) := by decide +kernel
theorem dX10_decide_58 : decode cX10_decide 58 = .ok (.aload_n 2, 1) := by decide +kernel
theorem dX10_decide_59 : decode cX10_decide 59 = .ok (.getfield 243, 3) := by decide +kernel
theorem dX10_decide_62 : decode cX10_decide 62 = .ok (.aload_n 2, 1) := by decide +kernel
theorem dX10_decide_63 : decode cX10_decide 63 = .ok (.getfield 247, 3) := by decide +kernel
theorem dX10_decide_66 : decode cX10_decide 66 = .ok (.invokevirtual 154, 3) := by decide +kernel
theorem dX10_decide_69 : decode cX10_decide 69 = .ok (.ifCond .ne 63, 3) := by decide +kernel
theorem dX10_decide_72 : decode cX10_decide 72 = .ok (.aload_n 2, 1) := by decide +kernel
theorem dX10_decide_73 : decode cX10_decide 73 = .ok (.iconst 1, 1) := by decide +kernel
theorem dX10_decide_74 : decode cX10_decide 74 = .ok (.putfield 209, 3) := by decide +kernel
theorem dX10_decide_77 : decode cX10_decide 77 = .ok (.aload_n 2, 1) := by decide +kernel
theorem dX10_decide_78 : decode cX10_decide 78 = .ok (.new 161, 3) := by decide +kernel
theorem dX10_decide_81 : decode cX10_decide 81 = .ok (.dup, 1) := by decide +kernel
theorem dX10_decide_82 : decode cX10_decide 82 = .ok (.aload_n 2, 1) := by decide +kernel
theorem dX10_decide_83 : decode cX10_decide 83 = .ok (.getfield 240, 3) := by decide +kernel
theorem dX10_decide_86 : decode cX10_decide 86 = .ok (.aload_n 2, 1) := by decide +kernel
theorem dX10_decide_87 : decode cX10_decide 87 = .ok (.getfield 243, 3) := by decide +kernel
theorem dX10_decide_90 : decode cX10_decide 90 = .ok (.aload_n 2, 1) := by decide +kernel
theorem dX10_decide_91 : decode cX10_decide 91 = .ok (.getfield 247, 3) := by decide +kernel
theorem dX10_decide_94 : decode cX10_decide 94 = .ok (.aload_n 0, 1) := by decide +kernel
theorem dX10_decide_95 : decode cX10_decide 95 = .ok (.getfield 76, 3) := by decide +kernel
theorem dX10_decide_98 : decode cX10_decide 98 = .ok (.invokespecial 163, 3) := by decide +kernel
theorem dX10_decide_101 : decode cX10_decide 101 = .ok (.putfield 250, 3) := by decide +kernel
theorem dX10_decide_104 : decode cX10_decide 104 = .ok (.aload_n 2, 1) := by decide +kernel
theorem dX10_decide_105 : decode cX10_decide 105 = .ok (.getfield 236, 3) := by decide +kernel
theorem dX10_decide_108 : decode cX10_decide 108 = .ok (.getfield 158, 3) := by decide +kernel
theorem dX10_decide_111 : decode cX10_decide 111 = .ok (.aload_n 2, 1) := by decide +kernel
theorem dX10_decide_112 : decode cX10_decide 112 = .ok (.getfield 250, 3) := by decide +kernel
theorem dX10_decide_115 : decode cX10_decide 115 = .ok (.invokevirtual 55, 3) := by decide +kernel
theorem dX10_decide_118 : decode cX10_decide 118 = .ok (.pop, 1) := by decide +kernel
theorem dX10_decide_119 : decode cX10_decide 119 = .ok (.aload_n 0, 1) := by decide +kernel
theorem dX10_decide_120 : decode cX10_decide 120 = .ok (.dup, 1) := by decide +kernel
theorem dX10_decide_121 : decode cX10_decide 121 = .ok (.getfield 151, 3) := by decide +kernel
theorem dX10_decide_124 : decode cX10_decide 124 = .ok (.iconst 1, 1) := by decide +kernel
theorem dX10_decide_125 : decode cX10_decide 125 = .ok (.iadd, 1) := by decide +kernel
theorem dX10_decide_126 : decode cX10_decide 126 = .ok (.putfield 151, 3) := by decide +kernel
theorem dX10_decide_129 : decode cX10_decide 129 = .ok (.goto 8, 3) := by decide +kernel
theorem dX10_decide_132 : decode cX10_decide 132 = .ok (.aload_n 2, 1) := by decide +kernel
theorem dX10_decide_133 : decode cX10_decide 133 = .ok (.iconst 2, 1) := by decide +kernel
theorem dX10_decide_134 : decode cX10_decide 134 = .ok (.putfield 209, 3) := by decide +kernel
theorem dX10_decide_137 : decode cX10_decide 137 = .ok (.aload_n 2, 1) := by decide +kernel
theorem dX10_decide_138 : decode cX10_decide 138 = .ok (.getfield 209, 3) := by decide +kernel
theorem dX10_decide_141 : decode cX10_decide 141 = .ok (.ireturn, 1) := by decide +kernel
theorem dX10_appeal_0 : decode cX10_appeal 0 = .ok (.aload_n 0, 1) := by decide +kernel
theorem dX10_appeal_1 : decode cX10_appeal 1 = .ok (.iload_n 1, 1) := by decide +kernel
theorem dX10_appeal_2 : decode cX10_appeal 2 = .ok (.invokevirtual 202, 3) := by decide +kernel
theorem dX10_appeal_5 : decode cX10_appeal 5 = .ok (.astore_n 2, 1) := by decide +kernel
theorem dX10_appeal_6 : decode cX10_appeal 6 = .ok (.aload_n 2, 1) := by decide +kernel
theorem dX10_appeal_7 : decode cX10_appeal 7 = .ok (.getfield 209, 3) := by decide +kernel
theorem dX10_appeal_10 : decode cX10_appeal 10 = .ok (.iconst 1, 1) := by decide +kernel
theorem dX10_appeal_11 : decode cX10_appeal 11 = .ok (.if_icmp .ne 21, 3) := by decide +kernel
theorem dX10_appeal_14 : decode cX10_appeal 14 = .ok (.aload_n 0, 1) := by decide +kernel
theorem dX10_appeal_15 : decode cX10_appeal 15 = .ok (.getfield 76, 3) := by decide +kernel
theorem dX10_appeal_18 : decode cX10_appeal 18 = .ok (.aload_n 2, 1) := by decide +kernel
theorem dX10_appeal_19 : decode cX10_appeal 19 = .ok (.getfield 230, 3) := by decide +kernel
theorem dX10_appeal_22 : decode cX10_appeal 22 = .ok (.isub, 1) := by decide +kernel
theorem dX10_appeal_23 : decode cX10_appeal 23 = .ok (.bipush 60, 2) := by decide +kernel
theorem dX10_appeal_25 : decode cX10_appeal 25 = .ok (.if_icmp .gt 7, 3) := by decide +kernel
theorem dX10_appeal_28 : decode cX10_appeal 28 = .ok (.iconst 1, 1) := by decide +kernel
theorem dX10_appeal_29 : decode cX10_appeal 29 = .ok (.goto 4, 3) := by decide +kernel
theorem dX10_appeal_32 : decode cX10_appeal 32 = .ok (.iconst 0, 1) := by decide +kernel
theorem dX10_appeal_33 : decode cX10_appeal 33 = .ok (.invokestatic 71, 3) := by decide +kernel
theorem dX10_appeal_36 : decode cX10_appeal 36 = .ok (.aload_n 2, 1) := by decide +kernel
theorem dX10_appeal_37 : decode cX10_appeal 37 = .ok (.iconst 3, 1) := by decide +kernel
theorem dX10_appeal_38 : decode cX10_appeal 38 = .ok (.putfield 209, 3) := by decide +kernel
theorem dX10_appeal_41 : decode cX10_appeal 41 = .ok (.aload_n 2, 1) := by decide +kernel
theorem dX10_appeal_42 : decode cX10_appeal 42 = .ok (.getfield 250, 3) := by decide +kernel
theorem dX10_appeal_45 : decode cX10_appeal 45 = .ok (.astore_n 3, 1) := by decide +kernel
theorem dX10_appeal_46 : decode cX10_appeal 46 = .ok (.aload_n 3, 1) := by decide +kernel
theorem dX10_appeal_47 : decode cX10_appeal 47 = .ok (.ifnull 16, 3) := by decide +kernel
theorem dX10_appeal_50 : decode cX10_appeal 50 = .ok (.aload_n 3, 1) := by decide +kernel
theorem dX10_appeal_51 : decode cX10_appeal 51 = .ok (.iconst 1, 1) := by decide +kernel
theorem dX10_appeal_52 : decode cX10_appeal 52 = .ok (.putfield 254, 3) := by decide +kernel
theorem dX10_appeal_55 : decode cX10_appeal 55 = .ok (.aload_n 3, 1) := by decide +kernel
theorem dX10_appeal_56 : decode cX10_appeal 56 = .ok (.aload_n 0, 1) := by decide +kernel
theorem dX10_appeal_57 : decode cX10_appeal 57 = .ok (.getfield 76, 3) := by decide +kernel
theorem dX10_appeal_60 : decode cX10_appeal 60 = .ok (.putfield 257, 3) := by decide +kernel
theorem dX10_appeal_63 : decode cX10_appeal 63 = .ok (.aload_n 0, 1) := by decide +kernel
theorem dX10_appeal_64 : decode cX10_appeal 64 = .ok (.getfield 76, 3) := by decide +kernel
theorem dX10_appeal_67 : decode cX10_appeal 67 = .ok (.aload_n 2, 1) := by decide +kernel
theorem dX10_appeal_68 : decode cX10_appeal 68 = .ok (.getfield 230, 3) := by decide +kernel
theorem dX10_appeal_71 : decode cX10_appeal 71 = .ok (.isub, 1) := by decide +kernel
theorem dX10_appeal_72 : decode cX10_appeal 72 = .ok (.ireturn, 1) := by decide +kernel
theorem dX10_petitionOf_0 : decode cX10_petitionOf 0 = .ok (.aload_n 0, 1) := by decide +kernel
theorem dX10_petitionOf_1 : decode cX10_petitionOf 1 = .ok (.iload_n 1, 1) := by decide +kernel
theorem dX10_petitionOf_2 : decode cX10_petitionOf 2 = .ok (.invokevirtual 202, 3) := by decide +kernel
theorem dX10_petitionOf_5 : decode cX10_petitionOf 5 = .ok (.astore_n 3, 1) := by decide +kernel
theorem dX10_petitionOf_6 : decode cX10_petitionOf 6 = .ok (.iload_n 2, 1) := by decide +kernel
theorem dX10_petitionOf_7 : decode cX10_petitionOf 7 = .ok (.ifCond .lt 12, 3) := by decide +kernel
theorem dX10_petitionOf_10 : decode cX10_petitionOf 10 = .ok (.iload_n 2, 1) := by decide +kernel
theorem dX10_petitionOf_11 : decode cX10_petitionOf 11 = .ok (.iconst 4, 1) := by decide +kernel
theorem dX10_petitionOf_12 : decode cX10_petitionOf 12 = .ok (.if_icmp .gt 7, 3) := by decide +kernel
theorem dX10_petitionOf_15 : decode cX10_petitionOf 15 = .ok (.iconst 1, 1) := by decide +kernel
theorem dX10_petitionOf_16 : decode cX10_petitionOf 16 = .ok (.goto 4, 3) := by decide +kernel
theorem dX10_petitionOf_19 : decode cX10_petitionOf 19 = .ok (.iconst 0, 1) := by decide +kernel
theorem dX10_petitionOf_20 : decode cX10_petitionOf 20 = .ok (.invokestatic 63, 3) := by decide +kernel
theorem dX10_petitionOf_23 : decode cX10_petitionOf 23 = .ok (.iload_n 2, 1) := by decide +kernel
theorem dX10_petitionOf_24 : decode cX10_petitionOf 24 = .ok (.tableswitch 61 0 3 #[32, 37, 45, 53], 32) := by decide +kernel
theorem dX10_petitionOf_56 : decode cX10_petitionOf 56 = .ok (.aload_n 3, 1) := by decide +kernel
theorem dX10_petitionOf_57 : decode cX10_petitionOf 57 = .ok (.getfield 209, 3) := by decide +kernel
theorem dX10_petitionOf_60 : decode cX10_petitionOf 60 = .ok (.ireturn, 1) := by decide +kernel
theorem dX10_petitionOf_61 : decode cX10_petitionOf 61 = .ok (.aload_n 3, 1) := by decide +kernel
theorem dX10_petitionOf_62 : decode cX10_petitionOf 62 = .ok (.getfield 215, 3) := by decide +kernel
theorem dX10_petitionOf_65 : decode cX10_petitionOf 65 = .ok (.invokestatic 260, 3) := by decide +kernel
theorem dX10_petitionOf_68 : decode cX10_petitionOf 68 = .ok (.ireturn, 1) := by decide +kernel
theorem dX10_petitionOf_69 : decode cX10_petitionOf 69 = .ok (.aload_n 3, 1) := by decide +kernel
theorem dX10_petitionOf_70 : decode cX10_petitionOf 70 = .ok (.getfield 218, 3) := by decide +kernel
theorem dX10_petitionOf_73 : decode cX10_petitionOf 73 = .ok (.invokestatic 260, 3) := by decide +kernel
theorem dX10_petitionOf_76 : decode cX10_petitionOf 76 = .ok (.ireturn, 1) := by decide +kernel
theorem dX10_petitionOf_77 : decode cX10_petitionOf 77 = .ok (.aload_n 3, 1) := by decide +kernel
theorem dX10_petitionOf_78 : decode cX10_petitionOf 78 = .ok (.getfield 224, 3) := by decide +kernel
theorem dX10_petitionOf_81 : decode cX10_petitionOf 81 = .ok (.invokestatic 260, 3) := by decide +kernel
theorem dX10_petitionOf_84 : decode cX10_petitionOf 84 = .ok (.ireturn, 1) := by decide +kernel
theorem dX10_petitionOf_85 : decode cX10_petitionOf 85 = .ok (.aload_n 3, 1) := by decide +kernel
theorem dX10_petitionOf_86 : decode cX10_petitionOf 86 = .ok (.getfield 230, 3) := by decide +kernel
theorem dX10_petitionOf_89 : decode cX10_petitionOf 89 = .ok (.ireturn, 1) := by decide +kernel
theorem dX10_census_0 : decode cX10_census 0 = .ok (.aload_n 0, 1) := by decide +kernel
theorem dX10_census_1 : decode cX10_census 1 = .ok (.iload_n 1, 1) := by decide +kernel
theorem dX10_census_2 : decode cX10_census 2 = .ok (.invokevirtual 96, 3) := by decide +kernel
theorem dX10_census_5 : decode cX10_census 5 = .ok (.astore 4, 2) := by decide +kernel
theorem dX10_census_7 : decode cX10_census 7 = .ok (.iload_n 2, 1) := by decide +kernel
theorem dX10_census_8 : decode cX10_census 8 = .ok (.invokestatic 144, 3) := by decide +kernel
theorem dX10_census_11 : decode cX10_census 11 = .ok (.iload_n 3, 1) := by decide +kernel
theorem dX10_census_12 : decode cX10_census 12 = .ok (.ifCond .lt 13, 3) := by decide +kernel
theorem dX10_census_15 : decode cX10_census 15 = .ok (.iload_n 3, 1) := by decide +kernel
theorem dX10_census_16 : decode cX10_census 16 = .ok (.bipush 100, 2) := by decide +kernel
theorem dX10_census_18 : decode cX10_census 18 = .ok (.if_icmp .gt 7, 3) := by decide +kernel
theorem dX10_census_21 : decode cX10_census 21 = .ok (.iconst 1, 1) := by decide +kernel
theorem dX10_census_22 : decode cX10_census 22 = .ok (.goto 4, 3) := by decide +kernel
theorem dX10_census_25 : decode cX10_census 25 = .ok (.iconst 0, 1) := by decide +kernel
theorem dX10_census_26 : decode cX10_census 26 = .ok (.invokestatic 63, 3) := by decide +kernel
theorem dX10_census_29 : decode cX10_census 29 = .ok (.aload 4, 2) := by decide +kernel
theorem dX10_census_31 : decode cX10_census 31 = .ok (.iload_n 2, 1) := by decide +kernel
theorem dX10_census_32 : decode cX10_census 32 = .ok (.invokevirtual 265, 3) := by decide +kernel
theorem dX10_census_35 : decode cX10_census 35 = .ok (.istore 5, 2) := by decide +kernel
theorem dX10_census_37 : decode cX10_census 37 = .ok (.aload 4, 2) := by decide +kernel
theorem dX10_census_39 : decode cX10_census 39 = .ok (.iload_n 2, 1) := by decide +kernel
theorem dX10_census_40 : decode cX10_census 40 = .ok (.iload_n 3, 1) := by decide +kernel
theorem dX10_census_41 : decode cX10_census 41 = .ok (.invokevirtual 268, 3) := by decide +kernel
theorem dX10_census_44 : decode cX10_census 44 = .ok (.iload 5, 2) := by decide +kernel
theorem dX10_census_46 : decode cX10_census 46 = .ok (.ireturn, 1) := by decide +kernel
theorem dX10_dispute_0 : decode cX10_dispute 0 = .ok (.aload_n 0, 1) := by decide +kernel
theorem dX10_dispute_1 : decode cX10_dispute 1 = .ok (.iload_n 1, 1) := by decide +kernel
theorem dX10_dispute_2 : decode cX10_dispute 2 = .ok (.invokevirtual 96, 3) := by decide +kernel
theorem dX10_dispute_5 : decode cX10_dispute 5 = .ok (.astore 4, 2) := by decide +kernel
theorem dX10_dispute_7 : decode cX10_dispute 7 = .ok (.iload_n 2, 1) := by decide +kernel
theorem dX10_dispute_8 : decode cX10_dispute 8 = .ok (.invokestatic 144, 3) := by decide +kernel
theorem dX10_dispute_11 : decode cX10_dispute 11 = .ok (.iload_n 3, 1) := by decide +kernel
theorem dX10_dispute_12 : decode cX10_dispute 12 = .ok (.invokestatic 144, 3) := by decide +kernel
theorem dX10_dispute_15 : decode cX10_dispute 15 = .ok (.aload 4, 2) := by decide +kernel
theorem dX10_dispute_17 : decode cX10_dispute 17 = .ok (.iload_n 2, 1) := by decide +kernel
theorem dX10_dispute_18 : decode cX10_dispute 18 = .ok (.putfield 271, 3) := by decide +kernel
theorem dX10_dispute_21 : decode cX10_dispute 21 = .ok (.aload 4, 2) := by decide +kernel
theorem dX10_dispute_23 : decode cX10_dispute 23 = .ok (.iload_n 3, 1) := by decide +kernel
theorem dX10_dispute_24 : decode cX10_dispute 24 = .ok (.putfield 274, 3) := by decide +kernel
theorem dX10_dispute_27 : decode cX10_dispute 27 = .ok (.return_, 1) := by decide +kernel
theorem dX10_shown_0 : decode cX10_shown 0 = .ok (.aload_n 0, 1) := by decide +kernel
theorem dX10_shown_1 : decode cX10_shown 1 = .ok (.iload_n 1, 1) := by decide +kernel
theorem dX10_shown_2 : decode cX10_shown 2 = .ok (.invokevirtual 96, 3) := by decide +kernel
theorem dX10_shown_5 : decode cX10_shown 5 = .ok (.astore_n 3, 1) := by decide +kernel
theorem dX10_shown_6 : decode cX10_shown 6 = .ok (.iload_n 2, 1) := by decide +kernel
theorem dX10_shown_7 : decode cX10_shown 7 = .ok (.invokestatic 100, 3) := by decide +kernel
theorem dX10_shown_10 : decode cX10_shown 10 = .ok (.invokestatic 63, 3) := by decide +kernel
theorem dX10_shown_13 : decode cX10_shown 13 = .ok (.iconst 0, 1) := by decide +kernel
theorem dX10_shown_14 : decode cX10_shown 14 = .ok (.istore 4, 2) := by decide +kernel
theorem dX10_shown_16 : decode cX10_shown 16 = .ok (.iconst (-1), 1) := by decide +kernel
theorem dX10_shown_17 : decode cX10_shown 17 = .ok (.istore 5, 2) := by decide +kernel
theorem dX10_shown_19 : decode cX10_shown 19 = .ok (.iconst 0, 1) := by decide +kernel
theorem dX10_shown_20 : decode cX10_shown 20 = .ok (.istore 6, 2) := by decide +kernel
theorem dX10_shown_22 : decode cX10_shown 22 = .ok (.iload 6, 2) := by decide +kernel
theorem dX10_shown_24 : decode cX10_shown 24 = .ok (.iconst 4, 1) := by decide +kernel
theorem dX10_shown_25 : decode cX10_shown 25 = .ok (.if_icmp .ge 71, 3) := by decide +kernel
theorem dX10_shown_28 : decode cX10_shown 28 = .ok (.aload_n 0, 1) := by decide +kernel
theorem dX10_shown_29 : decode cX10_shown 29 = .ok (.aload_n 3, 1) := by decide +kernel
theorem dX10_shown_30 : decode cX10_shown 30 = .ok (.iload 6, 2) := by decide +kernel
theorem dX10_shown_32 : decode cX10_shown 32 = .ok (.iload_n 2, 1) := by decide +kernel
theorem dX10_shown_33 : decode cX10_shown 33 = .ok (.aload_n 0, 1) := by decide +kernel
theorem dX10_shown_34 : decode cX10_shown 34 = .ok (.getfield 76, 3) := by decide +kernel
theorem dX10_shown_37 : decode cX10_shown 37 = .ok (.invokevirtual 193, 3) := by decide +kernel
theorem dX10_shown_40 : decode cX10_shown 40 = .ok (.lconst 0, 1) := by decide +kernel
theorem dX10_shown_41 : decode cX10_shown 41 = .ok (.lcmp, 1) := by decide +kernel
theorem dX10_shown_42 : decode cX10_shown 42 = .ok (.ifCond .eq 48, 3) := by decide +kernel
theorem dX10_shown_45 : decode cX10_shown 45 = .ok (.aload_n 3, 1) := by decide +kernel
theorem dX10_shown_46 : decode cX10_shown 46 = .ok (.iload 6, 2) := by decide +kernel
theorem dX10_shown_48 : decode cX10_shown 48 = .ok (.invokevirtual 265, 3) := by decide +kernel
theorem dX10_shown_51 : decode cX10_shown 51 = .ok (.bipush 20, 2) := by decide +kernel
theorem dX10_shown_53 : decode cX10_shown 53 = .ok (.if_icmp .lt 12, 3) := by decide +kernel
theorem dX10_shown_56 : decode cX10_shown 56 = .ok (.iload 4, 2) := by decide +kernel
theorem dX10_shown_58 : decode cX10_shown 58 = .ok (.iconst 1, 1) := by decide +kernel
theorem dX10_shown_59 : decode cX10_shown 59 = .ok (.iload 6, 2) := by decide +kernel
theorem dX10_shown_61 : decode cX10_shown 61 = .ok (.ishl, 1) := by decide +kernel
theorem dX10_shown_62 : decode cX10_shown 62 = .ok (.ior, 1) := by decide +kernel
theorem dX10_shown_63 : decode cX10_shown 63 = .ok (.istore 4, 2) := by decide +kernel
theorem dX10_shown_65 : decode cX10_shown 65 = .ok (.iload 5, 2) := by decide +kernel
theorem dX10_shown_67 : decode cX10_shown 67 = .ok (.iconst (-1), 1) := by decide +kernel
theorem dX10_shown_68 : decode cX10_shown 68 = .ok (.if_icmp .eq 18, 3) := by decide +kernel
theorem dX10_shown_71 : decode cX10_shown 71 = .ok (.aload_n 3, 1) := by decide +kernel
theorem dX10_shown_72 : decode cX10_shown 72 = .ok (.iload 6, 2) := by decide +kernel
theorem dX10_shown_74 : decode cX10_shown 74 = .ok (.invokevirtual 265, 3) := by decide +kernel
theorem dX10_shown_77 : decode cX10_shown 77 = .ok (.aload_n 3, 1) := by decide +kernel
theorem dX10_shown_78 : decode cX10_shown 78 = .ok (.iload 5, 2) := by decide +kernel
theorem dX10_shown_80 : decode cX10_shown 80 = .ok (.invokevirtual 265, 3) := by decide +kernel
theorem dX10_shown_83 : decode cX10_shown 83 = .ok (.if_icmp .le 7, 3) := by decide +kernel
theorem dX10_shown_86 : decode cX10_shown 86 = .ok (.iload 6, 2) := by decide +kernel
theorem dX10_shown_88 : decode cX10_shown 88 = .ok (.istore 5, 2) := by decide +kernel
theorem dX10_shown_90 : decode cX10_shown 90 = .ok (.iinc 6 1, 3) := by decide +kernel
theorem dX10_shown_93 : decode cX10_shown 93 = .ok (.goto (-71), 3) := by decide +kernel
theorem dX10_shown_96 : decode cX10_shown 96 = .ok (.iload 4, 2) := by decide +kernel
theorem dX10_shown_98 : decode cX10_shown 98 = .ok (.ifCond .ne 9, 3) := by decide +kernel
theorem dX10_shown_101 : decode cX10_shown 101 = .ok (.iload 5, 2) := by decide +kernel
theorem dX10_shown_103 : decode cX10_shown 103 = .ok (.iconst (-1), 1) := by decide +kernel
theorem dX10_shown_104 : decode cX10_shown 104 = .ok (.if_icmp .ne 6, 3) := by decide +kernel
theorem dX10_shown_107 : decode cX10_shown 107 = .ok (.iload 4, 2) := by decide +kernel
theorem dX10_shown_109 : decode cX10_shown 109 = .ok (.ireturn, 1) := by decide +kernel
theorem dX10_shown_110 : decode cX10_shown 110 = .ok (.iconst 1, 1) := by decide +kernel
theorem dX10_shown_111 : decode cX10_shown 111 = .ok (.iload 5, 2) := by decide +kernel
theorem dX10_shown_113 : decode cX10_shown 113 = .ok (.ishl, 1) := by decide +kernel
theorem dX10_shown_114 : decode cX10_shown 114 = .ok (.ireturn, 1) := by decide +kernel
theorem dX10_display_0 : decode cX10_display 0 = .ok (.aload_n 0, 1) := by decide +kernel
theorem dX10_display_1 : decode cX10_display 1 = .ok (.iload_n 1, 1) := by decide +kernel
theorem dX10_display_2 : decode cX10_display 2 = .ok (.invokevirtual 96, 3) := by decide +kernel
theorem dX10_display_5 : decode cX10_display 5 = .ok (.astore_n 3, 1) := by decide +kernel
theorem dX10_display_6 : decode cX10_display 6 = .ok (.iload_n 2, 1) := by decide +kernel
theorem dX10_display_7 : decode cX10_display 7 = .ok (.invokestatic 144, 3) := by decide +kernel
theorem dX10_display_10 : decode cX10_display 10 = .ok (.aload_n 0, 1) := by decide +kernel
theorem dX10_display_11 : decode cX10_display 11 = .ok (.aload_n 3, 1) := by decide +kernel
theorem dX10_display_12 : decode cX10_display 12 = .ok (.iload_n 2, 1) := by decide +kernel
theorem dX10_display_13 : decode cX10_display 13 = .ok (.invokevirtual 277, 3) := by decide +kernel
theorem dX10_display_16 : decode cX10_display 16 = .ok (.lreturn, 1) := by decide +kernel
theorem dX10_table_0 : decode cX10_table 0 = .ok (.aload_n 0, 1) := by decide +kernel
theorem dX10_table_1 : decode cX10_table 1 = .ok (.iload_n 1, 1) := by decide +kernel
theorem dX10_table_2 : decode cX10_table 2 = .ok (.invokevirtual 281, 3) := by decide +kernel
theorem dX10_table_5 : decode cX10_table 5 = .ok (.astore 4, 2) := by decide +kernel
theorem dX10_table_7 : decode cX10_table 7 = .ok (.iload_n 2, 1) := by decide +kernel
theorem dX10_table_8 : decode cX10_table 8 = .ok (.invokestatic 166, 3) := by decide +kernel
theorem dX10_table_11 : decode cX10_table 11 = .ok (.ifCond .eq 14, 3) := by decide +kernel
theorem dX10_table_14 : decode cX10_table 14 = .ok (.iload_n 3, 1) := by decide +kernel
theorem dX10_table_15 : decode cX10_table 15 = .ok (.invokestatic 166, 3) := by decide +kernel
theorem dX10_table_18 : decode cX10_table 18 = .ok (.ifCond .eq 7, 3) := by decide +kernel
theorem dX10_table_21 : decode cX10_table 21 = .ok (.iconst 1, 1) := by decide +kernel
theorem dX10_table_22 : decode cX10_table 22 = .ok (.goto 4, 3) := by decide +kernel
theorem dX10_table_25 : decode cX10_table 25 = .ok (.iconst 0, 1) := by decide +kernel
theorem dX10_table_26 : decode cX10_table 26 = .ok (.invokestatic 63, 3) := by decide +kernel
theorem dX10_table_29 : decode cX10_table 29 = .ok (.aload 4, 2) := by decide +kernel
theorem dX10_table_31 : decode cX10_table 31 = .ok (.iload_n 2, 1) := by decide +kernel
theorem dX10_table_32 : decode cX10_table 32 = .ok (.invokevirtual 285, 3) := by decide +kernel
theorem dX10_table_35 : decode cX10_table 35 = .ok (.istore 5, 2) := by decide +kernel
theorem dX10_table_37 : decode cX10_table 37 = .ok (.aload 4, 2) := by decide +kernel
theorem dX10_table_39 : decode cX10_table 39 = .ok (.iload_n 2, 1) := by decide +kernel
theorem dX10_table_40 : decode cX10_table 40 = .ok (.iload_n 3, 1) := by decide +kernel
theorem dX10_table_41 : decode cX10_table 41 = .ok (.invokevirtual 288, 3) := by decide +kernel
theorem dX10_table_44 : decode cX10_table 44 = .ok (.iload 5, 2) := by decide +kernel
theorem dX10_table_46 : decode cX10_table 46 = .ok (.ireturn, 1) := by decide +kernel
theorem dX10_write_0 : decode cX10_write 0 = .ok (.aload_n 0, 1) := by decide +kernel
theorem dX10_write_1 : decode cX10_write 1 = .ok (.iload_n 3, 1) := by decide +kernel
theorem dX10_write_2 : decode cX10_write 2 = .ok (.invokevirtual 281, 3) := by decide +kernel
theorem dX10_write_5 : decode cX10_write 5 = .ok (.astore 4, 2) := by decide +kernel
theorem dX10_write_7 : decode cX10_write 7 = .ok (.lload_n 1, 1) := by decide +kernel
theorem dX10_write_8 : decode cX10_write 8 = .ok (.bipush 12, 2) := by decide +kernel
theorem dX10_write_10 : decode cX10_write 10 = .ok (.invokestatic 147, 3) := by decide +kernel
theorem dX10_write_13 : decode cX10_write 13 = .ok (.invokestatic 63, 3) := by decide +kernel
theorem dX10_write_16 : decode cX10_write 16 = .ok (.lload_n 1, 1) := by decide +kernel
theorem dX10_write_17 : decode cX10_write 17 = .ok (.invokestatic 291, 3) := by decide +kernel
theorem dX10_write_20 : decode cX10_write 20 = .ok (.lstore 5, 2) := by decide +kernel
theorem dX10_write_22 : decode cX10_write 22 = .ok (.lconst 0, 1) := by decide +kernel
theorem dX10_write_23 : decode cX10_write 23 = .ok (.lstore 7, 2) := by decide +kernel
theorem dX10_write_25 : decode cX10_write 25 = .ok (.iconst 0, 1) := by decide +kernel
theorem dX10_write_26 : decode cX10_write 26 = .ok (.istore 9, 2) := by decide +kernel
theorem dX10_write_28 : decode cX10_write 28 = .ok (.iload 9, 2) := by decide +kernel
theorem dX10_write_30 : decode cX10_write 30 = .ok (.bipush 12, 2) := by decide +kernel
theorem dX10_write_32 : decode cX10_write 32 = .ok (.if_icmp .ge 46, 3) := by decide +kernel
theorem dX10_write_35 : decode cX10_write 35 = .ok (.lload 5, 2) := by decide +kernel
theorem dX10_write_37 : decode cX10_write 37 = .ok (.lconst 0, 1) := by decide +kernel
theorem dX10_write_38 : decode cX10_write 38 = .ok (.lcmp, 1) := by decide +kernel
theorem dX10_write_39 : decode cX10_write 39 = .ok (.ifCond .le 39, 3) := by decide +kernel
theorem dX10_write_42 : decode cX10_write 42 = .ok (.lload 7, 2) := by decide +kernel
theorem dX10_write_44 : decode cX10_write 44 = .ok (.ldc2_w 295, 3) := by decide +kernel
theorem dX10_write_47 : decode cX10_write 47 = .ok (.lmul, 1) := by decide +kernel
theorem dX10_write_48 : decode cX10_write 48 = .ok (.aload 4, 2) := by decide +kernel
theorem dX10_write_50 : decode cX10_write 50 = .ok (.lload 5, 2) := by decide +kernel
theorem dX10_write_52 : decode cX10_write 52 = .ok (.ldc2_w 295, 3) := by decide +kernel
theorem dX10_write_55 : decode cX10_write 55 = .ok (.lrem, 1) := by decide +kernel
theorem dX10_write_56 : decode cX10_write 56 = .ok (.l2i, 1) := by decide +kernel
theorem dX10_write_57 : decode cX10_write 57 = .ok (.invokevirtual 285, 3) := by decide +kernel
theorem dX10_write_60 : decode cX10_write 60 = .ok (.i2l, 1) := by decide +kernel
theorem dX10_write_61 : decode cX10_write 61 = .ok (.ladd, 1) := by decide +kernel
theorem dX10_write_62 : decode cX10_write 62 = .ok (.lstore 7, 2) := by decide +kernel
theorem dX10_write_64 : decode cX10_write 64 = .ok (.lload 5, 2) := by decide +kernel
theorem dX10_write_66 : decode cX10_write 66 = .ok (.ldc2_w 295, 3) := by decide +kernel
theorem dX10_write_69 : decode cX10_write 69 = .ok (.ldiv, 1) := by decide +kernel
theorem dX10_write_70 : decode cX10_write 70 = .ok (.lstore 5, 2) := by decide +kernel
theorem dX10_write_72 : decode cX10_write 72 = .ok (.iinc 9 1, 3) := by decide +kernel
theorem dX10_write_75 : decode cX10_write 75 = .ok (.goto (-47), 3) := by decide +kernel
theorem dX10_write_78 : decode cX10_write 78 = .ok (.lload 7, 2) := by decide +kernel
theorem dX10_write_80 : decode cX10_write 80 = .ok (.lreturn, 1) := by decide +kernel
theorem dX10_back_0 : decode cX10_back 0 = .ok (.aload_n 0, 1) := by decide +kernel
theorem dX10_back_1 : decode cX10_back 1 = .ok (.iload_n 3, 1) := by decide +kernel
theorem dX10_back_2 : decode cX10_back 2 = .ok (.invokevirtual 281, 3) := by decide +kernel
theorem dX10_back_5 : decode cX10_back 5 = .ok (.astore 4, 2) := by decide +kernel
theorem dX10_back_7 : decode cX10_back 7 = .ok (.lload_n 1, 1) := by decide +kernel
theorem dX10_back_8 : decode cX10_back 8 = .ok (.bipush 12, 2) := by decide +kernel
theorem dX10_back_10 : decode cX10_back 10 = .ok (.invokestatic 147, 3) := by decide +kernel
theorem dX10_back_13 : decode cX10_back 13 = .ok (.invokestatic 63, 3) := by decide +kernel
theorem dX10_back_16 : decode cX10_back 16 = .ok (.lload_n 1, 1) := by decide +kernel
theorem dX10_back_17 : decode cX10_back 17 = .ok (.invokestatic 291, 3) := by decide +kernel
theorem dX10_back_20 : decode cX10_back 20 = .ok (.lstore 5, 2) := by decide +kernel
theorem dX10_back_22 : decode cX10_back 22 = .ok (.lconst 0, 1) := by decide +kernel
theorem dX10_back_23 : decode cX10_back 23 = .ok (.lstore 7, 2) := by decide +kernel
theorem dX10_back_25 : decode cX10_back 25 = .ok (.iconst 0, 1) := by decide +kernel
theorem dX10_back_26 : decode cX10_back 26 = .ok (.istore 9, 2) := by decide +kernel
theorem dX10_back_28 : decode cX10_back 28 = .ok (.iload 9, 2) := by decide +kernel
theorem dX10_back_30 : decode cX10_back 30 = .ok (.bipush 12, 2) := by decide +kernel
theorem dX10_back_32 : decode cX10_back 32 = .ok (.if_icmp .ge 60, 3) := by decide +kernel
theorem dX10_back_35 : decode cX10_back 35 = .ok (.lload 5, 2) := by decide +kernel
theorem dX10_back_37 : decode cX10_back 37 = .ok (.lconst 0, 1) := by decide +kernel
theorem dX10_back_38 : decode cX10_back 38 = .ok (.lcmp, 1) := by decide +kernel
theorem dX10_back_39 : decode cX10_back 39 = .ok (.ifCond .le 53, 3) := by decide +kernel
theorem dX10_back_42 : decode cX10_back 42 = .ok (.aload 4, 2) := by decide +kernel
theorem dX10_back_44 : decode cX10_back 44 = .ok (.lload 5, 2) := by decide +kernel
theorem dX10_back_46 : decode cX10_back 46 = .ok (.ldc2_w 295, 3) := by decide +kernel
theorem dX10_back_49 : decode cX10_back 49 = .ok (.lrem, 1) := by decide +kernel
theorem dX10_back_50 : decode cX10_back 50 = .ok (.l2i, 1) := by decide +kernel
theorem dX10_back_51 : decode cX10_back 51 = .ok (.invokevirtual 297, 3) := by decide +kernel
theorem dX10_back_54 : decode cX10_back 54 = .ok (.istore 10, 2) := by decide +kernel
theorem dX10_back_56 : decode cX10_back 56 = .ok (.iload 10, 2) := by decide +kernel
theorem dX10_back_58 : decode cX10_back 58 = .ok (.iconst (-1), 1) := by decide +kernel
theorem dX10_back_59 : decode cX10_back 59 = .ok (.if_icmp .ne 7, 3) := by decide +kernel
theorem dX10_back_62 : decode cX10_back 62 = .ok (.ldc2_w 300, 3) := by decide +kernel
theorem dX10_back_65 : decode cX10_back 65 = .ok (.lreturn, 1) := by decide +kernel
theorem dX10_back_66 : decode cX10_back 66 = .ok (.lload 7, 2) := by decide +kernel
theorem dX10_back_68 : decode cX10_back 68 = .ok (.ldc2_w 295, 3) := by decide +kernel
theorem dX10_back_71 : decode cX10_back 71 = .ok (.lmul, 1) := by decide +kernel
theorem dX10_back_72 : decode cX10_back 72 = .ok (.iload 10, 2) := by decide +kernel
theorem dX10_back_74 : decode cX10_back 74 = .ok (.i2l, 1) := by decide +kernel
theorem dX10_back_75 : decode cX10_back 75 = .ok (.ladd, 1) := by decide +kernel
theorem dX10_back_76 : decode cX10_back 76 = .ok (.lstore 7, 2) := by decide +kernel
theorem dX10_back_78 : decode cX10_back 78 = .ok (.lload 5, 2) := by decide +kernel
theorem dX10_back_80 : decode cX10_back 80 = .ok (.ldc2_w 295, 3) := by decide +kernel
theorem dX10_back_83 : decode cX10_back 83 = .ok (.ldiv, 1) := by decide +kernel
theorem dX10_back_84 : decode cX10_back 84 = .ok (.lstore 5, 2) := by decide +kernel
theorem dX10_back_86 : decode cX10_back 86 = .ok (.iinc 9 1, 3) := by decide +kernel
theorem dX10_back_89 : decode cX10_back 89 = .ok (.goto (-61), 3) := by decide +kernel
theorem dX10_back_92 : decode cX10_back 92 = .ok (.lload 7, 2) := by decide +kernel
theorem dX10_back_94 : decode cX10_back 94 = .ok (.lreturn, 1) := by decide +kernel
theorem dX10_loss_0 : decode cX10_loss 0 = .ok (.bipush 26, 2) := by decide +kernel
theorem dX10_loss_2 : decode cX10_loss 2 = .ok (.aload_n 0, 1) := by decide +kernel
theorem dX10_loss_3 : decode cX10_loss 3 = .ok (.iload_n 1, 1) := by decide +kernel
theorem dX10_loss_4 : decode cX10_loss 4 = .ok (.invokevirtual 281, 3) := by decide +kernel
theorem dX10_loss_7 : decode cX10_loss 7 = .ok (.invokevirtual 302, 3) := by decide +kernel
theorem dX10_loss_10 : decode cX10_loss 10 = .ok (.isub, 1) := by decide +kernel
theorem dX10_loss_11 : decode cX10_loss 11 = .ok (.ireturn, 1) := by decide +kernel
theorem dX10_reading_0 : decode cX10_reading 0 = .ok (.lload_n 1, 1) := by decide +kernel
theorem dX10_reading_1 : decode cX10_reading 1 = .ok (.bipush 8, 2) := by decide +kernel
theorem dX10_reading_3 : decode cX10_reading 3 = .ok (.invokestatic 147, 3) := by decide +kernel
theorem dX10_reading_6 : decode cX10_reading 6 = .ok (.ifCond .eq 16, 3) := by decide +kernel
theorem dX10_reading_9 : decode cX10_reading 9 = .ok (.iload_n 3, 1) := by decide +kernel
theorem dX10_reading_10 : decode cX10_reading 10 = .ok (.iload 4, 2) := by decide +kernel
theorem dX10_reading_12 : decode cX10_reading 12 = .ok (.invokestatic 59, 3) := by decide +kernel
theorem dX10_reading_15 : decode cX10_reading 15 = .ok (.ifCond .eq 7, 3) := by decide +kernel
theorem dX10_reading_18 : decode cX10_reading 18 = .ok (.iconst 1, 1) := by decide +kernel
theorem dX10_reading_19 : decode cX10_reading 19 = .ok (.goto 4, 3) := by decide +kernel
theorem dX10_reading_22 : decode cX10_reading 22 = .ok (.iconst 0, 1) := by decide +kernel
theorem dX10_reading_23 : decode cX10_reading 23 = .ok (.invokestatic 63, 3) := by decide +kernel
theorem dX10_reading_26 : decode cX10_reading 26 = .ok (.aload_n 0, 1) := by decide +kernel
theorem dX10_reading_27 : decode cX10_reading 27 = .ok (.getfield 25, 3) := by decide +kernel
theorem dX10_reading_30 : decode cX10_reading 30 = .ok (.invokevirtual 67, 3) := by decide +kernel
theorem dX10_reading_33 : decode cX10_reading 33 = .ok (.iconst 4, 1) := by decide +kernel
theorem dX10_reading_34 : decode cX10_reading 34 = .ok (.if_icmp .ge 7, 3) := by decide +kernel
theorem dX10_reading_37 : decode cX10_reading 37 = .ok (.iconst 1, 1) := by decide +kernel
theorem dX10_reading_38 : decode cX10_reading 38 = .ok (.goto 4, 3) := by decide +kernel
theorem dX10_reading_41 : decode cX10_reading 41 = .ok (.iconst 0, 1) := by decide +kernel
theorem dX10_reading_42 : decode cX10_reading 42 = .ok (.invokestatic 71, 3) := by decide +kernel
theorem dX10_reading_45 : decode cX10_reading 45 = .ok (.aload_n 0, 1) := by decide +kernel
theorem dX10_reading_46 : decode cX10_reading 46 = .ok (.getfield 25, 3) := by decide +kernel
theorem dX10_reading_49 : decode cX10_reading 49 = .ok (.new 305, 3) := by decide +kernel
theorem dX10_reading_52 : decode cX10_reading 52 = .ok (.dup, 1) := by decide +kernel
theorem dX10_reading_53 : decode cX10_reading 53 = .ok (.lload_n 1, 1) := by decide +kernel
theorem dX10_reading_54 : decode cX10_reading 54 = .ok (.iload_n 3, 1) := by decide +kernel
theorem dX10_reading_55 : decode cX10_reading 55 = .ok (.iload 4, 2) := by decide +kernel
theorem dX10_reading_57 : decode cX10_reading 57 = .ok (.invokespecial 307, 3) := by decide +kernel
theorem dX10_reading_60 : decode cX10_reading 60 = .ok (.invokevirtual 55, 3) := by decide +kernel
theorem dX10_reading_63 : decode cX10_reading 63 = .ok (.pop, 1) := by decide +kernel
theorem dX10_reading_64 : decode cX10_reading 64 = .ok (.aload_n 0, 1) := by decide +kernel
theorem dX10_reading_65 : decode cX10_reading 65 = .ok (.getfield 25, 3) := by decide +kernel
theorem dX10_reading_68 : decode cX10_reading 68 = .ok (.invokevirtual 67, 3) := by decide +kernel
theorem dX10_reading_71 : decode cX10_reading 71 = .ok (.iconst 1, 1) := by decide +kernel
theorem dX10_reading_72 : decode cX10_reading 72 = .ok (.isub, 1) := by decide +kernel
theorem dX10_reading_73 : decode cX10_reading 73 = .ok (.ireturn, 1) := by decide +kernel
theorem dX10_cost_0 : decode cX10_cost 0 = .ok (.iload_n 1, 1) := by decide +kernel
theorem dX10_cost_1 : decode cX10_cost 1 = .ok (.aload_n 0, 1) := by decide +kernel
theorem dX10_cost_2 : decode cX10_cost 2 = .ok (.getfield 25, 3) := by decide +kernel
theorem dX10_cost_5 : decode cX10_cost 5 = .ok (.invokevirtual 67, 3) := by decide +kernel
theorem dX10_cost_8 : decode cX10_cost 8 = .ok (.invokestatic 206, 3) := by decide +kernel
theorem dX10_cost_11 : decode cX10_cost 11 = .ok (.aload_n 0, 1) := by decide +kernel
theorem dX10_cost_12 : decode cX10_cost 12 = .ok (.iload_n 2, 1) := by decide +kernel
theorem dX10_cost_13 : decode cX10_cost 13 = .ok (.invokevirtual 96, 3) := by decide +kernel
theorem dX10_cost_16 : decode cX10_cost 16 = .ok (.astore_n 3, 1) := by decide +kernel
theorem dX10_cost_17 : decode cX10_cost 17 = .ok (.aload_n 0, 1) := by decide +kernel
theorem dX10_cost_18 : decode cX10_cost 18 = .ok (.aload_n 0, 1) := by decide +kernel
theorem dX10_cost_19 : decode cX10_cost 19 = .ok (.getfield 25, 3) := by decide +kernel
theorem dX10_cost_22 : decode cX10_cost 22 = .ok (.iload_n 1, 1) := by decide +kernel
theorem dX10_cost_23 : decode cX10_cost 23 = .ok (.invokevirtual 310, 3) := by decide +kernel
theorem dX10_cost_26 : decode cX10_cost 26 = .ok (.checkcast 305, 3) := by decide +kernel
theorem dX10_cost_29 : decode cX10_cost 29 = .ok (.aload_n 3, 1) := by decide +kernel
theorem dX10_cost_30 : decode cX10_cost 30 = .ok (.invokevirtual 314, 3) := by decide +kernel
theorem dX10_cost_33 : decode cX10_cost 33 = .ok (.ireturn, 1) := by decide +kernel
theorem dX10_assign_0 : decode cX10_assign 0 = .ok (.aload_n 0, 1) := by decide +kernel
theorem dX10_assign_1 : decode cX10_assign 1 = .ok (.invokevirtual 318, 3) := by decide +kernel
theorem dX10_assign_4 : decode cX10_assign 4 = .ok (.aload_n 0, 1) := by decide +kernel
theorem dX10_assign_5 : decode cX10_assign 5 = .ok (.getfield 34, 3) := by decide +kernel
theorem dX10_assign_8 : decode cX10_assign 8 = .ok (.aload_n 0, 1) := by decide +kernel
theorem dX10_assign_9 : decode cX10_assign 9 = .ok (.getfield 25, 3) := by decide +kernel
theorem dX10_assign_12 : decode cX10_assign 12 = .ok (.invokevirtual 67, 3) := by decide +kernel
theorem dX10_assign_15 : decode cX10_assign 15 = .ok (.invokevirtual 321, 3) := by decide +kernel
theorem dX10_assign_18 : decode cX10_assign 18 = .ok (.ireturn, 1) := by decide +kernel
theorem dX10_ways_0 : decode cX10_ways 0 = .ok (.aload_n 0, 1) := by decide +kernel
theorem dX10_ways_1 : decode cX10_ways 1 = .ok (.invokevirtual 318, 3) := by decide +kernel
theorem dX10_ways_4 : decode cX10_ways 4 = .ok (.aload_n 0, 1) := by decide +kernel
theorem dX10_ways_5 : decode cX10_ways 5 = .ok (.getfield 34, 3) := by decide +kernel
theorem dX10_ways_8 : decode cX10_ways 8 = .ok (.aload_n 0, 1) := by decide +kernel
theorem dX10_ways_9 : decode cX10_ways 9 = .ok (.getfield 25, 3) := by decide +kernel
theorem dX10_ways_12 : decode cX10_ways 12 = .ok (.invokevirtual 67, 3) := by decide +kernel
theorem dX10_ways_15 : decode cX10_ways 15 = .ok (.invokevirtual 324, 3) := by decide +kernel
theorem dX10_ways_18 : decode cX10_ways 18 = .ok (.ireturn, 1) := by decide +kernel
theorem dX10_find_0 : decode cX10_find 0 = .ok (.iload 5, 2) := by decide +kernel
theorem dX10_find_2 : decode cX10_find 2 = .ok (.ifCond .ge 14, 3) := by decide +kernel
theorem dX10_find_5 : decode cX10_find 5 = .ok (.new 327, 3) := by decide +kernel
theorem dX10_find_8 : decode cX10_find 8 = .ok (.dup, 1) := by decide +kernel
theorem dX10_find_9 : decode cX10_find 9 = .ok (.ldc_w 329, 3) := by decide +kernel
theorem dX10_find_12 : decode cX10_find 12 = .ok (.invokespecial 331, 3) := by decide +kernel
theorem dX10_find_15 : decode cX10_find 15 = .ok (.athrow, 1) := by decide +kernel
theorem dX10_find_16 : decode cX10_find 16 = .ok (.lload_n 1, 1) := by decide +kernel
theorem dX10_find_17 : decode cX10_find 17 = .ok (.bipush 12, 2) := by decide +kernel
theorem dX10_find_19 : decode cX10_find 19 = .ok (.invokestatic 147, 3) := by decide +kernel
theorem dX10_find_22 : decode cX10_find 22 = .ok (.ifCond .eq 16, 3) := by decide +kernel
theorem dX10_find_25 : decode cX10_find 25 = .ok (.iload_n 3, 1) := by decide +kernel
theorem dX10_find_26 : decode cX10_find 26 = .ok (.iload 4, 2) := by decide +kernel
theorem dX10_find_28 : decode cX10_find 28 = .ok (.invokestatic 59, 3) := by decide +kernel
theorem dX10_find_31 : decode cX10_find 31 = .ok (.ifCond .eq 7, 3) := by decide +kernel
theorem dX10_find_34 : decode cX10_find 34 = .ok (.iconst 1, 1) := by decide +kernel
theorem dX10_find_35 : decode cX10_find 35 = .ok (.goto 4, 3) := by decide +kernel
theorem dX10_find_38 : decode cX10_find 38 = .ok (.iconst 0, 1) := by decide +kernel
theorem dX10_find_39 : decode cX10_find 39 = .ok (.invokestatic 63, 3) := by decide +kernel
theorem dX10_find_42 : decode cX10_find 42 = .ok (.iconst 0, 1) := by decide +kernel
theorem dX10_find_43 : decode cX10_find 43 = .ok (.istore 6, 2) := by decide +kernel
theorem dX10_find_45 : decode cX10_find 45 = .ok (.iload 6, 2) := by decide +kernel
theorem dX10_find_47 : decode cX10_find 47 = .ok (.aload_n 0, 1) := by decide +kernel
theorem dX10_find_48 : decode cX10_find 48 = .ok (.getfield 42, 3) := by decide +kernel
theorem dX10_find_51 : decode cX10_find 51 = .ok (.arraylength, 1) := by decide +kernel
theorem dX10_find_52 : decode cX10_find 52 = .ok (.if_icmp .ge 54, 3) := by decide +kernel
theorem dX10_find_55 : decode cX10_find 55 = .ok (.aload_n 0, 1) := by decide +kernel
theorem dX10_find_56 : decode cX10_find 56 = .ok (.getfield 42, 3) := by decide +kernel
theorem dX10_find_59 : decode cX10_find 59 = .ok (.iload 6, 2) := by decide +kernel
theorem dX10_find_61 : decode cX10_find 61 = .ok (.iload 6, 2) := by decide +kernel
theorem dX10_find_63 : decode cX10_find 63 = .ok (.aload_n 0, 1) := by decide +kernel
theorem dX10_find_64 : decode cX10_find 64 = .ok (.getfield 10, 3) := by decide +kernel
theorem dX10_find_67 : decode cX10_find 67 = .ok (.invokevirtual 67, 3) := by decide +kernel
theorem dX10_find_70 : decode cX10_find 70 = .ok (.if_icmp .ge 28, 3) := by decide +kernel
theorem dX10_find_73 : decode cX10_find 73 = .ok (.aload_n 0, 1) := by decide +kernel
theorem dX10_find_74 : decode cX10_find 74 = .ok (.iload 6, 2) := by decide +kernel
theorem dX10_find_76 : decode cX10_find 76 = .ok (.aload_n 0, 1) := by decide +kernel
theorem dX10_find_77 : decode cX10_find 77 = .ok (.getfield 10, 3) := by decide +kernel
theorem dX10_find_80 : decode cX10_find 80 = .ok (.iload 6, 2) := by decide +kernel
theorem dX10_find_82 : decode cX10_find 82 = .ok (.invokevirtual 310, 3) := by decide +kernel
theorem dX10_find_85 : decode cX10_find 85 = .ok (.checkcast 74, 3) := by decide +kernel
theorem dX10_find_88 : decode cX10_find 88 = .ok (.lload_n 1, 1) := by decide +kernel
theorem dX10_find_89 : decode cX10_find 89 = .ok (.iload_n 3, 1) := by decide +kernel
theorem dX10_find_90 : decode cX10_find 90 = .ok (.iload 4, 2) := by decide +kernel
theorem dX10_find_92 : decode cX10_find 92 = .ok (.invokevirtual 334, 3) := by decide +kernel
theorem dX10_find_95 : decode cX10_find 95 = .ok (.goto 4, 3) := by decide +kernel
theorem dX10_find_98 : decode cX10_find 98 = .ok (.iconst (-1), 1) := by decide +kernel
theorem dX10_find_99 : decode cX10_find 99 = .ok (.iastore, 1) := by decide +kernel
theorem dX10_find_100 : decode cX10_find 100 = .ok (.iinc 6 1, 3) := by decide +kernel
theorem dX10_find_103 : decode cX10_find 103 = .ok (.goto (-58), 3) := by decide +kernel
theorem dX10_find_106 : decode cX10_find 106 = .ok (.iconst 0, 1) := by decide +kernel
theorem dX10_find_107 : decode cX10_find 107 = .ok (.istore 6, 2) := by decide +kernel
theorem dX10_find_109 : decode cX10_find 109 = .ok (.iload 6, 2) := by decide +kernel
theorem dX10_find_111 : decode cX10_find 111 = .ok (.aload_n 0, 1) := by decide +kernel
theorem dX10_find_112 : decode cX10_find 112 = .ok (.getfield 42, 3) := by decide +kernel
theorem dX10_find_115 : decode cX10_find 115 = .ok (.arraylength, 1) := by decide +kernel
theorem dX10_find_116 : decode cX10_find 116 = .ok (.if_icmp .ge 39, 3) := by decide +kernel
theorem dX10_find_119 : decode cX10_find 119 = .ok (.aload_n 0, 1) := by decide +kernel
theorem dX10_find_120 : decode cX10_find 120 = .ok (.getfield 42, 3) := by decide +kernel
theorem dX10_find_123 : decode cX10_find 123 = .ok (.iload 6, 2) := by decide +kernel
theorem dX10_find_125 : decode cX10_find 125 = .ok (.iaload, 1) := by decide +kernel
theorem dX10_find_126 : decode cX10_find 126 = .ok (.iconst (-1), 1) := by decide +kernel
theorem dX10_find_127 : decode cX10_find 127 = .ok (.if_icmp .eq 22, 3) := by decide +kernel
theorem dX10_find_130 : decode cX10_find 130 = .ok (.aload_n 0, 1) := by decide +kernel
theorem dX10_find_131 : decode cX10_find 131 = .ok (.aload_n 0, 1) := by decide +kernel
theorem dX10_find_132 : decode cX10_find 132 = .ok (.getfield 42, 3) := by decide +kernel
theorem dX10_find_135 : decode cX10_find 135 = .ok (.iload 6, 2) := by decide +kernel
theorem dX10_find_137 : decode cX10_find 137 = .ok (.iaload, 1) := by decide +kernel
theorem dX10_find_138 : decode cX10_find 138 = .ok (.invokevirtual 338, 3) := by decide +kernel
theorem dX10_find_141 : decode cX10_find 141 = .ok (.iload 5, 2) := by decide +kernel
theorem dX10_find_143 : decode cX10_find 143 = .ok (.if_icmp .ne 6, 3) := by decide +kernel
theorem dX10_find_146 : decode cX10_find 146 = .ok (.iload 6, 2) := by decide +kernel
theorem dX10_find_148 : decode cX10_find 148 = .ok (.ireturn, 1) := by decide +kernel
theorem dX10_find_149 : decode cX10_find 149 = .ok (.iinc 6 1, 3) := by decide +kernel
theorem dX10_find_152 : decode cX10_find 152 = .ok (.goto (-43), 3) := by decide +kernel
theorem dX10_find_155 : decode cX10_find 155 = .ok (.iconst (-1), 1) := by decide +kernel
theorem dX10_find_156 : decode cX10_find 156 = .ok (.ireturn, 1) := by decide +kernel
theorem dX10_pull_0 : decode cX10_pull 0 = .ok (.iload_n 1, 1) := by decide +kernel
theorem dX10_pull_1 : decode cX10_pull 1 = .ok (.aload_n 0, 1) := by decide +kernel
theorem dX10_pull_2 : decode cX10_pull 2 = .ok (.getfield 38, 3) := by decide +kernel
theorem dX10_pull_5 : decode cX10_pull 5 = .ok (.arraylength, 1) := by decide +kernel
theorem dX10_pull_6 : decode cX10_pull 6 = .ok (.invokestatic 206, 3) := by decide +kernel
theorem dX10_pull_9 : decode cX10_pull 9 = .ok (.aload_n 0, 1) := by decide +kernel
theorem dX10_pull_10 : decode cX10_pull 10 = .ok (.getfield 76, 3) := by decide +kernel
theorem dX10_pull_13 : decode cX10_pull 13 = .ok (.aload_n 0, 1) := by decide +kernel
theorem dX10_pull_14 : decode cX10_pull 14 = .ok (.getfield 38, 3) := by decide +kernel
theorem dX10_pull_17 : decode cX10_pull 17 = .ok (.iload_n 1, 1) := by decide +kernel
theorem dX10_pull_18 : decode cX10_pull 18 = .ok (.iaload, 1) := by decide +kernel
theorem dX10_pull_19 : decode cX10_pull 19 = .ok (.isub, 1) := by decide +kernel
theorem dX10_pull_20 : decode cX10_pull 20 = .ok (.istore_n 2, 1) := by decide +kernel
theorem dX10_pull_21 : decode cX10_pull 21 = .ok (.aload_n 0, 1) := by decide +kernel
theorem dX10_pull_22 : decode cX10_pull 22 = .ok (.getfield 38, 3) := by decide +kernel
theorem dX10_pull_25 : decode cX10_pull 25 = .ok (.iload_n 1, 1) := by decide +kernel
theorem dX10_pull_26 : decode cX10_pull 26 = .ok (.aload_n 0, 1) := by decide +kernel
theorem dX10_pull_27 : decode cX10_pull 27 = .ok (.getfield 76, 3) := by decide +kernel
theorem dX10_pull_30 : decode cX10_pull 30 = .ok (.iastore, 1) := by decide +kernel
theorem dX10_pull_31 : decode cX10_pull 31 = .ok (.iload_n 2, 1) := by decide +kernel
theorem dX10_pull_32 : decode cX10_pull 32 = .ok (.ireturn, 1) := by decide +kernel
theorem dX10_copy_0 : decode cX10_copy 0 = .ok (.iload_n 1, 1) := by decide +kernel
theorem dX10_copy_1 : decode cX10_copy 1 = .ok (.aload_n 0, 1) := by decide +kernel
theorem dX10_copy_2 : decode cX10_copy 2 = .ok (.getfield 38, 3) := by decide +kernel
theorem dX10_copy_5 : decode cX10_copy 5 = .ok (.arraylength, 1) := by decide +kernel
theorem dX10_copy_6 : decode cX10_copy 6 = .ok (.invokestatic 206, 3) := by decide +kernel
theorem dX10_copy_9 : decode cX10_copy 9 = .ok (.aload_n 0, 1) := by decide +kernel
theorem dX10_copy_10 : decode cX10_copy 10 = .ok (.iload_n 2, 1) := by decide +kernel
theorem dX10_copy_11 : decode cX10_copy 11 = .ok (.invokevirtual 96, 3) := by decide +kernel
theorem dX10_copy_14 : decode cX10_copy 14 = .ok (.astore 4, 2) := by decide +kernel
theorem dX10_copy_16 : decode cX10_copy 16 = .ok (.iload_n 3, 1) := by decide +kernel
theorem dX10_copy_17 : decode cX10_copy 17 = .ok (.invokestatic 144, 3) := by decide +kernel
theorem dX10_copy_20 : decode cX10_copy 20 = .ok (.aload_n 0, 1) := by decide +kernel
theorem dX10_copy_21 : decode cX10_copy 21 = .ok (.aload 4, 2) := by decide +kernel
theorem dX10_copy_23 : decode cX10_copy 23 = .ok (.iload_n 3, 1) := by decide +kernel
theorem dX10_copy_24 : decode cX10_copy 24 = .ok (.aload_n 0, 1) := by decide +kernel
theorem dX10_copy_25 : decode cX10_copy 25 = .ok (.getfield 76, 3) := by decide +kernel
theorem dX10_copy_28 : decode cX10_copy 28 = .ok (.aload_n 0, 1) := by decide +kernel
theorem dX10_copy_29 : decode cX10_copy 29 = .ok (.getfield 38, 3) := by decide +kernel
theorem dX10_copy_32 : decode cX10_copy 32 = .ok (.iload_n 1, 1) := by decide +kernel
theorem dX10_copy_33 : decode cX10_copy 33 = .ok (.iaload, 1) := by decide +kernel
theorem dX10_copy_34 : decode cX10_copy 34 = .ok (.invokevirtual 193, 3) := by decide +kernel
theorem dX10_copy_37 : decode cX10_copy 37 = .ok (.lreturn, 1) := by decide +kernel
theorem dX10_order_0 : decode cX10_order 0 = .ok (.aload_n 0, 1) := by decide +kernel
theorem dX10_order_1 : decode cX10_order 1 = .ok (.iload_n 1, 1) := by decide +kernel
theorem dX10_order_2 : decode cX10_order 2 = .ok (.invokevirtual 96, 3) := by decide +kernel
theorem dX10_order_5 : decode cX10_order 5 = .ok (.astore_n 2, 1) := by decide +kernel
theorem dX10_order_6 : decode cX10_order 6 = .ok (.aload_n 2, 1) := by decide +kernel
theorem dX10_order_7 : decode cX10_order 7 = .ok (.getfield 341, 3) := by decide +kernel
theorem dX10_order_10 : decode cX10_order 10 = .ok (.ifCond .ne 7, 3) := by decide +kernel
theorem dX10_order_13 : decode cX10_order 13 = .ok (.iconst 1, 1) := by decide +kernel
theorem dX10_order_14 : decode cX10_order 14 = .ok (.goto 4, 3) := by decide +kernel
theorem dX10_order_17 : decode cX10_order 17 = .ok (.iconst 0, 1) := by decide +kernel
theorem dX10_order_18 : decode cX10_order 18 = .ok (.invokestatic 71, 3) := by decide +kernel
theorem dX10_order_21 : decode cX10_order 21 = .ok (.aload_n 2, 1) := by decide +kernel
theorem dX10_order_22 : decode cX10_order 22 = .ok (.iconst 1, 1) := by decide +kernel
theorem dX10_order_23 : decode cX10_order 23 = .ok (.putfield 341, 3) := by decide +kernel
theorem dX10_order_26 : decode cX10_order 26 = .ok (.aload_n 0, 1) := by decide +kernel
theorem dX10_order_27 : decode cX10_order 27 = .ok (.getfield 28, 3) := by decide +kernel
theorem dX10_order_30 : decode cX10_order 30 = .ok (.aload_n 2, 1) := by decide +kernel
theorem dX10_order_31 : decode cX10_order 31 = .ok (.invokevirtual 55, 3) := by decide +kernel
theorem dX10_order_34 : decode cX10_order 34 = .ok (.pop, 1) := by decide +kernel
theorem dX10_order_35 : decode cX10_order 35 = .ok (.aload_n 0, 1) := by decide +kernel
theorem dX10_order_36 : decode cX10_order 36 = .ok (.getfield 28, 3) := by decide +kernel
theorem dX10_order_39 : decode cX10_order 39 = .ok (.invokevirtual 67, 3) := by decide +kernel
theorem dX10_order_42 : decode cX10_order 42 = .ok (.ireturn, 1) := by decide +kernel
theorem dX10_budget_0 : decode cX10_budget 0 = .ok (.iload_n 1, 1) := by decide +kernel
theorem dX10_budget_1 : decode cX10_budget 1 = .ok (.ifCond .lt 13, 3) := by decide +kernel
theorem dX10_budget_4 : decode cX10_budget 4 = .ok (.iload_n 1, 1) := by decide +kernel
theorem dX10_budget_5 : decode cX10_budget 5 = .ok (.bipush 10, 2) := by decide +kernel
theorem dX10_budget_7 : decode cX10_budget 7 = .ok (.if_icmp .gt 7, 3) := by decide +kernel
theorem dX10_budget_10 : decode cX10_budget 10 = .ok (.iconst 1, 1) := by decide +kernel
theorem dX10_budget_11 : decode cX10_budget 11 = .ok (.goto 4, 3) := by decide +kernel
theorem dX10_budget_14 : decode cX10_budget 14 = .ok (.iconst 0, 1) := by decide +kernel
theorem dX10_budget_15 : decode cX10_budget 15 = .ok (.invokestatic 63, 3) := by decide +kernel
theorem dX10_budget_18 : decode cX10_budget 18 = .ok (.aload_n 0, 1) := by decide +kernel
theorem dX10_budget_19 : decode cX10_budget 19 = .ok (.getfield 48, 3) := by decide +kernel
theorem dX10_budget_22 : decode cX10_budget 22 = .ok (.istore_n 2, 1) := by decide +kernel
theorem dX10_budget_23 : decode cX10_budget 23 = .ok (.aload_n 0, 1) := by decide +kernel
theorem dX10_budget_24 : decode cX10_budget 24 = .ok (.iload_n 1, 1) := by decide +kernel
theorem dX10_budget_25 : decode cX10_budget 25 = .ok (.putfield 48, 3) := by decide +kernel
theorem dX10_budget_28 : decode cX10_budget 28 = .ok (.iload_n 2, 1) := by decide +kernel
theorem dX10_budget_29 : decode cX10_budget 29 = .ok (.ireturn, 1) := by decide +kernel
theorem dX10_sign_0 : decode cX10_sign 0 = .ok (.aload_n 0, 1) := by decide +kernel
theorem dX10_sign_1 : decode cX10_sign 1 = .ok (.iload_n 1, 1) := by decide +kernel
theorem dX10_sign_2 : decode cX10_sign 2 = .ok (.invokevirtual 96, 3) := by decide +kernel
theorem dX10_sign_5 : decode cX10_sign 5 = .ok (.getfield 344, 3) := by decide +kernel
theorem dX10_sign_8 : decode cX10_sign 8 = .ok (.lreturn, 1) := by decide +kernel
theorem dX10_pass_0 : decode cX10_pass 0 = .ok (.iload_n 1, 1) := by decide +kernel
theorem dX10_pass_1 : decode cX10_pass 1 = .ok (.iconst 1, 1) := by decide +kernel
theorem dX10_pass_2 : decode cX10_pass 2 = .ok (.if_icmp .lt 14, 3) := by decide +kernel
theorem dX10_pass_5 : decode cX10_pass 5 = .ok (.iload_n 1, 1) := by decide +kernel
theorem dX10_pass_6 : decode cX10_pass 6 = .ok (.sipush 400, 3) := by decide +kernel
theorem dX10_pass_9 : decode cX10_pass 9 = .ok (.if_icmp .gt 7, 3) := by decide +kernel
theorem dX10_pass_12 : decode cX10_pass 12 = .ok (.iconst 1, 1) := by decide +kernel
theorem dX10_pass_13 : decode cX10_pass 13 = .ok (.goto 4, 3) := by decide +kernel
theorem dX10_pass_16 : decode cX10_pass 16 = .ok (.iconst 0, 1) := by decide +kernel
theorem dX10_pass_17 : decode cX10_pass 17 = .ok (.invokestatic 63, 3) := by decide +kernel
theorem dX10_pass_20 : decode cX10_pass 20 = .ok (.aload_n 0, 1) := by decide +kernel
theorem dX10_pass_21 : decode cX10_pass 21 = .ok (.getfield 76, 3) := by decide +kernel
theorem dX10_pass_24 : decode cX10_pass 24 = .ok (.iload_n 1, 1) := by decide +kernel
theorem dX10_pass_25 : decode cX10_pass 25 = .ok (.iadd, 1) := by decide +kernel
theorem dX10_pass_26 : decode cX10_pass 26 = .ok (.sipush 9999, 3) := by decide +kernel
theorem dX10_pass_29 : decode cX10_pass 29 = .ok (.if_icmp .gt 7, 3) := by decide +kernel
theorem dX10_pass_32 : decode cX10_pass 32 = .ok (.iconst 1, 1) := by decide +kernel
theorem dX10_pass_33 : decode cX10_pass 33 = .ok (.goto 4, 3) := by decide +kernel
theorem dX10_pass_36 : decode cX10_pass 36 = .ok (.iconst 0, 1) := by decide +kernel
theorem dX10_pass_37 : decode cX10_pass 37 = .ok (.invokestatic 71, 3) := by decide +kernel
theorem dX10_pass_40 : decode cX10_pass 40 = .ok (.iconst 0, 1) := by decide +kernel
theorem dX10_pass_41 : decode cX10_pass 41 = .ok (.istore_n 2, 1) := by decide +kernel
theorem dX10_pass_42 : decode cX10_pass 42 = .ok (.iload_n 2, 1) := by decide +kernel
theorem dX10_pass_43 : decode cX10_pass 43 = .ok (.iload_n 1, 1) := by decide +kernel
theorem dX10_pass_44 : decode cX10_pass 44 = .ok (.if_icmp .ge 23, 3) := by decide +kernel
theorem dX10_pass_47 : decode cX10_pass 47 = .ok (.aload_n 0, 1) := by decide +kernel
theorem dX10_pass_48 : decode cX10_pass 48 = .ok (.invokevirtual 347, 3) := by decide +kernel
theorem dX10_pass_51 : decode cX10_pass 51 = .ok (.aload_n 0, 1) := by decide +kernel
theorem dX10_pass_52 : decode cX10_pass 52 = .ok (.dup, 1) := by decide +kernel
theorem dX10_pass_53 : decode cX10_pass 53 = .ok (.getfield 76, 3) := by decide +kernel
theorem dX10_pass_56 : decode cX10_pass 56 = .ok (.iconst 1, 1) := by decide +kernel
theorem dX10_pass_57 : decode cX10_pass 57 = .ok (.iadd, 1) := by decide +kernel
theorem dX10_pass_58 : decode cX10_pass 58 = .ok (.putfield 76, 3) := by decide +kernel
theorem dX10_pass_61 : decode cX10_pass 61 = .ok (.iinc 2 1, 3) := by decide +kernel
theorem dX10_pass_64 : decode cX10_pass 64 = .ok (.goto (-22), 3) := by decide +kernel
theorem dX10_pass_67 : decode cX10_pass 67 = .ok (.aload_n 0, 1) := by decide +kernel
theorem dX10_pass_68 : decode cX10_pass 68 = .ok (.getfield 76, 3) := by decide +kernel
theorem dX10_pass_71 : decode cX10_pass 71 = .ok (.ireturn, 1) := by decide +kernel
theorem dX10_needArgument_0 : decode cX10_needArgument 0 = .ok (.iload_n 0, 1) := by decide +kernel
theorem dX10_needArgument_1 : decode cX10_needArgument 1 = .ok (.ifCond .ne 14, 3) := by decide +kernel
theorem dX10_needArgument_4 : decode cX10_needArgument 4 = .ok (.new 350, 3) := by decide +kernel
theorem dX10_needArgument_7 : decode cX10_needArgument 7 = .ok (.dup, 1) := by decide +kernel
theorem dX10_needArgument_8 : decode cX10_needArgument 8 = .ok (.ldc_w 352, 3) := by decide +kernel
theorem dX10_needArgument_11 : decode cX10_needArgument 11 = .ok (.invokespecial 354, 3) := by decide +kernel
theorem dX10_needArgument_14 : decode cX10_needArgument 14 = .ok (.athrow, 1) := by decide +kernel
theorem dX10_needArgument_15 : decode cX10_needArgument 15 = .ok (.return_, 1) := by decide +kernel
theorem dX10_needState_0 : decode cX10_needState 0 = .ok (.iload_n 0, 1) := by decide +kernel
theorem dX10_needState_1 : decode cX10_needState 1 = .ok (.ifCond .ne 14, 3) := by decide +kernel
theorem dX10_needState_4 : decode cX10_needState 4 = .ok (.new 355, 3) := by decide +kernel
theorem dX10_needState_7 : decode cX10_needState 7 = .ok (.dup, 1) := by decide +kernel
theorem dX10_needState_8 : decode cX10_needState 8 = .ok (.ldc_w 357, 3) := by decide +kernel
theorem dX10_needState_11 : decode cX10_needState 11 = .ok (.invokespecial 359, 3) := by decide +kernel
theorem dX10_needState_14 : decode cX10_needState 14 = .ok (.athrow, 1) := by decide +kernel
theorem dX10_needState_15 : decode cX10_needState 15 = .ok (.return_, 1) := by decide +kernel
theorem dX10_needIndex_0 : decode cX10_needIndex 0 = .ok (.iload_n 0, 1) := by decide +kernel
theorem dX10_needIndex_1 : decode cX10_needIndex 1 = .ok (.ifCond .lt 8, 3) := by decide +kernel
theorem dX10_needIndex_4 : decode cX10_needIndex 4 = .ok (.iload_n 0, 1) := by decide +kernel
theorem dX10_needIndex_5 : decode cX10_needIndex 5 = .ok (.iload_n 1, 1) := by decide +kernel
theorem dX10_needIndex_6 : decode cX10_needIndex 6 = .ok (.if_icmp .lt 14, 3) := by decide +kernel
theorem dX10_needIndex_9 : decode cX10_needIndex 9 = .ok (.new 327, 3) := by decide +kernel
theorem dX10_needIndex_12 : decode cX10_needIndex 12 = .ok (.dup, 1) := by decide +kernel
theorem dX10_needIndex_13 : decode cX10_needIndex 13 = .ok (.ldc_w 360, 3) := by decide +kernel
theorem dX10_needIndex_16 : decode cX10_needIndex 16 = .ok (.invokespecial 331, 3) := by decide +kernel
theorem dX10_needIndex_19 : decode cX10_needIndex 19 = .ok (.athrow, 1) := by decide +kernel
theorem dX10_needIndex_20 : decode cX10_needIndex 20 = .ok (.return_, 1) := by decide +kernel
theorem dX10_needTongue_0 : decode cX10_needTongue 0 = .ok (.iload_n 0, 1) := by decide +kernel
theorem dX10_needTongue_1 : decode cX10_needTongue 1 = .ok (.iconst 4, 1) := by decide +kernel
theorem dX10_needTongue_2 : decode cX10_needTongue 2 = .ok (.invokestatic 206, 3) := by decide +kernel
theorem dX10_needTongue_5 : decode cX10_needTongue 5 = .ok (.return_, 1) := by decide +kernel
theorem dX10_needFeatureOrNone_0 : decode cX10_needFeatureOrNone 0 = .ok (.iload_n 1, 1) := by decide +kernel
theorem dX10_needFeatureOrNone_1 : decode cX10_needFeatureOrNone 1 = .ok (.iconst (-1), 1) := by decide +kernel
theorem dX10_needFeatureOrNone_2 : decode cX10_needFeatureOrNone 2 = .ok (.if_icmp .eq 14, 3) := by decide +kernel
theorem dX10_needFeatureOrNone_5 : decode cX10_needFeatureOrNone 5 = .ok (.iload_n 1, 1) := by decide +kernel
theorem dX10_needFeatureOrNone_6 : decode cX10_needFeatureOrNone 6 = .ok (.aload_n 0, 1) := by decide +kernel
theorem dX10_needFeatureOrNone_7 : decode cX10_needFeatureOrNone 7 = .ok (.getfield 10, 3) := by decide +kernel
theorem dX10_needFeatureOrNone_10 : decode cX10_needFeatureOrNone 10 = .ok (.invokevirtual 67, 3) := by decide +kernel
theorem dX10_needFeatureOrNone_13 : decode cX10_needFeatureOrNone 13 = .ok (.invokestatic 206, 3) := by decide +kernel
theorem dX10_needFeatureOrNone_16 : decode cX10_needFeatureOrNone 16 = .ok (.return_, 1) := by decide +kernel
theorem dX10_featureAt_0 : decode cX10_featureAt 0 = .ok (.iload_n 1, 1) := by decide +kernel
theorem dX10_featureAt_1 : decode cX10_featureAt 1 = .ok (.aload_n 0, 1) := by decide +kernel
theorem dX10_featureAt_2 : decode cX10_featureAt 2 = .ok (.getfield 10, 3) := by decide +kernel
theorem dX10_featureAt_5 : decode cX10_featureAt 5 = .ok (.invokevirtual 67, 3) := by decide +kernel
theorem dX10_featureAt_8 : decode cX10_featureAt 8 = .ok (.invokestatic 206, 3) := by decide +kernel
theorem dX10_featureAt_11 : decode cX10_featureAt 11 = .ok (.aload_n 0, 1) := by decide +kernel
theorem dX10_featureAt_12 : decode cX10_featureAt 12 = .ok (.getfield 10, 3) := by decide +kernel
theorem dX10_featureAt_15 : decode cX10_featureAt 15 = .ok (.iload_n 1, 1) := by decide +kernel
theorem dX10_featureAt_16 : decode cX10_featureAt 16 = .ok (.invokevirtual 310, 3) := by decide +kernel
theorem dX10_featureAt_19 : decode cX10_featureAt 19 = .ok (.checkcast 74, 3) := by decide +kernel
theorem dX10_featureAt_22 : decode cX10_featureAt 22 = .ok (.areturn, 1) := by decide +kernel
theorem dX10_petitionAt_0 : decode cX10_petitionAt 0 = .ok (.iload_n 1, 1) := by decide +kernel
theorem dX10_petitionAt_1 : decode cX10_petitionAt 1 = .ok (.aload_n 0, 1) := by decide +kernel
theorem dX10_petitionAt_2 : decode cX10_petitionAt 2 = .ok (.getfield 19, 3) := by decide +kernel
theorem dX10_petitionAt_5 : decode cX10_petitionAt 5 = .ok (.invokevirtual 67, 3) := by decide +kernel
theorem dX10_petitionAt_8 : decode cX10_petitionAt 8 = .ok (.invokestatic 206, 3) := by decide +kernel
theorem dX10_petitionAt_11 : decode cX10_petitionAt 11 = .ok (.aload_n 0, 1) := by decide +kernel
theorem dX10_petitionAt_12 : decode cX10_petitionAt 12 = .ok (.getfield 19, 3) := by decide +kernel
theorem dX10_petitionAt_15 : decode cX10_petitionAt 15 = .ok (.iload_n 1, 1) := by decide +kernel
theorem dX10_petitionAt_16 : decode cX10_petitionAt 16 = .ok (.invokevirtual 310, 3) := by decide +kernel
theorem dX10_petitionAt_19 : decode cX10_petitionAt 19 = .ok (.checkcast 197, 3) := by decide +kernel
theorem dX10_petitionAt_22 : decode cX10_petitionAt 22 = .ok (.areturn, 1) := by decide +kernel
theorem dX10_tableAt_0 : decode cX10_tableAt 0 = .ok (.iload_n 1, 1) := by decide +kernel
theorem dX10_tableAt_1 : decode cX10_tableAt 1 = .ok (.aload_n 0, 1) := by decide +kernel
theorem dX10_tableAt_2 : decode cX10_tableAt 2 = .ok (.getfield 22, 3) := by decide +kernel
theorem dX10_tableAt_5 : decode cX10_tableAt 5 = .ok (.invokevirtual 67, 3) := by decide +kernel
theorem dX10_tableAt_8 : decode cX10_tableAt 8 = .ok (.invokestatic 206, 3) := by decide +kernel
theorem dX10_tableAt_11 : decode cX10_tableAt 11 = .ok (.aload_n 0, 1) := by decide +kernel
theorem dX10_tableAt_12 : decode cX10_tableAt 12 = .ok (.getfield 22, 3) := by decide +kernel
theorem dX10_tableAt_15 : decode cX10_tableAt 15 = .ok (.iload_n 1, 1) := by decide +kernel
theorem dX10_tableAt_16 : decode cX10_tableAt 16 = .ok (.invokevirtual 310, 3) := by decide +kernel
theorem dX10_tableAt_19 : decode cX10_tableAt 19 = .ok (.checkcast 52, 3) := by decide +kernel
theorem dX10_tableAt_22 : decode cX10_tableAt 22 = .ok (.areturn, 1) := by decide +kernel
theorem dX10_isDay_0 : decode cX10_isDay 0 = .ok (.iload_n 0, 1) := by decide +kernel
theorem dX10_isDay_1 : decode cX10_isDay 1 = .ok (.ifCond .lt 14, 3) := by decide +kernel
theorem dX10_isDay_4 : decode cX10_isDay 4 = .ok (.iload_n 0, 1) := by decide +kernel
theorem dX10_isDay_5 : decode cX10_isDay 5 = .ok (.sipush 9999, 3) := by decide +kernel
theorem dX10_isDay_8 : decode cX10_isDay 8 = .ok (.if_icmp .gt 7, 3) := by decide +kernel
theorem dX10_isDay_11 : decode cX10_isDay 11 = .ok (.iconst 1, 1) := by decide +kernel
theorem dX10_isDay_12 : decode cX10_isDay 12 = .ok (.goto 4, 3) := by decide +kernel
theorem dX10_isDay_15 : decode cX10_isDay 15 = .ok (.iconst 0, 1) := by decide +kernel
theorem dX10_isDay_16 : decode cX10_isDay 16 = .ok (.ireturn, 1) := by decide +kernel
theorem dX10_isLetter_0 : decode cX10_isLetter 0 = .ok (.iload_n 0, 1) := by decide +kernel
theorem dX10_isLetter_1 : decode cX10_isLetter 1 = .ok (.iconst 1, 1) := by decide +kernel
theorem dX10_isLetter_2 : decode cX10_isLetter 2 = .ok (.if_icmp .lt 13, 3) := by decide +kernel
theorem dX10_isLetter_5 : decode cX10_isLetter 5 = .ok (.iload_n 0, 1) := by decide +kernel
theorem dX10_isLetter_6 : decode cX10_isLetter 6 = .ok (.bipush 26, 2) := by decide +kernel
theorem dX10_isLetter_8 : decode cX10_isLetter 8 = .ok (.if_icmp .gt 7, 3) := by decide +kernel
theorem dX10_isLetter_11 : decode cX10_isLetter 11 = .ok (.iconst 1, 1) := by decide +kernel
theorem dX10_isLetter_12 : decode cX10_isLetter 12 = .ok (.goto 4, 3) := by decide +kernel
theorem dX10_isLetter_15 : decode cX10_isLetter 15 = .ok (.iconst 0, 1) := by decide +kernel
theorem dX10_isLetter_16 : decode cX10_isLetter 16 = .ok (.ireturn, 1) := by decide +kernel
theorem dX10_isLetterOrNone_0 : decode cX10_isLetterOrNone 0 = .ok (.iload_n 0, 1) := by decide +kernel
theorem dX10_isLetterOrNone_1 : decode cX10_isLetterOrNone 1 = .ok (.ifCond .eq 10, 3) := by decide +kernel
theorem dX10_isLetterOrNone_4 : decode cX10_isLetterOrNone 4 = .ok (.iload_n 0, 1) := by decide +kernel
theorem dX10_isLetterOrNone_5 : decode cX10_isLetterOrNone 5 = .ok (.invokestatic 166, 3) := by decide +kernel
theorem dX10_isLetterOrNone_8 : decode cX10_isLetterOrNone 8 = .ok (.ifCond .eq 7, 3) := by decide +kernel
theorem dX10_isLetterOrNone_11 : decode cX10_isLetterOrNone 11 = .ok (.iconst 1, 1) := by decide +kernel
theorem dX10_isLetterOrNone_12 : decode cX10_isLetterOrNone 12 = .ok (.goto 4, 3) := by decide +kernel
theorem dX10_isLetterOrNone_15 : decode cX10_isLetterOrNone 15 = .ok (.iconst 0, 1) := by decide +kernel
theorem dX10_isLetterOrNone_16 : decode cX10_isLetterOrNone 16 = .ok (.ireturn, 1) := by decide +kernel
theorem dX10_isPlace_0 : decode cX10_isPlace 0 = .ok (.iload_n 0, 1) := by decide +kernel
theorem dX10_isPlace_1 : decode cX10_isPlace 1 = .ok (.ifCond .lt 23, 3) := by decide +kernel
theorem dX10_isPlace_4 : decode cX10_isPlace 4 = .ok (.iload_n 0, 1) := by decide +kernel
theorem dX10_isPlace_5 : decode cX10_isPlace 5 = .ok (.bipush 100, 2) := by decide +kernel
theorem dX10_isPlace_7 : decode cX10_isPlace 7 = .ok (.if_icmp .ge 17, 3) := by decide +kernel
theorem dX10_isPlace_10 : decode cX10_isPlace 10 = .ok (.iload_n 1, 1) := by decide +kernel
theorem dX10_isPlace_11 : decode cX10_isPlace 11 = .ok (.ifCond .lt 13, 3) := by decide +kernel
theorem dX10_isPlace_14 : decode cX10_isPlace 14 = .ok (.iload_n 1, 1) := by decide +kernel
theorem dX10_isPlace_15 : decode cX10_isPlace 15 = .ok (.bipush 100, 2) := by decide +kernel
theorem dX10_isPlace_17 : decode cX10_isPlace 17 = .ok (.if_icmp .ge 7, 3) := by decide +kernel
theorem dX10_isPlace_20 : decode cX10_isPlace 20 = .ok (.iconst 1, 1) := by decide +kernel
theorem dX10_isPlace_21 : decode cX10_isPlace 21 = .ok (.goto 4, 3) := by decide +kernel
theorem dX10_isPlace_24 : decode cX10_isPlace 24 = .ok (.iconst 0, 1) := by decide +kernel
theorem dX10_isPlace_25 : decode cX10_isPlace 25 = .ok (.ireturn, 1) := by decide +kernel
theorem dX10_placeNumber_0 : decode cX10_placeNumber 0 = .ok (.iload_n 0, 1) := by decide +kernel
theorem dX10_placeNumber_1 : decode cX10_placeNumber 1 = .ok (.bipush 100, 2) := by decide +kernel
theorem dX10_placeNumber_3 : decode cX10_placeNumber 3 = .ok (.imul, 1) := by decide +kernel
theorem dX10_placeNumber_4 : decode cX10_placeNumber 4 = .ok (.iload_n 1, 1) := by decide +kernel
theorem dX10_placeNumber_5 : decode cX10_placeNumber 5 = .ok (.iadd, 1) := by decide +kernel
theorem dX10_placeNumber_6 : decode cX10_placeNumber 6 = .ok (.ireturn, 1) := by decide +kernel
theorem dX10_firstNumber_0 : decode cX10_firstNumber 0 = .ok (.iload_n 0, 1) := by decide +kernel
theorem dX10_firstNumber_1 : decode cX10_firstNumber 1 = .ok (.iconst (-1), 1) := by decide +kernel
theorem dX10_firstNumber_2 : decode cX10_firstNumber 2 = .ok (.if_icmp .ne 7, 3) := by decide +kernel
theorem dX10_firstNumber_5 : decode cX10_firstNumber 5 = .ok (.iconst (-1), 1) := by decide +kernel
theorem dX10_firstNumber_6 : decode cX10_firstNumber 6 = .ok (.goto 7, 3) := by decide +kernel
theorem dX10_firstNumber_9 : decode cX10_firstNumber 9 = .ok (.iload_n 0, 1) := by decide +kernel
theorem dX10_firstNumber_10 : decode cX10_firstNumber 10 = .ok (.bipush 100, 2) := by decide +kernel
theorem dX10_firstNumber_12 : decode cX10_firstNumber 12 = .ok (.idiv, 1) := by decide +kernel
theorem dX10_firstNumber_13 : decode cX10_firstNumber 13 = .ok (.ireturn, 1) := by decide +kernel
theorem dX10_secondNumber_0 : decode cX10_secondNumber 0 = .ok (.iload_n 0, 1) := by decide +kernel
theorem dX10_secondNumber_1 : decode cX10_secondNumber 1 = .ok (.iconst (-1), 1) := by decide +kernel
theorem dX10_secondNumber_2 : decode cX10_secondNumber 2 = .ok (.if_icmp .ne 7, 3) := by decide +kernel
theorem dX10_secondNumber_5 : decode cX10_secondNumber 5 = .ok (.iconst (-1), 1) := by decide +kernel
theorem dX10_secondNumber_6 : decode cX10_secondNumber 6 = .ok (.goto 7, 3) := by decide +kernel
theorem dX10_secondNumber_9 : decode cX10_secondNumber 9 = .ok (.iload_n 0, 1) := by decide +kernel
theorem dX10_secondNumber_10 : decode cX10_secondNumber 10 = .ok (.bipush 100, 2) := by decide +kernel
theorem dX10_secondNumber_12 : decode cX10_secondNumber 12 = .ok (.irem, 1) := by decide +kernel
theorem dX10_secondNumber_13 : decode cX10_secondNumber 13 = .ok (.ireturn, 1) := by decide +kernel
theorem dX10_distance_0 : decode cX10_distance 0 = .ok (.aload_n 1, 1) := by decide +kernel
theorem dX10_distance_1 : decode cX10_distance 1 = .ok (.getfield 82, 3) := by decide +kernel
theorem dX10_distance_4 : decode cX10_distance 4 = .ok (.aload_n 0, 1) := by decide +kernel
theorem dX10_distance_5 : decode cX10_distance 5 = .ok (.getfield 76, 3) := by decide +kernel
theorem dX10_distance_8 : decode cX10_distance 8 = .ok (.aload_n 0, 1) := by decide +kernel
theorem dX10_distance_9 : decode cX10_distance 9 = .ok (.getfield 76, 3) := by decide +kernel
theorem dX10_distance_12 : decode cX10_distance 12 = .ok (.invokevirtual 131, 3) := by decide +kernel
theorem dX10_distance_15 : decode cX10_distance 15 = .ok (.istore 4, 2) := by decide +kernel
theorem dX10_distance_17 : decode cX10_distance 17 = .ok (.iload 4, 2) := by decide +kernel
theorem dX10_distance_19 : decode cX10_distance 19 = .ok (.invokestatic 134, 3) := by decide +kernel
theorem dX10_distance_22 : decode cX10_distance 22 = .ok (.iload_n 2, 1) := by decide +kernel
theorem dX10_distance_23 : decode cX10_distance 23 = .ok (.isub, 1) := by decide +kernel
theorem dX10_distance_24 : decode cX10_distance 24 = .ok (.invokestatic 362, 3) := by decide +kernel
theorem dX10_distance_27 : decode cX10_distance 27 = .ok (.iload 4, 2) := by decide +kernel
theorem dX10_distance_29 : decode cX10_distance 29 = .ok (.invokestatic 138, 3) := by decide +kernel
theorem dX10_distance_32 : decode cX10_distance 32 = .ok (.iload_n 3, 1) := by decide +kernel
theorem dX10_distance_33 : decode cX10_distance 33 = .ok (.isub, 1) := by decide +kernel
theorem dX10_distance_34 : decode cX10_distance 34 = .ok (.invokestatic 362, 3) := by decide +kernel
theorem dX10_distance_37 : decode cX10_distance 37 = .ok (.iadd, 1) := by decide +kernel
theorem dX10_distance_38 : decode cX10_distance 38 = .ok (.ireturn, 1) := by decide +kernel
theorem dX10_isWord_0 : decode cX10_isWord 0 = .ok (.lload_n 0, 1) := by decide +kernel
theorem dX10_isWord_1 : decode cX10_isWord 1 = .ok (.lstore_n 3, 1) := by decide +kernel
theorem dX10_isWord_2 : decode cX10_isWord 2 = .ok (.iconst 0, 1) := by decide +kernel
theorem dX10_isWord_3 : decode cX10_isWord 3 = .ok (.istore 5, 2) := by decide +kernel
theorem dX10_isWord_5 : decode cX10_isWord 5 = .ok (.iload 5, 2) := by decide +kernel
theorem dX10_isWord_7 : decode cX10_isWord 7 = .ok (.iload_n 2, 1) := by decide +kernel
theorem dX10_isWord_8 : decode cX10_isWord 8 = .ok (.if_icmp .ge 33, 3) := by decide +kernel
theorem dX10_isWord_11 : decode cX10_isWord 11 = .ok (.lload_n 3, 1) := by decide +kernel
theorem dX10_isWord_12 : decode cX10_isWord 12 = .ok (.lconst 0, 1) := by decide +kernel
theorem dX10_isWord_13 : decode cX10_isWord 13 = .ok (.lcmp, 1) := by decide +kernel
theorem dX10_isWord_14 : decode cX10_isWord 14 = .ok (.ifCond .le 27, 3) := by decide +kernel
theorem dX10_isWord_17 : decode cX10_isWord 17 = .ok (.lload_n 3, 1) := by decide +kernel
theorem dX10_isWord_18 : decode cX10_isWord 18 = .ok (.ldc2_w 295, 3) := by decide +kernel
theorem dX10_isWord_21 : decode cX10_isWord 21 = .ok (.lrem, 1) := by decide +kernel
theorem dX10_isWord_22 : decode cX10_isWord 22 = .ok (.lconst 0, 1) := by decide +kernel
theorem dX10_isWord_23 : decode cX10_isWord 23 = .ok (.lcmp, 1) := by decide +kernel
theorem dX10_isWord_24 : decode cX10_isWord 24 = .ok (.ifCond .ne 5, 3) := by decide +kernel
theorem dX10_isWord_27 : decode cX10_isWord 27 = .ok (.iconst 0, 1) := by decide +kernel
theorem dX10_isWord_28 : decode cX10_isWord 28 = .ok (.ireturn, 1) := by decide +kernel
theorem dX10_isWord_29 : decode cX10_isWord 29 = .ok (.lload_n 3, 1) := by decide +kernel
theorem dX10_isWord_30 : decode cX10_isWord 30 = .ok (.ldc2_w 295, 3) := by decide +kernel
theorem dX10_isWord_33 : decode cX10_isWord 33 = .ok (.ldiv, 1) := by decide +kernel
theorem dX10_isWord_34 : decode cX10_isWord 34 = .ok (.lstore_n 3, 1) := by decide +kernel
theorem dX10_isWord_35 : decode cX10_isWord 35 = .ok (.iinc 5 1, 3) := by decide +kernel
theorem dX10_isWord_38 : decode cX10_isWord 38 = .ok (.goto (-33), 3) := by decide +kernel
theorem dX10_isWord_41 : decode cX10_isWord 41 = .ok (.lload_n 0, 1) := by decide +kernel
theorem dX10_isWord_42 : decode cX10_isWord 42 = .ok (.lconst 0, 1) := by decide +kernel
theorem dX10_isWord_43 : decode cX10_isWord 43 = .ok (.lcmp, 1) := by decide +kernel
theorem dX10_isWord_44 : decode cX10_isWord 44 = .ok (.ifCond .le 13, 3) := by decide +kernel
theorem dX10_isWord_47 : decode cX10_isWord 47 = .ok (.lload_n 3, 1) := by decide +kernel
theorem dX10_isWord_48 : decode cX10_isWord 48 = .ok (.lconst 0, 1) := by decide +kernel
theorem dX10_isWord_49 : decode cX10_isWord 49 = .ok (.lcmp, 1) := by decide +kernel
theorem dX10_isWord_50 : decode cX10_isWord 50 = .ok (.ifCond .ne 7, 3) := by decide +kernel
theorem dX10_isWord_53 : decode cX10_isWord 53 = .ok (.iconst 1, 1) := by decide +kernel
theorem dX10_isWord_54 : decode cX10_isWord 54 = .ok (.goto 4, 3) := by decide +kernel
theorem dX10_isWord_57 : decode cX10_isWord 57 = .ok (.iconst 0, 1) := by decide +kernel
theorem dX10_isWord_58 : decode cX10_isWord 58 = .ok (.ireturn, 1) := by decide +kernel
theorem dX10_turned_0 : decode cX10_turned 0 = .ok (.lload_n 0, 1) := by decide +kernel
theorem dX10_turned_1 : decode cX10_turned 1 = .ok (.lstore_n 2, 1) := by decide +kernel
theorem dX10_turned_2 : decode cX10_turned 2 = .ok (.lconst 0, 1) := by decide +kernel
theorem dX10_turned_3 : decode cX10_turned 3 = .ok (.lstore 4, 2) := by decide +kernel
theorem dX10_turned_5 : decode cX10_turned 5 = .ok (.iconst 0, 1) := by decide +kernel
theorem dX10_turned_6 : decode cX10_turned 6 = .ok (.istore 6, 2) := by decide +kernel
theorem dX10_turned_8 : decode cX10_turned 8 = .ok (.iload 6, 2) := by decide +kernel
theorem dX10_turned_10 : decode cX10_turned 10 = .ok (.bipush 12, 2) := by decide +kernel
theorem dX10_turned_12 : decode cX10_turned 12 = .ok (.if_icmp .ge 35, 3) := by decide +kernel
theorem dX10_turned_15 : decode cX10_turned 15 = .ok (.lload_n 2, 1) := by decide +kernel
theorem dX10_turned_16 : decode cX10_turned 16 = .ok (.lconst 0, 1) := by decide +kernel
theorem dX10_turned_17 : decode cX10_turned 17 = .ok (.lcmp, 1) := by decide +kernel
theorem dX10_turned_18 : decode cX10_turned 18 = .ok (.ifCond .le 29, 3) := by decide +kernel
theorem dX10_turned_21 : decode cX10_turned 21 = .ok (.lload 4, 2) := by decide +kernel
theorem dX10_turned_23 : decode cX10_turned 23 = .ok (.ldc2_w 295, 3) := by decide +kernel
theorem dX10_turned_26 : decode cX10_turned 26 = .ok (.lmul, 1) := by decide +kernel
theorem dX10_turned_27 : decode cX10_turned 27 = .ok (.lload_n 2, 1) := by decide +kernel
theorem dX10_turned_28 : decode cX10_turned 28 = .ok (.ldc2_w 295, 3) := by decide +kernel
theorem dX10_turned_31 : decode cX10_turned 31 = .ok (.lrem, 1) := by decide +kernel
theorem dX10_turned_32 : decode cX10_turned 32 = .ok (.ladd, 1) := by decide +kernel
theorem dX10_turned_33 : decode cX10_turned 33 = .ok (.lstore 4, 2) := by decide +kernel
theorem dX10_turned_35 : decode cX10_turned 35 = .ok (.lload_n 2, 1) := by decide +kernel
theorem dX10_turned_36 : decode cX10_turned 36 = .ok (.ldc2_w 295, 3) := by decide +kernel
theorem dX10_turned_39 : decode cX10_turned 39 = .ok (.ldiv, 1) := by decide +kernel
theorem dX10_turned_40 : decode cX10_turned 40 = .ok (.lstore_n 2, 1) := by decide +kernel
theorem dX10_turned_41 : decode cX10_turned 41 = .ok (.iinc 6 1, 3) := by decide +kernel
theorem dX10_turned_44 : decode cX10_turned 44 = .ok (.goto (-36), 3) := by decide +kernel
theorem dX10_turned_47 : decode cX10_turned 47 = .ok (.lload 4, 2) := by decide +kernel
theorem dX10_turned_49 : decode cX10_turned 49 = .ok (.lreturn, 1) := by decide +kernel
theorem dX10_countLetters_0 : decode cX10_countLetters 0 = .ok (.lload_n 0, 1) := by decide +kernel
theorem dX10_countLetters_1 : decode cX10_countLetters 1 = .ok (.lstore_n 2, 1) := by decide +kernel
theorem dX10_countLetters_2 : decode cX10_countLetters 2 = .ok (.iconst 0, 1) := by decide +kernel
theorem dX10_countLetters_3 : decode cX10_countLetters 3 = .ok (.istore 4, 2) := by decide +kernel
theorem dX10_countLetters_5 : decode cX10_countLetters 5 = .ok (.iconst 0, 1) := by decide +kernel
theorem dX10_countLetters_6 : decode cX10_countLetters 6 = .ok (.istore 5, 2) := by decide +kernel
theorem dX10_countLetters_8 : decode cX10_countLetters 8 = .ok (.iload 5, 2) := by decide +kernel
theorem dX10_countLetters_10 : decode cX10_countLetters 10 = .ok (.bipush 12, 2) := by decide +kernel
theorem dX10_countLetters_12 : decode cX10_countLetters 12 = .ok (.if_icmp .ge 24, 3) := by decide +kernel
theorem dX10_countLetters_15 : decode cX10_countLetters 15 = .ok (.lload_n 2, 1) := by decide +kernel
theorem dX10_countLetters_16 : decode cX10_countLetters 16 = .ok (.lconst 0, 1) := by decide +kernel
theorem dX10_countLetters_17 : decode cX10_countLetters 17 = .ok (.lcmp, 1) := by decide +kernel
theorem dX10_countLetters_18 : decode cX10_countLetters 18 = .ok (.ifCond .le 18, 3) := by decide +kernel
theorem dX10_countLetters_21 : decode cX10_countLetters 21 = .ok (.iinc 4 1, 3) := by decide +kernel
theorem dX10_countLetters_24 : decode cX10_countLetters 24 = .ok (.lload_n 2, 1) := by decide +kernel
theorem dX10_countLetters_25 : decode cX10_countLetters 25 = .ok (.ldc2_w 295, 3) := by decide +kernel
theorem dX10_countLetters_28 : decode cX10_countLetters 28 = .ok (.ldiv, 1) := by decide +kernel
theorem dX10_countLetters_29 : decode cX10_countLetters 29 = .ok (.lstore_n 2, 1) := by decide +kernel
theorem dX10_countLetters_30 : decode cX10_countLetters 30 = .ok (.iinc 5 1, 3) := by decide +kernel
theorem dX10_countLetters_33 : decode cX10_countLetters 33 = .ok (.goto (-25), 3) := by decide +kernel
theorem dX10_countLetters_36 : decode cX10_countLetters 36 = .ok (.iload 4, 2) := by decide +kernel
theorem dX10_countLetters_38 : decode cX10_countLetters 38 = .ok (.ireturn, 1) := by decide +kernel
theorem dX10_withLetter_0 : decode cX10_withLetter 0 = .ok (.iload_n 2, 1) := by decide +kernel
theorem dX10_withLetter_1 : decode cX10_withLetter 1 = .ok (.ifCond .eq 11, 3) := by decide +kernel
theorem dX10_withLetter_4 : decode cX10_withLetter 4 = .ok (.lload_n 0, 1) := by decide +kernel
theorem dX10_withLetter_5 : decode cX10_withLetter 5 = .ok (.ldc2_w 367, 3) := by decide +kernel
theorem dX10_withLetter_8 : decode cX10_withLetter 8 = .ok (.lcmp, 1) := by decide +kernel
theorem dX10_withLetter_9 : decode cX10_withLetter 9 = .ok (.ifCond .lt 7, 3) := by decide +kernel
theorem dX10_withLetter_12 : decode cX10_withLetter 12 = .ok (.lload_n 0, 1) := by decide +kernel
theorem dX10_withLetter_13 : decode cX10_withLetter 13 = .ok (.goto 11, 3) := by decide +kernel
theorem dX10_withLetter_16 : decode cX10_withLetter 16 = .ok (.lload_n 0, 1) := by decide +kernel
theorem dX10_withLetter_17 : decode cX10_withLetter 17 = .ok (.ldc2_w 295, 3) := by decide +kernel
theorem dX10_withLetter_20 : decode cX10_withLetter 20 = .ok (.lmul, 1) := by decide +kernel
theorem dX10_withLetter_21 : decode cX10_withLetter 21 = .ok (.iload_n 2, 1) := by decide +kernel
theorem dX10_withLetter_22 : decode cX10_withLetter 22 = .ok (.i2l, 1) := by decide +kernel
theorem dX10_withLetter_23 : decode cX10_withLetter 23 = .ok (.ladd, 1) := by decide +kernel
theorem dX10_withLetter_24 : decode cX10_withLetter 24 = .ok (.lreturn, 1) := by decide +kernel
theorem dX10_placeOfLaw_0 : decode cX10_placeOfLaw 0 = .ok (.iconst 0, 1) := by decide +kernel
theorem dX10_placeOfLaw_1 : decode cX10_placeOfLaw 1 = .ok (.istore_n 2, 1) := by decide +kernel
theorem dX10_placeOfLaw_2 : decode cX10_placeOfLaw 2 = .ok (.iload_n 2, 1) := by decide +kernel
theorem dX10_placeOfLaw_3 : decode cX10_placeOfLaw 3 = .ok (.aload_n 0, 1) := by decide +kernel
theorem dX10_placeOfLaw_4 : decode cX10_placeOfLaw 4 = .ok (.getfield 16, 3) := by decide +kernel
theorem dX10_placeOfLaw_7 : decode cX10_placeOfLaw 7 = .ok (.invokevirtual 67, 3) := by decide +kernel
theorem dX10_placeOfLaw_10 : decode cX10_placeOfLaw 10 = .ok (.if_icmp .ge 29, 3) := by decide +kernel
theorem dX10_placeOfLaw_13 : decode cX10_placeOfLaw 13 = .ok (.aload_n 0, 1) := by decide +kernel
theorem dX10_placeOfLaw_14 : decode cX10_placeOfLaw 14 = .ok (.getfield 16, 3) := by decide +kernel
theorem dX10_placeOfLaw_17 : decode cX10_placeOfLaw 17 = .ok (.iload_n 2, 1) := by decide +kernel
theorem dX10_placeOfLaw_18 : decode cX10_placeOfLaw 18 = .ok (.invokevirtual 310, 3) := by decide +kernel
theorem dX10_placeOfLaw_21 : decode cX10_placeOfLaw 21 = .ok (.checkcast 172, 3) := by decide +kernel
theorem dX10_placeOfLaw_24 : decode cX10_placeOfLaw 24 = .ok (.getfield 369, 3) := by decide +kernel
theorem dX10_placeOfLaw_27 : decode cX10_placeOfLaw 27 = .ok (.iload_n 1, 1) := by decide +kernel
theorem dX10_placeOfLaw_28 : decode cX10_placeOfLaw 28 = .ok (.if_icmp .le 5, 3) := by decide +kernel
theorem dX10_placeOfLaw_31 : decode cX10_placeOfLaw 31 = .ok (.iload_n 2, 1) := by decide +kernel
theorem dX10_placeOfLaw_32 : decode cX10_placeOfLaw 32 = .ok (.ireturn, 1) := by decide +kernel
theorem dX10_placeOfLaw_33 : decode cX10_placeOfLaw 33 = .ok (.iinc 2 1, 3) := by decide +kernel
theorem dX10_placeOfLaw_36 : decode cX10_placeOfLaw 36 = .ok (.goto (-34), 3) := by decide +kernel
theorem dX10_placeOfLaw_39 : decode cX10_placeOfLaw 39 = .ok (.aload_n 0, 1) := by decide +kernel
theorem dX10_placeOfLaw_40 : decode cX10_placeOfLaw 40 = .ok (.getfield 16, 3) := by decide +kernel
theorem dX10_placeOfLaw_43 : decode cX10_placeOfLaw 43 = .ok (.invokevirtual 67, 3) := by decide +kernel
theorem dX10_placeOfLaw_46 : decode cX10_placeOfLaw 46 = .ok (.ireturn, 1) := by decide +kernel
theorem dX10_formOn_0 : decode cX10_formOn 0 = .ok (.aload_n 1, 1) := by decide +kernel
theorem dX10_formOn_1 : decode cX10_formOn 1 = .ok (.iload_n 2, 1) := by decide +kernel
theorem dX10_formOn_2 : decode cX10_formOn 2 = .ok (.iload_n 3, 1) := by decide +kernel
theorem dX10_formOn_3 : decode cX10_formOn 3 = .ok (.iload 4, 2) := by decide +kernel
theorem dX10_formOn_5 : decode cX10_formOn 5 = .ok (.invokevirtual 370, 3) := by decide +kernel
theorem dX10_formOn_8 : decode cX10_formOn 8 = .ok (.astore 5, 2) := by decide +kernel
theorem dX10_formOn_10 : decode cX10_formOn 10 = .ok (.aload 5, 2) := by decide +kernel
theorem dX10_formOn_12 : decode cX10_formOn 12 = .ok (.ifnonnull 5, 3) := by decide +kernel
theorem dX10_formOn_15 : decode cX10_formOn 15 = .ok (.lconst 0, 1) := by decide +kernel
theorem dX10_formOn_16 : decode cX10_formOn 16 = .ok (.lreturn, 1) := by decide +kernel
theorem dX10_formOn_17 : decode cX10_formOn 17 = .ok (.aload_n 1, 1) := by decide +kernel
theorem dX10_formOn_18 : decode cX10_formOn 18 = .ok (.iload_n 2, 1) := by decide +kernel
theorem dX10_formOn_19 : decode cX10_formOn 19 = .ok (.iload 4, 2) := by decide +kernel
theorem dX10_formOn_21 : decode cX10_formOn 21 = .ok (.invokevirtual 374, 3) := by decide +kernel
theorem dX10_formOn_24 : decode cX10_formOn 24 = .ok (.istore 6, 2) := by decide +kernel
theorem dX10_formOn_26 : decode cX10_formOn 26 = .ok (.aload 5, 2) := by decide +kernel
theorem dX10_formOn_28 : decode cX10_formOn 28 = .ok (.getfield 377, 3) := by decide +kernel
theorem dX10_formOn_31 : decode cX10_formOn 31 = .ok (.lstore 7, 2) := by decide +kernel
theorem dX10_formOn_33 : decode cX10_formOn 33 = .ok (.iconst 0, 1) := by decide +kernel
theorem dX10_formOn_34 : decode cX10_formOn 34 = .ok (.istore 9, 2) := by decide +kernel
theorem dX10_formOn_36 : decode cX10_formOn 36 = .ok (.iload 9, 2) := by decide +kernel
theorem dX10_formOn_38 : decode cX10_formOn 38 = .ok (.aload_n 0, 1) := by decide +kernel
theorem dX10_formOn_39 : decode cX10_formOn 39 = .ok (.getfield 16, 3) := by decide +kernel
theorem dX10_formOn_42 : decode cX10_formOn 42 = .ok (.invokevirtual 67, 3) := by decide +kernel
theorem dX10_formOn_45 : decode cX10_formOn 45 = .ok (.if_icmp .ge 95, 3) := by decide +kernel
theorem dX10_formOn_48 : decode cX10_formOn 48 = .ok (.aload_n 0, 1) := by decide +kernel
theorem dX10_formOn_49 : decode cX10_formOn 49 = .ok (.getfield 16, 3) := by decide +kernel
theorem dX10_formOn_52 : decode cX10_formOn 52 = .ok (.iload 9, 2) := by decide +kernel
theorem dX10_formOn_54 : decode cX10_formOn 54 = .ok (.invokevirtual 310, 3) := by decide +kernel
theorem dX10_formOn_57 : decode cX10_formOn 57 = .ok (.checkcast 172, 3) := by decide +kernel
theorem dX10_formOn_60 : decode cX10_formOn 60 = .ok (.astore 10, 2) := by decide +kernel
theorem dX10_formOn_62 : decode cX10_formOn 62 = .ok (.aload 10, 2) := by decide +kernel
theorem dX10_formOn_64 : decode cX10_formOn 64 = .ok (.getfield 378, 3) := by decide +kernel
theorem dX10_formOn_67 : decode cX10_formOn 67 = .ok (.iload_n 2, 1) := by decide +kernel
theorem dX10_formOn_68 : decode cX10_formOn 68 = .ok (.if_icmp .ne 17, 3) := by decide +kernel
theorem dX10_formOn_71 : decode cX10_formOn 71 = .ok (.aload 10, 2) := by decide +kernel
theorem dX10_formOn_73 : decode cX10_formOn 73 = .ok (.getfield 379, 3) := by decide +kernel
theorem dX10_formOn_76 : decode cX10_formOn 76 = .ok (.iload 4, 2) := by decide +kernel
theorem dX10_formOn_78 : decode cX10_formOn 78 = .ok (.if_icmp .gt 7, 3) := by decide +kernel
theorem dX10_formOn_81 : decode cX10_formOn 81 = .ok (.iconst 1, 1) := by decide +kernel
theorem dX10_formOn_82 : decode cX10_formOn 82 = .ok (.goto 4, 3) := by decide +kernel
theorem dX10_formOn_85 : decode cX10_formOn 85 = .ok (.iconst 0, 1) := by decide +kernel
theorem dX10_formOn_86 : decode cX10_formOn 86 = .ok (.istore 11, 2) := by decide +kernel
theorem dX10_formOn_88 : decode cX10_formOn 88 = .ok (.iload 11, 2) := by decide +kernel
theorem dX10_formOn_90 : decode cX10_formOn 90 = .ok (.ifCond .eq 44, 3) := by decide +kernel
theorem dX10_formOn_93 : decode cX10_formOn 93 = .ok (.aload 10, 2) := by decide +kernel
theorem dX10_formOn_95 : decode cX10_formOn 95 = .ok (.getfield 369, 3) := by decide +kernel
theorem dX10_formOn_98 : decode cX10_formOn 98 = .ok (.aload 5, 2) := by decide +kernel
theorem dX10_formOn_100 : decode cX10_formOn 100 = .ok (.getfield 382, 3) := by decide +kernel
theorem dX10_formOn_103 : decode cX10_formOn 103 = .ok (.if_icmp .le 31, 3) := by decide +kernel
theorem dX10_formOn_106 : decode cX10_formOn 106 = .ok (.aload 10, 2) := by decide +kernel
theorem dX10_formOn_108 : decode cX10_formOn 108 = .ok (.getfield 369, 3) := by decide +kernel
theorem dX10_formOn_111 : decode cX10_formOn 111 = .ok (.iload_n 3, 1) := by decide +kernel
theorem dX10_formOn_112 : decode cX10_formOn 112 = .ok (.if_icmp .gt 22, 3) := by decide +kernel
theorem dX10_formOn_115 : decode cX10_formOn 115 = .ok (.aload 10, 2) := by decide +kernel
theorem dX10_formOn_117 : decode cX10_formOn 117 = .ok (.getfield 369, 3) := by decide +kernel
theorem dX10_formOn_120 : decode cX10_formOn 120 = .ok (.iload 6, 2) := by decide +kernel
theorem dX10_formOn_122 : decode cX10_formOn 122 = .ok (.if_icmp .ge 12, 3) := by decide +kernel
theorem dX10_formOn_125 : decode cX10_formOn 125 = .ok (.aload 10, 2) := by decide +kernel
theorem dX10_formOn_127 : decode cX10_formOn 127 = .ok (.lload 7, 2) := by decide +kernel
theorem dX10_formOn_129 : decode cX10_formOn 129 = .ok (.invokevirtual 383, 3) := by decide +kernel
theorem dX10_formOn_132 : decode cX10_formOn 132 = .ok (.lstore 7, 2) := by decide +kernel
theorem dX10_formOn_134 : decode cX10_formOn 134 = .ok (.iinc 9 1, 3) := by decide +kernel
theorem dX10_formOn_137 : decode cX10_formOn 137 = .ok (.goto (-101), 3) := by decide +kernel
theorem dX10_formOn_140 : decode cX10_formOn 140 = .ok (.lload 7, 2) := by decide +kernel
theorem dX10_formOn_142 : decode cX10_formOn 142 = .ok (.lreturn, 1) := by decide +kernel
theorem dX10_hasFormNow_0 : decode cX10_hasFormNow 0 = .ok (.iconst 0, 1) := by decide +kernel
theorem dX10_hasFormNow_1 : decode cX10_hasFormNow 1 = .ok (.istore 4, 2) := by decide +kernel
theorem dX10_hasFormNow_3 : decode cX10_hasFormNow 3 = .ok (.iload 4, 2) := by decide +kernel
theorem dX10_hasFormNow_5 : decode cX10_hasFormNow 5 = .ok (.iconst 4, 1) := by decide +kernel
theorem dX10_hasFormNow_6 : decode cX10_hasFormNow 6 = .ok (.if_icmp .ge 31, 3) := by decide +kernel
theorem dX10_hasFormNow_9 : decode cX10_hasFormNow 9 = .ok (.aload_n 0, 1) := by decide +kernel
theorem dX10_hasFormNow_10 : decode cX10_hasFormNow 10 = .ok (.aload_n 1, 1) := by decide +kernel
theorem dX10_hasFormNow_11 : decode cX10_hasFormNow 11 = .ok (.iload 4, 2) := by decide +kernel
theorem dX10_hasFormNow_13 : decode cX10_hasFormNow 13 = .ok (.aload_n 0, 1) := by decide +kernel
theorem dX10_hasFormNow_14 : decode cX10_hasFormNow 14 = .ok (.getfield 76, 3) := by decide +kernel
theorem dX10_hasFormNow_17 : decode cX10_hasFormNow 17 = .ok (.aload_n 0, 1) := by decide +kernel
theorem dX10_hasFormNow_18 : decode cX10_hasFormNow 18 = .ok (.getfield 76, 3) := by decide +kernel
theorem dX10_hasFormNow_21 : decode cX10_hasFormNow 21 = .ok (.invokevirtual 193, 3) := by decide +kernel
theorem dX10_hasFormNow_24 : decode cX10_hasFormNow 24 = .ok (.lload_n 2, 1) := by decide +kernel
theorem dX10_hasFormNow_25 : decode cX10_hasFormNow 25 = .ok (.lcmp, 1) := by decide +kernel
theorem dX10_hasFormNow_26 : decode cX10_hasFormNow 26 = .ok (.ifCond .ne 5, 3) := by decide +kernel
theorem dX10_hasFormNow_29 : decode cX10_hasFormNow 29 = .ok (.iconst 1, 1) := by decide +kernel
theorem dX10_hasFormNow_30 : decode cX10_hasFormNow 30 = .ok (.ireturn, 1) := by decide +kernel
theorem dX10_hasFormNow_31 : decode cX10_hasFormNow 31 = .ok (.iinc 4 1, 3) := by decide +kernel
theorem dX10_hasFormNow_34 : decode cX10_hasFormNow 34 = .ok (.goto (-31), 3) := by decide +kernel
theorem dX10_hasFormNow_37 : decode cX10_hasFormNow 37 = .ok (.iconst 0, 1) := by decide +kernel
theorem dX10_hasFormNow_38 : decode cX10_hasFormNow 38 = .ok (.ireturn, 1) := by decide +kernel
theorem dX10_isRefused_0 : decode cX10_isRefused 0 = .ok (.aload_n 1, 1) := by decide +kernel
theorem dX10_isRefused_1 : decode cX10_isRefused 1 = .ok (.getfield 112, 3) := by decide +kernel
theorem dX10_isRefused_4 : decode cX10_isRefused 4 = .ok (.iload 5, 2) := by decide +kernel
theorem dX10_isRefused_6 : decode cX10_isRefused 6 = .ok (.aload_n 0, 1) := by decide +kernel
theorem dX10_isRefused_7 : decode cX10_isRefused 7 = .ok (.getfield 76, 3) := by decide +kernel
theorem dX10_isRefused_10 : decode cX10_isRefused 10 = .ok (.invokevirtual 131, 3) := by decide +kernel
theorem dX10_isRefused_13 : decode cX10_isRefused 13 = .ok (.istore 6, 2) := by decide +kernel
theorem dX10_isRefused_15 : decode cX10_isRefused 15 = .ok (.aload_n 1, 1) := by decide +kernel
theorem dX10_isRefused_16 : decode cX10_isRefused 16 = .ok (.getfield 386, 3) := by decide +kernel
theorem dX10_isRefused_19 : decode cX10_isRefused 19 = .ok (.iconst 5, 1) := by decide +kernel
theorem dX10_isRefused_20 : decode cX10_isRefused 20 = .ok (.if_icmp .ne 9, 3) := by decide +kernel
theorem dX10_isRefused_23 : decode cX10_isRefused 23 = .ok (.iload 6, 2) := by decide +kernel
theorem dX10_isRefused_25 : decode cX10_isRefused 25 = .ok (.iconst (-1), 1) := by decide +kernel
theorem dX10_isRefused_26 : decode cX10_isRefused 26 = .ok (.if_icmp .ne 5, 3) := by decide +kernel
theorem dX10_isRefused_29 : decode cX10_isRefused 29 = .ok (.iconst 0, 1) := by decide +kernel
theorem dX10_isRefused_30 : decode cX10_isRefused 30 = .ok (.ireturn, 1) := by decide +kernel
theorem dX10_isRefused_31 : decode cX10_isRefused 31 = .ok (.iconst 0, 1) := by decide +kernel
theorem dX10_isRefused_32 : decode cX10_isRefused 32 = .ok (.istore 7, 2) := by decide +kernel
theorem dX10_isRefused_34 : decode cX10_isRefused 34 = .ok (.iload 7, 2) := by decide +kernel
theorem dX10_isRefused_36 : decode cX10_isRefused 36 = .ok (.aload_n 0, 1) := by decide +kernel
theorem dX10_isRefused_37 : decode cX10_isRefused 37 = .ok (.getfield 10, 3) := by decide +kernel
theorem dX10_isRefused_40 : decode cX10_isRefused 40 = .ok (.invokevirtual 67, 3) := by decide +kernel
theorem dX10_isRefused_43 : decode cX10_isRefused 43 = .ok (.if_icmp .ge 103, 3) := by decide +kernel
theorem dX10_isRefused_46 : decode cX10_isRefused 46 = .ok (.aload_n 0, 1) := by decide +kernel
theorem dX10_isRefused_47 : decode cX10_isRefused 47 = .ok (.getfield 10, 3) := by decide +kernel
theorem dX10_isRefused_50 : decode cX10_isRefused 50 = .ok (.iload 7, 2) := by decide +kernel
theorem dX10_isRefused_52 : decode cX10_isRefused 52 = .ok (.invokevirtual 310, 3) := by decide +kernel
theorem dX10_isRefused_55 : decode cX10_isRefused 55 = .ok (.checkcast 74, 3) := by decide +kernel
theorem dX10_isRefused_58 : decode cX10_isRefused 58 = .ok (.astore 8, 2) := by decide +kernel
theorem dX10_isRefused_60 : decode cX10_isRefused 60 = .ok (.aload 8, 2) := by decide +kernel
theorem dX10_isRefused_62 : decode cX10_isRefused 62 = .ok (.aload_n 1, 1) := by decide +kernel
theorem dX10_isRefused_63 : decode cX10_isRefused 63 = .ok (.if_acmp .eq 49, 3) := by decide +kernel
theorem dX10_isRefused_66 : decode cX10_isRefused 66 = .ok (.aload 8, 2) := by decide +kernel
theorem dX10_isRefused_68 : decode cX10_isRefused 68 = .ok (.getfield 386, 3) := by decide +kernel
theorem dX10_isRefused_71 : decode cX10_isRefused 71 = .ok (.iconst 5, 1) := by decide +kernel
theorem dX10_isRefused_72 : decode cX10_isRefused 72 = .ok (.if_icmp .ne 40, 3) := by decide +kernel
theorem dX10_isRefused_75 : decode cX10_isRefused 75 = .ok (.aload 8, 2) := by decide +kernel
theorem dX10_isRefused_77 : decode cX10_isRefused 77 = .ok (.iload 5, 2) := by decide +kernel
theorem dX10_isRefused_79 : decode cX10_isRefused 79 = .ok (.aload_n 0, 1) := by decide +kernel
theorem dX10_isRefused_80 : decode cX10_isRefused 80 = .ok (.getfield 76, 3) := by decide +kernel
theorem dX10_isRefused_83 : decode cX10_isRefused 83 = .ok (.invokevirtual 128, 3) := by decide +kernel
theorem dX10_isRefused_86 : decode cX10_isRefused 86 = .ok (.ifCond .eq 26, 3) := by decide +kernel
theorem dX10_isRefused_89 : decode cX10_isRefused 89 = .ok (.aload 8, 2) := by decide +kernel
theorem dX10_isRefused_91 : decode cX10_isRefused 91 = .ok (.getfield 112, 3) := by decide +kernel
theorem dX10_isRefused_94 : decode cX10_isRefused 94 = .ok (.iload 5, 2) := by decide +kernel
theorem dX10_isRefused_96 : decode cX10_isRefused 96 = .ok (.aload_n 0, 1) := by decide +kernel
theorem dX10_isRefused_97 : decode cX10_isRefused 97 = .ok (.getfield 76, 3) := by decide +kernel
theorem dX10_isRefused_100 : decode cX10_isRefused 100 = .ok (.invokevirtual 131, 3) := by decide +kernel
theorem dX10_isRefused_103 : decode cX10_isRefused 103 = .ok (.iload 6, 2) := by decide +kernel
theorem dX10_isRefused_105 : decode cX10_isRefused 105 = .ok (.if_icmp .ne 7, 3) := by decide +kernel
theorem dX10_isRefused_108 : decode cX10_isRefused 108 = .ok (.iconst 1, 1) := by decide +kernel
theorem dX10_isRefused_109 : decode cX10_isRefused 109 = .ok (.goto 4, 3) := by decide +kernel
theorem dX10_isRefused_112 : decode cX10_isRefused 112 = .ok (.iconst 0, 1) := by decide +kernel
theorem dX10_isRefused_113 : decode cX10_isRefused 113 = .ok (.istore 9, 2) := by decide +kernel
theorem dX10_isRefused_115 : decode cX10_isRefused 115 = .ok (.iload 9, 2) := by decide +kernel
theorem dX10_isRefused_117 : decode cX10_isRefused 117 = .ok (.ifCond .eq 23, 3) := by decide +kernel
theorem dX10_isRefused_120 : decode cX10_isRefused 120 = .ok (.aload_n 0, 1) := by decide +kernel
theorem dX10_isRefused_121 : decode cX10_isRefused 121 = .ok (.aload 8, 2) := by decide +kernel
theorem dX10_isRefused_123 : decode cX10_isRefused 123 = .ok (.iload_n 2, 1) := by decide +kernel
theorem dX10_isRefused_124 : decode cX10_isRefused 124 = .ok (.iload 5, 2) := by decide +kernel
theorem dX10_isRefused_126 : decode cX10_isRefused 126 = .ok (.aload_n 0, 1) := by decide +kernel
theorem dX10_isRefused_127 : decode cX10_isRefused 127 = .ok (.getfield 76, 3) := by decide +kernel
theorem dX10_isRefused_130 : decode cX10_isRefused 130 = .ok (.invokevirtual 193, 3) := by decide +kernel
theorem dX10_isRefused_133 : decode cX10_isRefused 133 = .ok (.lload_n 3, 1) := by decide +kernel
theorem dX10_isRefused_134 : decode cX10_isRefused 134 = .ok (.lcmp, 1) := by decide +kernel
theorem dX10_isRefused_135 : decode cX10_isRefused 135 = .ok (.ifCond .ne 5, 3) := by decide +kernel
theorem dX10_isRefused_138 : decode cX10_isRefused 138 = .ok (.iconst 1, 1) := by decide +kernel
theorem dX10_isRefused_139 : decode cX10_isRefused 139 = .ok (.ireturn, 1) := by decide +kernel
theorem dX10_isRefused_140 : decode cX10_isRefused 140 = .ok (.iinc 7 1, 3) := by decide +kernel
theorem dX10_isRefused_143 : decode cX10_isRefused 143 = .ok (.goto (-109), 3) := by decide +kernel
theorem dX10_isRefused_146 : decode cX10_isRefused 146 = .ok (.iconst 0, 1) := by decide +kernel
theorem dX10_isRefused_147 : decode cX10_isRefused 147 = .ok (.ireturn, 1) := by decide +kernel
theorem dX10_seenBy_0 : decode cX10_seenBy 0 = .ok (.aload_n 1, 1) := by decide +kernel
theorem dX10_seenBy_1 : decode cX10_seenBy 1 = .ok (.invokevirtual 389, 3) := by decide +kernel
theorem dX10_seenBy_4 : decode cX10_seenBy 4 = .ok (.ifCond .eq 22, 3) := by decide +kernel
theorem dX10_seenBy_7 : decode cX10_seenBy 7 = .ok (.aload_n 0, 1) := by decide +kernel
theorem dX10_seenBy_8 : decode cX10_seenBy 8 = .ok (.aload_n 1, 1) := by decide +kernel
theorem dX10_seenBy_9 : decode cX10_seenBy 9 = .ok (.aload_n 1, 1) := by decide +kernel
theorem dX10_seenBy_10 : decode cX10_seenBy 10 = .ok (.iload_n 2, 1) := by decide +kernel
theorem dX10_seenBy_11 : decode cX10_seenBy 11 = .ok (.invokevirtual 392, 3) := by decide +kernel
theorem dX10_seenBy_14 : decode cX10_seenBy 14 = .ok (.aload_n 0, 1) := by decide +kernel
theorem dX10_seenBy_15 : decode cX10_seenBy 15 = .ok (.getfield 76, 3) := by decide +kernel
theorem dX10_seenBy_18 : decode cX10_seenBy 18 = .ok (.aload_n 0, 1) := by decide +kernel
theorem dX10_seenBy_19 : decode cX10_seenBy 19 = .ok (.getfield 76, 3) := by decide +kernel
theorem dX10_seenBy_22 : decode cX10_seenBy 22 = .ok (.invokevirtual 193, 3) := by decide +kernel
theorem dX10_seenBy_25 : decode cX10_seenBy 25 = .ok (.lreturn, 1) := by decide +kernel
theorem dX10_seenBy_26 : decode cX10_seenBy 26 = .ok (.aload_n 0, 1) := by decide +kernel
theorem dX10_seenBy_27 : decode cX10_seenBy 27 = .ok (.aload_n 1, 1) := by decide +kernel
theorem dX10_seenBy_28 : decode cX10_seenBy 28 = .ok (.iload_n 2, 1) := by decide +kernel
theorem dX10_seenBy_29 : decode cX10_seenBy 29 = .ok (.aload_n 0, 1) := by decide +kernel
theorem dX10_seenBy_30 : decode cX10_seenBy 30 = .ok (.getfield 76, 3) := by decide +kernel
theorem dX10_seenBy_33 : decode cX10_seenBy 33 = .ok (.aload_n 0, 1) := by decide +kernel
theorem dX10_seenBy_34 : decode cX10_seenBy 34 = .ok (.getfield 76, 3) := by decide +kernel
theorem dX10_seenBy_37 : decode cX10_seenBy 37 = .ok (.invokevirtual 193, 3) := by decide +kernel
theorem dX10_seenBy_40 : decode cX10_seenBy 40 = .ok (.lstore_n 3, 1) := by decide +kernel
theorem dX10_seenBy_41 : decode cX10_seenBy 41 = .ok (.iconst 0, 1) := by decide +kernel
theorem dX10_seenBy_42 : decode cX10_seenBy 42 = .ok (.istore 5, 2) := by decide +kernel
theorem dX10_seenBy_44 : decode cX10_seenBy 44 = .ok (.iload 5, 2) := by decide +kernel
theorem dX10_seenBy_46 : decode cX10_seenBy 46 = .ok (.iconst 4, 1) := by decide +kernel
theorem dX10_seenBy_47 : decode cX10_seenBy 47 = .ok (.if_icmp .ge 31, 3) := by decide +kernel
theorem dX10_seenBy_50 : decode cX10_seenBy 50 = .ok (.lload_n 3, 1) := by decide +kernel
theorem dX10_seenBy_51 : decode cX10_seenBy 51 = .ok (.lconst 0, 1) := by decide +kernel
theorem dX10_seenBy_52 : decode cX10_seenBy 52 = .ok (.lcmp, 1) := by decide +kernel
theorem dX10_seenBy_53 : decode cX10_seenBy 53 = .ok (.ifCond .ne 25, 3) := by decide +kernel
theorem dX10_seenBy_56 : decode cX10_seenBy 56 = .ok (.aload_n 0, 1) := by decide +kernel
theorem dX10_seenBy_57 : decode cX10_seenBy 57 = .ok (.aload_n 1, 1) := by decide +kernel
theorem dX10_seenBy_58 : decode cX10_seenBy 58 = .ok (.iload 5, 2) := by decide +kernel
theorem dX10_seenBy_60 : decode cX10_seenBy 60 = .ok (.aload_n 0, 1) := by decide +kernel
theorem dX10_seenBy_61 : decode cX10_seenBy 61 = .ok (.getfield 76, 3) := by decide +kernel
theorem dX10_seenBy_64 : decode cX10_seenBy 64 = .ok (.aload_n 0, 1) := by decide +kernel
theorem dX10_seenBy_65 : decode cX10_seenBy 65 = .ok (.getfield 76, 3) := by decide +kernel
theorem dX10_seenBy_68 : decode cX10_seenBy 68 = .ok (.invokevirtual 193, 3) := by decide +kernel
theorem dX10_seenBy_71 : decode cX10_seenBy 71 = .ok (.lstore_n 3, 1) := by decide +kernel
theorem dX10_seenBy_72 : decode cX10_seenBy 72 = .ok (.iinc 5 1, 3) := by decide +kernel
theorem dX10_seenBy_75 : decode cX10_seenBy 75 = .ok (.goto (-31), 3) := by decide +kernel
theorem dX10_seenBy_78 : decode cX10_seenBy 78 = .ok (.lload_n 3, 1) := by decide +kernel
theorem dX10_seenBy_79 : decode cX10_seenBy 79 = .ok (.lreturn, 1) := by decide +kernel
theorem dX10_replaceSigns_0 : decode cX10_replaceSigns 0 = .ok (.iconst 0, 1) := by decide +kernel
theorem dX10_replaceSigns_1 : decode cX10_replaceSigns 1 = .ok (.istore_n 1, 1) := by decide +kernel
theorem dX10_replaceSigns_2 : decode cX10_replaceSigns 2 = .ok (.iload_n 1, 1) := by decide +kernel
theorem dX10_replaceSigns_3 : decode cX10_replaceSigns 3 = .ok (.aload_n 0, 1) := by decide +kernel
theorem dX10_replaceSigns_4 : decode cX10_replaceSigns 4 = .ok (.getfield 48, 3) := by decide +kernel
theorem dX10_replaceSigns_7 : decode cX10_replaceSigns 7 = .ok (.if_icmp .ge 46, 3) := by decide +kernel
theorem dX10_replaceSigns_10 : decode cX10_replaceSigns 10 = .ok (.aload_n 0, 1) := by decide +kernel
theorem dX10_replaceSigns_11 : decode cX10_replaceSigns 11 = .ok (.getfield 28, 3) := by decide +kernel
theorem dX10_replaceSigns_14 : decode cX10_replaceSigns 14 = .ok (.invokevirtual 395, 3) := by decide +kernel
theorem dX10_replaceSigns_17 : decode cX10_replaceSigns 17 = .ok (.ifCond .ne 36, 3) := by decide +kernel
theorem dX10_replaceSigns_20 : decode cX10_replaceSigns 20 = .ok (.aload_n 0, 1) := by decide +kernel
theorem dX10_replaceSigns_21 : decode cX10_replaceSigns 21 = .ok (.getfield 28, 3) := by decide +kernel
theorem dX10_replaceSigns_24 : decode cX10_replaceSigns 24 = .ok (.iconst 0, 1) := by decide +kernel
theorem dX10_replaceSigns_25 : decode cX10_replaceSigns 25 = .ok (.invokevirtual 398, 3) := by decide +kernel
theorem dX10_replaceSigns_28 : decode cX10_replaceSigns 28 = .ok (.checkcast 74, 3) := by decide +kernel
theorem dX10_replaceSigns_31 : decode cX10_replaceSigns 31 = .ok (.astore_n 2, 1) := by decide +kernel
theorem dX10_replaceSigns_32 : decode cX10_replaceSigns 32 = .ok (.aload_n 2, 1) := by decide +kernel
theorem dX10_replaceSigns_33 : decode cX10_replaceSigns 33 = .ok (.aload_n 0, 1) := by decide +kernel
theorem dX10_replaceSigns_34 : decode cX10_replaceSigns 34 = .ok (.aload_n 2, 1) := by decide +kernel
theorem dX10_replaceSigns_35 : decode cX10_replaceSigns 35 = .ok (.iconst 0, 1) := by decide +kernel
theorem dX10_replaceSigns_36 : decode cX10_replaceSigns 36 = .ok (.invokevirtual 277, 3) := by decide +kernel
theorem dX10_replaceSigns_39 : decode cX10_replaceSigns 39 = .ok (.putfield 344, 3) := by decide +kernel
theorem dX10_replaceSigns_42 : decode cX10_replaceSigns 42 = .ok (.aload_n 2, 1) := by decide +kernel
theorem dX10_replaceSigns_43 : decode cX10_replaceSigns 43 = .ok (.iconst 0, 1) := by decide +kernel
theorem dX10_replaceSigns_44 : decode cX10_replaceSigns 44 = .ok (.putfield 341, 3) := by decide +kernel
theorem dX10_replaceSigns_47 : decode cX10_replaceSigns 47 = .ok (.iinc 1 1, 3) := by decide +kernel
theorem dX10_replaceSigns_50 : decode cX10_replaceSigns 50 = .ok (.goto (-48), 3) := by decide +kernel
theorem dX10_replaceSigns_53 : decode cX10_replaceSigns 53 = .ok (.return_, 1) := by decide +kernel
theorem dX10_costAt_0 : decode cX10_costAt 0 = .ok (.aload_n 2, 1) := by decide +kernel
theorem dX10_costAt_1 : decode cX10_costAt 1 = .ok (.aload_n 0, 1) := by decide +kernel
theorem dX10_costAt_2 : decode cX10_costAt 2 = .ok (.getfield 76, 3) := by decide +kernel
theorem dX10_costAt_5 : decode cX10_costAt 5 = .ok (.aload_n 0, 1) := by decide +kernel
theorem dX10_costAt_6 : decode cX10_costAt 6 = .ok (.getfield 76, 3) := by decide +kernel
theorem dX10_costAt_9 : decode cX10_costAt 9 = .ok (.invokevirtual 128, 3) := by decide +kernel
theorem dX10_costAt_12 : decode cX10_costAt 12 = .ok (.ifCond .eq 13, 3) := by decide +kernel
theorem dX10_costAt_15 : decode cX10_costAt 15 = .ok (.aload_n 2, 1) := by decide +kernel
theorem dX10_costAt_16 : decode cX10_costAt 16 = .ok (.getfield 158, 3) := by decide +kernel
theorem dX10_costAt_19 : decode cX10_costAt 19 = .ok (.invokevirtual 395, 3) := by decide +kernel
theorem dX10_costAt_22 : decode cX10_costAt 22 = .ok (.ifCond .eq 5, 3) := by decide +kernel
theorem dX10_costAt_25 : decode cX10_costAt 25 = .ok (.iconst (-1), 1) := by decide +kernel
theorem dX10_costAt_26 : decode cX10_costAt 26 = .ok (.ireturn, 1) := by decide +kernel
theorem dX10_costAt_27 : decode cX10_costAt 27 = .ok (.bipush 12, 2) := by decide +kernel
theorem dX10_costAt_29 : decode cX10_costAt 29 = .ok (.istore_n 3, 1) := by decide +kernel
theorem dX10_costAt_30 : decode cX10_costAt 30 = .ok (.iconst 0, 1) := by decide +kernel
theorem dX10_costAt_31 : decode cX10_costAt 31 = .ok (.istore 4, 2) := by decide +kernel
theorem dX10_costAt_33 : decode cX10_costAt 33 = .ok (.iload 4, 2) := by decide +kernel
theorem dX10_costAt_35 : decode cX10_costAt 35 = .ok (.aload_n 2, 1) := by decide +kernel
theorem dX10_costAt_36 : decode cX10_costAt 36 = .ok (.getfield 158, 3) := by decide +kernel
theorem dX10_costAt_39 : decode cX10_costAt 39 = .ok (.invokevirtual 67, 3) := by decide +kernel
theorem dX10_costAt_42 : decode cX10_costAt 42 = .ok (.if_icmp .ge 37, 3) := by decide +kernel
theorem dX10_costAt_45 : decode cX10_costAt 45 = .ok (.iload_n 3, 1) := by decide +kernel
theorem dX10_costAt_46 : decode cX10_costAt 46 = .ok (.aload_n 0, 1) := by decide +kernel
theorem dX10_costAt_47 : decode cX10_costAt 47 = .ok (.aload_n 1, 1) := by decide +kernel
theorem dX10_costAt_48 : decode cX10_costAt 48 = .ok (.getfield 401, 3) := by decide +kernel
theorem dX10_costAt_51 : decode cX10_costAt 51 = .ok (.aload_n 2, 1) := by decide +kernel
theorem dX10_costAt_52 : decode cX10_costAt 52 = .ok (.getfield 158, 3) := by decide +kernel
theorem dX10_costAt_55 : decode cX10_costAt 55 = .ok (.iload 4, 2) := by decide +kernel
theorem dX10_costAt_57 : decode cX10_costAt 57 = .ok (.invokevirtual 310, 3) := by decide +kernel
theorem dX10_costAt_60 : decode cX10_costAt 60 = .ok (.checkcast 161, 3) := by decide +kernel
theorem dX10_costAt_63 : decode cX10_costAt 63 = .ok (.getfield 377, 3) := by decide +kernel
theorem dX10_costAt_66 : decode cX10_costAt 66 = .ok (.invokevirtual 402, 3) := by decide +kernel
theorem dX10_costAt_69 : decode cX10_costAt 69 = .ok (.invokestatic 406, 3) := by decide +kernel
theorem dX10_costAt_72 : decode cX10_costAt 72 = .ok (.istore_n 3, 1) := by decide +kernel
theorem dX10_costAt_73 : decode cX10_costAt 73 = .ok (.iinc 4 1, 3) := by decide +kernel
theorem dX10_costAt_76 : decode cX10_costAt 76 = .ok (.goto (-43), 3) := by decide +kernel
theorem dX10_costAt_79 : decode cX10_costAt 79 = .ok (.aload_n 0, 1) := by decide +kernel
theorem dX10_costAt_80 : decode cX10_costAt 80 = .ok (.aload_n 2, 1) := by decide +kernel
theorem dX10_costAt_81 : decode cX10_costAt 81 = .ok (.aload_n 1, 1) := by decide +kernel
theorem dX10_costAt_82 : decode cX10_costAt 82 = .ok (.getfield 409, 3) := by decide +kernel
theorem dX10_costAt_85 : decode cX10_costAt 85 = .ok (.aload_n 1, 1) := by decide +kernel
