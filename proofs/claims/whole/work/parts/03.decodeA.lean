theorem dX0_init_0 : decode cX0_init 0 = .ok (.aload_n 0, 1) := by decide +kernel
theorem dX0_init_1 : decode cX0_init 1 = .ok (.invokespecial 3, 3) := by decide +kernel
theorem dX0_init_4 : decode cX0_init 4 = .ok (.aload_n 0, 1) := by decide +kernel
theorem dX0_init_5 : decode cX0_init 5 = .ok (.iconst 3, 1) := by decide +kernel
theorem dX0_init_6 : decode cX0_init 6 = .ok (.newarray .int, 2) := by decide +kernel
theorem dX0_init_8 : decode cX0_init 8 = .ok (.putfield 9, 3) := by decide +kernel
theorem dX0_init_11 : decode cX0_init 11 = .ok (.aload_n 0, 1) := by decide +kernel
theorem dX0_init_12 : decode cX0_init 12 = .ok (.new 15, 3) := by decide +kernel
theorem dX0_init_15 : decode cX0_init 15 = .ok (.dup, 1) := by decide +kernel
theorem dX0_init_16 : decode cX0_init 16 = .ok (.invokespecial 17, 3) := by decide +kernel
theorem dX0_init_19 : decode cX0_init 19 = .ok (.putfield 18, 3) := by decide +kernel
theorem dX0_init_22 : decode cX0_init 22 = .ok (.aload_n 0, 1) := by decide +kernel
theorem dX0_init_23 : decode cX0_init 23 = .ok (.bipush 20, 2) := by decide +kernel
theorem dX0_init_25 : decode cX0_init 25 = .ok (.newarray .int, 2) := by decide +kernel
theorem dX0_init_27 : decode cX0_init 27 = .ok (.putfield 22, 3) := by decide +kernel
theorem dX0_init_30 : decode cX0_init 30 = .ok (.return_, 1) := by decide +kernel
theorem dX0_rulerAhead_0 : decode cX0_rulerAhead 0 = .ok (.aload_n 0, 1) := by decide +kernel
theorem dX0_rulerAhead_1 : decode cX0_rulerAhead 1 = .ok (.getfield 18, 3) := by decide +kernel
theorem dX0_rulerAhead_4 : decode cX0_rulerAhead 4 = .ok (.aload_n 2, 1) := by decide +kernel
theorem dX0_rulerAhead_5 : decode cX0_rulerAhead 5 = .ok (.invokevirtual 25, 3) := by decide +kernel
theorem dX0_rulerAhead_8 : decode cX0_rulerAhead 8 = .ok (.iconst 0, 1) := by decide +kernel
theorem dX0_rulerAhead_9 : decode cX0_rulerAhead 9 = .ok (.istore 4, 2) := by decide +kernel
theorem dX0_rulerAhead_11 : decode cX0_rulerAhead 11 = .ok (.iload 4, 2) := by decide +kernel
theorem dX0_rulerAhead_13 : decode cX0_rulerAhead 13 = .ok (.iload_n 3, 1) := by decide +kernel
theorem dX0_rulerAhead_14 : decode cX0_rulerAhead 14 = .ok (.if_icmp .ge 18, 3) := by decide +kernel
theorem dX0_rulerAhead_17 : decode cX0_rulerAhead 17 = .ok (.aload_n 0, 1) := by decide +kernel
theorem dX0_rulerAhead_18 : decode cX0_rulerAhead 18 = .ok (.getfield 18, 3) := by decide +kernel
theorem dX0_rulerAhead_21 : decode cX0_rulerAhead 21 = .ok (.aload_n 1, 1) := by decide +kernel
theorem dX0_rulerAhead_22 : decode cX0_rulerAhead 22 = .ok (.invokevirtual 29, 3) := by decide +kernel
theorem dX0_rulerAhead_25 : decode cX0_rulerAhead 25 = .ok (.pop, 1) := by decide +kernel
theorem dX0_rulerAhead_26 : decode cX0_rulerAhead 26 = .ok (.iinc 4 1, 3) := by decide +kernel
theorem dX0_rulerAhead_29 : decode cX0_rulerAhead 29 = .ok (.goto (-18), 3) := by decide +kernel
theorem dX0_rulerAhead_32 : decode cX0_rulerAhead 32 = .ok (.aload_n 0, 1) := by decide +kernel
theorem dX0_rulerAhead_33 : decode cX0_rulerAhead 33 = .ok (.getfield 18, 3) := by decide +kernel
theorem dX0_rulerAhead_36 : decode cX0_rulerAhead 36 = .ok (.aload_n 1, 1) := by decide +kernel
theorem dX0_rulerAhead_37 : decode cX0_rulerAhead 37 = .ok (.invokevirtual 29, 3) := by decide +kernel
theorem dX0_rulerAhead_40 : decode cX0_rulerAhead 40 = .ok (.ireturn, 1) := by decide +kernel
theorem dX0_leastRing_0 : decode cX0_leastRing 0 = .ok (.aload_n 0, 1) := by decide +kernel
theorem dX0_leastRing_1 : decode cX0_leastRing 1 = .ok (.getfield 18, 3) := by decide +kernel
theorem dX0_leastRing_4 : decode cX0_leastRing 4 = .ok (.aload_n 2, 1) := by decide +kernel
theorem dX0_leastRing_5 : decode cX0_leastRing 5 = .ok (.invokevirtual 25, 3) := by decide +kernel
theorem dX0_leastRing_8 : decode cX0_leastRing 8 = .ok (.iconst 0, 1) := by decide +kernel
theorem dX0_leastRing_9 : decode cX0_leastRing 9 = .ok (.istore_n 3, 1) := by decide +kernel
theorem dX0_leastRing_10 : decode cX0_leastRing 10 = .ok (.iload_n 3, 1) := by decide +kernel
theorem dX0_leastRing_11 : decode cX0_leastRing 11 = .ok (.bipush 20, 2) := by decide +kernel
theorem dX0_leastRing_13 : decode cX0_leastRing 13 = .ok (.if_icmp .ge 18, 3) := by decide +kernel
theorem dX0_leastRing_16 : decode cX0_leastRing 16 = .ok (.aload_n 0, 1) := by decide +kernel
theorem dX0_leastRing_17 : decode cX0_leastRing 17 = .ok (.getfield 18, 3) := by decide +kernel
theorem dX0_leastRing_20 : decode cX0_leastRing 20 = .ok (.aload_n 1, 1) := by decide +kernel
theorem dX0_leastRing_21 : decode cX0_leastRing 21 = .ok (.invokevirtual 29, 3) := by decide +kernel
theorem dX0_leastRing_24 : decode cX0_leastRing 24 = .ok (.pop, 1) := by decide +kernel
theorem dX0_leastRing_25 : decode cX0_leastRing 25 = .ok (.iinc 3 1, 3) := by decide +kernel
theorem dX0_leastRing_28 : decode cX0_leastRing 28 = .ok (.goto (-18), 3) := by decide +kernel
theorem dX0_leastRing_31 : decode cX0_leastRing 31 = .ok (.iconst 0, 1) := by decide +kernel
theorem dX0_leastRing_32 : decode cX0_leastRing 32 = .ok (.istore_n 3, 1) := by decide +kernel
theorem dX0_leastRing_33 : decode cX0_leastRing 33 = .ok (.iload_n 3, 1) := by decide +kernel
theorem dX0_leastRing_34 : decode cX0_leastRing 34 = .ok (.bipush 20, 2) := by decide +kernel
theorem dX0_leastRing_36 : decode cX0_leastRing 36 = .ok (.if_icmp .ge 25, 3) := by decide +kernel
theorem dX0_leastRing_39 : decode cX0_leastRing 39 = .ok (.aload_n 0, 1) := by decide +kernel
theorem dX0_leastRing_40 : decode cX0_leastRing 40 = .ok (.getfield 22, 3) := by decide +kernel
theorem dX0_leastRing_43 : decode cX0_leastRing 43 = .ok (.iload_n 3, 1) := by decide +kernel
theorem dX0_leastRing_44 : decode cX0_leastRing 44 = .ok (.aload_n 0, 1) := by decide +kernel
theorem dX0_leastRing_45 : decode cX0_leastRing 45 = .ok (.getfield 18, 3) := by decide +kernel
theorem dX0_leastRing_48 : decode cX0_leastRing 48 = .ok (.aload_n 1, 1) := by decide +kernel
theorem dX0_leastRing_49 : decode cX0_leastRing 49 = .ok (.invokevirtual 29, 3) := by decide +kernel
theorem dX0_leastRing_52 : decode cX0_leastRing 52 = .ok (.invokestatic 33, 3) := by decide +kernel
theorem dX0_leastRing_55 : decode cX0_leastRing 55 = .ok (.iinc 3 1, 3) := by decide +kernel
theorem dX0_leastRing_58 : decode cX0_leastRing 58 = .ok (.goto (-25), 3) := by decide +kernel
theorem dX0_leastRing_61 : decode cX0_leastRing 61 = .ok (.iconst 1, 1) := by decide +kernel
theorem dX0_leastRing_62 : decode cX0_leastRing 62 = .ok (.istore_n 3, 1) := by decide +kernel
theorem dX0_leastRing_63 : decode cX0_leastRing 63 = .ok (.iload_n 3, 1) := by decide +kernel
theorem dX0_leastRing_64 : decode cX0_leastRing 64 = .ok (.bipush 10, 2) := by decide +kernel
theorem dX0_leastRing_66 : decode cX0_leastRing 66 = .ok (.if_icmp .gt 19, 3) := by decide +kernel
theorem dX0_leastRing_69 : decode cX0_leastRing 69 = .ok (.aload_n 0, 1) := by decide +kernel
theorem dX0_leastRing_70 : decode cX0_leastRing 70 = .ok (.iload_n 3, 1) := by decide +kernel
theorem dX0_leastRing_71 : decode cX0_leastRing 71 = .ok (.invokevirtual 37, 3) := by decide +kernel
theorem dX0_leastRing_74 : decode cX0_leastRing 74 = .ok (.ifCond .eq 5, 3) := by decide +kernel
theorem dX0_leastRing_77 : decode cX0_leastRing 77 = .ok (.iload_n 3, 1) := by decide +kernel
theorem dX0_leastRing_78 : decode cX0_leastRing 78 = .ok (.ireturn, 1) := by decide +kernel
theorem dX0_leastRing_79 : decode cX0_leastRing 79 = .ok (.iinc 3 1, 3) := by decide +kernel
theorem dX0_leastRing_82 : decode cX0_leastRing 82 = .ok (.goto (-19), 3) := by decide +kernel
theorem dX0_leastRing_85 : decode cX0_leastRing 85 = .ok (.bipush (-9), 2) := by decide +kernel
theorem dX0_leastRing_87 : decode cX0_leastRing 87 = .ok (.ireturn, 1) := by decide +kernel
theorem dX0_isRing_0 : decode cX0_isRing 0 = .ok (.iload_n 1, 1) := by decide +kernel
theorem dX0_isRing_1 : decode cX0_isRing 1 = .ok (.istore_n 2, 1) := by decide +kernel
theorem dX0_isRing_2 : decode cX0_isRing 2 = .ok (.iload_n 2, 1) := by decide +kernel
theorem dX0_isRing_3 : decode cX0_isRing 3 = .ok (.bipush 20, 2) := by decide +kernel
theorem dX0_isRing_5 : decode cX0_isRing 5 = .ok (.if_icmp .ge 32, 3) := by decide +kernel
theorem dX0_isRing_8 : decode cX0_isRing 8 = .ok (.aload_n 0, 1) := by decide +kernel
theorem dX0_isRing_9 : decode cX0_isRing 9 = .ok (.getfield 22, 3) := by decide +kernel
theorem dX0_isRing_12 : decode cX0_isRing 12 = .ok (.iload_n 2, 1) := by decide +kernel
theorem dX0_isRing_13 : decode cX0_isRing 13 = .ok (.invokestatic 41, 3) := by decide +kernel
theorem dX0_isRing_16 : decode cX0_isRing 16 = .ok (.aload_n 0, 1) := by decide +kernel
theorem dX0_isRing_17 : decode cX0_isRing 17 = .ok (.getfield 22, 3) := by decide +kernel
theorem dX0_isRing_20 : decode cX0_isRing 20 = .ok (.iload_n 2, 1) := by decide +kernel
theorem dX0_isRing_21 : decode cX0_isRing 21 = .ok (.iload_n 1, 1) := by decide +kernel
theorem dX0_isRing_22 : decode cX0_isRing 22 = .ok (.isub, 1) := by decide +kernel
theorem dX0_isRing_23 : decode cX0_isRing 23 = .ok (.invokestatic 41, 3) := by decide +kernel
theorem dX0_isRing_26 : decode cX0_isRing 26 = .ok (.if_icmp .eq 5, 3) := by decide +kernel
theorem dX0_isRing_29 : decode cX0_isRing 29 = .ok (.iconst 0, 1) := by decide +kernel
theorem dX0_isRing_30 : decode cX0_isRing 30 = .ok (.ireturn, 1) := by decide +kernel
theorem dX0_isRing_31 : decode cX0_isRing 31 = .ok (.iinc 2 1, 3) := by decide +kernel
theorem dX0_isRing_34 : decode cX0_isRing 34 = .ok (.goto (-32), 3) := by decide +kernel
theorem dX0_isRing_37 : decode cX0_isRing 37 = .ok (.iconst 1, 1) := by decide +kernel
theorem dX0_isRing_38 : decode cX0_isRing 38 = .ok (.ireturn, 1) := by decide +kernel
theorem dX0_fewestPairs_0 : decode cX0_fewestPairs 0 = .ok (.aload_n 0, 1) := by decide +kernel
theorem dX0_fewestPairs_1 : decode cX0_fewestPairs 1 = .ok (.getfield 18, 3) := by decide +kernel
theorem dX0_fewestPairs_4 : decode cX0_fewestPairs 4 = .ok (.aload_n 2, 1) := by decide +kernel
theorem dX0_fewestPairs_5 : decode cX0_fewestPairs 5 = .ok (.invokevirtual 25, 3) := by decide +kernel
theorem dX0_fewestPairs_8 : decode cX0_fewestPairs 8 = .ok (.iconst 0, 1) := by decide +kernel
theorem dX0_fewestPairs_9 : decode cX0_fewestPairs 9 = .ok (.istore 5, 2) := by decide +kernel
theorem dX0_fewestPairs_11 : decode cX0_fewestPairs 11 = .ok (.iload 5, 2) := by decide +kernel
theorem dX0_fewestPairs_13 : decode cX0_fewestPairs 13 = .ok (.iconst 3, 1) := by decide +kernel
theorem dX0_fewestPairs_14 : decode cX0_fewestPairs 14 = .ok (.if_icmp .gt 26, 3) := by decide +kernel
theorem dX0_fewestPairs_17 : decode cX0_fewestPairs 17 = .ok (.aload_n 0, 1) := by decide +kernel
theorem dX0_fewestPairs_18 : decode cX0_fewestPairs 18 = .ok (.aload_n 1, 1) := by decide +kernel
theorem dX0_fewestPairs_19 : decode cX0_fewestPairs 19 = .ok (.iload_n 3, 1) := by decide +kernel
theorem dX0_fewestPairs_20 : decode cX0_fewestPairs 20 = .ok (.iload 4, 2) := by decide +kernel
theorem dX0_fewestPairs_22 : decode cX0_fewestPairs 22 = .ok (.iload 5, 2) := by decide +kernel
theorem dX0_fewestPairs_24 : decode cX0_fewestPairs 24 = .ok (.iconst 1, 1) := by decide +kernel
theorem dX0_fewestPairs_25 : decode cX0_fewestPairs 25 = .ok (.invokestatic 45, 3) := by decide +kernel
theorem dX0_fewestPairs_28 : decode cX0_fewestPairs 28 = .ok (.ifCond .eq 6, 3) := by decide +kernel
theorem dX0_fewestPairs_31 : decode cX0_fewestPairs 31 = .ok (.iload 5, 2) := by decide +kernel
theorem dX0_fewestPairs_33 : decode cX0_fewestPairs 33 = .ok (.ireturn, 1) := by decide +kernel
theorem dX0_fewestPairs_34 : decode cX0_fewestPairs 34 = .ok (.iinc 5 1, 3) := by decide +kernel
theorem dX0_fewestPairs_37 : decode cX0_fewestPairs 37 = .ok (.goto (-26), 3) := by decide +kernel
theorem dX0_fewestPairs_40 : decode cX0_fewestPairs 40 = .ok (.bipush (-9), 2) := by decide +kernel
theorem dX0_fewestPairs_42 : decode cX0_fewestPairs 42 = .ok (.ireturn, 1) := by decide +kernel
theorem dX0_bringsAbout_0 : decode cX0_bringsAbout 0 = .ok (.aload_n 0, 1) := by decide +kernel
theorem dX0_bringsAbout_1 : decode cX0_bringsAbout 1 = .ok (.getfield 18, 3) := by decide +kernel
theorem dX0_bringsAbout_4 : decode cX0_bringsAbout 4 = .ok (.astore 6, 2) := by decide +kernel
theorem dX0_bringsAbout_6 : decode cX0_bringsAbout 6 = .ok (.iload 4, 2) := by decide +kernel
theorem dX0_bringsAbout_8 : decode cX0_bringsAbout 8 = .ok (.ifCond .gt 28, 3) := by decide +kernel
theorem dX0_bringsAbout_11 : decode cX0_bringsAbout 11 = .ok (.aload_n 1, 1) := by decide +kernel
theorem dX0_bringsAbout_12 : decode cX0_bringsAbout 12 = .ok (.aload 6, 2) := by decide +kernel
theorem dX0_bringsAbout_14 : decode cX0_bringsAbout 14 = .ok (.invokevirtual 49, 3) := by decide +kernel
theorem dX0_bringsAbout_17 : decode cX0_bringsAbout 17 = .ok (.iload_n 2, 1) := by decide +kernel
theorem dX0_bringsAbout_18 : decode cX0_bringsAbout 18 = .ok (.if_icmp .ne 7, 3) := by decide +kernel
theorem dX0_bringsAbout_21 : decode cX0_bringsAbout 21 = .ok (.iconst 1, 1) := by decide +kernel
theorem dX0_bringsAbout_22 : decode cX0_bringsAbout 22 = .ok (.goto 4, 3) := by decide +kernel
theorem dX0_bringsAbout_25 : decode cX0_bringsAbout 25 = .ok (.iconst 0, 1) := by decide +kernel
theorem dX0_bringsAbout_26 : decode cX0_bringsAbout 26 = .ok (.iload_n 3, 1) := by decide +kernel
theorem dX0_bringsAbout_27 : decode cX0_bringsAbout 27 = .ok (.if_icmp .ne 7, 3) := by decide +kernel
theorem dX0_bringsAbout_30 : decode cX0_bringsAbout 30 = .ok (.iconst 1, 1) := by decide +kernel
theorem dX0_bringsAbout_31 : decode cX0_bringsAbout 31 = .ok (.goto 4, 3) := by decide +kernel
theorem dX0_bringsAbout_34 : decode cX0_bringsAbout 34 = .ok (.iconst 0, 1) := by decide +kernel
theorem dX0_bringsAbout_35 : decode cX0_bringsAbout 35 = .ok (.ireturn, 1) := by decide +kernel
theorem dX0_bringsAbout_36 : decode cX0_bringsAbout 36 = .ok (.iload 5, 2) := by decide +kernel
theorem dX0_bringsAbout_38 : decode cX0_bringsAbout 38 = .ok (.istore 7, 2) := by decide +kernel
theorem dX0_bringsAbout_40 : decode cX0_bringsAbout 40 = .ok (.iload 7, 2) := by decide +kernel
theorem dX0_bringsAbout_42 : decode cX0_bringsAbout 42 = .ok (.bipush 68, 2) := by decide +kernel
theorem dX0_bringsAbout_44 : decode cX0_bringsAbout 44 = .ok (.if_icmp .ge 142, 3) := by decide +kernel
theorem dX0_bringsAbout_47 : decode cX0_bringsAbout 47 = .ok (.iload 7, 2) := by decide +kernel
theorem dX0_bringsAbout_49 : decode cX0_bringsAbout 49 = .ok (.bipush 10, 2) := by decide +kernel
theorem dX0_bringsAbout_51 : decode cX0_bringsAbout 51 = .ok (.idiv, 1) := by decide +kernel
theorem dX0_bringsAbout_52 : decode cX0_bringsAbout 52 = .ok (.istore 8, 2) := by decide +kernel
theorem dX0_bringsAbout_54 : decode cX0_bringsAbout 54 = .ok (.iload 7, 2) := by decide +kernel
theorem dX0_bringsAbout_56 : decode cX0_bringsAbout 56 = .ok (.bipush 10, 2) := by decide +kernel
theorem dX0_bringsAbout_58 : decode cX0_bringsAbout 58 = .ok (.irem, 1) := by decide +kernel
theorem dX0_bringsAbout_59 : decode cX0_bringsAbout 59 = .ok (.istore 9, 2) := by decide +kernel
theorem dX0_bringsAbout_61 : decode cX0_bringsAbout 61 = .ok (.iload 8, 2) := by decide +kernel
theorem dX0_bringsAbout_63 : decode cX0_bringsAbout 63 = .ok (.iload 9, 2) := by decide +kernel
theorem dX0_bringsAbout_65 : decode cX0_bringsAbout 65 = .ok (.if_icmp .ge 115, 3) := by decide +kernel
theorem dX0_bringsAbout_68 : decode cX0_bringsAbout 68 = .ok (.iload 9, 2) := by decide +kernel
theorem dX0_bringsAbout_70 : decode cX0_bringsAbout 70 = .ok (.aload_n 1, 1) := by decide +kernel
theorem dX0_bringsAbout_71 : decode cX0_bringsAbout 71 = .ok (.getfield 55, 3) := by decide +kernel
theorem dX0_bringsAbout_74 : decode cX0_bringsAbout 74 = .ok (.if_icmp .lt 6, 3) := by decide +kernel
theorem dX0_bringsAbout_77 : decode cX0_bringsAbout 77 = .ok (.goto 103, 3) := by decide +kernel
theorem dX0_bringsAbout_80 : decode cX0_bringsAbout 80 = .ok (.aload 6, 2) := by decide +kernel
theorem dX0_bringsAbout_82 : decode cX0_bringsAbout 82 = .ok (.getfield 59, 3) := by decide +kernel
theorem dX0_bringsAbout_85 : decode cX0_bringsAbout 85 = .ok (.iload 8, 2) := by decide +kernel
theorem dX0_bringsAbout_87 : decode cX0_bringsAbout 87 = .ok (.invokestatic 41, 3) := by decide +kernel
theorem dX0_bringsAbout_90 : decode cX0_bringsAbout 90 = .ok (.istore 10, 2) := by decide +kernel
theorem dX0_bringsAbout_92 : decode cX0_bringsAbout 92 = .ok (.aload 6, 2) := by decide +kernel
theorem dX0_bringsAbout_94 : decode cX0_bringsAbout 94 = .ok (.getfield 59, 3) := by decide +kernel
theorem dX0_bringsAbout_97 : decode cX0_bringsAbout 97 = .ok (.iload 9, 2) := by decide +kernel
theorem dX0_bringsAbout_99 : decode cX0_bringsAbout 99 = .ok (.invokestatic 41, 3) := by decide +kernel
theorem dX0_bringsAbout_102 : decode cX0_bringsAbout 102 = .ok (.istore 11, 2) := by decide +kernel
theorem dX0_bringsAbout_104 : decode cX0_bringsAbout 104 = .ok (.aload 6, 2) := by decide +kernel
theorem dX0_bringsAbout_106 : decode cX0_bringsAbout 106 = .ok (.iload 8, 2) := by decide +kernel
theorem dX0_bringsAbout_108 : decode cX0_bringsAbout 108 = .ok (.iload 10, 2) := by decide +kernel
theorem dX0_bringsAbout_110 : decode cX0_bringsAbout 110 = .ok (.iconst 1, 1) := by decide +kernel
theorem dX0_bringsAbout_111 : decode cX0_bringsAbout 111 = .ok (.iload 9, 2) := by decide +kernel
theorem dX0_bringsAbout_113 : decode cX0_bringsAbout 113 = .ok (.ishl, 1) := by decide +kernel
theorem dX0_bringsAbout_114 : decode cX0_bringsAbout 114 = .ok (.ior, 1) := by decide +kernel
theorem dX0_bringsAbout_115 : decode cX0_bringsAbout 115 = .ok (.invokevirtual 62, 3) := by decide +kernel
theorem dX0_bringsAbout_118 : decode cX0_bringsAbout 118 = .ok (.aload 6, 2) := by decide +kernel
theorem dX0_bringsAbout_120 : decode cX0_bringsAbout 120 = .ok (.iload 9, 2) := by decide +kernel
theorem dX0_bringsAbout_122 : decode cX0_bringsAbout 122 = .ok (.iload 11, 2) := by decide +kernel
theorem dX0_bringsAbout_124 : decode cX0_bringsAbout 124 = .ok (.iconst 1, 1) := by decide +kernel
theorem dX0_bringsAbout_125 : decode cX0_bringsAbout 125 = .ok (.iload 8, 2) := by decide +kernel
theorem dX0_bringsAbout_127 : decode cX0_bringsAbout 127 = .ok (.ishl, 1) := by decide +kernel
theorem dX0_bringsAbout_128 : decode cX0_bringsAbout 128 = .ok (.ior, 1) := by decide +kernel
theorem dX0_bringsAbout_129 : decode cX0_bringsAbout 129 = .ok (.invokevirtual 62, 3) := by decide +kernel
theorem dX0_bringsAbout_132 : decode cX0_bringsAbout 132 = .ok (.aload_n 0, 1) := by decide +kernel
theorem dX0_bringsAbout_133 : decode cX0_bringsAbout 133 = .ok (.aload_n 1, 1) := by decide +kernel
theorem dX0_bringsAbout_134 : decode cX0_bringsAbout 134 = .ok (.iload_n 2, 1) := by decide +kernel
theorem dX0_bringsAbout_135 : decode cX0_bringsAbout 135 = .ok (.iload_n 3, 1) := by decide +kernel
theorem dX0_bringsAbout_136 : decode cX0_bringsAbout 136 = .ok (.iload 4, 2) := by decide +kernel
theorem dX0_bringsAbout_138 : decode cX0_bringsAbout 138 = .ok (.iconst 1, 1) := by decide +kernel
theorem dX0_bringsAbout_139 : decode cX0_bringsAbout 139 = .ok (.isub, 1) := by decide +kernel
theorem dX0_bringsAbout_140 : decode cX0_bringsAbout 140 = .ok (.iload 7, 2) := by decide +kernel
theorem dX0_bringsAbout_142 : decode cX0_bringsAbout 142 = .ok (.iconst 1, 1) := by decide +kernel
theorem dX0_bringsAbout_143 : decode cX0_bringsAbout 143 = .ok (.iadd, 1) := by decide +kernel
theorem dX0_bringsAbout_144 : decode cX0_bringsAbout 144 = .ok (.invokestatic 45, 3) := by decide +kernel
theorem dX0_bringsAbout_147 : decode cX0_bringsAbout 147 = .ok (.istore 12, 2) := by decide +kernel
theorem dX0_bringsAbout_149 : decode cX0_bringsAbout 149 = .ok (.aload 6, 2) := by decide +kernel
theorem dX0_bringsAbout_151 : decode cX0_bringsAbout 151 = .ok (.iload 8, 2) := by decide +kernel
theorem dX0_bringsAbout_153 : decode cX0_bringsAbout 153 = .ok (.iload 10, 2) := by decide +kernel
theorem dX0_bringsAbout_155 : decode cX0_bringsAbout 155 = .ok (.invokevirtual 62, 3) := by decide +kernel
theorem dX0_bringsAbout_158 : decode cX0_bringsAbout 158 = .ok (.aload 6, 2) := by decide +kernel
theorem dX0_bringsAbout_160 : decode cX0_bringsAbout 160 = .ok (.iload 9, 2) := by decide +kernel
theorem dX0_bringsAbout_162 : decode cX0_bringsAbout 162 = .ok (.iload 11, 2) := by decide +kernel
theorem dX0_bringsAbout_164 : decode cX0_bringsAbout 164 = .ok (.invokevirtual 62, 3) := by decide +kernel
theorem dX0_bringsAbout_167 : decode cX0_bringsAbout 167 = .ok (.iload 12, 2) := by decide +kernel
theorem dX0_bringsAbout_169 : decode cX0_bringsAbout 169 = .ok (.ifCond .eq 11, 3) := by decide +kernel
theorem dX0_bringsAbout_172 : decode cX0_bringsAbout 172 = .ok (.aload_n 0, 1) := by decide +kernel
theorem dX0_bringsAbout_173 : decode cX0_bringsAbout 173 = .ok (.iload 7, 2) := by decide +kernel
theorem dX0_bringsAbout_175 : decode cX0_bringsAbout 175 = .ok (.invokevirtual 66, 3) := by decide +kernel
theorem dX0_bringsAbout_178 : decode cX0_bringsAbout 178 = .ok (.iconst 1, 1) := by decide +kernel
theorem dX0_bringsAbout_179 : decode cX0_bringsAbout 179 = .ok (.ireturn, 1) := by decide +kernel
theorem dX0_bringsAbout_180 : decode cX0_bringsAbout 180 = .ok (.iinc 7 1, 3) := by decide +kernel
theorem dX0_bringsAbout_183 : decode cX0_bringsAbout 183 = .ok (.goto (-143), 3) := by decide +kernel
theorem dX0_bringsAbout_186 : decode cX0_bringsAbout 186 = .ok (.iconst 0, 1) := by decide +kernel
theorem dX0_bringsAbout_187 : decode cX0_bringsAbout 187 = .ok (.ireturn, 1) := by decide +kernel
theorem dX0_noteInFront_0 : decode cX0_noteInFront 0 = .ok (.iconst 2, 1) := by decide +kernel
theorem dX0_noteInFront_1 : decode cX0_noteInFront 1 = .ok (.istore_n 2, 1) := by decide +kernel
theorem dX0_noteInFront_2 : decode cX0_noteInFront 2 = .ok (.iload_n 2, 1) := by decide +kernel
theorem dX0_noteInFront_3 : decode cX0_noteInFront 3 = .ok (.ifCond .le 27, 3) := by decide +kernel
theorem dX0_noteInFront_6 : decode cX0_noteInFront 6 = .ok (.aload_n 0, 1) := by decide +kernel
theorem dX0_noteInFront_7 : decode cX0_noteInFront 7 = .ok (.getfield 9, 3) := by decide +kernel
theorem dX0_noteInFront_10 : decode cX0_noteInFront 10 = .ok (.iload_n 2, 1) := by decide +kernel
theorem dX0_noteInFront_11 : decode cX0_noteInFront 11 = .ok (.aload_n 0, 1) := by decide +kernel
theorem dX0_noteInFront_12 : decode cX0_noteInFront 12 = .ok (.getfield 9, 3) := by decide +kernel
theorem dX0_noteInFront_15 : decode cX0_noteInFront 15 = .ok (.iload_n 2, 1) := by decide +kernel
theorem dX0_noteInFront_16 : decode cX0_noteInFront 16 = .ok (.iconst 1, 1) := by decide +kernel
theorem dX0_noteInFront_17 : decode cX0_noteInFront 17 = .ok (.isub, 1) := by decide +kernel
theorem dX0_noteInFront_18 : decode cX0_noteInFront 18 = .ok (.invokestatic 41, 3) := by decide +kernel
theorem dX0_noteInFront_21 : decode cX0_noteInFront 21 = .ok (.invokestatic 33, 3) := by decide +kernel
theorem dX0_noteInFront_24 : decode cX0_noteInFront 24 = .ok (.iinc 2 (-1), 3) := by decide +kernel
theorem dX0_noteInFront_27 : decode cX0_noteInFront 27 = .ok (.goto (-25), 3) := by decide +kernel
theorem dX0_noteInFront_30 : decode cX0_noteInFront 30 = .ok (.aload_n 0, 1) := by decide +kernel
theorem dX0_noteInFront_31 : decode cX0_noteInFront 31 = .ok (.getfield 9, 3) := by decide +kernel
theorem dX0_noteInFront_34 : decode cX0_noteInFront 34 = .ok (.iconst 0, 1) := by decide +kernel
theorem dX0_noteInFront_35 : decode cX0_noteInFront 35 = .ok (.iload_n 1, 1) := by decide +kernel
theorem dX0_noteInFront_36 : decode cX0_noteInFront 36 = .ok (.invokestatic 33, 3) := by decide +kernel
theorem dX0_noteInFront_39 : decode cX0_noteInFront 39 = .ok (.return_, 1) := by decide +kernel
theorem dX0_lastDays_0 : decode cX0_lastDays 0 = .ok (.aload_n 0, 1) := by decide +kernel
theorem dX0_lastDays_1 : decode cX0_lastDays 1 = .ok (.getfield 18, 3) := by decide +kernel
theorem dX0_lastDays_4 : decode cX0_lastDays 4 = .ok (.aload_n 2, 1) := by decide +kernel
theorem dX0_lastDays_5 : decode cX0_lastDays 5 = .ok (.invokevirtual 25, 3) := by decide +kernel
theorem dX0_lastDays_8 : decode cX0_lastDays 8 = .ok (.aload_n 0, 1) := by decide +kernel
theorem dX0_lastDays_9 : decode cX0_lastDays 9 = .ok (.bipush (-9), 2) := by decide +kernel
theorem dX0_lastDays_11 : decode cX0_lastDays 11 = .ok (.putfield 70, 3) := by decide +kernel
theorem dX0_lastDays_14 : decode cX0_lastDays 14 = .ok (.aload_n 0, 1) := by decide +kernel
theorem dX0_lastDays_15 : decode cX0_lastDays 15 = .ok (.aload_n 1, 1) := by decide +kernel
theorem dX0_lastDays_16 : decode cX0_lastDays 16 = .ok (.iload 4, 2) := by decide +kernel
theorem dX0_lastDays_18 : decode cX0_lastDays 18 = .ok (.iload 5, 2) := by decide +kernel
theorem dX0_lastDays_20 : decode cX0_lastDays 20 = .ok (.iconst 0, 1) := by decide +kernel
theorem dX0_lastDays_21 : decode cX0_lastDays 21 = .ok (.iload_n 3, 1) := by decide +kernel
theorem dX0_lastDays_22 : decode cX0_lastDays 22 = .ok (.iconst 3, 1) := by decide +kernel
theorem dX0_lastDays_23 : decode cX0_lastDays 23 = .ok (.invokestatic 73, 3) := by decide +kernel
theorem dX0_lastDays_26 : decode cX0_lastDays 26 = .ok (.invokestatic 79, 3) := by decide +kernel
theorem dX0_lastDays_29 : decode cX0_lastDays 29 = .ok (.ireturn, 1) := by decide +kernel
theorem dX0_outcome_0 : decode cX0_outcome 0 = .ok (.aload_n 0, 1) := by decide +kernel
theorem dX0_outcome_1 : decode cX0_outcome 1 = .ok (.getfield 18, 3) := by decide +kernel
theorem dX0_outcome_4 : decode cX0_outcome 4 = .ok (.astore 6, 2) := by decide +kernel
theorem dX0_outcome_6 : decode cX0_outcome 6 = .ok (.iload 4, 2) := by decide +kernel
theorem dX0_outcome_8 : decode cX0_outcome 8 = .ok (.iload 5, 2) := by decide +kernel
theorem dX0_outcome_10 : decode cX0_outcome 10 = .ok (.if_icmp .ge 11, 3) := by decide +kernel
theorem dX0_outcome_13 : decode cX0_outcome 13 = .ok (.aload_n 1, 1) := by decide +kernel
theorem dX0_outcome_14 : decode cX0_outcome 14 = .ok (.getfield 55, 3) := by decide +kernel
theorem dX0_outcome_17 : decode cX0_outcome 17 = .ok (.iconst 1, 1) := by decide +kernel
theorem dX0_outcome_18 : decode cX0_outcome 18 = .ok (.if_icmp .ge 10, 3) := by decide +kernel
theorem dX0_outcome_21 : decode cX0_outcome 21 = .ok (.aload_n 1, 1) := by decide +kernel
theorem dX0_outcome_22 : decode cX0_outcome 22 = .ok (.aload 6, 2) := by decide +kernel
theorem dX0_outcome_24 : decode cX0_outcome 24 = .ok (.invokevirtual 49, 3) := by decide +kernel
theorem dX0_outcome_27 : decode cX0_outcome 27 = .ok (.ireturn, 1) := by decide +kernel
theorem dX0_outcome_28 : decode cX0_outcome 28 = .ok (.iload_n 2, 1) := by decide +kernel
theorem dX0_outcome_29 : decode cX0_outcome 29 = .ok (.iload 4, 2) := by decide +kernel
theorem dX0_outcome_31 : decode cX0_outcome 31 = .ok (.iadd, 1) := by decide +kernel
theorem dX0_outcome_32 : decode cX0_outcome 32 = .ok (.aload_n 1, 1) := by decide +kernel
theorem dX0_outcome_33 : decode cX0_outcome 33 = .ok (.getfield 55, 3) := by decide +kernel
theorem dX0_outcome_36 : decode cX0_outcome 36 = .ok (.irem, 1) := by decide +kernel
theorem dX0_outcome_37 : decode cX0_outcome 37 = .ok (.istore 7, 2) := by decide +kernel
theorem dX0_outcome_39 : decode cX0_outcome 39 = .ok (.aload_n 0, 1) := by decide +kernel
theorem dX0_outcome_40 : decode cX0_outcome 40 = .ok (.aload_n 1, 1) := by decide +kernel
theorem dX0_outcome_41 : decode cX0_outcome 41 = .ok (.iload_n 2, 1) := by decide +kernel
theorem dX0_outcome_42 : decode cX0_outcome 42 = .ok (.iload_n 3, 1) := by decide +kernel
theorem dX0_outcome_43 : decode cX0_outcome 43 = .ok (.iload 4, 2) := by decide +kernel
theorem dX0_outcome_45 : decode cX0_outcome 45 = .ok (.iconst 1, 1) := by decide +kernel
theorem dX0_outcome_46 : decode cX0_outcome 46 = .ok (.iadd, 1) := by decide +kernel
theorem dX0_outcome_47 : decode cX0_outcome 47 = .ok (.iload 5, 2) := by decide +kernel
theorem dX0_outcome_49 : decode cX0_outcome 49 = .ok (.invokestatic 79, 3) := by decide +kernel
theorem dX0_outcome_52 : decode cX0_outcome 52 = .ok (.istore 8, 2) := by decide +kernel
theorem dX0_outcome_54 : decode cX0_outcome 54 = .ok (.iload 8, 2) := by decide +kernel
theorem dX0_outcome_56 : decode cX0_outcome 56 = .ok (.iload 7, 2) := by decide +kernel
theorem dX0_outcome_58 : decode cX0_outcome 58 = .ok (.if_icmp .ne 7, 3) := by decide +kernel
theorem dX0_outcome_61 : decode cX0_outcome 61 = .ok (.iconst 1, 1) := by decide +kernel
theorem dX0_outcome_62 : decode cX0_outcome 62 = .ok (.goto 4, 3) := by decide +kernel
theorem dX0_outcome_65 : decode cX0_outcome 65 = .ok (.iconst 0, 1) := by decide +kernel
theorem dX0_outcome_66 : decode cX0_outcome 66 = .ok (.iload_n 3, 1) := by decide +kernel
theorem dX0_outcome_67 : decode cX0_outcome 67 = .ok (.if_icmp .ne 6, 3) := by decide +kernel
theorem dX0_outcome_70 : decode cX0_outcome 70 = .ok (.iload 8, 2) := by decide +kernel
theorem dX0_outcome_72 : decode cX0_outcome 72 = .ok (.ireturn, 1) := by decide +kernel
theorem dX0_outcome_73 : decode cX0_outcome 73 = .ok (.iconst 0, 1) := by decide +kernel
theorem dX0_outcome_74 : decode cX0_outcome 74 = .ok (.istore 9, 2) := by decide +kernel
theorem dX0_outcome_76 : decode cX0_outcome 76 = .ok (.iload 9, 2) := by decide +kernel
theorem dX0_outcome_78 : decode cX0_outcome 78 = .ok (.aload_n 1, 1) := by decide +kernel
theorem dX0_outcome_79 : decode cX0_outcome 79 = .ok (.getfield 55, 3) := by decide +kernel
theorem dX0_outcome_82 : decode cX0_outcome 82 = .ok (.if_icmp .ge 134, 3) := by decide +kernel
theorem dX0_outcome_85 : decode cX0_outcome 85 = .ok (.iload 9, 2) := by decide +kernel
theorem dX0_outcome_87 : decode cX0_outcome 87 = .ok (.iload 7, 2) := by decide +kernel
theorem dX0_outcome_89 : decode cX0_outcome 89 = .ok (.if_icmp .ne 6, 3) := by decide +kernel
theorem dX0_outcome_92 : decode cX0_outcome 92 = .ok (.goto 118, 3) := by decide +kernel
theorem dX0_outcome_95 : decode cX0_outcome 95 = .ok (.aload 6, 2) := by decide +kernel
theorem dX0_outcome_97 : decode cX0_outcome 97 = .ok (.getfield 59, 3) := by decide +kernel
theorem dX0_outcome_100 : decode cX0_outcome 100 = .ok (.iload 7, 2) := by decide +kernel
theorem dX0_outcome_102 : decode cX0_outcome 102 = .ok (.invokestatic 41, 3) := by decide +kernel
theorem dX0_outcome_105 : decode cX0_outcome 105 = .ok (.istore 10, 2) := by decide +kernel
theorem dX0_outcome_107 : decode cX0_outcome 107 = .ok (.aload 6, 2) := by decide +kernel
theorem dX0_outcome_109 : decode cX0_outcome 109 = .ok (.getfield 59, 3) := by decide +kernel
theorem dX0_outcome_112 : decode cX0_outcome 112 = .ok (.iload 9, 2) := by decide +kernel
theorem dX0_outcome_114 : decode cX0_outcome 114 = .ok (.invokestatic 41, 3) := by decide +kernel
theorem dX0_outcome_117 : decode cX0_outcome 117 = .ok (.istore 11, 2) := by decide +kernel
theorem dX0_outcome_119 : decode cX0_outcome 119 = .ok (.aload 6, 2) := by decide +kernel
theorem dX0_outcome_121 : decode cX0_outcome 121 = .ok (.iload 7, 2) := by decide +kernel
theorem dX0_outcome_123 : decode cX0_outcome 123 = .ok (.iload 10, 2) := by decide +kernel
theorem dX0_outcome_125 : decode cX0_outcome 125 = .ok (.iconst 1, 1) := by decide +kernel
theorem dX0_outcome_126 : decode cX0_outcome 126 = .ok (.iload 9, 2) := by decide +kernel
theorem dX0_outcome_128 : decode cX0_outcome 128 = .ok (.ishl, 1) := by decide +kernel
theorem dX0_outcome_129 : decode cX0_outcome 129 = .ok (.ior, 1) := by decide +kernel
theorem dX0_outcome_130 : decode cX0_outcome 130 = .ok (.invokevirtual 62, 3) := by decide +kernel
theorem dX0_outcome_133 : decode cX0_outcome 133 = .ok (.aload 6, 2) := by decide +kernel
theorem dX0_outcome_135 : decode cX0_outcome 135 = .ok (.iload 9, 2) := by decide +kernel
theorem dX0_outcome_137 : decode cX0_outcome 137 = .ok (.iload 11, 2) := by decide +kernel
theorem dX0_outcome_139 : decode cX0_outcome 139 = .ok (.iconst 1, 1) := by decide +kernel
theorem dX0_outcome_140 : decode cX0_outcome 140 = .ok (.iload 7, 2) := by decide +kernel
theorem dX0_outcome_142 : decode cX0_outcome 142 = .ok (.ishl, 1) := by decide +kernel
theorem dX0_outcome_143 : decode cX0_outcome 143 = .ok (.ior, 1) := by decide +kernel
theorem dX0_outcome_144 : decode cX0_outcome 144 = .ok (.invokevirtual 62, 3) := by decide +kernel
theorem dX0_outcome_147 : decode cX0_outcome 147 = .ok (.aload_n 0, 1) := by decide +kernel
theorem dX0_outcome_148 : decode cX0_outcome 148 = .ok (.aload_n 1, 1) := by decide +kernel
theorem dX0_outcome_149 : decode cX0_outcome 149 = .ok (.iload_n 2, 1) := by decide +kernel
theorem dX0_outcome_150 : decode cX0_outcome 150 = .ok (.iload_n 3, 1) := by decide +kernel
theorem dX0_outcome_151 : decode cX0_outcome 151 = .ok (.iload 4, 2) := by decide +kernel
theorem dX0_outcome_153 : decode cX0_outcome 153 = .ok (.iconst 1, 1) := by decide +kernel
theorem dX0_outcome_154 : decode cX0_outcome 154 = .ok (.iadd, 1) := by decide +kernel
theorem dX0_outcome_155 : decode cX0_outcome 155 = .ok (.iload 5, 2) := by decide +kernel
theorem dX0_outcome_157 : decode cX0_outcome 157 = .ok (.invokestatic 79, 3) := by decide +kernel
theorem dX0_outcome_160 : decode cX0_outcome 160 = .ok (.istore 12, 2) := by decide +kernel
theorem dX0_outcome_162 : decode cX0_outcome 162 = .ok (.aload 6, 2) := by decide +kernel
theorem dX0_outcome_164 : decode cX0_outcome 164 = .ok (.iload 7, 2) := by decide +kernel
theorem dX0_outcome_166 : decode cX0_outcome 166 = .ok (.iload 10, 2) := by decide +kernel
theorem dX0_outcome_168 : decode cX0_outcome 168 = .ok (.invokevirtual 62, 3) := by decide +kernel
theorem dX0_outcome_171 : decode cX0_outcome 171 = .ok (.aload 6, 2) := by decide +kernel
theorem dX0_outcome_173 : decode cX0_outcome 173 = .ok (.iload 9, 2) := by decide +kernel
theorem dX0_outcome_175 : decode cX0_outcome 175 = .ok (.iload 11, 2) := by decide +kernel
theorem dX0_outcome_177 : decode cX0_outcome 177 = .ok (.invokevirtual 62, 3) := by decide +kernel
theorem dX0_outcome_180 : decode cX0_outcome 180 = .ok (.iload 12, 2) := by decide +kernel
theorem dX0_outcome_182 : decode cX0_outcome 182 = .ok (.iload 7, 2) := by decide +kernel
theorem dX0_outcome_184 : decode cX0_outcome 184 = .ok (.if_icmp .ne 7, 3) := by decide +kernel
theorem dX0_outcome_187 : decode cX0_outcome 187 = .ok (.iconst 1, 1) := by decide +kernel
theorem dX0_outcome_188 : decode cX0_outcome 188 = .ok (.goto 4, 3) := by decide +kernel
theorem dX0_outcome_191 : decode cX0_outcome 191 = .ok (.iconst 0, 1) := by decide +kernel
theorem dX0_outcome_192 : decode cX0_outcome 192 = .ok (.iload_n 3, 1) := by decide +kernel
theorem dX0_outcome_193 : decode cX0_outcome 193 = .ok (.if_icmp .ne 17, 3) := by decide +kernel
theorem dX0_outcome_196 : decode cX0_outcome 196 = .ok (.iload 4, 2) := by decide +kernel
theorem dX0_outcome_198 : decode cX0_outcome 198 = .ok (.ifCond .ne 9, 3) := by decide +kernel
theorem dX0_outcome_201 : decode cX0_outcome 201 = .ok (.aload_n 0, 1) := by decide +kernel
theorem dX0_outcome_202 : decode cX0_outcome 202 = .ok (.iload 9, 2) := by decide +kernel
theorem dX0_outcome_204 : decode cX0_outcome 204 = .ok (.putfield 70, 3) := by decide +kernel
theorem dX0_outcome_207 : decode cX0_outcome 207 = .ok (.iload 12, 2) := by decide +kernel
theorem dX0_outcome_209 : decode cX0_outcome 209 = .ok (.ireturn, 1) := by decide +kernel
theorem dX0_outcome_210 : decode cX0_outcome 210 = .ok (.iinc 9 1, 3) := by decide +kernel
theorem dX0_outcome_213 : decode cX0_outcome 213 = .ok (.goto (-137), 3) := by decide +kernel
theorem dX0_outcome_216 : decode cX0_outcome 216 = .ok (.iload 8, 2) := by decide +kernel
theorem dX0_outcome_218 : decode cX0_outcome 218 = .ok (.ireturn, 1) := by decide +kernel
theorem dX1_init_0 : decode cX1_init 0 = .ok (.aload_n 0, 1) := by decide +kernel
theorem dX1_init_1 : decode cX1_init 1 = .ok (.invokespecial 1, 3) := by decide +kernel
theorem dX1_init_4 : decode cX1_init 4 = .ok (.aload_n 0, 1) := by decide +kernel
theorem dX1_init_5 : decode cX1_init 5 = .ok (.new 7, 3) := by decide +kernel
theorem dX1_init_8 : decode cX1_init 8 = .ok (.dup, 1) := by decide +kernel
theorem dX1_init_9 : decode cX1_init 9 = .ok (.invokespecial 9, 3) := by decide +kernel
theorem dX1_init_12 : decode cX1_init 12 = .ok (.putfield 10, 3) := by decide +kernel
theorem dX1_init_15 : decode cX1_init 15 = .ok (.return_, 1) := by decide +kernel
theorem dX2_init_0 : decode cX2_init 0 = .ok (.aload_n 0, 1) := by decide +kernel
theorem dX2_init_1 : decode cX2_init 1 = .ok (.invokespecial 3, 3) := by decide +kernel
theorem dX2_init_4 : decode cX2_init 4 = .ok (.aload_n 0, 1) := by decide +kernel
theorem dX2_init_5 : decode cX2_init 5 = .ok (.bipush 8, 2) := by decide +kernel
theorem dX2_init_7 : decode cX2_init 7 = .ok (.newarray .int, 2) := by decide +kernel
theorem dX2_init_9 : decode cX2_init 9 = .ok (.putfield 9, 3) := by decide +kernel
theorem dX2_init_12 : decode cX2_init 12 = .ok (.aload_n 0, 1) := by decide +kernel
theorem dX2_init_13 : decode cX2_init 13 = .ok (.bipush 8, 2) := by decide +kernel
theorem dX2_init_15 : decode cX2_init 15 = .ok (.newarray .int, 2) := by decide +kernel
theorem dX2_init_17 : decode cX2_init 17 = .ok (.putfield 15, 3) := by decide +kernel
theorem dX2_init_20 : decode cX2_init 20 = .ok (.aload_n 0, 1) := by decide +kernel
theorem dX2_init_21 : decode cX2_init 21 = .ok (.bipush 64, 2) := by decide +kernel
theorem dX2_init_23 : decode cX2_init 23 = .ok (.newarray .int, 2) := by decide +kernel
theorem dX2_init_25 : decode cX2_init 25 = .ok (.putfield 18, 3) := by decide +kernel
theorem dX2_init_28 : decode cX2_init 28 = .ok (.aload_n 0, 1) := by decide +kernel
theorem dX2_init_29 : decode cX2_init 29 = .ok (.bipush 8, 2) := by decide +kernel
theorem dX2_init_31 : decode cX2_init 31 = .ok (.newarray .int, 2) := by decide +kernel
theorem dX2_init_33 : decode cX2_init 33 = .ok (.putfield 21, 3) := by decide +kernel
theorem dX2_init_36 : decode cX2_init 36 = .ok (.return_, 1) := by decide +kernel
theorem dX2_begin_0 : decode cX2_begin 0 = .ok (.iconst 0, 1) := by decide +kernel
theorem dX2_begin_1 : decode cX2_begin 1 = .ok (.istore_n 2, 1) := by decide +kernel
theorem dX2_begin_2 : decode cX2_begin 2 = .ok (.iload_n 2, 1) := by decide +kernel
theorem dX2_begin_3 : decode cX2_begin 3 = .ok (.bipush 8, 2) := by decide +kernel
theorem dX2_begin_5 : decode cX2_begin 5 = .ok (.if_icmp .ge 22, 3) := by decide +kernel
theorem dX2_begin_8 : decode cX2_begin 8 = .ok (.aload_n 0, 1) := by decide +kernel
theorem dX2_begin_9 : decode cX2_begin 9 = .ok (.iload_n 2, 1) := by decide +kernel
theorem dX2_begin_10 : decode cX2_begin 10 = .ok (.aload_n 1, 1) := by decide +kernel
theorem dX2_begin_11 : decode cX2_begin 11 = .ok (.getfield 24, 3) := by decide +kernel
theorem dX2_begin_14 : decode cX2_begin 14 = .ok (.iload_n 2, 1) := by decide +kernel
theorem dX2_begin_15 : decode cX2_begin 15 = .ok (.invokestatic 27, 3) := by decide +kernel
theorem dX2_begin_18 : decode cX2_begin 18 = .ok (.invokevirtual 31, 3) := by decide +kernel
theorem dX2_begin_21 : decode cX2_begin 21 = .ok (.iinc 2 1, 3) := by decide +kernel
theorem dX2_begin_24 : decode cX2_begin 24 = .ok (.goto (-22), 3) := by decide +kernel
theorem dX2_begin_27 : decode cX2_begin 27 = .ok (.aload_n 0, 1) := by decide +kernel
theorem dX2_begin_28 : decode cX2_begin 28 = .ok (.getfield 18, 3) := by decide +kernel
theorem dX2_begin_31 : decode cX2_begin 31 = .ok (.iconst (-1), 1) := by decide +kernel
theorem dX2_begin_32 : decode cX2_begin 32 = .ok (.invokestatic 35, 3) := by decide +kernel
theorem dX2_begin_35 : decode cX2_begin 35 = .ok (.aload_n 0, 1) := by decide +kernel
theorem dX2_begin_36 : decode cX2_begin 36 = .ok (.getfield 21, 3) := by decide +kernel
theorem dX2_begin_39 : decode cX2_begin 39 = .ok (.iconst 0, 1) := by decide +kernel
theorem dX2_begin_40 : decode cX2_begin 40 = .ok (.invokestatic 35, 3) := by decide +kernel
theorem dX2_begin_43 : decode cX2_begin 43 = .ok (.aload_n 0, 1) := by decide +kernel
theorem dX2_begin_44 : decode cX2_begin 44 = .ok (.iconst 0, 1) := by decide +kernel
theorem dX2_begin_45 : decode cX2_begin 45 = .ok (.putfield 39, 3) := by decide +kernel
theorem dX2_begin_48 : decode cX2_begin 48 = .ok (.aload_n 0, 1) := by decide +kernel
theorem dX2_begin_49 : decode cX2_begin 49 = .ok (.iconst 0, 1) := by decide +kernel
theorem dX2_begin_50 : decode cX2_begin 50 = .ok (.putfield 43, 3) := by decide +kernel
theorem dX2_begin_53 : decode cX2_begin 53 = .ok (.aload_n 0, 1) := by decide +kernel
theorem dX2_begin_54 : decode cX2_begin 54 = .ok (.bipush (-9), 2) := by decide +kernel
theorem dX2_begin_56 : decode cX2_begin 56 = .ok (.putfield 46, 3) := by decide +kernel
theorem dX2_begin_59 : decode cX2_begin 59 = .ok (.return_, 1) := by decide +kernel
theorem dX2_copyFrom_0 : decode cX2_copyFrom 0 = .ok (.aload_n 1, 1) := by decide +kernel
theorem dX2_copyFrom_1 : decode cX2_copyFrom 1 = .ok (.getfield 9, 3) := by decide +kernel
theorem dX2_copyFrom_4 : decode cX2_copyFrom 4 = .ok (.aload_n 0, 1) := by decide +kernel
theorem dX2_copyFrom_5 : decode cX2_copyFrom 5 = .ok (.getfield 9, 3) := by decide +kernel
theorem dX2_copyFrom_8 : decode cX2_copyFrom 8 = .ok (.invokestatic 49, 3) := by decide +kernel
theorem dX2_copyFrom_11 : decode cX2_copyFrom 11 = .ok (.aload_n 1, 1) := by decide +kernel
theorem dX2_copyFrom_12 : decode cX2_copyFrom 12 = .ok (.getfield 15, 3) := by decide +kernel
theorem dX2_copyFrom_15 : decode cX2_copyFrom 15 = .ok (.aload_n 0, 1) := by decide +kernel
theorem dX2_copyFrom_16 : decode cX2_copyFrom 16 = .ok (.getfield 15, 3) := by decide +kernel
theorem dX2_copyFrom_19 : decode cX2_copyFrom 19 = .ok (.invokestatic 49, 3) := by decide +kernel
theorem dX2_copyFrom_22 : decode cX2_copyFrom 22 = .ok (.aload_n 1, 1) := by decide +kernel
theorem dX2_copyFrom_23 : decode cX2_copyFrom 23 = .ok (.getfield 18, 3) := by decide +kernel
theorem dX2_copyFrom_26 : decode cX2_copyFrom 26 = .ok (.aload_n 0, 1) := by decide +kernel
theorem dX2_copyFrom_27 : decode cX2_copyFrom 27 = .ok (.getfield 18, 3) := by decide +kernel
theorem dX2_copyFrom_30 : decode cX2_copyFrom 30 = .ok (.invokestatic 49, 3) := by decide +kernel
theorem dX2_copyFrom_33 : decode cX2_copyFrom 33 = .ok (.aload_n 1, 1) := by decide +kernel
theorem dX2_copyFrom_34 : decode cX2_copyFrom 34 = .ok (.getfield 21, 3) := by decide +kernel
theorem dX2_copyFrom_37 : decode cX2_copyFrom 37 = .ok (.aload_n 0, 1) := by decide +kernel
theorem dX2_copyFrom_38 : decode cX2_copyFrom 38 = .ok (.getfield 21, 3) := by decide +kernel
theorem dX2_copyFrom_41 : decode cX2_copyFrom 41 = .ok (.invokestatic 49, 3) := by decide +kernel
theorem dX2_copyFrom_44 : decode cX2_copyFrom 44 = .ok (.aload_n 0, 1) := by decide +kernel
theorem dX2_copyFrom_45 : decode cX2_copyFrom 45 = .ok (.aload_n 1, 1) := by decide +kernel
theorem dX2_copyFrom_46 : decode cX2_copyFrom 46 = .ok (.getfield 39, 3) := by decide +kernel
theorem dX2_copyFrom_49 : decode cX2_copyFrom 49 = .ok (.putfield 39, 3) := by decide +kernel
theorem dX2_copyFrom_52 : decode cX2_copyFrom 52 = .ok (.aload_n 0, 1) := by decide +kernel
theorem dX2_copyFrom_53 : decode cX2_copyFrom 53 = .ok (.aload_n 1, 1) := by decide +kernel
theorem dX2_copyFrom_54 : decode cX2_copyFrom 54 = .ok (.getfield 43, 3) := by decide +kernel
theorem dX2_copyFrom_57 : decode cX2_copyFrom 57 = .ok (.putfield 43, 3) := by decide +kernel
theorem dX2_copyFrom_60 : decode cX2_copyFrom 60 = .ok (.aload_n 0, 1) := by decide +kernel
theorem dX2_copyFrom_61 : decode cX2_copyFrom 61 = .ok (.aload_n 1, 1) := by decide +kernel
theorem dX2_copyFrom_62 : decode cX2_copyFrom 62 = .ok (.getfield 46, 3) := by decide +kernel
theorem dX2_copyFrom_65 : decode cX2_copyFrom 65 = .ok (.putfield 46, 3) := by decide +kernel
theorem dX2_copyFrom_68 : decode cX2_copyFrom 68 = .ok (.return_, 1) := by decide +kernel
theorem dX2_setKnowers_0 : decode cX2_setKnowers 0 = .ok (.aload_n 0, 1) := by decide +kernel
theorem dX2_setKnowers_1 : decode cX2_setKnowers 1 = .ok (.getfield 9, 3) := by decide +kernel
theorem dX2_setKnowers_4 : decode cX2_setKnowers 4 = .ok (.iload_n 1, 1) := by decide +kernel
theorem dX2_setKnowers_5 : decode cX2_setKnowers 5 = .ok (.iload_n 2, 1) := by decide +kernel
theorem dX2_setKnowers_6 : decode cX2_setKnowers 6 = .ok (.invokestatic 53, 3) := by decide +kernel
theorem dX2_setKnowers_9 : decode cX2_setKnowers 9 = .ok (.aload_n 0, 1) := by decide +kernel
theorem dX2_setKnowers_10 : decode cX2_setKnowers 10 = .ok (.getfield 15, 3) := by decide +kernel
theorem dX2_setKnowers_13 : decode cX2_setKnowers 13 = .ok (.iload_n 1, 1) := by decide +kernel
theorem dX2_setKnowers_14 : decode cX2_setKnowers 14 = .ok (.iload_n 2, 1) := by decide +kernel
theorem dX2_setKnowers_15 : decode cX2_setKnowers 15 = .ok (.invokestatic 57, 3) := by decide +kernel
theorem dX2_setKnowers_18 : decode cX2_setKnowers 18 = .ok (.invokestatic 53, 3) := by decide +kernel
theorem dX2_setKnowers_21 : decode cX2_setKnowers 21 = .ok (.return_, 1) := by decide +kernel
theorem dX2_isAware_0 : decode cX2_isAware 0 = .ok (.aload_n 0, 1) := by decide +kernel
theorem dX2_isAware_1 : decode cX2_isAware 1 = .ok (.getfield 9, 3) := by decide +kernel
theorem dX2_isAware_4 : decode cX2_isAware 4 = .ok (.iload_n 2, 1) := by decide +kernel
theorem dX2_isAware_5 : decode cX2_isAware 5 = .ok (.invokestatic 27, 3) := by decide +kernel
theorem dX2_isAware_8 : decode cX2_isAware 8 = .ok (.iload_n 1, 1) := by decide +kernel
theorem dX2_isAware_9 : decode cX2_isAware 9 = .ok (.ishr, 1) := by decide +kernel
theorem dX2_isAware_10 : decode cX2_isAware 10 = .ok (.iconst 1, 1) := by decide +kernel
theorem dX2_isAware_11 : decode cX2_isAware 11 = .ok (.iand, 1) := by decide +kernel
theorem dX2_isAware_12 : decode cX2_isAware 12 = .ok (.iconst 1, 1) := by decide +kernel
theorem dX2_isAware_13 : decode cX2_isAware 13 = .ok (.if_icmp .ne 7, 3) := by decide +kernel
theorem dX2_isAware_16 : decode cX2_isAware 16 = .ok (.iconst 1, 1) := by decide +kernel
theorem dX2_isAware_17 : decode cX2_isAware 17 = .ok (.goto 4, 3) := by decide +kernel
theorem dX2_isAware_20 : decode cX2_isAware 20 = .ok (.iconst 0, 1) := by decide +kernel
theorem dX2_isAware_21 : decode cX2_isAware 21 = .ok (.ireturn, 1) := by decide +kernel
theorem dX2_sight_0 : decode cX2_sight 0 = .ok (.aload_n 0, 1) := by decide +kernel
theorem dX2_sight_1 : decode cX2_sight 1 = .ok (.getfield 18, 3) := by decide +kernel
theorem dX2_sight_4 : decode cX2_sight 4 = .ok (.iload_n 1, 1) := by decide +kernel
theorem dX2_sight_5 : decode cX2_sight 5 = .ok (.bipush 8, 2) := by decide +kernel
theorem dX2_sight_7 : decode cX2_sight 7 = .ok (.imul, 1) := by decide +kernel
theorem dX2_sight_8 : decode cX2_sight 8 = .ok (.iload_n 2, 1) := by decide +kernel
theorem dX2_sight_9 : decode cX2_sight 9 = .ok (.iadd, 1) := by decide +kernel
theorem dX2_sight_10 : decode cX2_sight 10 = .ok (.invokestatic 27, 3) := by decide +kernel
theorem dX2_sight_13 : decode cX2_sight 13 = .ok (.ireturn, 1) := by decide +kernel
theorem dX2_learn_0 : decode cX2_learn 0 = .ok (.aload_n 0, 1) := by decide +kernel
theorem dX2_learn_1 : decode cX2_learn 1 = .ok (.iload_n 1, 1) := by decide +kernel
theorem dX2_learn_2 : decode cX2_learn 2 = .ok (.iload_n 2, 1) := by decide +kernel
theorem dX2_learn_3 : decode cX2_learn 3 = .ok (.invokevirtual 63, 3) := by decide +kernel
theorem dX2_learn_6 : decode cX2_learn 6 = .ok (.ifCond .eq 7, 3) := by decide +kernel
theorem dX2_learn_9 : decode cX2_learn 9 = .ok (.iconst 0, 1) := by decide +kernel
theorem dX2_learn_10 : decode cX2_learn 10 = .ok (.goto 4, 3) := by decide +kernel
theorem dX2_learn_13 : decode cX2_learn 13 = .ok (.iconst 1, 1) := by decide +kernel
theorem dX2_learn_14 : decode cX2_learn 14 = .ok (.istore_n 3, 1) := by decide +kernel
theorem dX2_learn_15 : decode cX2_learn 15 = .ok (.aload_n 0, 1) := by decide +kernel
theorem dX2_learn_16 : decode cX2_learn 16 = .ok (.iload_n 2, 1) := by decide +kernel
theorem dX2_learn_17 : decode cX2_learn 17 = .ok (.aload_n 0, 1) := by decide +kernel
theorem dX2_learn_18 : decode cX2_learn 18 = .ok (.getfield 9, 3) := by decide +kernel
theorem dX2_learn_21 : decode cX2_learn 21 = .ok (.iload_n 2, 1) := by decide +kernel
theorem dX2_learn_22 : decode cX2_learn 22 = .ok (.invokestatic 27, 3) := by decide +kernel
theorem dX2_learn_25 : decode cX2_learn 25 = .ok (.iconst 1, 1) := by decide +kernel
theorem dX2_learn_26 : decode cX2_learn 26 = .ok (.iload_n 1, 1) := by decide +kernel
theorem dX2_learn_27 : decode cX2_learn 27 = .ok (.ishl, 1) := by decide +kernel
theorem dX2_learn_28 : decode cX2_learn 28 = .ok (.ior, 1) := by decide +kernel
theorem dX2_learn_29 : decode cX2_learn 29 = .ok (.invokevirtual 31, 3) := by decide +kernel
theorem dX2_learn_32 : decode cX2_learn 32 = .ok (.aload_n 0, 1) := by decide +kernel
theorem dX2_learn_33 : decode cX2_learn 33 = .ok (.getfield 18, 3) := by decide +kernel
theorem dX2_learn_36 : decode cX2_learn 36 = .ok (.iload_n 1, 1) := by decide +kernel
theorem dX2_learn_37 : decode cX2_learn 37 = .ok (.bipush 8, 2) := by decide +kernel
theorem dX2_learn_39 : decode cX2_learn 39 = .ok (.imul, 1) := by decide +kernel
theorem dX2_learn_40 : decode cX2_learn 40 = .ok (.iload_n 2, 1) := by decide +kernel
theorem dX2_learn_41 : decode cX2_learn 41 = .ok (.iadd, 1) := by decide +kernel
theorem dX2_learn_42 : decode cX2_learn 42 = .ok (.aload_n 0, 1) := by decide +kernel
theorem dX2_learn_43 : decode cX2_learn 43 = .ok (.getfield 43, 3) := by decide +kernel
theorem dX2_learn_46 : decode cX2_learn 46 = .ok (.invokestatic 53, 3) := by decide +kernel
theorem dX2_learn_49 : decode cX2_learn 49 = .ok (.iload_n 3, 1) := by decide +kernel
theorem dX2_learn_50 : decode cX2_learn 50 = .ok (.ireturn, 1) := by decide +kernel
theorem dX2_acquaintances_0 : decode cX2_acquaintances 0 = .ok (.iconst 0, 1) := by decide +kernel
theorem dX2_acquaintances_1 : decode cX2_acquaintances 1 = .ok (.istore_n 2, 1) := by decide +kernel
theorem dX2_acquaintances_2 : decode cX2_acquaintances 2 = .ok (.iconst 0, 1) := by decide +kernel
theorem dX2_acquaintances_3 : decode cX2_acquaintances 3 = .ok (.istore_n 3, 1) := by decide +kernel
theorem dX2_acquaintances_4 : decode cX2_acquaintances 4 = .ok (.iload_n 3, 1) := by decide +kernel
theorem dX2_acquaintances_5 : decode cX2_acquaintances 5 = .ok (.bipush 8, 2) := by decide +kernel
theorem dX2_acquaintances_7 : decode cX2_acquaintances 7 = .ok (.if_icmp .ge 21, 3) := by decide +kernel
theorem dX2_acquaintances_10 : decode cX2_acquaintances 10 = .ok (.aload_n 0, 1) := by decide +kernel
theorem dX2_acquaintances_11 : decode cX2_acquaintances 11 = .ok (.iload_n 1, 1) := by decide +kernel
theorem dX2_acquaintances_12 : decode cX2_acquaintances 12 = .ok (.iload_n 3, 1) := by decide +kernel
theorem dX2_acquaintances_13 : decode cX2_acquaintances 13 = .ok (.invokevirtual 63, 3) := by decide +kernel
theorem dX2_acquaintances_16 : decode cX2_acquaintances 16 = .ok (.ifCond .eq 6, 3) := by decide +kernel
theorem dX2_acquaintances_19 : decode cX2_acquaintances 19 = .ok (.iinc 2 1, 3) := by decide +kernel
theorem dX2_acquaintances_22 : decode cX2_acquaintances 22 = .ok (.iinc 3 1, 3) := by decide +kernel
theorem dX2_acquaintances_25 : decode cX2_acquaintances 25 = .ok (.goto (-21), 3) := by decide +kernel
theorem dX2_acquaintances_28 : decode cX2_acquaintances 28 = .ok (.iload_n 2, 1) := by decide +kernel
theorem dX2_acquaintances_29 : decode cX2_acquaintances 29 = .ok (.ireturn, 1) := by decide +kernel
theorem dX2_allCounts_0 : decode cX2_allCounts 0 = .ok (.iconst 0, 1) := by decide +kernel
theorem dX2_allCounts_1 : decode cX2_allCounts 1 = .ok (.istore_n 1, 1) := by decide +kernel
theorem dX2_allCounts_2 : decode cX2_allCounts 2 = .ok (.iconst 0, 1) := by decide +kernel
theorem dX2_allCounts_3 : decode cX2_allCounts 3 = .ok (.istore_n 2, 1) := by decide +kernel
theorem dX2_allCounts_4 : decode cX2_allCounts 4 = .ok (.iload_n 2, 1) := by decide +kernel
theorem dX2_allCounts_5 : decode cX2_allCounts 5 = .ok (.bipush 8, 2) := by decide +kernel
theorem dX2_allCounts_7 : decode cX2_allCounts 7 = .ok (.if_icmp .ge 20, 3) := by decide +kernel
theorem dX2_allCounts_10 : decode cX2_allCounts 10 = .ok (.iload_n 1, 1) := by decide +kernel
theorem dX2_allCounts_11 : decode cX2_allCounts 11 = .ok (.aload_n 0, 1) := by decide +kernel
theorem dX2_allCounts_12 : decode cX2_allCounts 12 = .ok (.getfield 15, 3) := by decide +kernel
theorem dX2_allCounts_15 : decode cX2_allCounts 15 = .ok (.iload_n 2, 1) := by decide +kernel
theorem dX2_allCounts_16 : decode cX2_allCounts 16 = .ok (.invokestatic 27, 3) := by decide +kernel
theorem dX2_allCounts_19 : decode cX2_allCounts 19 = .ok (.iadd, 1) := by decide +kernel
theorem dX2_allCounts_20 : decode cX2_allCounts 20 = .ok (.istore_n 1, 1) := by decide +kernel
theorem dX2_allCounts_21 : decode cX2_allCounts 21 = .ok (.iinc 2 1, 3) := by decide +kernel
theorem dX2_allCounts_24 : decode cX2_allCounts 24 = .ok (.goto (-20), 3) := by decide +kernel
theorem dX2_allCounts_27 : decode cX2_allCounts 27 = .ok (.iload_n 1, 1) := by decide +kernel
theorem dX2_allCounts_28 : decode cX2_allCounts 28 = .ok (.ireturn, 1) := by decide +kernel
theorem dX2_spring_0 : decode cX2_spring 0 = .ok (.iconst 0, 1) := by decide +kernel
theorem dX2_spring_1 : decode cX2_spring 1 = .ok (.istore_n 2, 1) := by decide +kernel
theorem dX2_spring_2 : decode cX2_spring 2 = .ok (.iload_n 2, 1) := by decide +kernel
theorem dX2_spring_3 : decode cX2_spring 3 = .ok (.aload_n 1, 1) := by decide +kernel
theorem dX2_spring_4 : decode cX2_spring 4 = .ok (.getfield 67, 3) := by decide +kernel
theorem dX2_spring_7 : decode cX2_spring 7 = .ok (.if_icmp .ge 38, 3) := by decide +kernel
theorem dX2_spring_10 : decode cX2_spring 10 = .ok (.aload_n 1, 1) := by decide +kernel
theorem dX2_spring_11 : decode cX2_spring 11 = .ok (.getfield 70, 3) := by decide +kernel
theorem dX2_spring_14 : decode cX2_spring 14 = .ok (.iload_n 2, 1) := by decide +kernel
theorem dX2_spring_15 : decode cX2_spring 15 = .ok (.invokestatic 27, 3) := by decide +kernel
theorem dX2_spring_18 : decode cX2_spring 18 = .ok (.istore_n 3, 1) := by decide +kernel
theorem dX2_spring_19 : decode cX2_spring 19 = .ok (.iload_n 3, 1) := by decide +kernel
theorem dX2_spring_20 : decode cX2_spring 20 = .ok (.bipush (-9), 2) := by decide +kernel
theorem dX2_spring_22 : decode cX2_spring 22 = .ok (.if_icmp .eq 17, 3) := by decide +kernel
theorem dX2_spring_25 : decode cX2_spring 25 = .ok (.aload_n 0, 1) := by decide +kernel
theorem dX2_spring_26 : decode cX2_spring 26 = .ok (.iload_n 2, 1) := by decide +kernel
theorem dX2_spring_27 : decode cX2_spring 27 = .ok (.iload_n 3, 1) := by decide +kernel
theorem dX2_spring_28 : decode cX2_spring 28 = .ok (.invokevirtual 73, 3) := by decide +kernel
theorem dX2_spring_31 : decode cX2_spring 31 = .ok (.pop, 1) := by decide +kernel
theorem dX2_spring_32 : decode cX2_spring 32 = .ok (.aload_n 0, 1) := by decide +kernel
theorem dX2_spring_33 : decode cX2_spring 33 = .ok (.iload_n 3, 1) := by decide +kernel
theorem dX2_spring_34 : decode cX2_spring 34 = .ok (.iload_n 2, 1) := by decide +kernel
theorem dX2_spring_35 : decode cX2_spring 35 = .ok (.invokevirtual 73, 3) := by decide +kernel
theorem dX2_spring_38 : decode cX2_spring 38 = .ok (.pop, 1) := by decide +kernel
theorem dX2_spring_39 : decode cX2_spring 39 = .ok (.iinc 2 1, 3) := by decide +kernel
theorem dX2_spring_42 : decode cX2_spring 42 = .ok (.goto (-40), 3) := by decide +kernel
theorem dX2_spring_45 : decode cX2_spring 45 = .ok (.aload_n 0, 1) := by decide +kernel
theorem dX2_spring_46 : decode cX2_spring 46 = .ok (.aload_n 1, 1) := by decide +kernel
theorem dX2_spring_47 : decode cX2_spring 47 = .ok (.aload_n 0, 1) := by decide +kernel
theorem dX2_spring_48 : decode cX2_spring 48 = .ok (.invokevirtual 77, 3) := by decide +kernel
theorem dX2_spring_51 : decode cX2_spring 51 = .ok (.aload_n 1, 1) := by decide +kernel
theorem dX2_spring_52 : decode cX2_spring 52 = .ok (.getfield 67, 3) := by decide +kernel
theorem dX2_spring_55 : decode cX2_spring 55 = .ok (.invokevirtual 81, 3) := by decide +kernel
theorem dX2_spring_58 : decode cX2_spring 58 = .ok (.aload_n 1, 1) := by decide +kernel
theorem dX2_spring_59 : decode cX2_spring 59 = .ok (.getfield 84, 3) := by decide +kernel
theorem dX2_spring_62 : decode cX2_spring 62 = .ok (.ifCond .le 8, 3) := by decide +kernel
theorem dX2_spring_65 : decode cX2_spring 65 = .ok (.aload_n 0, 1) := by decide +kernel
theorem dX2_spring_66 : decode cX2_spring 66 = .ok (.aload_n 1, 1) := by decide +kernel
theorem dX2_spring_67 : decode cX2_spring 67 = .ok (.invokevirtual 87, 3) := by decide +kernel
theorem dX2_spring_70 : decode cX2_spring 70 = .ok (.aload_n 0, 1) := by decide +kernel
theorem dX2_spring_71 : decode cX2_spring 71 = .ok (.dup, 1) := by decide +kernel
theorem dX2_spring_72 : decode cX2_spring 72 = .ok (.getfield 43, 3) := by decide +kernel
theorem dX2_spring_75 : decode cX2_spring 75 = .ok (.iconst 1, 1) := by decide +kernel
theorem dX2_spring_76 : decode cX2_spring 76 = .ok (.iadd, 1) := by decide +kernel
theorem dX2_spring_77 : decode cX2_spring 77 = .ok (.putfield 43, 3) := by decide +kernel
theorem dX2_spring_80 : decode cX2_spring 80 = .ok (.aload_n 0, 1) := by decide +kernel
theorem dX2_spring_81 : decode cX2_spring 81 = .ok (.getfield 46, 3) := by decide +kernel
theorem dX2_spring_84 : decode cX2_spring 84 = .ok (.ireturn, 1) := by decide +kernel
theorem dX2_crown_0 : decode cX2_crown 0 = .ok (.iconst 0, 1) := by decide +kernel
theorem dX2_crown_1 : decode cX2_crown 1 = .ok (.istore_n 3, 1) := by decide +kernel
theorem dX2_crown_2 : decode cX2_crown 2 = .ok (.iload_n 3, 1) := by decide +kernel
theorem dX2_crown_3 : decode cX2_crown 3 = .ok (.iload_n 2, 1) := by decide +kernel
theorem dX2_crown_4 : decode cX2_crown 4 = .ok (.if_icmp .ge 21, 3) := by decide +kernel
theorem dX2_crown_7 : decode cX2_crown 7 = .ok (.iload_n 3, 1) := by decide +kernel
theorem dX2_crown_8 : decode cX2_crown 8 = .ok (.iload_n 1, 1) := by decide +kernel
theorem dX2_crown_9 : decode cX2_crown 9 = .ok (.if_icmp .eq 10, 3) := by decide +kernel
theorem dX2_crown_12 : decode cX2_crown 12 = .ok (.aload_n 0, 1) := by decide +kernel
theorem dX2_crown_13 : decode cX2_crown 13 = .ok (.iload_n 3, 1) := by decide +kernel
theorem dX2_crown_14 : decode cX2_crown 14 = .ok (.iload_n 1, 1) := by decide +kernel
theorem dX2_crown_15 : decode cX2_crown 15 = .ok (.invokevirtual 73, 3) := by decide +kernel
theorem dX2_crown_18 : decode cX2_crown 18 = .ok (.pop, 1) := by decide +kernel
theorem dX2_crown_19 : decode cX2_crown 19 = .ok (.iinc 3 1, 3) := by decide +kernel
theorem dX2_crown_22 : decode cX2_crown 22 = .ok (.goto (-20), 3) := by decide +kernel
theorem dX2_crown_25 : decode cX2_crown 25 = .ok (.aload_n 0, 1) := by decide +kernel
theorem dX2_crown_26 : decode cX2_crown 26 = .ok (.getfield 21, 3) := by decide +kernel
theorem dX2_crown_29 : decode cX2_crown 29 = .ok (.iload_n 1, 1) := by decide +kernel
theorem dX2_crown_30 : decode cX2_crown 30 = .ok (.aload_n 0, 1) := by decide +kernel
theorem dX2_crown_31 : decode cX2_crown 31 = .ok (.getfield 21, 3) := by decide +kernel
theorem dX2_crown_34 : decode cX2_crown 34 = .ok (.iload_n 1, 1) := by decide +kernel
theorem dX2_crown_35 : decode cX2_crown 35 = .ok (.invokestatic 27, 3) := by decide +kernel
theorem dX2_crown_38 : decode cX2_crown 38 = .ok (.iconst 1, 1) := by decide +kernel
theorem dX2_crown_39 : decode cX2_crown 39 = .ok (.iadd, 1) := by decide +kernel
theorem dX2_crown_40 : decode cX2_crown 40 = .ok (.invokestatic 53, 3) := by decide +kernel
theorem dX2_crown_43 : decode cX2_crown 43 = .ok (.aload_n 0, 1) := by decide +kernel
theorem dX2_crown_44 : decode cX2_crown 44 = .ok (.dup, 1) := by decide +kernel
theorem dX2_crown_45 : decode cX2_crown 45 = .ok (.getfield 39, 3) := by decide +kernel
theorem dX2_crown_48 : decode cX2_crown 48 = .ok (.iconst 1, 1) := by decide +kernel
theorem dX2_crown_49 : decode cX2_crown 49 = .ok (.iload_n 1, 1) := by decide +kernel
theorem dX2_crown_50 : decode cX2_crown 50 = .ok (.ishl, 1) := by decide +kernel
theorem dX2_crown_51 : decode cX2_crown 51 = .ok (.ior, 1) := by decide +kernel
theorem dX2_crown_52 : decode cX2_crown 52 = .ok (.putfield 39, 3) := by decide +kernel
theorem dX2_crown_55 : decode cX2_crown 55 = .ok (.aload_n 0, 1) := by decide +kernel
theorem dX2_crown_56 : decode cX2_crown 56 = .ok (.iload_n 1, 1) := by decide +kernel
theorem dX2_crown_57 : decode cX2_crown 57 = .ok (.putfield 46, 3) := by decide +kernel
theorem dX2_crown_60 : decode cX2_crown 60 = .ok (.return_, 1) := by decide +kernel
theorem dX2_forget_0 : decode cX2_forget 0 = .ok (.iconst 0, 1) := by decide +kernel
theorem dX2_forget_1 : decode cX2_forget 1 = .ok (.istore_n 2, 1) := by decide +kernel
theorem dX2_forget_2 : decode cX2_forget 2 = .ok (.iload_n 2, 1) := by decide +kernel
theorem dX2_forget_3 : decode cX2_forget 3 = .ok (.aload_n 1, 1) := by decide +kernel
theorem dX2_forget_4 : decode cX2_forget 4 = .ok (.getfield 67, 3) := by decide +kernel
theorem dX2_forget_7 : decode cX2_forget 7 = .ok (.if_icmp .ge 71, 3) := by decide +kernel
theorem dX2_forget_10 : decode cX2_forget 10 = .ok (.iconst 0, 1) := by decide +kernel
theorem dX2_forget_11 : decode cX2_forget 11 = .ok (.istore_n 3, 1) := by decide +kernel
theorem dX2_forget_12 : decode cX2_forget 12 = .ok (.iload_n 3, 1) := by decide +kernel
theorem dX2_forget_13 : decode cX2_forget 13 = .ok (.aload_n 1, 1) := by decide +kernel
theorem dX2_forget_14 : decode cX2_forget 14 = .ok (.getfield 67, 3) := by decide +kernel
theorem dX2_forget_17 : decode cX2_forget 17 = .ok (.if_icmp .ge 55, 3) := by decide +kernel
theorem dX2_forget_20 : decode cX2_forget 20 = .ok (.aload_n 0, 1) := by decide +kernel
theorem dX2_forget_21 : decode cX2_forget 21 = .ok (.iload_n 3, 1) := by decide +kernel
theorem dX2_forget_22 : decode cX2_forget 22 = .ok (.iload_n 2, 1) := by decide +kernel
theorem dX2_forget_23 : decode cX2_forget 23 = .ok (.invokevirtual 63, 3) := by decide +kernel
theorem dX2_forget_26 : decode cX2_forget 26 = .ok (.ifCond .eq 40, 3) := by decide +kernel
theorem dX2_forget_29 : decode cX2_forget 29 = .ok (.aload_n 0, 1) := by decide +kernel
theorem dX2_forget_30 : decode cX2_forget 30 = .ok (.getfield 43, 3) := by decide +kernel
theorem dX2_forget_33 : decode cX2_forget 33 = .ok (.aload_n 0, 1) := by decide +kernel
theorem dX2_forget_34 : decode cX2_forget 34 = .ok (.iload_n 3, 1) := by decide +kernel
theorem dX2_forget_35 : decode cX2_forget 35 = .ok (.iload_n 2, 1) := by decide +kernel
theorem dX2_forget_36 : decode cX2_forget 36 = .ok (.invokevirtual 91, 3) := by decide +kernel
theorem dX2_forget_39 : decode cX2_forget 39 = .ok (.isub, 1) := by decide +kernel
theorem dX2_forget_40 : decode cX2_forget 40 = .ok (.aload_n 1, 1) := by decide +kernel
theorem dX2_forget_41 : decode cX2_forget 41 = .ok (.getfield 84, 3) := by decide +kernel
theorem dX2_forget_44 : decode cX2_forget 44 = .ok (.if_icmp .lt 22, 3) := by decide +kernel
theorem dX2_forget_47 : decode cX2_forget 47 = .ok (.aload_n 0, 1) := by decide +kernel
theorem dX2_forget_48 : decode cX2_forget 48 = .ok (.iload_n 2, 1) := by decide +kernel
theorem dX2_forget_49 : decode cX2_forget 49 = .ok (.aload_n 0, 1) := by decide +kernel
theorem dX2_forget_50 : decode cX2_forget 50 = .ok (.getfield 9, 3) := by decide +kernel
theorem dX2_forget_53 : decode cX2_forget 53 = .ok (.iload_n 2, 1) := by decide +kernel
theorem dX2_forget_54 : decode cX2_forget 54 = .ok (.invokestatic 27, 3) := by decide +kernel
theorem dX2_forget_57 : decode cX2_forget 57 = .ok (.iconst 1, 1) := by decide +kernel
theorem dX2_forget_58 : decode cX2_forget 58 = .ok (.iload_n 3, 1) := by decide +kernel
theorem dX2_forget_59 : decode cX2_forget 59 = .ok (.ishl, 1) := by decide +kernel
theorem dX2_forget_60 : decode cX2_forget 60 = .ok (.iconst (-1), 1) := by decide +kernel
theorem dX2_forget_61 : decode cX2_forget 61 = .ok (.ixor, 1) := by decide +kernel
theorem dX2_forget_62 : decode cX2_forget 62 = .ok (.iand, 1) := by decide +kernel
theorem dX2_forget_63 : decode cX2_forget 63 = .ok (.invokevirtual 31, 3) := by decide +kernel
theorem dX2_forget_66 : decode cX2_forget 66 = .ok (.iinc 3 1, 3) := by decide +kernel
theorem dX2_forget_69 : decode cX2_forget 69 = .ok (.goto (-57), 3) := by decide +kernel
theorem dX2_forget_72 : decode cX2_forget 72 = .ok (.iinc 2 1, 3) := by decide +kernel
theorem dX2_forget_75 : decode cX2_forget 75 = .ok (.goto (-73), 3) := by decide +kernel
theorem dX2_forget_78 : decode cX2_forget 78 = .ok (.return_, 1) := by decide +kernel
theorem dX2_fewestAsks_0 : decode cX2_fewestAsks 0 = .ok (.iconst 0, 1) := by decide +kernel
theorem dX2_fewestAsks_1 : decode cX2_fewestAsks 1 = .ok (.istore 4, 2) := by decide +kernel
theorem dX2_fewestAsks_3 : decode cX2_fewestAsks 3 = .ok (.iconst 0, 1) := by decide +kernel
theorem dX2_fewestAsks_4 : decode cX2_fewestAsks 4 = .ok (.istore 5, 2) := by decide +kernel
theorem dX2_fewestAsks_6 : decode cX2_fewestAsks 6 = .ok (.iconst 0, 1) := by decide +kernel
theorem dX2_fewestAsks_7 : decode cX2_fewestAsks 7 = .ok (.istore 6, 2) := by decide +kernel
theorem dX2_fewestAsks_9 : decode cX2_fewestAsks 9 = .ok (.iload 6, 2) := by decide +kernel
theorem dX2_fewestAsks_11 : decode cX2_fewestAsks 11 = .ok (.iload_n 3, 1) := by decide +kernel
theorem dX2_fewestAsks_12 : decode cX2_fewestAsks 12 = .ok (.if_icmp .ge 64, 3) := by decide +kernel
theorem dX2_fewestAsks_15 : decode cX2_fewestAsks 15 = .ok (.iload_n 3, 1) := by decide +kernel
theorem dX2_fewestAsks_16 : decode cX2_fewestAsks 16 = .ok (.iconst 1, 1) := by decide +kernel
theorem dX2_fewestAsks_17 : decode cX2_fewestAsks 17 = .ok (.isub, 1) := by decide +kernel
theorem dX2_fewestAsks_18 : decode cX2_fewestAsks 18 = .ok (.iload 4, 2) := by decide +kernel
theorem dX2_fewestAsks_20 : decode cX2_fewestAsks 20 = .ok (.isub, 1) := by decide +kernel
theorem dX2_fewestAsks_21 : decode cX2_fewestAsks 21 = .ok (.istore 7, 2) := by decide +kernel
theorem dX2_fewestAsks_23 : decode cX2_fewestAsks 23 = .ok (.iload 5, 2) := by decide +kernel
theorem dX2_fewestAsks_25 : decode cX2_fewestAsks 25 = .ok (.iload_n 2, 1) := by decide +kernel
theorem dX2_fewestAsks_26 : decode cX2_fewestAsks 26 = .ok (.if_icmp .ge 12, 3) := by decide +kernel
theorem dX2_fewestAsks_29 : decode cX2_fewestAsks 29 = .ok (.iload 5, 2) := by decide +kernel
theorem dX2_fewestAsks_31 : decode cX2_fewestAsks 31 = .ok (.iload 7, 2) := by decide +kernel
theorem dX2_fewestAsks_33 : decode cX2_fewestAsks 33 = .ok (.iadd, 1) := by decide +kernel
theorem dX2_fewestAsks_34 : decode cX2_fewestAsks 34 = .ok (.iload_n 2, 1) := by decide +kernel
theorem dX2_fewestAsks_35 : decode cX2_fewestAsks 35 = .ok (.if_icmp .ge 6, 3) := by decide +kernel
theorem dX2_fewestAsks_38 : decode cX2_fewestAsks 38 = .ok (.iload 4, 2) := by decide +kernel
theorem dX2_fewestAsks_40 : decode cX2_fewestAsks 40 = .ok (.ireturn, 1) := by decide +kernel
theorem dX2_fewestAsks_41 : decode cX2_fewestAsks 41 = .ok (.iload 6, 2) := by decide +kernel
theorem dX2_fewestAsks_43 : decode cX2_fewestAsks 43 = .ok (.iload_n 1, 1) := by decide +kernel
theorem dX2_fewestAsks_44 : decode cX2_fewestAsks 44 = .ok (.if_icmp .eq 26, 3) := by decide +kernel
theorem dX2_fewestAsks_47 : decode cX2_fewestAsks 47 = .ok (.iinc 4 1, 3) := by decide +kernel
theorem dX2_fewestAsks_50 : decode cX2_fewestAsks 50 = .ok (.iload 5, 2) := by decide +kernel
theorem dX2_fewestAsks_52 : decode cX2_fewestAsks 52 = .ok (.aload_n 0, 1) := by decide +kernel
theorem dX2_fewestAsks_53 : decode cX2_fewestAsks 53 = .ok (.iload 6, 2) := by decide +kernel
theorem dX2_fewestAsks_55 : decode cX2_fewestAsks 55 = .ok (.iload_n 1, 1) := by decide +kernel
theorem dX2_fewestAsks_56 : decode cX2_fewestAsks 56 = .ok (.invokevirtual 63, 3) := by decide +kernel
theorem dX2_fewestAsks_59 : decode cX2_fewestAsks 59 = .ok (.ifCond .eq 7, 3) := by decide +kernel
theorem dX2_fewestAsks_62 : decode cX2_fewestAsks 62 = .ok (.iconst 1, 1) := by decide +kernel
theorem dX2_fewestAsks_63 : decode cX2_fewestAsks 63 = .ok (.goto 4, 3) := by decide +kernel
theorem dX2_fewestAsks_66 : decode cX2_fewestAsks 66 = .ok (.iconst 0, 1) := by decide +kernel
theorem dX2_fewestAsks_67 : decode cX2_fewestAsks 67 = .ok (.iadd, 1) := by decide +kernel
theorem dX2_fewestAsks_68 : decode cX2_fewestAsks 68 = .ok (.istore 5, 2) := by decide +kernel
theorem dX2_fewestAsks_70 : decode cX2_fewestAsks 70 = .ok (.iinc 6 1, 3) := by decide +kernel
theorem dX2_fewestAsks_73 : decode cX2_fewestAsks 73 = .ok (.goto (-64), 3) := by decide +kernel
theorem dX2_fewestAsks_76 : decode cX2_fewestAsks 76 = .ok (.iload 4, 2) := by decide +kernel
theorem dX2_fewestAsks_78 : decode cX2_fewestAsks 78 = .ok (.ireturn, 1) := by decide +kernel
theorem dX2_isParty_0 : decode cX2_isParty 0 = .ok (.iconst 0, 1) := by decide +kernel
theorem dX2_isParty_1 : decode cX2_isParty 1 = .ok (.istore_n 2, 1) := by decide +kernel
theorem dX2_isParty_2 : decode cX2_isParty 2 = .ok (.iload_n 2, 1) := by decide +kernel
theorem dX2_isParty_3 : decode cX2_isParty 3 = .ok (.bipush 8, 2) := by decide +kernel
theorem dX2_isParty_5 : decode cX2_isParty 5 = .ok (.if_icmp .ge 39, 3) := by decide +kernel
theorem dX2_isParty_8 : decode cX2_isParty 8 = .ok (.iload_n 1, 1) := by decide +kernel
theorem dX2_isParty_9 : decode cX2_isParty 9 = .ok (.iconst 1, 1) := by decide +kernel
theorem dX2_isParty_10 : decode cX2_isParty 10 = .ok (.iload_n 2, 1) := by decide +kernel
theorem dX2_isParty_11 : decode cX2_isParty 11 = .ok (.ishl, 1) := by decide +kernel
theorem dX2_isParty_12 : decode cX2_isParty 12 = .ok (.iconst (-1), 1) := by decide +kernel
theorem dX2_isParty_13 : decode cX2_isParty 13 = .ok (.ixor, 1) := by decide +kernel
theorem dX2_isParty_14 : decode cX2_isParty 14 = .ok (.iand, 1) := by decide +kernel
theorem dX2_isParty_15 : decode cX2_isParty 15 = .ok (.istore_n 3, 1) := by decide +kernel
theorem dX2_isParty_16 : decode cX2_isParty 16 = .ok (.iload_n 3, 1) := by decide +kernel
theorem dX2_isParty_17 : decode cX2_isParty 17 = .ok (.iload_n 1, 1) := by decide +kernel
theorem dX2_isParty_18 : decode cX2_isParty 18 = .ok (.if_icmp .eq 20, 3) := by decide +kernel
theorem dX2_isParty_21 : decode cX2_isParty 21 = .ok (.iload_n 3, 1) := by decide +kernel
theorem dX2_isParty_22 : decode cX2_isParty 22 = .ok (.aload_n 0, 1) := by decide +kernel
theorem dX2_isParty_23 : decode cX2_isParty 23 = .ok (.getfield 9, 3) := by decide +kernel
theorem dX2_isParty_26 : decode cX2_isParty 26 = .ok (.iload_n 2, 1) := by decide +kernel
theorem dX2_isParty_27 : decode cX2_isParty 27 = .ok (.invokestatic 27, 3) := by decide +kernel
theorem dX2_isParty_30 : decode cX2_isParty 30 = .ok (.iconst (-1), 1) := by decide +kernel
theorem dX2_isParty_31 : decode cX2_isParty 31 = .ok (.ixor, 1) := by decide +kernel
theorem dX2_isParty_32 : decode cX2_isParty 32 = .ok (.iand, 1) := by decide +kernel
theorem dX2_isParty_33 : decode cX2_isParty 33 = .ok (.ifCond .eq 5, 3) := by decide +kernel
theorem dX2_isParty_36 : decode cX2_isParty 36 = .ok (.iconst 0, 1) := by decide +kernel
theorem dX2_isParty_37 : decode cX2_isParty 37 = .ok (.ireturn, 1) := by decide +kernel
theorem dX2_isParty_38 : decode cX2_isParty 38 = .ok (.iinc 2 1, 3) := by decide +kernel
theorem dX2_isParty_41 : decode cX2_isParty 41 = .ok (.goto (-39), 3) := by decide +kernel
theorem dX2_isParty_44 : decode cX2_isParty 44 = .ok (.iconst 1, 1) := by decide +kernel
theorem dX2_isParty_45 : decode cX2_isParty 45 = .ok (.ireturn, 1) := by decide +kernel
theorem dX3_init_0 : decode cX3_init 0 = .ok (.aload_n 0, 1) := by decide +kernel
theorem dX3_init_1 : decode cX3_init 1 = .ok (.invokespecial 3, 3) := by decide +kernel
theorem dX3_init_4 : decode cX3_init 4 = .ok (.aload_n 0, 1) := by decide +kernel
theorem dX3_init_5 : decode cX3_init 5 = .ok (.sipush 401, 3) := by decide +kernel
theorem dX3_init_8 : decode cX3_init 8 = .ok (.newarray .int, 2) := by decide +kernel
theorem dX3_init_10 : decode cX3_init 10 = .ok (.putfield 9, 3) := by decide +kernel
theorem dX3_init_13 : decode cX3_init 13 = .ok (.aload_n 0, 1) := by decide +kernel
theorem dX3_init_14 : decode cX3_init 14 = .ok (.sipush 401, 3) := by decide +kernel
theorem dX3_init_17 : decode cX3_init 17 = .ok (.newarray .int, 2) := by decide +kernel
theorem dX3_init_19 : decode cX3_init 19 = .ok (.putfield 15, 3) := by decide +kernel
theorem dX3_init_22 : decode cX3_init 22 = .ok (.return_, 1) := by decide +kernel
theorem dX3_read_0 : decode cX3_read 0 = .ok (.aload_n 2, 1) := by decide +kernel
theorem dX3_read_1 : decode cX3_read 1 = .ok (.invokevirtual 18, 3) := by decide +kernel
theorem dX3_read_4 : decode cX3_read 4 = .ok (.aload_n 0, 1) := by decide +kernel
theorem dX3_read_5 : decode cX3_read 5 = .ok (.aload_n 1, 1) := by decide +kernel
theorem dX3_read_6 : decode cX3_read 6 = .ok (.invokevirtual 23, 3) := by decide +kernel
theorem dX3_read_9 : decode cX3_read 9 = .ok (.aload_n 0, 1) := by decide +kernel
theorem dX3_read_10 : decode cX3_read 10 = .ok (.iconst 0, 1) := by decide +kernel
theorem dX3_read_11 : decode cX3_read 11 = .ok (.putfield 27, 3) := by decide +kernel
theorem dX3_read_14 : decode cX3_read 14 = .ok (.aload_n 0, 1) := by decide +kernel
theorem dX3_read_15 : decode cX3_read 15 = .ok (.iconst (-1), 1) := by decide +kernel
theorem dX3_read_16 : decode cX3_read 16 = .ok (.putfield 31, 3) := by decide +kernel
theorem dX3_read_19 : decode cX3_read 19 = .ok (.aload_n 0, 1) := by decide +kernel
theorem dX3_read_20 : decode cX3_read 20 = .ok (.iconst 0, 1) := by decide +kernel
theorem dX3_read_21 : decode cX3_read 21 = .ok (.putfield 34, 3) := by decide +kernel
theorem dX3_read_24 : decode cX3_read 24 = .ok (.aload_n 0, 1) := by decide +kernel
theorem dX3_read_25 : decode cX3_read 25 = .ok (.iconst 0, 1) := by decide +kernel
theorem dX3_read_26 : decode cX3_read 26 = .ok (.putfield 38, 3) := by decide +kernel
theorem dX3_read_29 : decode cX3_read 29 = .ok (.iconst 0, 1) := by decide +kernel
theorem dX3_read_30 : decode cX3_read 30 = .ok (.istore_n 3, 1) := by decide +kernel
theorem dX3_read_31 : decode cX3_read 31 = .ok (.iload_n 3, 1) := by decide +kernel
theorem dX3_read_32 : decode cX3_read 32 = .ok (.sipush 400, 3) := by decide +kernel
theorem dX3_read_35 : decode cX3_read 35 = .ok (.if_icmp .gt 47, 3) := by decide +kernel
theorem dX3_read_38 : decode cX3_read 38 = .ok (.aload_n 0, 1) := by decide +kernel
theorem dX3_read_39 : decode cX3_read 39 = .ok (.getfield 9, 3) := by decide +kernel
theorem dX3_read_42 : decode cX3_read 42 = .ok (.aload_n 0, 1) := by decide +kernel
theorem dX3_read_43 : decode cX3_read 43 = .ok (.getfield 27, 3) := by decide +kernel
theorem dX3_read_46 : decode cX3_read 46 = .ok (.invokestatic 41, 3) := by decide +kernel
theorem dX3_read_49 : decode cX3_read 49 = .ok (.bipush 12, 2) := by decide +kernel
theorem dX3_read_51 : decode cX3_read 51 = .ok (.if_icmp .ne 5, 3) := by decide +kernel
theorem dX3_read_54 : decode cX3_read 54 = .ok (.iload_n 3, 1) := by decide +kernel
theorem dX3_read_55 : decode cX3_read 55 = .ok (.ireturn, 1) := by decide +kernel
theorem dX3_read_56 : decode cX3_read 56 = .ok (.aload_n 0, 1) := by decide +kernel
theorem dX3_read_57 : decode cX3_read 57 = .ok (.aload_n 2, 1) := by decide +kernel
theorem dX3_read_58 : decode cX3_read 58 = .ok (.invokevirtual 45, 3) := by decide +kernel
theorem dX3_read_61 : decode cX3_read 61 = .ok (.aload_n 0, 1) := by decide +kernel
theorem dX3_read_62 : decode cX3_read 62 = .ok (.getfield 31, 3) := by decide +kernel
theorem dX3_read_65 : decode cX3_read 65 = .ok (.ifCond .lt 11, 3) := by decide +kernel
theorem dX3_read_68 : decode cX3_read 68 = .ok (.bipush (-10), 2) := by decide +kernel
theorem dX3_read_70 : decode cX3_read 70 = .ok (.aload_n 0, 1) := by decide +kernel
theorem dX3_read_71 : decode cX3_read 71 = .ok (.getfield 31, 3) := by decide +kernel
theorem dX3_read_74 : decode cX3_read 74 = .ok (.isub, 1) := by decide +kernel
theorem dX3_read_75 : decode cX3_read 75 = .ok (.ireturn, 1) := by decide +kernel
theorem dX3_read_76 : decode cX3_read 76 = .ok (.iinc 3 1, 3) := by decide +kernel
theorem dX3_read_79 : decode cX3_read 79 = .ok (.goto (-48), 3) := by decide +kernel
theorem dX3_read_82 : decode cX3_read 82 = .ok (.bipush (-10), 2) := by decide +kernel
theorem dX3_read_84 : decode cX3_read 84 = .ok (.aload_n 1, 1) := by decide +kernel
theorem dX3_read_85 : decode cX3_read 85 = .ok (.getfield 49, 3) := by decide +kernel
theorem dX3_read_88 : decode cX3_read 88 = .ok (.isub, 1) := by decide +kernel
theorem dX3_read_89 : decode cX3_read 89 = .ok (.ireturn, 1) := by decide +kernel
theorem dX3_findTokens_0 : decode cX3_findTokens 0 = .ok (.iconst 0, 1) := by decide +kernel
theorem dX3_findTokens_1 : decode cX3_findTokens 1 = .ok (.istore_n 2, 1) := by decide +kernel
theorem dX3_findTokens_2 : decode cX3_findTokens 2 = .ok (.iconst 0, 1) := by decide +kernel
theorem dX3_findTokens_3 : decode cX3_findTokens 3 = .ok (.istore_n 3, 1) := by decide +kernel
theorem dX3_findTokens_4 : decode cX3_findTokens 4 = .ok (.iload_n 3, 1) := by decide +kernel
theorem dX3_findTokens_5 : decode cX3_findTokens 5 = .ok (.aload_n 1, 1) := by decide +kernel
theorem dX3_findTokens_6 : decode cX3_findTokens 6 = .ok (.getfield 49, 3) := by decide +kernel
theorem dX3_findTokens_9 : decode cX3_findTokens 9 = .ok (.if_icmp .ge 42, 3) := by decide +kernel
theorem dX3_findTokens_12 : decode cX3_findTokens 12 = .ok (.aload_n 1, 1) := by decide +kernel
theorem dX3_findTokens_13 : decode cX3_findTokens 13 = .ok (.iload_n 3, 1) := by decide +kernel
theorem dX3_findTokens_14 : decode cX3_findTokens 14 = .ok (.invokevirtual 54, 3) := by decide +kernel
theorem dX3_findTokens_17 : decode cX3_findTokens 17 = .ok (.ifCond .eq 28, 3) := by decide +kernel
theorem dX3_findTokens_20 : decode cX3_findTokens 20 = .ok (.aload_n 0, 1) := by decide +kernel
theorem dX3_findTokens_21 : decode cX3_findTokens 21 = .ok (.getfield 9, 3) := by decide +kernel
theorem dX3_findTokens_24 : decode cX3_findTokens 24 = .ok (.iload_n 2, 1) := by decide +kernel
theorem dX3_findTokens_25 : decode cX3_findTokens 25 = .ok (.aload_n 1, 1) := by decide +kernel
theorem dX3_findTokens_26 : decode cX3_findTokens 26 = .ok (.iload_n 3, 1) := by decide +kernel
theorem dX3_findTokens_27 : decode cX3_findTokens 27 = .ok (.invokestatic 58, 3) := by decide +kernel
theorem dX3_findTokens_30 : decode cX3_findTokens 30 = .ok (.invokestatic 62, 3) := by decide +kernel
theorem dX3_findTokens_33 : decode cX3_findTokens 33 = .ok (.aload_n 0, 1) := by decide +kernel
theorem dX3_findTokens_34 : decode cX3_findTokens 34 = .ok (.getfield 15, 3) := by decide +kernel
theorem dX3_findTokens_37 : decode cX3_findTokens 37 = .ok (.iload_n 2, 1) := by decide +kernel
theorem dX3_findTokens_38 : decode cX3_findTokens 38 = .ok (.iload_n 3, 1) := by decide +kernel
theorem dX3_findTokens_39 : decode cX3_findTokens 39 = .ok (.invokestatic 62, 3) := by decide +kernel
theorem dX3_findTokens_42 : decode cX3_findTokens 42 = .ok (.iinc 2 1, 3) := by decide +kernel
theorem dX3_findTokens_45 : decode cX3_findTokens 45 = .ok (.iinc 3 1, 3) := by decide +kernel
theorem dX3_findTokens_48 : decode cX3_findTokens 48 = .ok (.goto (-44), 3) := by decide +kernel
theorem dX3_findTokens_51 : decode cX3_findTokens 51 = .ok (.aload_n 0, 1) := by decide +kernel
theorem dX3_findTokens_52 : decode cX3_findTokens 52 = .ok (.getfield 9, 3) := by decide +kernel
theorem dX3_findTokens_55 : decode cX3_findTokens 55 = .ok (.iload_n 2, 1) := by decide +kernel
theorem dX3_findTokens_56 : decode cX3_findTokens 56 = .ok (.bipush 12, 2) := by decide +kernel
theorem dX3_findTokens_58 : decode cX3_findTokens 58 = .ok (.invokestatic 62, 3) := by decide +kernel
theorem dX3_findTokens_61 : decode cX3_findTokens 61 = .ok (.aload_n 0, 1) := by decide +kernel
theorem dX3_findTokens_62 : decode cX3_findTokens 62 = .ok (.getfield 15, 3) := by decide +kernel
theorem dX3_findTokens_65 : decode cX3_findTokens 65 = .ok (.iload_n 2, 1) := by decide +kernel
theorem dX3_findTokens_66 : decode cX3_findTokens 66 = .ok (.aload_n 1, 1) := by decide +kernel
theorem dX3_findTokens_67 : decode cX3_findTokens 67 = .ok (.getfield 49, 3) := by decide +kernel
theorem dX3_findTokens_70 : decode cX3_findTokens 70 = .ok (.invokestatic 62, 3) := by decide +kernel
theorem dX3_findTokens_73 : decode cX3_findTokens 73 = .ok (.return_, 1) := by decide +kernel
theorem dX3_tokenAt_0 : decode cX3_tokenAt 0 = .ok (.aload_n 0, 1) := by decide +kernel
theorem dX3_tokenAt_1 : decode cX3_tokenAt 1 = .ok (.iload_n 1, 1) := by decide +kernel
theorem dX3_tokenAt_2 : decode cX3_tokenAt 2 = .ok (.invokevirtual 66, 3) := by decide +kernel
theorem dX3_tokenAt_5 : decode cX3_tokenAt 5 = .ok (.istore_n 2, 1) := by decide +kernel
theorem dX3_tokenAt_6 : decode cX3_tokenAt 6 = .ok (.iload_n 2, 1) := by decide +kernel
theorem dX3_tokenAt_7 : decode cX3_tokenAt 7 = .ok (.invokestatic 70, 3) := by decide +kernel
theorem dX3_tokenAt_10 : decode cX3_tokenAt 10 = .ok (.ifCond .eq 9, 3) := by decide +kernel
theorem dX3_tokenAt_13 : decode cX3_tokenAt 13 = .ok (.aload_n 0, 1) := by decide +kernel
theorem dX3_tokenAt_14 : decode cX3_tokenAt 14 = .ok (.iload_n 1, 1) := by decide +kernel
theorem dX3_tokenAt_15 : decode cX3_tokenAt 15 = .ok (.invokestatic 73, 3) := by decide +kernel
theorem dX3_tokenAt_18 : decode cX3_tokenAt 18 = .ok (.ireturn, 1) := by decide +kernel
theorem dX3_tokenAt_19 : decode cX3_tokenAt 19 = .ok (.iload_n 2, 1) := by decide +kernel
theorem dX3_tokenAt_20 : decode cX3_tokenAt 20 = .ok (.invokestatic 76, 3) := by decide +kernel
theorem dX3_tokenAt_23 : decode cX3_tokenAt 23 = .ok (.ifCond .eq 9, 3) := by decide +kernel
theorem dX3_tokenAt_26 : decode cX3_tokenAt 26 = .ok (.aload_n 0, 1) := by decide +kernel
theorem dX3_tokenAt_27 : decode cX3_tokenAt 27 = .ok (.iload_n 1, 1) := by decide +kernel
theorem dX3_tokenAt_28 : decode cX3_tokenAt 28 = .ok (.invokestatic 79, 3) := by decide +kernel
theorem dX3_tokenAt_31 : decode cX3_tokenAt 31 = .ok (.ireturn, 1) := by decide +kernel
theorem dX3_tokenAt_32 : decode cX3_tokenAt 32 = .ok (.iload_n 2, 1) := by decide +kernel
theorem dX3_tokenAt_33 : decode cX3_tokenAt 33 = .ok (.bipush 59, 2) := by decide +kernel
theorem dX3_tokenAt_35 : decode cX3_tokenAt 35 = .ok (.if_icmp .ne 8, 3) := by decide +kernel
theorem dX3_tokenAt_38 : decode cX3_tokenAt 38 = .ok (.bipush 10, 2) := by decide +kernel
theorem dX3_tokenAt_40 : decode cX3_tokenAt 40 = .ok (.goto 5, 3) := by decide +kernel
theorem dX3_tokenAt_43 : decode cX3_tokenAt 43 = .ok (.bipush 11, 2) := by decide +kernel
theorem dX3_tokenAt_45 : decode cX3_tokenAt 45 = .ok (.ireturn, 1) := by decide +kernel
theorem dX3_wordAt_0 : decode cX3_wordAt 0 = .ok (.iconst 0, 1) := by decide +kernel
theorem dX3_wordAt_1 : decode cX3_wordAt 1 = .ok (.istore_n 2, 1) := by decide +kernel
theorem dX3_wordAt_2 : decode cX3_wordAt 2 = .ok (.iload_n 2, 1) := by decide +kernel
theorem dX3_wordAt_3 : decode cX3_wordAt 3 = .ok (.bipush 10, 2) := by decide +kernel
theorem dX3_wordAt_5 : decode cX3_wordAt 5 = .ok (.if_icmp .ge 20, 3) := by decide +kernel
theorem dX3_wordAt_8 : decode cX3_wordAt 8 = .ok (.aload_n 0, 1) := by decide +kernel
theorem dX3_wordAt_9 : decode cX3_wordAt 9 = .ok (.iload_n 1, 1) := by decide +kernel
theorem dX3_wordAt_10 : decode cX3_wordAt 10 = .ok (.iload_n 2, 1) := by decide +kernel
theorem dX3_wordAt_11 : decode cX3_wordAt 11 = .ok (.invokestatic 82, 3) := by decide +kernel
theorem dX3_wordAt_14 : decode cX3_wordAt 14 = .ok (.ifCond .eq 5, 3) := by decide +kernel
theorem dX3_wordAt_17 : decode cX3_wordAt 17 = .ok (.iload_n 2, 1) := by decide +kernel
theorem dX3_wordAt_18 : decode cX3_wordAt 18 = .ok (.ireturn, 1) := by decide +kernel
theorem dX3_wordAt_19 : decode cX3_wordAt 19 = .ok (.iinc 2 1, 3) := by decide +kernel
theorem dX3_wordAt_22 : decode cX3_wordAt 22 = .ok (.goto (-20), 3) := by decide +kernel
theorem dX3_wordAt_25 : decode cX3_wordAt 25 = .ok (.bipush 11, 2) := by decide +kernel
theorem dX3_wordAt_27 : decode cX3_wordAt 27 = .ok (.ireturn, 1) := by decide +kernel
theorem dX3_isWord_0 : decode cX3_isWord 0 = .ok (.iload_n 2, 1) := by decide +kernel
theorem dX3_isWord_1 : decode cX3_isWord 1 = .ok (.bipush 8, 2) := by decide +kernel
theorem dX3_isWord_3 : decode cX3_isWord 3 = .ok (.imul, 1) := by decide +kernel
theorem dX3_isWord_4 : decode cX3_isWord 4 = .ok (.istore_n 3, 1) := by decide +kernel
theorem dX3_isWord_5 : decode cX3_isWord 5 = .ok (.iconst 0, 1) := by decide +kernel
theorem dX3_isWord_6 : decode cX3_isWord 6 = .ok (.istore 4, 2) := by decide +kernel
theorem dX3_isWord_8 : decode cX3_isWord 8 = .ok (.iload 4, 2) := by decide +kernel
theorem dX3_isWord_10 : decode cX3_isWord 10 = .ok (.bipush 8, 2) := by decide +kernel
theorem dX3_isWord_12 : decode cX3_isWord 12 = .ok (.if_icmp .ge 72, 3) := by decide +kernel
theorem dX3_isWord_15 : decode cX3_isWord 15 = .ok (.iload_n 3, 1) := by decide +kernel
theorem dX3_isWord_16 : decode cX3_isWord 16 = .ok (.iload 4, 2) := by decide +kernel
theorem dX3_isWord_18 : decode cX3_isWord 18 = .ok (.iadd, 1) := by decide +kernel
theorem dX3_isWord_19 : decode cX3_isWord 19 = .ok (.ldc 86, 2) := by decide +kernel
theorem dX3_isWord_21 : decode cX3_isWord 21 = .ok (.invokevirtual 88, 3) := by decide +kernel
theorem dX3_isWord_24 : decode cX3_isWord 24 = .ok (.if_icmp .ge 60, 3) := by decide +kernel
theorem dX3_isWord_27 : decode cX3_isWord 27 = .ok (.ldc 86, 2) := by decide +kernel
theorem dX3_isWord_29 : decode cX3_isWord 29 = .ok (.iload_n 3, 1) := by decide +kernel
theorem dX3_isWord_30 : decode cX3_isWord 30 = .ok (.iload 4, 2) := by decide +kernel
theorem dX3_isWord_32 : decode cX3_isWord 32 = .ok (.iadd, 1) := by decide +kernel
theorem dX3_isWord_33 : decode cX3_isWord 33 = .ok (.invokevirtual 94, 3) := by decide +kernel
theorem dX3_isWord_36 : decode cX3_isWord 36 = .ok (.istore 5, 2) := by decide +kernel
theorem dX3_isWord_38 : decode cX3_isWord 38 = .ok (.aload_n 0, 1) := by decide +kernel
theorem dX3_isWord_39 : decode cX3_isWord 39 = .ok (.iload_n 1, 1) := by decide +kernel
theorem dX3_isWord_40 : decode cX3_isWord 40 = .ok (.iload 4, 2) := by decide +kernel
theorem dX3_isWord_42 : decode cX3_isWord 42 = .ok (.iadd, 1) := by decide +kernel
theorem dX3_isWord_43 : decode cX3_isWord 43 = .ok (.invokevirtual 66, 3) := by decide +kernel
theorem dX3_isWord_46 : decode cX3_isWord 46 = .ok (.istore 6, 2) := by decide +kernel
theorem dX3_isWord_48 : decode cX3_isWord 48 = .ok (.iload 5, 2) := by decide +kernel
theorem dX3_isWord_50 : decode cX3_isWord 50 = .ok (.bipush 32, 2) := by decide +kernel
theorem dX3_isWord_52 : decode cX3_isWord 52 = .ok (.if_icmp .ne 17, 3) := by decide +kernel
theorem dX3_isWord_55 : decode cX3_isWord 55 = .ok (.iload 6, 2) := by decide +kernel
theorem dX3_isWord_57 : decode cX3_isWord 57 = .ok (.invokestatic 70, 3) := by decide +kernel
theorem dX3_isWord_60 : decode cX3_isWord 60 = .ok (.ifCond .ne 7, 3) := by decide +kernel
theorem dX3_isWord_63 : decode cX3_isWord 63 = .ok (.iconst 1, 1) := by decide +kernel
theorem dX3_isWord_64 : decode cX3_isWord 64 = .ok (.goto 4, 3) := by decide +kernel
theorem dX3_isWord_67 : decode cX3_isWord 67 = .ok (.iconst 0, 1) := by decide +kernel
theorem dX3_isWord_68 : decode cX3_isWord 68 = .ok (.ireturn, 1) := by decide +kernel
theorem dX3_isWord_69 : decode cX3_isWord 69 = .ok (.iload 6, 2) := by decide +kernel
theorem dX3_isWord_71 : decode cX3_isWord 71 = .ok (.iload 5, 2) := by decide +kernel
theorem dX3_isWord_73 : decode cX3_isWord 73 = .ok (.if_icmp .eq 5, 3) := by decide +kernel
theorem dX3_isWord_76 : decode cX3_isWord 76 = .ok (.iconst 0, 1) := by decide +kernel
theorem dX3_isWord_77 : decode cX3_isWord 77 = .ok (.ireturn, 1) := by decide +kernel
theorem dX3_isWord_78 : decode cX3_isWord 78 = .ok (.iinc 4 1, 3) := by decide +kernel
theorem dX3_isWord_81 : decode cX3_isWord 81 = .ok (.goto (-73), 3) := by decide +kernel
theorem dX3_isWord_84 : decode cX3_isWord 84 = .ok (.iconst 0, 1) := by decide +kernel
theorem dX3_isWord_85 : decode cX3_isWord 85 = .ok (.ireturn, 1) := by decide +kernel
theorem dX3_numberAt_0 : decode cX3_numberAt 0 = .ok (.aload_n 0, 1) := by decide +kernel
theorem dX3_numberAt_1 : decode cX3_numberAt 1 = .ok (.iload_n 1, 1) := by decide +kernel
theorem dX3_numberAt_2 : decode cX3_numberAt 2 = .ok (.invokevirtual 66, 3) := by decide +kernel
theorem dX3_numberAt_5 : decode cX3_numberAt 5 = .ok (.bipush 48, 2) := by decide +kernel
theorem dX3_numberAt_7 : decode cX3_numberAt 7 = .ok (.isub, 1) := by decide +kernel
theorem dX3_numberAt_8 : decode cX3_numberAt 8 = .ok (.istore_n 2, 1) := by decide +kernel
theorem dX3_numberAt_9 : decode cX3_numberAt 9 = .ok (.aload_n 0, 1) := by decide +kernel
theorem dX3_numberAt_10 : decode cX3_numberAt 10 = .ok (.iload_n 1, 1) := by decide +kernel
theorem dX3_numberAt_11 : decode cX3_numberAt 11 = .ok (.iconst 1, 1) := by decide +kernel
theorem dX3_numberAt_12 : decode cX3_numberAt 12 = .ok (.iadd, 1) := by decide +kernel
theorem dX3_numberAt_13 : decode cX3_numberAt 13 = .ok (.invokevirtual 66, 3) := by decide +kernel
theorem dX3_numberAt_16 : decode cX3_numberAt 16 = .ok (.istore_n 3, 1) := by decide +kernel
theorem dX3_numberAt_17 : decode cX3_numberAt 17 = .ok (.iload_n 3, 1) := by decide +kernel
theorem dX3_numberAt_18 : decode cX3_numberAt 18 = .ok (.invokestatic 76, 3) := by decide +kernel
theorem dX3_numberAt_21 : decode cX3_numberAt 21 = .ok (.ifCond .ne 8, 3) := by decide +kernel
theorem dX3_numberAt_24 : decode cX3_numberAt 24 = .ok (.bipush 100, 2) := by decide +kernel
theorem dX3_numberAt_26 : decode cX3_numberAt 26 = .ok (.iload_n 2, 1) := by decide +kernel
theorem dX3_numberAt_27 : decode cX3_numberAt 27 = .ok (.iadd, 1) := by decide +kernel
theorem dX3_numberAt_28 : decode cX3_numberAt 28 = .ok (.ireturn, 1) := by decide +kernel
theorem dX3_numberAt_29 : decode cX3_numberAt 29 = .ok (.iload_n 2, 1) := by decide +kernel
theorem dX3_numberAt_30 : decode cX3_numberAt 30 = .ok (.ifCond .eq 16, 3) := by decide +kernel
theorem dX3_numberAt_33 : decode cX3_numberAt 33 = .ok (.aload_n 0, 1) := by decide +kernel
theorem dX3_numberAt_34 : decode cX3_numberAt 34 = .ok (.iload_n 1, 1) := by decide +kernel
theorem dX3_numberAt_35 : decode cX3_numberAt 35 = .ok (.iconst 2, 1) := by decide +kernel
theorem dX3_numberAt_36 : decode cX3_numberAt 36 = .ok (.iadd, 1) := by decide +kernel
theorem dX3_numberAt_37 : decode cX3_numberAt 37 = .ok (.invokevirtual 66, 3) := by decide +kernel
theorem dX3_numberAt_40 : decode cX3_numberAt 40 = .ok (.invokestatic 76, 3) := by decide +kernel
theorem dX3_numberAt_43 : decode cX3_numberAt 43 = .ok (.ifCond .eq 6, 3) := by decide +kernel
theorem dX3_numberAt_46 : decode cX3_numberAt 46 = .ok (.bipush 11, 2) := by decide +kernel
theorem dX3_numberAt_48 : decode cX3_numberAt 48 = .ok (.ireturn, 1) := by decide +kernel
theorem dX3_numberAt_49 : decode cX3_numberAt 49 = .ok (.bipush 100, 2) := by decide +kernel
theorem dX3_numberAt_51 : decode cX3_numberAt 51 = .ok (.bipush 10, 2) := by decide +kernel
theorem dX3_numberAt_53 : decode cX3_numberAt 53 = .ok (.iload_n 2, 1) := by decide +kernel
theorem dX3_numberAt_54 : decode cX3_numberAt 54 = .ok (.imul, 1) := by decide +kernel
theorem dX3_numberAt_55 : decode cX3_numberAt 55 = .ok (.iadd, 1) := by decide +kernel
theorem dX3_numberAt_56 : decode cX3_numberAt 56 = .ok (.iload_n 3, 1) := by decide +kernel
theorem dX3_numberAt_57 : decode cX3_numberAt 57 = .ok (.iadd, 1) := by decide +kernel
theorem dX3_numberAt_58 : decode cX3_numberAt 58 = .ok (.bipush 48, 2) := by decide +kernel
theorem dX3_numberAt_60 : decode cX3_numberAt 60 = .ok (.isub, 1) := by decide +kernel
theorem dX3_numberAt_61 : decode cX3_numberAt 61 = .ok (.ireturn, 1) := by decide +kernel
theorem dX3_readItem_0 : decode cX3_readItem 0 = .ok (.aload_n 0, 1) := by decide +kernel
theorem dX3_readItem_1 : decode cX3_readItem 1 = .ok (.getfield 9, 3) := by decide +kernel
theorem dX3_readItem_4 : decode cX3_readItem 4 = .ok (.aload_n 0, 1) := by decide +kernel
theorem dX3_readItem_5 : decode cX3_readItem 5 = .ok (.getfield 27, 3) := by decide +kernel
theorem dX3_readItem_8 : decode cX3_readItem 8 = .ok (.invokestatic 41, 3) := by decide +kernel
theorem dX3_readItem_11 : decode cX3_readItem 11 = .ok (.istore_n 2, 1) := by decide +kernel
theorem dX3_readItem_12 : decode cX3_readItem 12 = .ok (.aload_n 0, 1) := by decide +kernel
theorem dX3_readItem_13 : decode cX3_readItem 13 = .ok (.aload_n 0, 1) := by decide +kernel
theorem dX3_readItem_14 : decode cX3_readItem 14 = .ok (.aload_n 1, 1) := by decide +kernel
theorem dX3_readItem_15 : decode cX3_readItem 15 = .ok (.iload_n 2, 1) := by decide +kernel
theorem dX3_readItem_16 : decode cX3_readItem 16 = .ok (.invokevirtual 98, 3) := by decide +kernel
theorem dX3_readItem_19 : decode cX3_readItem 19 = .ok (.invokevirtual 102, 3) := by decide +kernel
theorem dX3_readItem_22 : decode cX3_readItem 22 = .ok (.ifCond .ne 4, 3) := by decide +kernel
theorem dX3_readItem_25 : decode cX3_readItem 25 = .ok (.return_, 1) := by decide +kernel
theorem dX3_readItem_26 : decode cX3_readItem 26 = .ok (.iconst 1, 1) := by decide +kernel
theorem dX3_readItem_27 : decode cX3_readItem 27 = .ok (.istore_n 3, 1) := by decide +kernel
theorem dX3_readItem_28 : decode cX3_readItem 28 = .ok (.iload_n 2, 1) := by decide +kernel
theorem dX3_readItem_29 : decode cX3_readItem 29 = .ok (.ifCond .ne 16, 3) := by decide +kernel
theorem dX3_readItem_32 : decode cX3_readItem 32 = .ok (.aload_n 1, 1) := by decide +kernel
theorem dX3_readItem_33 : decode cX3_readItem 33 = .ok (.dup, 1) := by decide +kernel
theorem dX3_readItem_34 : decode cX3_readItem 34 = .ok (.getfield 106, 3) := by decide +kernel
theorem dX3_readItem_37 : decode cX3_readItem 37 = .ok (.iconst 1, 1) := by decide +kernel
theorem dX3_readItem_38 : decode cX3_readItem 38 = .ok (.iadd, 1) := by decide +kernel
theorem dX3_readItem_39 : decode cX3_readItem 39 = .ok (.putfield 106, 3) := by decide +kernel
theorem dX3_readItem_42 : decode cX3_readItem 42 = .ok (.goto 38, 3) := by decide +kernel
theorem dX3_readItem_45 : decode cX3_readItem 45 = .ok (.iload_n 2, 1) := by decide +kernel
theorem dX3_readItem_46 : decode cX3_readItem 46 = .ok (.iconst 4, 1) := by decide +kernel
theorem dX3_readItem_47 : decode cX3_readItem 47 = .ok (.if_icmp .ne 12, 3) := by decide +kernel
theorem dX3_readItem_50 : decode cX3_readItem 50 = .ok (.aload_n 0, 1) := by decide +kernel
theorem dX3_readItem_51 : decode cX3_readItem 51 = .ok (.aload_n 1, 1) := by decide +kernel
theorem dX3_readItem_52 : decode cX3_readItem 52 = .ok (.invokevirtual 109, 3) := by decide +kernel
theorem dX3_readItem_55 : decode cX3_readItem 55 = .ok (.istore_n 3, 1) := by decide +kernel
theorem dX3_readItem_56 : decode cX3_readItem 56 = .ok (.goto 24, 3) := by decide +kernel
theorem dX3_readItem_59 : decode cX3_readItem 59 = .ok (.iload_n 2, 1) := by decide +kernel
theorem dX3_readItem_60 : decode cX3_readItem 60 = .ok (.iconst 5, 1) := by decide +kernel
theorem dX3_readItem_61 : decode cX3_readItem 61 = .ok (.if_icmp .ne 12, 3) := by decide +kernel
theorem dX3_readItem_64 : decode cX3_readItem 64 = .ok (.aload_n 0, 1) := by decide +kernel
theorem dX3_readItem_65 : decode cX3_readItem 65 = .ok (.aload_n 1, 1) := by decide +kernel
theorem dX3_readItem_66 : decode cX3_readItem 66 = .ok (.invokevirtual 113, 3) := by decide +kernel
theorem dX3_readItem_69 : decode cX3_readItem 69 = .ok (.istore_n 3, 1) := by decide +kernel
theorem dX3_readItem_70 : decode cX3_readItem 70 = .ok (.goto 10, 3) := by decide +kernel
theorem dX3_readItem_73 : decode cX3_readItem 73 = .ok (.aload_n 0, 1) := by decide +kernel
theorem dX3_readItem_74 : decode cX3_readItem 74 = .ok (.aload_n 1, 1) := by decide +kernel
theorem dX3_readItem_75 : decode cX3_readItem 75 = .ok (.iload_n 2, 1) := by decide +kernel
theorem dX3_readItem_76 : decode cX3_readItem 76 = .ok (.invokevirtual 116, 3) := by decide +kernel
theorem dX3_readItem_79 : decode cX3_readItem 79 = .ok (.istore_n 3, 1) := by decide +kernel
theorem dX3_readItem_80 : decode cX3_readItem 80 = .ok (.iload_n 3, 1) := by decide +kernel
theorem dX3_readItem_81 : decode cX3_readItem 81 = .ok (.ifCond .eq 29, 3) := by decide +kernel
theorem dX3_readItem_84 : decode cX3_readItem 84 = .ok (.aload_n 0, 1) := by decide +kernel
theorem dX3_readItem_85 : decode cX3_readItem 85 = .ok (.aload_n 0, 1) := by decide +kernel
theorem dX3_readItem_86 : decode cX3_readItem 86 = .ok (.getfield 9, 3) := by decide +kernel
theorem dX3_readItem_89 : decode cX3_readItem 89 = .ok (.aload_n 0, 1) := by decide +kernel
theorem dX3_readItem_90 : decode cX3_readItem 90 = .ok (.getfield 27, 3) := by decide +kernel
theorem dX3_readItem_93 : decode cX3_readItem 93 = .ok (.invokestatic 41, 3) := by decide +kernel
theorem dX3_readItem_96 : decode cX3_readItem 96 = .ok (.bipush 10, 2) := by decide +kernel
theorem dX3_readItem_98 : decode cX3_readItem 98 = .ok (.if_icmp .ne 7, 3) := by decide +kernel
theorem dX3_readItem_101 : decode cX3_readItem 101 = .ok (.iconst 1, 1) := by decide +kernel
theorem dX3_readItem_102 : decode cX3_readItem 102 = .ok (.goto 4, 3) := by decide +kernel
theorem dX3_readItem_105 : decode cX3_readItem 105 = .ok (.iconst 0, 1) := by decide +kernel
theorem dX3_readItem_106 : decode cX3_readItem 106 = .ok (.invokevirtual 102, 3) := by decide +kernel
theorem dX3_readItem_109 : decode cX3_readItem 109 = .ok (.pop, 1) := by decide +kernel
theorem dX3_readItem_110 : decode cX3_readItem 110 = .ok (.return_, 1) := by decide +kernel
theorem dX3_mayBegin_0 : decode cX3_mayBegin 0 = .ok (.iload_n 2, 1) := by decide +kernel
theorem dX3_mayBegin_1 : decode cX3_mayBegin 1 = .ok (.tableswitch 82 0 5 #[39, 54, 54, 54, 56, 69], 39) := by decide +kernel
theorem dX3_mayBegin_40 : decode cX3_mayBegin 40 = .ok (.aload_n 1, 1) := by decide +kernel
theorem dX3_mayBegin_41 : decode cX3_mayBegin 41 = .ok (.getfield 106, 3) := by decide +kernel
theorem dX3_mayBegin_44 : decode cX3_mayBegin 44 = .ok (.bipush 8, 2) := by decide +kernel
theorem dX3_mayBegin_46 : decode cX3_mayBegin 46 = .ok (.if_icmp .ge 7, 3) := by decide +kernel
theorem dX3_mayBegin_49 : decode cX3_mayBegin 49 = .ok (.iconst 1, 1) := by decide +kernel
theorem dX3_mayBegin_50 : decode cX3_mayBegin 50 = .ok (.goto 4, 3) := by decide +kernel
theorem dX3_mayBegin_53 : decode cX3_mayBegin 53 = .ok (.iconst 0, 1) := by decide +kernel
theorem dX3_mayBegin_54 : decode cX3_mayBegin 54 = .ok (.ireturn, 1) := by decide +kernel
theorem dX3_mayBegin_55 : decode cX3_mayBegin 55 = .ok (.iconst 1, 1) := by decide +kernel
theorem dX3_mayBegin_56 : decode cX3_mayBegin 56 = .ok (.ireturn, 1) := by decide +kernel
theorem dX3_mayBegin_57 : decode cX3_mayBegin 57 = .ok (.aload_n 0, 1) := by decide +kernel
theorem dX3_mayBegin_58 : decode cX3_mayBegin 58 = .ok (.getfield 38, 3) := by decide +kernel
theorem dX3_mayBegin_61 : decode cX3_mayBegin 61 = .ok (.ifCond .ne 7, 3) := by decide +kernel
theorem dX3_mayBegin_64 : decode cX3_mayBegin 64 = .ok (.iconst 1, 1) := by decide +kernel
theorem dX3_mayBegin_65 : decode cX3_mayBegin 65 = .ok (.goto 4, 3) := by decide +kernel
theorem dX3_mayBegin_68 : decode cX3_mayBegin 68 = .ok (.iconst 0, 1) := by decide +kernel
theorem dX3_mayBegin_69 : decode cX3_mayBegin 69 = .ok (.ireturn, 1) := by decide +kernel
theorem dX3_mayBegin_70 : decode cX3_mayBegin 70 = .ok (.aload_n 0, 1) := by decide +kernel
theorem dX3_mayBegin_71 : decode cX3_mayBegin 71 = .ok (.getfield 34, 3) := by decide +kernel
theorem dX3_mayBegin_74 : decode cX3_mayBegin 74 = .ok (.ifCond .ne 7, 3) := by decide +kernel
theorem dX3_mayBegin_77 : decode cX3_mayBegin 77 = .ok (.iconst 1, 1) := by decide +kernel
theorem dX3_mayBegin_78 : decode cX3_mayBegin 78 = .ok (.goto 4, 3) := by decide +kernel
theorem dX3_mayBegin_81 : decode cX3_mayBegin 81 = .ok (.iconst 0, 1) := by decide +kernel
theorem dX3_mayBegin_82 : decode cX3_mayBegin 82 = .ok (.ireturn, 1) := by decide +kernel
theorem dX3_mayBegin_83 : decode cX3_mayBegin 83 = .ok (.iconst 0, 1) := by decide +kernel
theorem dX3_mayBegin_84 : decode cX3_mayBegin 84 = .ok (.ireturn, 1) := by decide +kernel
theorem dX3_readForgets_0 : decode cX3_readForgets 0 = .ok (.aload_n 0, 1) := by decide +kernel
theorem dX3_readForgets_1 : decode cX3_readForgets 1 = .ok (.iconst 1, 1) := by decide +kernel
theorem dX3_readForgets_2 : decode cX3_readForgets 2 = .ok (.putfield 38, 3) := by decide +kernel
theorem dX3_readForgets_5 : decode cX3_readForgets 5 = .ok (.aload_n 0, 1) := by decide +kernel
theorem dX3_readForgets_6 : decode cX3_readForgets 6 = .ok (.invokevirtual 119, 3) := by decide +kernel
theorem dX3_readForgets_9 : decode cX3_readForgets 9 = .ok (.istore_n 2, 1) := by decide +kernel
theorem dX3_readForgets_10 : decode cX3_readForgets 10 = .ok (.aload_n 0, 1) := by decide +kernel
theorem dX3_readForgets_11 : decode cX3_readForgets 11 = .ok (.iload_n 2, 1) := by decide +kernel
theorem dX3_readForgets_12 : decode cX3_readForgets 12 = .ok (.ifCond .lt 13, 3) := by decide +kernel
theorem dX3_readForgets_15 : decode cX3_readForgets 15 = .ok (.iload_n 2, 1) := by decide +kernel
theorem dX3_readForgets_16 : decode cX3_readForgets 16 = .ok (.bipush 9, 2) := by decide +kernel
theorem dX3_readForgets_18 : decode cX3_readForgets 18 = .ok (.if_icmp .gt 7, 3) := by decide +kernel
theorem dX3_readForgets_21 : decode cX3_readForgets 21 = .ok (.iconst 1, 1) := by decide +kernel
theorem dX3_readForgets_22 : decode cX3_readForgets 22 = .ok (.goto 4, 3) := by decide +kernel
theorem dX3_readForgets_25 : decode cX3_readForgets 25 = .ok (.iconst 0, 1) := by decide +kernel
theorem dX3_readForgets_26 : decode cX3_readForgets 26 = .ok (.invokevirtual 102, 3) := by decide +kernel
theorem dX3_readForgets_29 : decode cX3_readForgets 29 = .ok (.ifCond .ne 5, 3) := by decide +kernel
theorem dX3_readForgets_32 : decode cX3_readForgets 32 = .ok (.iconst 0, 1) := by decide +kernel
theorem dX3_readForgets_33 : decode cX3_readForgets 33 = .ok (.ireturn, 1) := by decide +kernel
theorem dX3_readForgets_34 : decode cX3_readForgets 34 = .ok (.aload_n 1, 1) := by decide +kernel
theorem dX3_readForgets_35 : decode cX3_readForgets 35 = .ok (.iload_n 2, 1) := by decide +kernel
theorem dX3_readForgets_36 : decode cX3_readForgets 36 = .ok (.putfield 122, 3) := by decide +kernel
theorem dX3_readForgets_39 : decode cX3_readForgets 39 = .ok (.iconst 1, 1) := by decide +kernel
theorem dX3_readForgets_40 : decode cX3_readForgets 40 = .ok (.ireturn, 1) := by decide +kernel
theorem dX3_readLaw_0 : decode cX3_readLaw 0 = .ok (.aload_n 0, 1) := by decide +kernel
theorem dX3_readLaw_1 : decode cX3_readLaw 1 = .ok (.iconst 1, 1) := by decide +kernel
theorem dX3_readLaw_2 : decode cX3_readLaw 2 = .ok (.putfield 34, 3) := by decide +kernel
theorem dX3_readLaw_5 : decode cX3_readLaw 5 = .ok (.aload_n 0, 1) := by decide +kernel
theorem dX3_readLaw_6 : decode cX3_readLaw 6 = .ok (.getfield 9, 3) := by decide +kernel
theorem dX3_readLaw_9 : decode cX3_readLaw 9 = .ok (.aload_n 0, 1) := by decide +kernel
theorem dX3_readLaw_10 : decode cX3_readLaw 10 = .ok (.getfield 27, 3) := by decide +kernel
theorem dX3_readLaw_13 : decode cX3_readLaw 13 = .ok (.invokestatic 41, 3) := by decide +kernel
theorem dX3_readLaw_16 : decode cX3_readLaw 16 = .ok (.istore_n 2, 1) := by decide +kernel
theorem dX3_readLaw_17 : decode cX3_readLaw 17 = .ok (.aload_n 0, 1) := by decide +kernel
theorem dX3_readLaw_18 : decode cX3_readLaw 18 = .ok (.iload_n 2, 1) := by decide +kernel
theorem dX3_readLaw_19 : decode cX3_readLaw 19 = .ok (.bipush 6, 2) := by decide +kernel
theorem dX3_readLaw_21 : decode cX3_readLaw 21 = .ok (.if_icmp .lt 13, 3) := by decide +kernel
theorem dX3_readLaw_24 : decode cX3_readLaw 24 = .ok (.iload_n 2, 1) := by decide +kernel
theorem dX3_readLaw_25 : decode cX3_readLaw 25 = .ok (.bipush 9, 2) := by decide +kernel
theorem dX3_readLaw_27 : decode cX3_readLaw 27 = .ok (.if_icmp .gt 7, 3) := by decide +kernel
theorem dX3_readLaw_30 : decode cX3_readLaw 30 = .ok (.iconst 1, 1) := by decide +kernel
theorem dX3_readLaw_31 : decode cX3_readLaw 31 = .ok (.goto 4, 3) := by decide +kernel
theorem dX3_readLaw_34 : decode cX3_readLaw 34 = .ok (.iconst 0, 1) := by decide +kernel
theorem dX3_readLaw_35 : decode cX3_readLaw 35 = .ok (.invokevirtual 102, 3) := by decide +kernel
theorem dX3_readLaw_38 : decode cX3_readLaw 38 = .ok (.ifCond .ne 5, 3) := by decide +kernel
theorem dX3_readLaw_41 : decode cX3_readLaw 41 = .ok (.iconst 0, 1) := by decide +kernel
theorem dX3_readLaw_42 : decode cX3_readLaw 42 = .ok (.ireturn, 1) := by decide +kernel
theorem dX3_readLaw_43 : decode cX3_readLaw 43 = .ok (.aload_n 1, 1) := by decide +kernel
theorem dX3_readLaw_44 : decode cX3_readLaw 44 = .ok (.iload_n 2, 1) := by decide +kernel
theorem dX3_readLaw_45 : decode cX3_readLaw 45 = .ok (.bipush 6, 2) := by decide +kernel
theorem dX3_readLaw_47 : decode cX3_readLaw 47 = .ok (.isub, 1) := by decide +kernel
theorem dX3_readLaw_48 : decode cX3_readLaw 48 = .ok (.putfield 125, 3) := by decide +kernel
theorem dX3_readLaw_51 : decode cX3_readLaw 51 = .ok (.aload_n 1, 1) := by decide +kernel
theorem dX3_readLaw_52 : decode cX3_readLaw 52 = .ok (.getfield 125, 3) := by decide +kernel
theorem dX3_readLaw_55 : decode cX3_readLaw 55 = .ok (.iconst 2, 1) := by decide +kernel
theorem dX3_readLaw_56 : decode cX3_readLaw 56 = .ok (.if_icmp .eq 5, 3) := by decide +kernel
theorem dX3_readLaw_59 : decode cX3_readLaw 59 = .ok (.iconst 1, 1) := by decide +kernel
theorem dX3_readLaw_60 : decode cX3_readLaw 60 = .ok (.ireturn, 1) := by decide +kernel
theorem dX3_readLaw_61 : decode cX3_readLaw 61 = .ok (.aload_n 0, 1) := by decide +kernel
theorem dX3_readLaw_62 : decode cX3_readLaw 62 = .ok (.invokevirtual 119, 3) := by decide +kernel
theorem dX3_readLaw_65 : decode cX3_readLaw 65 = .ok (.istore_n 3, 1) := by decide +kernel
theorem dX3_readLaw_66 : decode cX3_readLaw 66 = .ok (.aload_n 0, 1) := by decide +kernel
theorem dX3_readLaw_67 : decode cX3_readLaw 67 = .ok (.iload_n 3, 1) := by decide +kernel
theorem dX3_readLaw_68 : decode cX3_readLaw 68 = .ok (.ifCond .lt 13, 3) := by decide +kernel
theorem dX3_readLaw_71 : decode cX3_readLaw 71 = .ok (.iload_n 3, 1) := by decide +kernel
theorem dX3_readLaw_72 : decode cX3_readLaw 72 = .ok (.bipush 7, 2) := by decide +kernel
theorem dX3_readLaw_74 : decode cX3_readLaw 74 = .ok (.if_icmp .gt 7, 3) := by decide +kernel
theorem dX3_readLaw_77 : decode cX3_readLaw 77 = .ok (.iconst 1, 1) := by decide +kernel
theorem dX3_readLaw_78 : decode cX3_readLaw 78 = .ok (.goto 4, 3) := by decide +kernel
theorem dX3_readLaw_81 : decode cX3_readLaw 81 = .ok (.iconst 0, 1) := by decide +kernel
theorem dX3_readLaw_82 : decode cX3_readLaw 82 = .ok (.invokevirtual 102, 3) := by decide +kernel
theorem dX3_readLaw_85 : decode cX3_readLaw 85 = .ok (.ifCond .ne 5, 3) := by decide +kernel
theorem dX3_readLaw_88 : decode cX3_readLaw 88 = .ok (.iconst 0, 1) := by decide +kernel
theorem dX3_readLaw_89 : decode cX3_readLaw 89 = .ok (.ireturn, 1) := by decide +kernel
theorem dX3_readLaw_90 : decode cX3_readLaw 90 = .ok (.aload_n 1, 1) := by decide +kernel
theorem dX3_readLaw_91 : decode cX3_readLaw 91 = .ok (.iload_n 3, 1) := by decide +kernel
theorem dX3_readLaw_92 : decode cX3_readLaw 92 = .ok (.putfield 128, 3) := by decide +kernel
theorem dX3_readLaw_95 : decode cX3_readLaw 95 = .ok (.iconst 1, 1) := by decide +kernel
theorem dX3_readLaw_96 : decode cX3_readLaw 96 = .ok (.ireturn, 1) := by decide +kernel
theorem dX3_readPair_0 : decode cX3_readPair 0 = .ok (.aload_n 0, 1) := by decide +kernel
theorem dX3_readPair_1 : decode cX3_readPair 1 = .ok (.invokevirtual 119, 3) := by decide +kernel
theorem dX3_readPair_4 : decode cX3_readPair 4 = .ok (.istore_n 3, 1) := by decide +kernel
theorem dX3_readPair_5 : decode cX3_readPair 5 = .ok (.iload_n 2, 1) := by decide +kernel
theorem dX3_readPair_6 : decode cX3_readPair 6 = .ok (.iconst 3, 1) := by decide +kernel
theorem dX3_readPair_7 : decode cX3_readPair 7 = .ok (.if_icmp .ne 16, 3) := by decide +kernel
theorem dX3_readPair_10 : decode cX3_readPair 10 = .ok (.aload_n 1, 1) := by decide +kernel
theorem dX3_readPair_11 : decode cX3_readPair 11 = .ok (.getfield 131, 3) := by decide +kernel
theorem dX3_readPair_14 : decode cX3_readPair 14 = .ok (.iload_n 3, 1) := by decide +kernel
theorem dX3_readPair_15 : decode cX3_readPair 15 = .ok (.invokestatic 41, 3) := by decide +kernel
theorem dX3_readPair_18 : decode cX3_readPair 18 = .ok (.bipush (-9), 2) := by decide +kernel
theorem dX3_readPair_20 : decode cX3_readPair 20 = .ok (.if_icmp .ne 7, 3) := by decide +kernel
theorem dX3_readPair_23 : decode cX3_readPair 23 = .ok (.iconst 1, 1) := by decide +kernel
theorem dX3_readPair_24 : decode cX3_readPair 24 = .ok (.goto 4, 3) := by decide +kernel
theorem dX3_readPair_27 : decode cX3_readPair 27 = .ok (.iconst 0, 1) := by decide +kernel
theorem dX3_readPair_28 : decode cX3_readPair 28 = .ok (.istore 4, 2) := by decide +kernel
theorem dX3_readPair_30 : decode cX3_readPair 30 = .ok (.aload_n 0, 1) := by decide +kernel
theorem dX3_readPair_31 : decode cX3_readPair 31 = .ok (.iload_n 3, 1) := by decide +kernel
theorem dX3_readPair_32 : decode cX3_readPair 32 = .ok (.ifCond .lt 20, 3) := by decide +kernel
theorem dX3_readPair_35 : decode cX3_readPair 35 = .ok (.iload_n 3, 1) := by decide +kernel
theorem dX3_readPair_36 : decode cX3_readPair 36 = .ok (.aload_n 1, 1) := by decide +kernel
theorem dX3_readPair_37 : decode cX3_readPair 37 = .ok (.getfield 106, 3) := by decide +kernel
theorem dX3_readPair_40 : decode cX3_readPair 40 = .ok (.if_icmp .ge 12, 3) := by decide +kernel
theorem dX3_readPair_43 : decode cX3_readPair 43 = .ok (.iload 4, 2) := by decide +kernel
theorem dX3_readPair_45 : decode cX3_readPair 45 = .ok (.ifCond .eq 7, 3) := by decide +kernel
theorem dX3_readPair_48 : decode cX3_readPair 48 = .ok (.iconst 1, 1) := by decide +kernel
theorem dX3_readPair_49 : decode cX3_readPair 49 = .ok (.goto 4, 3) := by decide +kernel
theorem dX3_readPair_52 : decode cX3_readPair 52 = .ok (.iconst 0, 1) := by decide +kernel
theorem dX3_readPair_53 : decode cX3_readPair 53 = .ok (.invokevirtual 102, 3) := by decide +kernel
theorem dX3_readPair_56 : decode cX3_readPair 56 = .ok (.ifCond .ne 5, 3) := by decide +kernel
theorem dX3_readPair_59 : decode cX3_readPair 59 = .ok (.iconst 0, 1) := by decide +kernel
theorem dX3_readPair_60 : decode cX3_readPair 60 = .ok (.ireturn, 1) := by decide +kernel
theorem dX3_readPair_61 : decode cX3_readPair 61 = .ok (.aload_n 0, 1) := by decide +kernel
theorem dX3_readPair_62 : decode cX3_readPair 62 = .ok (.invokevirtual 119, 3) := by decide +kernel
theorem dX3_readPair_65 : decode cX3_readPair 65 = .ok (.istore 5, 2) := by decide +kernel
theorem dX3_readPair_67 : decode cX3_readPair 67 = .ok (.aload_n 0, 1) := by decide +kernel
theorem dX3_readPair_68 : decode cX3_readPair 68 = .ok (.iload 5, 2) := by decide +kernel
theorem dX3_readPair_70 : decode cX3_readPair 70 = .ok (.ifCond .lt 22, 3) := by decide +kernel
theorem dX3_readPair_73 : decode cX3_readPair 73 = .ok (.iload 5, 2) := by decide +kernel
theorem dX3_readPair_75 : decode cX3_readPair 75 = .ok (.aload_n 1, 1) := by decide +kernel
theorem dX3_readPair_76 : decode cX3_readPair 76 = .ok (.getfield 106, 3) := by decide +kernel
theorem dX3_readPair_79 : decode cX3_readPair 79 = .ok (.if_icmp .ge 13, 3) := by decide +kernel
theorem dX3_readPair_82 : decode cX3_readPair 82 = .ok (.iload 5, 2) := by decide +kernel
theorem dX3_readPair_84 : decode cX3_readPair 84 = .ok (.iload_n 3, 1) := by decide +kernel
theorem dX3_readPair_85 : decode cX3_readPair 85 = .ok (.if_icmp .eq 7, 3) := by decide +kernel
theorem dX3_readPair_88 : decode cX3_readPair 88 = .ok (.iconst 1, 1) := by decide +kernel
theorem dX3_readPair_89 : decode cX3_readPair 89 = .ok (.goto 4, 3) := by decide +kernel
theorem dX3_readPair_92 : decode cX3_readPair 92 = .ok (.iconst 0, 1) := by decide +kernel
theorem dX3_readPair_93 : decode cX3_readPair 93 = .ok (.invokevirtual 102, 3) := by decide +kernel
theorem dX3_readPair_96 : decode cX3_readPair 96 = .ok (.ifCond .ne 5, 3) := by decide +kernel
theorem dX3_readPair_99 : decode cX3_readPair 99 = .ok (.iconst 0, 1) := by decide +kernel
theorem dX3_readPair_100 : decode cX3_readPair 100 = .ok (.ireturn, 1) := by decide +kernel
theorem dX3_readPair_101 : decode cX3_readPair 101 = .ok (.iload_n 2, 1) := by decide +kernel
theorem dX3_readPair_102 : decode cX3_readPair 102 = .ok (.iconst 3, 1) := by decide +kernel
theorem dX3_readPair_103 : decode cX3_readPair 103 = .ok (.if_icmp .ne 16, 3) := by decide +kernel
theorem dX3_readPair_106 : decode cX3_readPair 106 = .ok (.aload_n 1, 1) := by decide +kernel
theorem dX3_readPair_107 : decode cX3_readPair 107 = .ok (.getfield 131, 3) := by decide +kernel
theorem dX3_readPair_110 : decode cX3_readPair 110 = .ok (.iload_n 3, 1) := by decide +kernel
theorem dX3_readPair_111 : decode cX3_readPair 111 = .ok (.iload 5, 2) := by decide +kernel
theorem dX3_readPair_113 : decode cX3_readPair 113 = .ok (.invokestatic 62, 3) := by decide +kernel
theorem dX3_readPair_116 : decode cX3_readPair 116 = .ok (.goto 10, 3) := by decide +kernel
theorem dX3_readPair_119 : decode cX3_readPair 119 = .ok (.aload_n 1, 1) := by decide +kernel
theorem dX3_readPair_120 : decode cX3_readPair 120 = .ok (.iload_n 3, 1) := by decide +kernel
theorem dX3_readPair_121 : decode cX3_readPair 121 = .ok (.iload 5, 2) := by decide +kernel
theorem dX3_readPair_123 : decode cX3_readPair 123 = .ok (.invokevirtual 134, 3) := by decide +kernel
theorem dX3_readPair_126 : decode cX3_readPair 126 = .ok (.iload_n 2, 1) := by decide +kernel
theorem dX3_readPair_127 : decode cX3_readPair 127 = .ok (.iconst 2, 1) := by decide +kernel
theorem dX3_readPair_128 : decode cX3_readPair 128 = .ok (.if_icmp .ne 10, 3) := by decide +kernel
theorem dX3_readPair_131 : decode cX3_readPair 131 = .ok (.aload_n 1, 1) := by decide +kernel
theorem dX3_readPair_132 : decode cX3_readPair 132 = .ok (.iload 5, 2) := by decide +kernel
theorem dX3_readPair_134 : decode cX3_readPair 134 = .ok (.iload_n 3, 1) := by decide +kernel
theorem dX3_readPair_135 : decode cX3_readPair 135 = .ok (.invokevirtual 134, 3) := by decide +kernel
theorem dX3_readPair_138 : decode cX3_readPair 138 = .ok (.iconst 1, 1) := by decide +kernel
theorem dX3_readPair_139 : decode cX3_readPair 139 = .ok (.ireturn, 1) := by decide +kernel
theorem dX3_number_0 : decode cX3_number 0 = .ok (.aload_n 0, 1) := by decide +kernel
theorem dX3_number_1 : decode cX3_number 1 = .ok (.getfield 9, 3) := by decide +kernel
theorem dX3_number_4 : decode cX3_number 4 = .ok (.aload_n 0, 1) := by decide +kernel
theorem dX3_number_5 : decode cX3_number 5 = .ok (.getfield 27, 3) := by decide +kernel
theorem dX3_number_8 : decode cX3_number 8 = .ok (.invokestatic 41, 3) := by decide +kernel
theorem dX3_number_11 : decode cX3_number 11 = .ok (.bipush 100, 2) := by decide +kernel
theorem dX3_number_13 : decode cX3_number 13 = .ok (.isub, 1) := by decide +kernel
theorem dX3_number_14 : decode cX3_number 14 = .ok (.ireturn, 1) := by decide +kernel
theorem dX3_take_0 : decode cX3_take 0 = .ok (.iload_n 1, 1) := by decide +kernel
theorem dX3_take_1 : decode cX3_take 1 = .ok (.ifCond .eq 16, 3) := by decide +kernel
theorem dX3_take_4 : decode cX3_take 4 = .ok (.aload_n 0, 1) := by decide +kernel
theorem dX3_take_5 : decode cX3_take 5 = .ok (.dup, 1) := by decide +kernel
theorem dX3_take_6 : decode cX3_take 6 = .ok (.getfield 27, 3) := by decide +kernel
theorem dX3_take_9 : decode cX3_take 9 = .ok (.iconst 1, 1) := by decide +kernel
theorem dX3_take_10 : decode cX3_take 10 = .ok (.iadd, 1) := by decide +kernel
theorem dX3_take_11 : decode cX3_take 11 = .ok (.putfield 27, 3) := by decide +kernel
theorem dX3_take_14 : decode cX3_take 14 = .ok (.goto 18, 3) := by decide +kernel
theorem dX3_take_17 : decode cX3_take 17 = .ok (.aload_n 0, 1) := by decide +kernel
theorem dX3_take_18 : decode cX3_take 18 = .ok (.aload_n 0, 1) := by decide +kernel
theorem dX3_take_19 : decode cX3_take 19 = .ok (.getfield 15, 3) := by decide +kernel
theorem dX3_take_22 : decode cX3_take 22 = .ok (.aload_n 0, 1) := by decide +kernel
theorem dX3_take_23 : decode cX3_take 23 = .ok (.getfield 27, 3) := by decide +kernel
theorem dX3_take_26 : decode cX3_take 26 = .ok (.invokestatic 41, 3) := by decide +kernel
theorem dX3_take_29 : decode cX3_take 29 = .ok (.putfield 31, 3) := by decide +kernel
theorem dX3_take_32 : decode cX3_take 32 = .ok (.iload_n 1, 1) := by decide +kernel
theorem dX3_take_33 : decode cX3_take 33 = .ok (.ireturn, 1) := by decide +kernel
theorem dX4_init_0 : decode cX4_init 0 = .ok (.aload_n 0, 1) := by decide +kernel
theorem dX4_init_1 : decode cX4_init 1 = .ok (.invokespecial 3, 3) := by decide +kernel
theorem dX4_init_4 : decode cX4_init 4 = .ok (.aload_n 0, 1) := by decide +kernel
theorem dX4_init_5 : decode cX4_init 5 = .ok (.sipush 400, 3) := by decide +kernel
theorem dX4_init_8 : decode cX4_init 8 = .ok (.newarray .int, 2) := by decide +kernel
theorem dX4_init_10 : decode cX4_init 10 = .ok (.putfield 9, 3) := by decide +kernel
theorem dX4_init_13 : decode cX4_init 13 = .ok (.return_, 1) := by decide +kernel
theorem dX4_add_0 : decode cX4_add 0 = .ok (.aload_n 0, 1) := by decide +kernel
theorem dX4_add_1 : decode cX4_add 1 = .ok (.getfield 15, 3) := by decide +kernel
theorem dX4_add_4 : decode cX4_add 4 = .ok (.sipush 400, 3) := by decide +kernel
theorem dX4_add_7 : decode cX4_add 7 = .ok (.if_icmp .ge 25, 3) := by decide +kernel
theorem dX4_add_10 : decode cX4_add 10 = .ok (.aload_n 0, 1) := by decide +kernel
theorem dX4_add_11 : decode cX4_add 11 = .ok (.getfield 9, 3) := by decide +kernel
theorem dX4_add_14 : decode cX4_add 14 = .ok (.aload_n 0, 1) := by decide +kernel
theorem dX4_add_15 : decode cX4_add 15 = .ok (.getfield 15, 3) := by decide +kernel
theorem dX4_add_18 : decode cX4_add 18 = .ok (.iload_n 1, 1) := by decide +kernel
theorem dX4_add_19 : decode cX4_add 19 = .ok (.invokestatic 19, 3) := by decide +kernel
theorem dX4_add_22 : decode cX4_add 22 = .ok (.aload_n 0, 1) := by decide +kernel
theorem dX4_add_23 : decode cX4_add 23 = .ok (.dup, 1) := by decide +kernel
theorem dX4_add_24 : decode cX4_add 24 = .ok (.getfield 15, 3) := by decide +kernel
theorem dX4_add_27 : decode cX4_add 27 = .ok (.iconst 1, 1) := by decide +kernel
theorem dX4_add_28 : decode cX4_add 28 = .ok (.iadd, 1) := by decide +kernel
theorem dX4_add_29 : decode cX4_add 29 = .ok (.putfield 15, 3) := by decide +kernel
theorem dX4_add_32 : decode cX4_add 32 = .ok (.return_, 1) := by decide +kernel
theorem dX4_byteAt_0 : decode cX4_byteAt 0 = .ok (.iload_n 1, 1) := by decide +kernel
theorem dX4_byteAt_1 : decode cX4_byteAt 1 = .ok (.aload_n 0, 1) := by decide +kernel
theorem dX4_byteAt_2 : decode cX4_byteAt 2 = .ok (.getfield 15, 3) := by decide +kernel
theorem dX4_byteAt_5 : decode cX4_byteAt 5 = .ok (.if_icmp .ge 14, 3) := by decide +kernel
theorem dX4_byteAt_8 : decode cX4_byteAt 8 = .ok (.aload_n 0, 1) := by decide +kernel
theorem dX4_byteAt_9 : decode cX4_byteAt 9 = .ok (.getfield 9, 3) := by decide +kernel
theorem dX4_byteAt_12 : decode cX4_byteAt 12 = .ok (.iload_n 1, 1) := by decide +kernel
theorem dX4_byteAt_13 : decode cX4_byteAt 13 = .ok (.invokestatic 23, 3) := by decide +kernel
theorem dX4_byteAt_16 : decode cX4_byteAt 16 = .ok (.goto 4, 3) := by decide +kernel
theorem dX4_byteAt_19 : decode cX4_byteAt 19 = .ok (.iconst 0, 1) := by decide +kernel
theorem dX4_byteAt_20 : decode cX4_byteAt 20 = .ok (.ireturn, 1) := by decide +kernel
theorem dX4_begins_0 : decode cX4_begins 0 = .ok (.aload_n 0, 1) := by decide +kernel
theorem dX4_begins_1 : decode cX4_begins 1 = .ok (.iload_n 1, 1) := by decide +kernel
theorem dX4_begins_2 : decode cX4_begins 2 = .ok (.iconst 1, 1) := by decide +kernel
theorem dX4_begins_3 : decode cX4_begins 3 = .ok (.isub, 1) := by decide +kernel
theorem dX4_begins_4 : decode cX4_begins 4 = .ok (.invokevirtual 27, 3) := by decide +kernel
theorem dX4_begins_7 : decode cX4_begins 7 = .ok (.istore_n 2, 1) := by decide +kernel
theorem dX4_begins_8 : decode cX4_begins 8 = .ok (.aload_n 0, 1) := by decide +kernel
theorem dX4_begins_9 : decode cX4_begins 9 = .ok (.iload_n 1, 1) := by decide +kernel
theorem dX4_begins_10 : decode cX4_begins 10 = .ok (.invokevirtual 27, 3) := by decide +kernel
theorem dX4_begins_13 : decode cX4_begins 13 = .ok (.istore_n 3, 1) := by decide +kernel
theorem dX4_begins_14 : decode cX4_begins 14 = .ok (.iload_n 2, 1) := by decide +kernel
theorem dX4_begins_15 : decode cX4_begins 15 = .ok (.invokestatic 31, 3) := by decide +kernel
theorem dX4_begins_18 : decode cX4_begins 18 = .ok (.ifCond .eq 14, 3) := by decide +kernel
theorem dX4_begins_21 : decode cX4_begins 21 = .ok (.iload_n 3, 1) := by decide +kernel
theorem dX4_begins_22 : decode cX4_begins 22 = .ok (.invokestatic 31, 3) := by decide +kernel
theorem dX4_begins_25 : decode cX4_begins 25 = .ok (.ifCond .eq 7, 3) := by decide +kernel
theorem dX4_begins_28 : decode cX4_begins 28 = .ok (.iconst 1, 1) := by decide +kernel
theorem dX4_begins_29 : decode cX4_begins 29 = .ok (.goto 4, 3) := by decide +kernel
theorem dX4_begins_32 : decode cX4_begins 32 = .ok (.iconst 0, 1) := by decide +kernel
theorem dX4_begins_33 : decode cX4_begins 33 = .ok (.istore 4, 2) := by decide +kernel
theorem dX4_begins_35 : decode cX4_begins 35 = .ok (.iload_n 2, 1) := by decide +kernel
theorem dX4_begins_36 : decode cX4_begins 36 = .ok (.invokestatic 35, 3) := by decide +kernel
theorem dX4_begins_39 : decode cX4_begins 39 = .ok (.ifCond .eq 14, 3) := by decide +kernel
theorem dX4_begins_42 : decode cX4_begins 42 = .ok (.iload_n 3, 1) := by decide +kernel
theorem dX4_begins_43 : decode cX4_begins 43 = .ok (.invokestatic 35, 3) := by decide +kernel
theorem dX4_begins_46 : decode cX4_begins 46 = .ok (.ifCond .eq 7, 3) := by decide +kernel
theorem dX4_begins_49 : decode cX4_begins 49 = .ok (.iconst 1, 1) := by decide +kernel
theorem dX4_begins_50 : decode cX4_begins 50 = .ok (.goto 4, 3) := by decide +kernel
theorem dX4_begins_53 : decode cX4_begins 53 = .ok (.iconst 0, 1) := by decide +kernel
theorem dX4_begins_54 : decode cX4_begins 54 = .ok (.istore 5, 2) := by decide +kernel
theorem dX4_begins_56 : decode cX4_begins 56 = .ok (.iload_n 3, 1) := by decide +kernel
theorem dX4_begins_57 : decode cX4_begins 57 = .ok (.bipush 32, 2) := by decide +kernel
theorem dX4_begins_59 : decode cX4_begins 59 = .ok (.if_icmp .eq 17, 3) := by decide +kernel
theorem dX4_begins_62 : decode cX4_begins 62 = .ok (.iload 4, 2) := by decide +kernel
theorem dX4_begins_64 : decode cX4_begins 64 = .ok (.ifCond .ne 12, 3) := by decide +kernel
theorem dX4_begins_67 : decode cX4_begins 67 = .ok (.iload 5, 2) := by decide +kernel
theorem dX4_begins_69 : decode cX4_begins 69 = .ok (.ifCond .ne 7, 3) := by decide +kernel
theorem dX4_begins_72 : decode cX4_begins 72 = .ok (.iconst 1, 1) := by decide +kernel
theorem dX4_begins_73 : decode cX4_begins 73 = .ok (.goto 4, 3) := by decide +kernel
theorem dX4_begins_76 : decode cX4_begins 76 = .ok (.iconst 0, 1) := by decide +kernel
theorem dX4_begins_77 : decode cX4_begins 77 = .ok (.ireturn, 1) := by decide +kernel
theorem dX4_isLetter_0 : decode cX4_isLetter 0 = .ok (.iload_n 0, 1) := by decide +kernel
theorem dX4_isLetter_1 : decode cX4_isLetter 1 = .ok (.bipush 97, 2) := by decide +kernel
theorem dX4_isLetter_3 : decode cX4_isLetter 3 = .ok (.if_icmp .lt 13, 3) := by decide +kernel
theorem dX4_isLetter_6 : decode cX4_isLetter 6 = .ok (.iload_n 0, 1) := by decide +kernel
theorem dX4_isLetter_7 : decode cX4_isLetter 7 = .ok (.bipush 122, 2) := by decide +kernel
theorem dX4_isLetter_9 : decode cX4_isLetter 9 = .ok (.if_icmp .gt 7, 3) := by decide +kernel
theorem dX4_isLetter_12 : decode cX4_isLetter 12 = .ok (.iconst 1, 1) := by decide +kernel
theorem dX4_isLetter_13 : decode cX4_isLetter 13 = .ok (.goto 4, 3) := by decide +kernel
theorem dX4_isLetter_16 : decode cX4_isLetter 16 = .ok (.iconst 0, 1) := by decide +kernel
theorem dX4_isLetter_17 : decode cX4_isLetter 17 = .ok (.ireturn, 1) := by decide +kernel
theorem dX4_isDigit_0 : decode cX4_isDigit 0 = .ok (.iload_n 0, 1) := by decide +kernel
theorem dX4_isDigit_1 : decode cX4_isDigit 1 = .ok (.bipush 48, 2) := by decide +kernel
theorem dX4_isDigit_3 : decode cX4_isDigit 3 = .ok (.if_icmp .lt 13, 3) := by decide +kernel
theorem dX4_isDigit_6 : decode cX4_isDigit 6 = .ok (.iload_n 0, 1) := by decide +kernel
theorem dX4_isDigit_7 : decode cX4_isDigit 7 = .ok (.bipush 57, 2) := by decide +kernel
theorem dX4_isDigit_9 : decode cX4_isDigit 9 = .ok (.if_icmp .gt 7, 3) := by decide +kernel
theorem dX4_isDigit_12 : decode cX4_isDigit 12 = .ok (.iconst 1, 1) := by decide +kernel
theorem dX4_isDigit_13 : decode cX4_isDigit 13 = .ok (.goto 4, 3) := by decide +kernel
theorem dX4_isDigit_16 : decode cX4_isDigit 16 = .ok (.iconst 0, 1) := by decide +kernel
theorem dX4_isDigit_17 : decode cX4_isDigit 17 = .ok (.ireturn, 1) := by decide +kernel
theorem dX5_init_0 : decode cX5_init 0 = .ok (.aload_n 0, 1) := by decide +kernel
theorem dX5_init_1 : decode cX5_init 1 = .ok (.invokespecial 3, 3) := by decide +kernel
theorem dX5_init_4 : decode cX5_init 4 = .ok (.aload_n 0, 1) := by decide +kernel
theorem dX5_init_5 : decode cX5_init 5 = .ok (.bipush 8, 2) := by decide +kernel
theorem dX5_init_7 : decode cX5_init 7 = .ok (.newarray .int, 2) := by decide +kernel
theorem dX5_init_9 : decode cX5_init 9 = .ok (.putfield 9, 3) := by decide +kernel
theorem dX5_init_12 : decode cX5_init 12 = .ok (.aload_n 0, 1) := by decide +kernel
theorem dX5_init_13 : decode cX5_init 13 = .ok (.bipush 8, 2) := by decide +kernel
theorem dX5_init_15 : decode cX5_init 15 = .ok (.newarray .int, 2) := by decide +kernel
theorem dX5_init_17 : decode cX5_init 17 = .ok (.putfield 15, 3) := by decide +kernel
theorem dX5_init_20 : decode cX5_init 20 = .ok (.aload_n 0, 1) := by decide +kernel
theorem dX5_init_21 : decode cX5_init 21 = .ok (.invokevirtual 18, 3) := by decide +kernel
theorem dX5_init_24 : decode cX5_init 24 = .ok (.return_, 1) := by decide +kernel
theorem dX5_empty_0 : decode cX5_empty 0 = .ok (.aload_n 0, 1) := by decide +kernel
theorem dX5_empty_1 : decode cX5_empty 1 = .ok (.getfield 9, 3) := by decide +kernel
theorem dX5_empty_4 : decode cX5_empty 4 = .ok (.iconst 0, 1) := by decide +kernel
theorem dX5_empty_5 : decode cX5_empty 5 = .ok (.invokestatic 21, 3) := by decide +kernel
theorem dX5_empty_8 : decode cX5_empty 8 = .ok (.aload_n 0, 1) := by decide +kernel
theorem dX5_empty_9 : decode cX5_empty 9 = .ok (.getfield 15, 3) := by decide +kernel
theorem dX5_empty_12 : decode cX5_empty 12 = .ok (.bipush (-9), 2) := by decide +kernel
theorem dX5_empty_14 : decode cX5_empty 14 = .ok (.invokestatic 21, 3) := by decide +kernel
theorem dX5_empty_17 : decode cX5_empty 17 = .ok (.aload_n 0, 1) := by decide +kernel
theorem dX5_empty_18 : decode cX5_empty 18 = .ok (.iconst 0, 1) := by decide +kernel
theorem dX5_empty_19 : decode cX5_empty 19 = .ok (.putfield 25, 3) := by decide +kernel
theorem dX5_empty_22 : decode cX5_empty 22 = .ok (.aload_n 0, 1) := by decide +kernel
theorem dX5_empty_23 : decode cX5_empty 23 = .ok (.iconst 0, 1) := by decide +kernel
theorem dX5_empty_24 : decode cX5_empty 24 = .ok (.putfield 29, 3) := by decide +kernel
theorem dX5_empty_27 : decode cX5_empty 27 = .ok (.aload_n 0, 1) := by decide +kernel
theorem dX5_empty_28 : decode cX5_empty 28 = .ok (.iconst 0, 1) := by decide +kernel
theorem dX5_empty_29 : decode cX5_empty 29 = .ok (.putfield 32, 3) := by decide +kernel
theorem dX5_empty_32 : decode cX5_empty 32 = .ok (.aload_n 0, 1) := by decide +kernel
theorem dX5_empty_33 : decode cX5_empty 33 = .ok (.iconst 2, 1) := by decide +kernel
theorem dX5_empty_34 : decode cX5_empty 34 = .ok (.putfield 35, 3) := by decide +kernel
theorem dX5_empty_37 : decode cX5_empty 37 = .ok (.return_, 1) := by decide +kernel
theorem dX5_tell_0 : decode cX5_tell 0 = .ok (.aload_n 0, 1) := by decide +kernel
theorem dX5_tell_1 : decode cX5_tell 1 = .ok (.getfield 9, 3) := by decide +kernel
theorem dX5_tell_4 : decode cX5_tell 4 = .ok (.iload_n 2, 1) := by decide +kernel
theorem dX5_tell_5 : decode cX5_tell 5 = .ok (.aload_n 0, 1) := by decide +kernel
theorem dX5_tell_6 : decode cX5_tell 6 = .ok (.getfield 9, 3) := by decide +kernel
theorem dX5_tell_9 : decode cX5_tell 9 = .ok (.iload_n 2, 1) := by decide +kernel
theorem dX5_tell_10 : decode cX5_tell 10 = .ok (.invokestatic 38, 3) := by decide +kernel
theorem dX5_tell_13 : decode cX5_tell 13 = .ok (.iconst 1, 1) := by decide +kernel
theorem dX5_tell_14 : decode cX5_tell 14 = .ok (.iload_n 1, 1) := by decide +kernel
theorem dX5_tell_15 : decode cX5_tell 15 = .ok (.ishl, 1) := by decide +kernel
theorem dX5_tell_16 : decode cX5_tell 16 = .ok (.ior, 1) := by decide +kernel
theorem dX5_tell_17 : decode cX5_tell 17 = .ok (.invokestatic 42, 3) := by decide +kernel
theorem dX5_tell_20 : decode cX5_tell 20 = .ok (.return_, 1) := by decide +kernel
theorem dX5_everyone_0 : decode cX5_everyone 0 = .ok (.iconst 1, 1) := by decide +kernel
theorem dX5_everyone_1 : decode cX5_everyone 1 = .ok (.aload_n 0, 1) := by decide +kernel
theorem dX5_everyone_2 : decode cX5_everyone 2 = .ok (.getfield 25, 3) := by decide +kernel
theorem dX5_everyone_5 : decode cX5_everyone 5 = .ok (.ishl, 1) := by decide +kernel
theorem dX5_everyone_6 : decode cX5_everyone 6 = .ok (.iconst 1, 1) := by decide +kernel
theorem dX5_everyone_7 : decode cX5_everyone 7 = .ok (.isub, 1) := by decide +kernel
theorem dX5_everyone_8 : decode cX5_everyone 8 = .ok (.ireturn, 1) := by decide +kernel
theorem dX5_habits_0 : decode cX5_habits 0 = .ok (.iconst 0, 1) := by decide +kernel
theorem dX5_habits_1 : decode cX5_habits 1 = .ok (.istore_n 1, 1) := by decide +kernel
theorem dX5_habits_2 : decode cX5_habits 2 = .ok (.iconst 0, 1) := by decide +kernel
theorem dX5_habits_3 : decode cX5_habits 3 = .ok (.istore_n 2, 1) := by decide +kernel
theorem dX5_habits_4 : decode cX5_habits 4 = .ok (.iload_n 2, 1) := by decide +kernel
theorem dX5_habits_5 : decode cX5_habits 5 = .ok (.aload_n 0, 1) := by decide +kernel
theorem dX5_habits_6 : decode cX5_habits 6 = .ok (.getfield 25, 3) := by decide +kernel
theorem dX5_habits_9 : decode cX5_habits 9 = .ok (.if_icmp .ge 25, 3) := by decide +kernel
theorem dX5_habits_12 : decode cX5_habits 12 = .ok (.aload_n 0, 1) := by decide +kernel
theorem dX5_habits_13 : decode cX5_habits 13 = .ok (.getfield 15, 3) := by decide +kernel
theorem dX5_habits_16 : decode cX5_habits 16 = .ok (.iload_n 2, 1) := by decide +kernel
theorem dX5_habits_17 : decode cX5_habits 17 = .ok (.invokestatic 38, 3) := by decide +kernel
theorem dX5_habits_20 : decode cX5_habits 20 = .ok (.bipush (-9), 2) := by decide +kernel
theorem dX5_habits_22 : decode cX5_habits 22 = .ok (.if_icmp .eq 6, 3) := by decide +kernel
theorem dX5_habits_25 : decode cX5_habits 25 = .ok (.iinc 1 1, 3) := by decide +kernel
theorem dX5_habits_28 : decode cX5_habits 28 = .ok (.iinc 2 1, 3) := by decide +kernel
theorem dX5_habits_31 : decode cX5_habits 31 = .ok (.goto (-27), 3) := by decide +kernel
theorem dX5_habits_34 : decode cX5_habits 34 = .ok (.iload_n 1, 1) := by decide +kernel
theorem dX5_habits_35 : decode cX5_habits 35 = .ok (.ireturn, 1) := by decide +kernel
theorem dX5_choose_0 : decode cX5_choose 0 = .ok (.aload_n 0, 1) := by decide +kernel
theorem dX5_choose_1 : decode cX5_choose 1 = .ok (.invokevirtual 46, 3) := by decide +kernel
theorem dX5_choose_4 : decode cX5_choose 4 = .ok (.istore_n 2, 1) := by decide +kernel
theorem dX5_choose_5 : decode cX5_choose 5 = .ok (.aload_n 1, 1) := by decide +kernel
theorem dX5_choose_6 : decode cX5_choose 6 = .ok (.getfield 50, 3) := by decide +kernel
theorem dX5_choose_9 : decode cX5_choose 9 = .ok (.iload_n 2, 1) := by decide +kernel
theorem dX5_choose_10 : decode cX5_choose 10 = .ok (.invokestatic 55, 3) := by decide +kernel
theorem dX5_choose_13 : decode cX5_choose 13 = .ok (.istore_n 3, 1) := by decide +kernel
theorem dX5_choose_14 : decode cX5_choose 14 = .ok (.iload_n 2, 1) := by decide +kernel
theorem dX5_choose_15 : decode cX5_choose 15 = .ok (.iconst 1, 1) := by decide +kernel
theorem dX5_choose_16 : decode cX5_choose 16 = .ok (.iload_n 3, 1) := by decide +kernel
theorem dX5_choose_17 : decode cX5_choose 17 = .ok (.ishl, 1) := by decide +kernel
theorem dX5_choose_18 : decode cX5_choose 18 = .ok (.iconst (-1), 1) := by decide +kernel
theorem dX5_choose_19 : decode cX5_choose 19 = .ok (.ixor, 1) := by decide +kernel
theorem dX5_choose_20 : decode cX5_choose 20 = .ok (.iand, 1) := by decide +kernel
theorem dX5_choose_21 : decode cX5_choose 21 = .ok (.istore 4, 2) := by decide +kernel
theorem dX5_choose_23 : decode cX5_choose 23 = .ok (.iload_n 2, 1) := by decide +kernel
theorem dX5_choose_24 : decode cX5_choose 24 = .ok (.aload_n 1, 1) := by decide +kernel
theorem dX5_choose_25 : decode cX5_choose 25 = .ok (.getfield 58, 3) := by decide +kernel
theorem dX5_choose_28 : decode cX5_choose 28 = .ok (.iconst (-1), 1) := by decide +kernel
theorem dX5_choose_29 : decode cX5_choose 29 = .ok (.ixor, 1) := by decide +kernel
theorem dX5_choose_30 : decode cX5_choose 30 = .ok (.iand, 1) := by decide +kernel
theorem dX5_choose_31 : decode cX5_choose 31 = .ok (.istore 5, 2) := by decide +kernel
theorem dX5_choose_33 : decode cX5_choose 33 = .ok (.aload_n 0, 1) := by decide +kernel
theorem dX5_choose_34 : decode cX5_choose 34 = .ok (.getfield 32, 3) := by decide +kernel
theorem dX5_choose_37 : decode cX5_choose 37 = .ok (.tableswitch 75 1 3 #[27, 46, 56], 27) := by decide +kernel
theorem dX5_choose_64 : decode cX5_choose 64 = .ok (.iload 4, 2) := by decide +kernel
theorem dX5_choose_66 : decode cX5_choose 66 = .ok (.ifCond .ne 7, 3) := by decide +kernel
theorem dX5_choose_69 : decode cX5_choose 69 = .ok (.iload_n 3, 1) := by decide +kernel
theorem dX5_choose_70 : decode cX5_choose 70 = .ok (.goto 12, 3) := by decide +kernel
theorem dX5_choose_73 : decode cX5_choose 73 = .ok (.aload_n 1, 1) := by decide +kernel
theorem dX5_choose_74 : decode cX5_choose 74 = .ok (.getfield 50, 3) := by decide +kernel
theorem dX5_choose_77 : decode cX5_choose 77 = .ok (.iload 4, 2) := by decide +kernel
theorem dX5_choose_79 : decode cX5_choose 79 = .ok (.invokestatic 55, 3) := by decide +kernel
theorem dX5_choose_82 : decode cX5_choose 82 = .ok (.ireturn, 1) := by decide +kernel
theorem dX5_choose_83 : decode cX5_choose 83 = .ok (.aload_n 0, 1) := by decide +kernel
theorem dX5_choose_84 : decode cX5_choose 84 = .ok (.aload_n 1, 1) := by decide +kernel
theorem dX5_choose_85 : decode cX5_choose 85 = .ok (.getfield 50, 3) := by decide +kernel
theorem dX5_choose_88 : decode cX5_choose 88 = .ok (.iload_n 3, 1) := by decide +kernel
theorem dX5_choose_89 : decode cX5_choose 89 = .ok (.invokevirtual 61, 3) := by decide +kernel
theorem dX5_choose_92 : decode cX5_choose 92 = .ok (.ireturn, 1) := by decide +kernel
theorem dX5_choose_93 : decode cX5_choose 93 = .ok (.iload 5, 2) := by decide +kernel
theorem dX5_choose_95 : decode cX5_choose 95 = .ok (.ifCond .ne 7, 3) := by decide +kernel
theorem dX5_choose_98 : decode cX5_choose 98 = .ok (.iload_n 3, 1) := by decide +kernel
theorem dX5_choose_99 : decode cX5_choose 99 = .ok (.goto 12, 3) := by decide +kernel
theorem dX5_choose_102 : decode cX5_choose 102 = .ok (.aload_n 1, 1) := by decide +kernel
theorem dX5_choose_103 : decode cX5_choose 103 = .ok (.getfield 50, 3) := by decide +kernel
theorem dX5_choose_106 : decode cX5_choose 106 = .ok (.iload 5, 2) := by decide +kernel
theorem dX5_choose_108 : decode cX5_choose 108 = .ok (.invokestatic 55, 3) := by decide +kernel
theorem dX5_choose_111 : decode cX5_choose 111 = .ok (.ireturn, 1) := by decide +kernel
theorem dX5_choose_112 : decode cX5_choose 112 = .ok (.iload_n 3, 1) := by decide +kernel
theorem dX5_choose_113 : decode cX5_choose 113 = .ok (.ireturn, 1) := by decide +kernel
theorem dX5_leastOf_0 : decode cX5_leastOf 0 = .ok (.iconst 0, 1) := by decide +kernel
theorem dX5_leastOf_1 : decode cX5_leastOf 1 = .ok (.istore_n 2, 1) := by decide +kernel
theorem dX5_leastOf_2 : decode cX5_leastOf 2 = .ok (.bipush 8, 2) := by decide +kernel
theorem dX5_leastOf_4 : decode cX5_leastOf 4 = .ok (.istore_n 3, 1) := by decide +kernel
theorem dX5_leastOf_5 : decode cX5_leastOf 5 = .ok (.iconst 0, 1) := by decide +kernel
theorem dX5_leastOf_6 : decode cX5_leastOf 6 = .ok (.istore 4, 2) := by decide +kernel
theorem dX5_leastOf_8 : decode cX5_leastOf 8 = .ok (.iload 4, 2) := by decide +kernel
theorem dX5_leastOf_10 : decode cX5_leastOf 10 = .ok (.bipush 8, 2) := by decide +kernel
theorem dX5_leastOf_12 : decode cX5_leastOf 12 = .ok (.if_icmp .ge 39, 3) := by decide +kernel
theorem dX5_leastOf_15 : decode cX5_leastOf 15 = .ok (.aload_n 0, 1) := by decide +kernel
theorem dX5_leastOf_16 : decode cX5_leastOf 16 = .ok (.iload 4, 2) := by decide +kernel
theorem dX5_leastOf_18 : decode cX5_leastOf 18 = .ok (.invokestatic 38, 3) := by decide +kernel
theorem dX5_leastOf_21 : decode cX5_leastOf 21 = .ok (.istore 5, 2) := by decide +kernel
theorem dX5_leastOf_23 : decode cX5_leastOf 23 = .ok (.iload_n 1, 1) := by decide +kernel
theorem dX5_leastOf_24 : decode cX5_leastOf 24 = .ok (.iload 4, 2) := by decide +kernel
theorem dX5_leastOf_26 : decode cX5_leastOf 26 = .ok (.ishr, 1) := by decide +kernel
theorem dX5_leastOf_27 : decode cX5_leastOf 27 = .ok (.iconst 1, 1) := by decide +kernel
theorem dX5_leastOf_28 : decode cX5_leastOf 28 = .ok (.iand, 1) := by decide +kernel
theorem dX5_leastOf_29 : decode cX5_leastOf 29 = .ok (.iconst 1, 1) := by decide +kernel
theorem dX5_leastOf_30 : decode cX5_leastOf 30 = .ok (.if_icmp .ne 15, 3) := by decide +kernel
theorem dX5_leastOf_33 : decode cX5_leastOf 33 = .ok (.iload 5, 2) := by decide +kernel
theorem dX5_leastOf_35 : decode cX5_leastOf 35 = .ok (.iload_n 3, 1) := by decide +kernel
theorem dX5_leastOf_36 : decode cX5_leastOf 36 = .ok (.if_icmp .ge 9, 3) := by decide +kernel
theorem dX5_leastOf_39 : decode cX5_leastOf 39 = .ok (.iload 5, 2) := by decide +kernel
theorem dX5_leastOf_41 : decode cX5_leastOf 41 = .ok (.istore_n 3, 1) := by decide +kernel
theorem dX5_leastOf_42 : decode cX5_leastOf 42 = .ok (.iload 4, 2) := by decide +kernel
theorem dX5_leastOf_44 : decode cX5_leastOf 44 = .ok (.istore_n 2, 1) := by decide +kernel
theorem dX5_leastOf_45 : decode cX5_leastOf 45 = .ok (.iinc 4 1, 3) := by decide +kernel
theorem dX5_leastOf_48 : decode cX5_leastOf 48 = .ok (.goto (-40), 3) := by decide +kernel
theorem dX5_leastOf_51 : decode cX5_leastOf 51 = .ok (.iload_n 2, 1) := by decide +kernel
theorem dX5_leastOf_52 : decode cX5_leastOf 52 = .ok (.ireturn, 1) := by decide +kernel
theorem dX5_firstWith_0 : decode cX5_firstWith 0 = .ok (.iconst 0, 1) := by decide +kernel
theorem dX5_firstWith_1 : decode cX5_firstWith 1 = .ok (.istore_n 3, 1) := by decide +kernel
theorem dX5_firstWith_2 : decode cX5_firstWith 2 = .ok (.iload_n 3, 1) := by decide +kernel
theorem dX5_firstWith_3 : decode cX5_firstWith 3 = .ok (.aload_n 0, 1) := by decide +kernel
theorem dX5_firstWith_4 : decode cX5_firstWith 4 = .ok (.getfield 25, 3) := by decide +kernel
theorem dX5_firstWith_7 : decode cX5_firstWith 7 = .ok (.if_icmp .ge 23, 3) := by decide +kernel
theorem dX5_firstWith_10 : decode cX5_firstWith 10 = .ok (.aload_n 1, 1) := by decide +kernel
theorem dX5_firstWith_11 : decode cX5_firstWith 11 = .ok (.iload_n 3, 1) := by decide +kernel
theorem dX5_firstWith_12 : decode cX5_firstWith 12 = .ok (.invokestatic 38, 3) := by decide +kernel
theorem dX5_firstWith_15 : decode cX5_firstWith 15 = .ok (.aload_n 0, 1) := by decide +kernel
theorem dX5_firstWith_16 : decode cX5_firstWith 16 = .ok (.getfield 35, 3) := by decide +kernel
theorem dX5_firstWith_19 : decode cX5_firstWith 19 = .ok (.if_icmp .ne 5, 3) := by decide +kernel
theorem dX5_firstWith_22 : decode cX5_firstWith 22 = .ok (.iload_n 3, 1) := by decide +kernel
theorem dX5_firstWith_23 : decode cX5_firstWith 23 = .ok (.ireturn, 1) := by decide +kernel
theorem dX5_firstWith_24 : decode cX5_firstWith 24 = .ok (.iinc 3 1, 3) := by decide +kernel
theorem dX5_firstWith_27 : decode cX5_firstWith 27 = .ok (.goto (-25), 3) := by decide +kernel
theorem dX5_firstWith_30 : decode cX5_firstWith 30 = .ok (.iload_n 2, 1) := by decide +kernel
theorem dX5_firstWith_31 : decode cX5_firstWith 31 = .ok (.ireturn, 1) := by decide +kernel
theorem dX6_init_0 : decode cX6_init 0 = .ok (.aload_n 0, 1) := by decide +kernel
theorem dX6_init_1 : decode cX6_init 1 = .ok (.invokespecial 1, 3) := by decide +kernel
theorem dX6_init_4 : decode cX6_init 4 = .ok (.aload_n 0, 1) := by decide +kernel
theorem dX6_init_5 : decode cX6_init 5 = .ok (.new 7, 3) := by decide +kernel
theorem dX6_init_8 : decode cX6_init 8 = .ok (.dup, 1) := by decide +kernel
theorem dX6_init_9 : decode cX6_init 9 = .ok (.invokespecial 9, 3) := by decide +kernel
theorem dX6_init_12 : decode cX6_init 12 = .ok (.putfield 10, 3) := by decide +kernel
theorem dX6_init_15 : decode cX6_init 15 = .ok (.aload_n 0, 1) := by decide +kernel
theorem dX6_init_16 : decode cX6_init 16 = .ok (.new 16, 3) := by decide +kernel
theorem dX6_init_19 : decode cX6_init 19 = .ok (.dup, 1) := by decide +kernel
theorem dX6_init_20 : decode cX6_init 20 = .ok (.invokespecial 18, 3) := by decide +kernel
theorem dX6_init_23 : decode cX6_init 23 = .ok (.putfield 19, 3) := by decide +kernel
theorem dX6_init_26 : decode cX6_init 26 = .ok (.aload_n 0, 1) := by decide +kernel
theorem dX6_init_27 : decode cX6_init 27 = .ok (.new 23, 3) := by decide +kernel
theorem dX6_init_30 : decode cX6_init 30 = .ok (.dup, 1) := by decide +kernel
theorem dX6_init_31 : decode cX6_init 31 = .ok (.invokespecial 25, 3) := by decide +kernel
theorem dX6_init_34 : decode cX6_init 34 = .ok (.putfield 26, 3) := by decide +kernel
theorem dX6_init_37 : decode cX6_init 37 = .ok (.aload_n 0, 1) := by decide +kernel
theorem dX6_init_38 : decode cX6_init 38 = .ok (.new 30, 3) := by decide +kernel
theorem dX6_init_41 : decode cX6_init 41 = .ok (.dup, 1) := by decide +kernel
theorem dX6_init_42 : decode cX6_init 42 = .ok (.invokespecial 32, 3) := by decide +kernel
theorem dX6_init_45 : decode cX6_init 45 = .ok (.putfield 33, 3) := by decide +kernel
theorem dX6_init_48 : decode cX6_init 48 = .ok (.aload_n 0, 1) := by decide +kernel
theorem dX6_init_49 : decode cX6_init 49 = .ok (.new 30, 3) := by decide +kernel
theorem dX6_init_52 : decode cX6_init 52 = .ok (.dup, 1) := by decide +kernel
theorem dX6_init_53 : decode cX6_init 53 = .ok (.invokespecial 32, 3) := by decide +kernel
theorem dX6_init_56 : decode cX6_init 56 = .ok (.putfield 37, 3) := by decide +kernel
theorem dX6_init_59 : decode cX6_init 59 = .ok (.aload_n 0, 1) := by decide +kernel
theorem dX6_init_60 : decode cX6_init 60 = .ok (.new 40, 3) := by decide +kernel
theorem dX6_init_63 : decode cX6_init 63 = .ok (.dup, 1) := by decide +kernel
theorem dX6_init_64 : decode cX6_init 64 = .ok (.invokespecial 42, 3) := by decide +kernel
theorem dX6_init_67 : decode cX6_init 67 = .ok (.putfield 43, 3) := by decide +kernel
theorem dX6_init_70 : decode cX6_init 70 = .ok (.aload_n 0, 1) := by decide +kernel
theorem dX6_init_71 : decode cX6_init 71 = .ok (.new 47, 3) := by decide +kernel
theorem dX6_init_74 : decode cX6_init 74 = .ok (.dup, 1) := by decide +kernel
theorem dX6_init_75 : decode cX6_init 75 = .ok (.invokespecial 49, 3) := by decide +kernel
theorem dX6_init_78 : decode cX6_init 78 = .ok (.putfield 50, 3) := by decide +kernel
theorem dX6_init_81 : decode cX6_init 81 = .ok (.aload_n 0, 1) := by decide +kernel
theorem dX6_init_82 : decode cX6_init 82 = .ok (.new 47, 3) := by decide +kernel
theorem dX6_init_85 : decode cX6_init 85 = .ok (.dup, 1) := by decide +kernel
theorem dX6_init_86 : decode cX6_init 86 = .ok (.invokespecial 49, 3) := by decide +kernel
theorem dX6_init_89 : decode cX6_init 89 = .ok (.putfield 54, 3) := by decide +kernel
theorem dX6_init_92 : decode cX6_init 92 = .ok (.aload_n 0, 1) := by decide +kernel
theorem dX6_init_93 : decode cX6_init 93 = .ok (.getfield 26, 3) := by decide +kernel
theorem dX6_init_96 : decode cX6_init 96 = .ok (.aload_n 0, 1) := by decide +kernel
theorem dX6_init_97 : decode cX6_init 97 = .ok (.getfield 50, 3) := by decide +kernel
theorem dX6_init_100 : decode cX6_init 100 = .ok (.invokevirtual 57, 3) := by decide +kernel
theorem dX6_init_103 : decode cX6_init 103 = .ok (.return_, 1) := by decide +kernel
theorem dX6_type_0 : decode cX6_type 0 = .ok (.iload_n 3, 1) := by decide +kernel
theorem dX6_type_1 : decode cX6_type 1 = .ok (.iconst 1, 1) := by decide +kernel
theorem dX6_type_2 : decode cX6_type 2 = .ok (.if_icmp .lt 9, 3) := by decide +kernel
theorem dX6_type_5 : decode cX6_type 5 = .ok (.iload_n 3, 1) := by decide +kernel
theorem dX6_type_6 : decode cX6_type 6 = .ok (.bipush 8, 2) := by decide +kernel
theorem dX6_type_8 : decode cX6_type 8 = .ok (.if_icmp .le 5, 3) := by decide +kernel
theorem dX6_type_11 : decode cX6_type 11 = .ok (.iconst (-1), 1) := by decide +kernel
theorem dX6_type_12 : decode cX6_type 12 = .ok (.ireturn, 1) := by decide +kernel
theorem dX6_type_13 : decode cX6_type 13 = .ok (.aload_n 0, 1) := by decide +kernel
theorem dX6_type_14 : decode cX6_type 14 = .ok (.getfield 10, 3) := by decide +kernel
theorem dX6_type_17 : decode cX6_type 17 = .ok (.getfield 61, 3) := by decide +kernel
theorem dX6_type_20 : decode cX6_type 20 = .ok (.iload_n 3, 1) := by decide +kernel
theorem dX6_type_21 : decode cX6_type 21 = .ok (.iadd, 1) := by decide +kernel
theorem dX6_type_22 : decode cX6_type 22 = .ok (.sipush 400, 3) := by decide +kernel
theorem dX6_type_25 : decode cX6_type 25 = .ok (.if_icmp .le 6, 3) := by decide +kernel
theorem dX6_type_28 : decode cX6_type 28 = .ok (.bipush (-3), 2) := by decide +kernel
theorem dX6_type_30 : decode cX6_type 30 = .ok (.ireturn, 1) := by decide +kernel
theorem dX6_type_31 : decode cX6_type 31 = .ok (.iload_n 3, 1) := by decide +kernel
theorem dX6_type_32 : decode cX6_type 32 = .ok (.iconst 1, 1) := by decide +kernel
theorem dX6_type_33 : decode cX6_type 33 = .ok (.isub, 1) := by decide +kernel
theorem dX6_type_34 : decode cX6_type 34 = .ok (.istore 4, 2) := by decide +kernel
theorem dX6_type_36 : decode cX6_type 36 = .ok (.iload 4, 2) := by decide +kernel
theorem dX6_type_38 : decode cX6_type 38 = .ok (.ifCond .lt 28, 3) := by decide +kernel
theorem dX6_type_41 : decode cX6_type 41 = .ok (.aload_n 0, 1) := by decide +kernel
theorem dX6_type_42 : decode cX6_type 42 = .ok (.getfield 10, 3) := by decide +kernel
theorem dX6_type_45 : decode cX6_type 45 = .ok (.lload_n 1, 1) := by decide +kernel
theorem dX6_type_46 : decode cX6_type 46 = .ok (.bipush 8, 2) := by decide +kernel
theorem dX6_type_48 : decode cX6_type 48 = .ok (.iload 4, 2) := by decide +kernel
theorem dX6_type_50 : decode cX6_type 50 = .ok (.imul, 1) := by decide +kernel
theorem dX6_type_51 : decode cX6_type 51 = .ok (.lshr, 1) := by decide +kernel
theorem dX6_type_52 : decode cX6_type 52 = .ok (.l2i, 1) := by decide +kernel
theorem dX6_type_53 : decode cX6_type 53 = .ok (.sipush 255, 3) := by decide +kernel
theorem dX6_type_56 : decode cX6_type 56 = .ok (.iand, 1) := by decide +kernel
theorem dX6_type_57 : decode cX6_type 57 = .ok (.invokevirtual 65, 3) := by decide +kernel
theorem dX6_type_60 : decode cX6_type 60 = .ok (.iinc 4 (-1), 3) := by decide +kernel
theorem dX6_type_63 : decode cX6_type 63 = .ok (.goto (-27), 3) := by decide +kernel
theorem dX6_type_66 : decode cX6_type 66 = .ok (.aload_n 0, 1) := by decide +kernel
theorem dX6_type_67 : decode cX6_type 67 = .ok (.getfield 10, 3) := by decide +kernel
theorem dX6_type_70 : decode cX6_type 70 = .ok (.getfield 61, 3) := by decide +kernel
theorem dX6_type_73 : decode cX6_type 73 = .ok (.ireturn, 1) := by decide +kernel
theorem dX6_clear_0 : decode cX6_clear 0 = .ok (.aload_n 0, 1) := by decide +kernel
theorem dX6_clear_1 : decode cX6_clear 1 = .ok (.getfield 10, 3) := by decide +kernel
theorem dX6_clear_4 : decode cX6_clear 4 = .ok (.getfield 61, 3) := by decide +kernel
theorem dX6_clear_7 : decode cX6_clear 7 = .ok (.istore_n 1, 1) := by decide +kernel
theorem dX6_clear_8 : decode cX6_clear 8 = .ok (.aload_n 0, 1) := by decide +kernel
theorem dX6_clear_9 : decode cX6_clear 9 = .ok (.getfield 10, 3) := by decide +kernel
theorem dX6_clear_12 : decode cX6_clear 12 = .ok (.iconst 0, 1) := by decide +kernel
theorem dX6_clear_13 : decode cX6_clear 13 = .ok (.putfield 61, 3) := by decide +kernel
theorem dX6_clear_16 : decode cX6_clear 16 = .ok (.iload_n 1, 1) := by decide +kernel
theorem dX6_clear_17 : decode cX6_clear 17 = .ok (.ireturn, 1) := by decide +kernel
theorem dX6_town_0 : decode cX6_town 0 = .ok (.aload_n 0, 1) := by decide +kernel
theorem dX6_town_1 : decode cX6_town 1 = .ok (.getfield 19, 3) := by decide +kernel
theorem dX6_town_4 : decode cX6_town 4 = .ok (.aload_n 0, 1) := by decide +kernel
theorem dX6_town_5 : decode cX6_town 5 = .ok (.getfield 10, 3) := by decide +kernel
theorem dX6_town_8 : decode cX6_town 8 = .ok (.aload_n 0, 1) := by decide +kernel
theorem dX6_town_9 : decode cX6_town 9 = .ok (.getfield 54, 3) := by decide +kernel
theorem dX6_town_12 : decode cX6_town 12 = .ok (.invokevirtual 69, 3) := by decide +kernel
theorem dX6_town_15 : decode cX6_town 15 = .ok (.istore_n 1, 1) := by decide +kernel
theorem dX6_town_16 : decode cX6_town 16 = .ok (.iload_n 1, 1) := by decide +kernel
theorem dX6_town_17 : decode cX6_town 17 = .ok (.ifCond .ge 5, 3) := by decide +kernel
theorem dX6_town_20 : decode cX6_town 20 = .ok (.iload_n 1, 1) := by decide +kernel
theorem dX6_town_21 : decode cX6_town 21 = .ok (.ireturn, 1) := by decide +kernel
theorem dX6_town_22 : decode cX6_town 22 = .ok (.aload_n 0, 1) := by decide +kernel
theorem dX6_town_23 : decode cX6_town 23 = .ok (.getfield 50, 3) := by decide +kernel
theorem dX6_town_26 : decode cX6_town 26 = .ok (.astore_n 2, 1) := by decide +kernel
theorem dX6_town_27 : decode cX6_town 27 = .ok (.aload_n 0, 1) := by decide +kernel
theorem dX6_town_28 : decode cX6_town 28 = .ok (.aload_n 0, 1) := by decide +kernel
theorem dX6_town_29 : decode cX6_town 29 = .ok (.getfield 54, 3) := by decide +kernel
theorem dX6_town_32 : decode cX6_town 32 = .ok (.putfield 50, 3) := by decide +kernel
theorem dX6_town_35 : decode cX6_town 35 = .ok (.aload_n 0, 1) := by decide +kernel
theorem dX6_town_36 : decode cX6_town 36 = .ok (.aload_n 2, 1) := by decide +kernel
theorem dX6_town_37 : decode cX6_town 37 = .ok (.putfield 54, 3) := by decide +kernel
theorem dX6_town_40 : decode cX6_town 40 = .ok (.aload_n 0, 1) := by decide +kernel
theorem dX6_town_41 : decode cX6_town 41 = .ok (.getfield 10, 3) := by decide +kernel
theorem dX6_town_44 : decode cX6_town 44 = .ok (.iconst 0, 1) := by decide +kernel
theorem dX6_town_45 : decode cX6_town 45 = .ok (.putfield 61, 3) := by decide +kernel
theorem dX6_town_48 : decode cX6_town 48 = .ok (.aload_n 0, 1) := by decide +kernel
theorem dX6_town_49 : decode cX6_town 49 = .ok (.getfield 26, 3) := by decide +kernel
theorem dX6_town_52 : decode cX6_town 52 = .ok (.aload_n 0, 1) := by decide +kernel
theorem dX6_town_53 : decode cX6_town 53 = .ok (.getfield 50, 3) := by decide +kernel
theorem dX6_town_56 : decode cX6_town 56 = .ok (.invokevirtual 57, 3) := by decide +kernel
theorem dX6_town_59 : decode cX6_town 59 = .ok (.aload_n 0, 1) := by decide +kernel
theorem dX6_town_60 : decode cX6_town 60 = .ok (.getfield 33, 3) := by decide +kernel
theorem dX6_town_63 : decode cX6_town 63 = .ok (.iconst 0, 1) := by decide +kernel
theorem dX6_town_64 : decode cX6_town 64 = .ok (.putfield 73, 3) := by decide +kernel
theorem dX6_town_67 : decode cX6_town 67 = .ok (.aload_n 0, 1) := by decide +kernel
theorem dX6_town_68 : decode cX6_town 68 = .ok (.getfield 37, 3) := by decide +kernel
theorem dX6_town_71 : decode cX6_town 71 = .ok (.iconst 0, 1) := by decide +kernel
theorem dX6_town_72 : decode cX6_town 72 = .ok (.putfield 73, 3) := by decide +kernel
theorem dX6_town_75 : decode cX6_town 75 = .ok (.iload_n 1, 1) := by decide +kernel
theorem dX6_town_76 : decode cX6_town 76 = .ok (.ireturn, 1) := by decide +kernel
theorem dX6_knows_0 : decode cX6_knows 0 = .ok (.aload_n 0, 1) := by decide +kernel
theorem dX6_knows_1 : decode cX6_knows 1 = .ok (.iload_n 1, 1) := by decide +kernel
theorem dX6_knows_2 : decode cX6_knows 2 = .ok (.iload_n 2, 1) := by decide +kernel
theorem dX6_knows_3 : decode cX6_knows 3 = .ok (.invokevirtual 77, 3) := by decide +kernel
theorem dX6_knows_6 : decode cX6_knows 6 = .ok (.ifCond .ne 5, 3) := by decide +kernel
theorem dX6_knows_9 : decode cX6_knows 9 = .ok (.iconst (-1), 1) := by decide +kernel
theorem dX6_knows_10 : decode cX6_knows 10 = .ok (.ireturn, 1) := by decide +kernel
theorem dX6_knows_11 : decode cX6_knows 11 = .ok (.aload_n 0, 1) := by decide +kernel
theorem dX6_knows_12 : decode cX6_knows 12 = .ok (.getfield 26, 3) := by decide +kernel
theorem dX6_knows_15 : decode cX6_knows 15 = .ok (.iload_n 1, 1) := by decide +kernel
theorem dX6_knows_16 : decode cX6_knows 16 = .ok (.iload_n 2, 1) := by decide +kernel
theorem dX6_knows_17 : decode cX6_knows 17 = .ok (.invokevirtual 81, 3) := by decide +kernel
theorem dX6_knows_20 : decode cX6_knows 20 = .ok (.ifCond .eq 7, 3) := by decide +kernel
theorem dX6_knows_23 : decode cX6_knows 23 = .ok (.iconst 1, 1) := by decide +kernel
theorem dX6_knows_24 : decode cX6_knows 24 = .ok (.goto 4, 3) := by decide +kernel
theorem dX6_knows_27 : decode cX6_knows 27 = .ok (.iconst 0, 1) := by decide +kernel
theorem dX6_knows_28 : decode cX6_knows 28 = .ok (.ireturn, 1) := by decide +kernel
theorem dX6_seen_0 : decode cX6_seen 0 = .ok (.aload_n 0, 1) := by decide +kernel
theorem dX6_seen_1 : decode cX6_seen 1 = .ok (.iload_n 1, 1) := by decide +kernel
theorem dX6_seen_2 : decode cX6_seen 2 = .ok (.iload_n 2, 1) := by decide +kernel
theorem dX6_seen_3 : decode cX6_seen 3 = .ok (.invokevirtual 77, 3) := by decide +kernel
theorem dX6_seen_6 : decode cX6_seen 6 = .ok (.ifCond .eq 15, 3) := by decide +kernel
theorem dX6_seen_9 : decode cX6_seen 9 = .ok (.aload_n 0, 1) := by decide +kernel
theorem dX6_seen_10 : decode cX6_seen 10 = .ok (.getfield 26, 3) := by decide +kernel
theorem dX6_seen_13 : decode cX6_seen 13 = .ok (.iload_n 1, 1) := by decide +kernel
theorem dX6_seen_14 : decode cX6_seen 14 = .ok (.iload_n 2, 1) := by decide +kernel
theorem dX6_seen_15 : decode cX6_seen 15 = .ok (.invokevirtual 81, 3) := by decide +kernel
theorem dX6_seen_18 : decode cX6_seen 18 = .ok (.ifCond .ne 6, 3) := by decide +kernel
theorem dX6_seen_21 : decode cX6_seen 21 = .ok (.ldc 84, 2) := by decide +kernel
theorem dX6_seen_23 : decode cX6_seen 23 = .ok (.ireturn, 1) := by decide +kernel
theorem dX6_seen_24 : decode cX6_seen 24 = .ok (.aload_n 0, 1) := by decide +kernel
theorem dX6_seen_25 : decode cX6_seen 25 = .ok (.getfield 26, 3) := by decide +kernel
theorem dX6_seen_28 : decode cX6_seen 28 = .ok (.iload_n 1, 1) := by decide +kernel
theorem dX6_seen_29 : decode cX6_seen 29 = .ok (.iload_n 2, 1) := by decide +kernel
theorem dX6_seen_30 : decode cX6_seen 30 = .ok (.invokevirtual 85, 3) := by decide +kernel
theorem dX6_seen_33 : decode cX6_seen 33 = .ok (.ireturn, 1) := by decide +kernel
theorem dX6_person_0 : decode cX6_person 0 = .ok (.aload_n 0, 1) := by decide +kernel
theorem dX6_person_1 : decode cX6_person 1 = .ok (.iload_n 1, 1) := by decide +kernel
theorem dX6_person_2 : decode cX6_person 2 = .ok (.invokevirtual 89, 3) := by decide +kernel
theorem dX6_person_5 : decode cX6_person 5 = .ok (.ifCond .ne 5, 3) := by decide +kernel
theorem dX6_person_8 : decode cX6_person 8 = .ok (.iconst (-1), 1) := by decide +kernel
theorem dX6_person_9 : decode cX6_person 9 = .ok (.ireturn, 1) := by decide +kernel
theorem dX6_person_10 : decode cX6_person 10 = .ok (.iload_n 2, 1) := by decide +kernel
theorem dX6_person_11 : decode cX6_person 11 = .ok (.tableswitch 74 0 3 #[29, 41, 50, 62], 29) := by decide +kernel
theorem dX6_person_40 : decode cX6_person 40 = .ok (.aload_n 0, 1) := by decide +kernel
theorem dX6_person_41 : decode cX6_person 41 = .ok (.getfield 26, 3) := by decide +kernel
theorem dX6_person_44 : decode cX6_person 44 = .ok (.getfield 93, 3) := by decide +kernel
theorem dX6_person_47 : decode cX6_person 47 = .ok (.iload_n 1, 1) := by decide +kernel
theorem dX6_person_48 : decode cX6_person 48 = .ok (.invokestatic 97, 3) := by decide +kernel
theorem dX6_person_51 : decode cX6_person 51 = .ok (.ireturn, 1) := by decide +kernel
theorem dX6_person_52 : decode cX6_person 52 = .ok (.aload_n 0, 1) := by decide +kernel
theorem dX6_person_53 : decode cX6_person 53 = .ok (.getfield 26, 3) := by decide +kernel
theorem dX6_person_56 : decode cX6_person 56 = .ok (.iload_n 1, 1) := by decide +kernel
theorem dX6_person_57 : decode cX6_person 57 = .ok (.invokevirtual 101, 3) := by decide +kernel
theorem dX6_person_60 : decode cX6_person 60 = .ok (.ireturn, 1) := by decide +kernel
theorem dX6_person_61 : decode cX6_person 61 = .ok (.aload_n 0, 1) := by decide +kernel
theorem dX6_person_62 : decode cX6_person 62 = .ok (.getfield 50, 3) := by decide +kernel
theorem dX6_person_65 : decode cX6_person 65 = .ok (.getfield 105, 3) := by decide +kernel
theorem dX6_person_68 : decode cX6_person 68 = .ok (.iload_n 1, 1) := by decide +kernel
theorem dX6_person_69 : decode cX6_person 69 = .ok (.invokestatic 97, 3) := by decide +kernel
theorem dX6_person_72 : decode cX6_person 72 = .ok (.ireturn, 1) := by decide +kernel
theorem dX6_person_73 : decode cX6_person 73 = .ok (.aload_n 0, 1) := by decide +kernel
theorem dX6_person_74 : decode cX6_person 74 = .ok (.getfield 26, 3) := by decide +kernel
theorem dX6_person_77 : decode cX6_person 77 = .ok (.getfield 108, 3) := by decide +kernel
theorem dX6_person_80 : decode cX6_person 80 = .ok (.iload_n 1, 1) := by decide +kernel
theorem dX6_person_81 : decode cX6_person 81 = .ok (.invokestatic 97, 3) := by decide +kernel
theorem dX6_person_84 : decode cX6_person 84 = .ok (.ireturn, 1) := by decide +kernel
theorem dX6_person_85 : decode cX6_person 85 = .ok (.iconst (-1), 1) := by decide +kernel
theorem dX6_person_86 : decode cX6_person 86 = .ok (.ireturn, 1) := by decide +kernel
theorem dX6_law_0 : decode cX6_law 0 = .ok (.iload_n 1, 1) := by decide +kernel
theorem dX6_law_1 : decode cX6_law 1 = .ok (.tableswitch 51 0 2 #[27, 35, 43], 27) := by decide +kernel
theorem dX6_law_28 : decode cX6_law 28 = .ok (.aload_n 0, 1) := by decide +kernel
theorem dX6_law_29 : decode cX6_law 29 = .ok (.getfield 50, 3) := by decide +kernel
theorem dX6_law_32 : decode cX6_law 32 = .ok (.getfield 111, 3) := by decide +kernel
theorem dX6_law_35 : decode cX6_law 35 = .ok (.ireturn, 1) := by decide +kernel
theorem dX6_law_36 : decode cX6_law 36 = .ok (.aload_n 0, 1) := by decide +kernel
theorem dX6_law_37 : decode cX6_law 37 = .ok (.getfield 50, 3) := by decide +kernel
theorem dX6_law_40 : decode cX6_law 40 = .ok (.getfield 114, 3) := by decide +kernel
theorem dX6_law_43 : decode cX6_law 43 = .ok (.ireturn, 1) := by decide +kernel
theorem dX6_law_44 : decode cX6_law 44 = .ok (.aload_n 0, 1) := by decide +kernel
theorem dX6_law_45 : decode cX6_law 45 = .ok (.getfield 50, 3) := by decide +kernel
theorem dX6_law_48 : decode cX6_law 48 = .ok (.getfield 117, 3) := by decide +kernel
theorem dX6_law_51 : decode cX6_law 51 = .ok (.ireturn, 1) := by decide +kernel
theorem dX6_law_52 : decode cX6_law 52 = .ok (.iconst (-1), 1) := by decide +kernel
theorem dX6_law_53 : decode cX6_law 53 = .ok (.ireturn, 1) := by decide +kernel
theorem dX6_rules_0 : decode cX6_rules 0 = .ok (.iload_n 1, 1) := by decide +kernel
theorem dX6_rules_1 : decode cX6_rules 1 = .ok (.iconst 2, 1) := by decide +kernel
theorem dX6_rules_2 : decode cX6_rules 2 = .ok (.if_icmp .ne 8, 3) := by decide +kernel
theorem dX6_rules_5 : decode cX6_rules 5 = .ok (.bipush 7, 2) := by decide +kernel
theorem dX6_rules_7 : decode cX6_rules 7 = .ok (.goto 4, 3) := by decide +kernel
theorem dX6_rules_10 : decode cX6_rules 10 = .ok (.iconst 0, 1) := by decide +kernel
theorem dX6_rules_11 : decode cX6_rules 11 = .ok (.istore_n 3, 1) := by decide +kernel
theorem dX6_rules_12 : decode cX6_rules 12 = .ok (.iload_n 1, 1) := by decide +kernel
theorem dX6_rules_13 : decode cX6_rules 13 = .ok (.ifCond .lt 17, 3) := by decide +kernel
theorem dX6_rules_16 : decode cX6_rules 16 = .ok (.iload_n 1, 1) := by decide +kernel
theorem dX6_rules_17 : decode cX6_rules 17 = .ok (.iconst 3, 1) := by decide +kernel
theorem dX6_rules_18 : decode cX6_rules 18 = .ok (.if_icmp .gt 12, 3) := by decide +kernel
theorem dX6_rules_21 : decode cX6_rules 21 = .ok (.iload_n 2, 1) := by decide +kernel
theorem dX6_rules_22 : decode cX6_rules 22 = .ok (.ifCond .lt 8, 3) := by decide +kernel
theorem dX6_rules_25 : decode cX6_rules 25 = .ok (.iload_n 2, 1) := by decide +kernel
theorem dX6_rules_26 : decode cX6_rules 26 = .ok (.iload_n 3, 1) := by decide +kernel
theorem dX6_rules_27 : decode cX6_rules 27 = .ok (.if_icmp .le 5, 3) := by decide +kernel
theorem dX6_rules_30 : decode cX6_rules 30 = .ok (.iconst (-1), 1) := by decide +kernel
theorem dX6_rules_31 : decode cX6_rules 31 = .ok (.ireturn, 1) := by decide +kernel
theorem dX6_rules_32 : decode cX6_rules 32 = .ok (.aload_n 0, 1) := by decide +kernel
theorem dX6_rules_33 : decode cX6_rules 33 = .ok (.getfield 50, 3) := by decide +kernel
theorem dX6_rules_36 : decode cX6_rules 36 = .ok (.getfield 111, 3) := by decide +kernel
theorem dX6_rules_39 : decode cX6_rules 39 = .ok (.istore 4, 2) := by decide +kernel
theorem dX6_rules_41 : decode cX6_rules 41 = .ok (.aload_n 0, 1) := by decide +kernel
theorem dX6_rules_42 : decode cX6_rules 42 = .ok (.getfield 50, 3) := by decide +kernel
theorem dX6_rules_45 : decode cX6_rules 45 = .ok (.iload_n 1, 1) := by decide +kernel
theorem dX6_rules_46 : decode cX6_rules 46 = .ok (.putfield 111, 3) := by decide +kernel
theorem dX6_rules_49 : decode cX6_rules 49 = .ok (.iload_n 1, 1) := by decide +kernel
theorem dX6_rules_50 : decode cX6_rules 50 = .ok (.iconst 2, 1) := by decide +kernel
theorem dX6_rules_51 : decode cX6_rules 51 = .ok (.if_icmp .ne 11, 3) := by decide +kernel
theorem dX6_rules_54 : decode cX6_rules 54 = .ok (.aload_n 0, 1) := by decide +kernel
theorem dX6_rules_55 : decode cX6_rules 55 = .ok (.getfield 50, 3) := by decide +kernel
theorem dX6_rules_58 : decode cX6_rules 58 = .ok (.iload_n 2, 1) := by decide +kernel
theorem dX6_rules_59 : decode cX6_rules 59 = .ok (.putfield 114, 3) := by decide +kernel
theorem dX6_rules_62 : decode cX6_rules 62 = .ok (.iload 4, 2) := by decide +kernel
theorem dX6_rules_64 : decode cX6_rules 64 = .ok (.ireturn, 1) := by decide +kernel
theorem dX6_chosen_0 : decode cX6_chosen 0 = .ok (.aload_n 0, 1) := by decide +kernel
theorem dX6_chosen_1 : decode cX6_chosen 1 = .ok (.getfield 50, 3) := by decide +kernel
theorem dX6_chosen_4 : decode cX6_chosen 4 = .ok (.getfield 120, 3) := by decide +kernel
theorem dX6_chosen_7 : decode cX6_chosen 7 = .ok (.ifCond .ne 8, 3) := by decide +kernel
theorem dX6_chosen_10 : decode cX6_chosen 10 = .ok (.bipush (-2), 2) := by decide +kernel
theorem dX6_chosen_12 : decode cX6_chosen 12 = .ok (.goto 14, 3) := by decide +kernel
theorem dX6_chosen_15 : decode cX6_chosen 15 = .ok (.aload_n 0, 1) := by decide +kernel
theorem dX6_chosen_16 : decode cX6_chosen 16 = .ok (.getfield 50, 3) := by decide +kernel
theorem dX6_chosen_19 : decode cX6_chosen 19 = .ok (.aload_n 0, 1) := by decide +kernel
theorem dX6_chosen_20 : decode cX6_chosen 20 = .ok (.getfield 26, 3) := by decide +kernel
theorem dX6_chosen_23 : decode cX6_chosen 23 = .ok (.invokevirtual 123, 3) := by decide +kernel
theorem dX6_chosen_26 : decode cX6_chosen 26 = .ok (.ireturn, 1) := by decide +kernel
theorem dX6_meet_0 : decode cX6_meet 0 = .ok (.aload_n 0, 1) := by decide +kernel
theorem dX6_meet_1 : decode cX6_meet 1 = .ok (.iload_n 1, 1) := by decide +kernel
theorem dX6_meet_2 : decode cX6_meet 2 = .ok (.iload_n 2, 1) := by decide +kernel
theorem dX6_meet_3 : decode cX6_meet 3 = .ok (.invokevirtual 77, 3) := by decide +kernel
theorem dX6_meet_6 : decode cX6_meet 6 = .ok (.ifCond .ne 5, 3) := by decide +kernel
theorem dX6_meet_9 : decode cX6_meet 9 = .ok (.iconst (-1), 1) := by decide +kernel
theorem dX6_meet_10 : decode cX6_meet 10 = .ok (.ireturn, 1) := by decide +kernel
theorem dX6_meet_11 : decode cX6_meet 11 = .ok (.aload_n 0, 1) := by decide +kernel
theorem dX6_meet_12 : decode cX6_meet 12 = .ok (.getfield 26, 3) := by decide +kernel
theorem dX6_meet_15 : decode cX6_meet 15 = .ok (.iload_n 1, 1) := by decide +kernel
theorem dX6_meet_16 : decode cX6_meet 16 = .ok (.iload_n 2, 1) := by decide +kernel
theorem dX6_meet_17 : decode cX6_meet 17 = .ok (.invokevirtual 127, 3) := by decide +kernel
theorem dX6_meet_20 : decode cX6_meet 20 = .ok (.aload_n 0, 1) := by decide +kernel
theorem dX6_meet_21 : decode cX6_meet 21 = .ok (.getfield 26, 3) := by decide +kernel
theorem dX6_meet_24 : decode cX6_meet 24 = .ok (.iload_n 2, 1) := by decide +kernel
theorem dX6_meet_25 : decode cX6_meet 25 = .ok (.iload_n 1, 1) := by decide +kernel
theorem dX6_meet_26 : decode cX6_meet 26 = .ok (.invokevirtual 127, 3) := by decide +kernel
theorem dX6_meet_29 : decode cX6_meet 29 = .ok (.iadd, 1) := by decide +kernel
theorem dX6_meet_30 : decode cX6_meet 30 = .ok (.ireturn, 1) := by decide +kernel
theorem dX6_introduce_0 : decode cX6_introduce 0 = .ok (.aload_n 0, 1) := by decide +kernel
theorem dX6_introduce_1 : decode cX6_introduce 1 = .ok (.iload_n 1, 1) := by decide +kernel
theorem dX6_introduce_2 : decode cX6_introduce 2 = .ok (.iload_n 2, 1) := by decide +kernel
theorem dX6_introduce_3 : decode cX6_introduce 3 = .ok (.invokevirtual 77, 3) := by decide +kernel
theorem dX6_introduce_6 : decode cX6_introduce 6 = .ok (.ifCond .eq 21, 3) := by decide +kernel
theorem dX6_introduce_9 : decode cX6_introduce 9 = .ok (.aload_n 0, 1) := by decide +kernel
theorem dX6_introduce_10 : decode cX6_introduce 10 = .ok (.iload_n 1, 1) := by decide +kernel
theorem dX6_introduce_11 : decode cX6_introduce 11 = .ok (.iload_n 3, 1) := by decide +kernel
theorem dX6_introduce_12 : decode cX6_introduce 12 = .ok (.invokevirtual 77, 3) := by decide +kernel
theorem dX6_introduce_15 : decode cX6_introduce 15 = .ok (.ifCond .eq 12, 3) := by decide +kernel
theorem dX6_introduce_18 : decode cX6_introduce 18 = .ok (.aload_n 0, 1) := by decide +kernel
theorem dX6_introduce_19 : decode cX6_introduce 19 = .ok (.iload_n 2, 1) := by decide +kernel
theorem dX6_introduce_20 : decode cX6_introduce 20 = .ok (.iload_n 3, 1) := by decide +kernel
theorem dX6_introduce_21 : decode cX6_introduce 21 = .ok (.invokevirtual 77, 3) := by decide +kernel
theorem dX6_introduce_24 : decode cX6_introduce 24 = .ok (.ifCond .ne 5, 3) := by decide +kernel
theorem dX6_introduce_27 : decode cX6_introduce 27 = .ok (.iconst (-1), 1) := by decide +kernel
theorem dX6_introduce_28 : decode cX6_introduce 28 = .ok (.ireturn, 1) := by decide +kernel
theorem dX6_introduce_29 : decode cX6_introduce 29 = .ok (.aload_n 0, 1) := by decide +kernel
theorem dX6_introduce_30 : decode cX6_introduce 30 = .ok (.getfield 26, 3) := by decide +kernel
theorem dX6_introduce_33 : decode cX6_introduce 33 = .ok (.iload_n 1, 1) := by decide +kernel
theorem dX6_introduce_34 : decode cX6_introduce 34 = .ok (.iload_n 3, 1) := by decide +kernel
theorem dX6_introduce_35 : decode cX6_introduce 35 = .ok (.invokevirtual 81, 3) := by decide +kernel
theorem dX6_introduce_38 : decode cX6_introduce 38 = .ok (.ifCond .ne 6, 3) := by decide +kernel
theorem dX6_introduce_41 : decode cX6_introduce 41 = .ok (.bipush (-2), 2) := by decide +kernel
theorem dX6_introduce_43 : decode cX6_introduce 43 = .ok (.ireturn, 1) := by decide +kernel
theorem dX6_introduce_44 : decode cX6_introduce 44 = .ok (.aload_n 0, 1) := by decide +kernel
theorem dX6_introduce_45 : decode cX6_introduce 45 = .ok (.getfield 26, 3) := by decide +kernel
theorem dX6_introduce_48 : decode cX6_introduce 48 = .ok (.iload_n 2, 1) := by decide +kernel
theorem dX6_introduce_49 : decode cX6_introduce 49 = .ok (.iload_n 3, 1) := by decide +kernel
theorem dX6_introduce_50 : decode cX6_introduce 50 = .ok (.invokevirtual 127, 3) := by decide +kernel
theorem dX6_introduce_53 : decode cX6_introduce 53 = .ok (.ireturn, 1) := by decide +kernel
theorem dX6_moves_0 : decode cX6_moves 0 = .ok (.aload_n 0, 1) := by decide +kernel
theorem dX6_moves_1 : decode cX6_moves 1 = .ok (.iload_n 1, 1) := by decide +kernel
theorem dX6_moves_2 : decode cX6_moves 2 = .ok (.invokevirtual 89, 3) := by decide +kernel
theorem dX6_moves_5 : decode cX6_moves 5 = .ok (.ifCond .ne 5, 3) := by decide +kernel
theorem dX6_moves_8 : decode cX6_moves 8 = .ok (.iconst (-1), 1) := by decide +kernel
theorem dX6_moves_9 : decode cX6_moves 9 = .ok (.ireturn, 1) := by decide +kernel
theorem dX6_moves_10 : decode cX6_moves 10 = .ok (.aload_n 0, 1) := by decide +kernel
theorem dX6_moves_11 : decode cX6_moves 11 = .ok (.getfield 26, 3) := by decide +kernel
theorem dX6_moves_14 : decode cX6_moves 14 = .ok (.getfield 93, 3) := by decide +kernel
theorem dX6_moves_17 : decode cX6_moves 17 = .ok (.iload_n 1, 1) := by decide +kernel
theorem dX6_moves_18 : decode cX6_moves 18 = .ok (.invokestatic 97, 3) := by decide +kernel
theorem dX6_moves_21 : decode cX6_moves 21 = .ok (.istore_n 2, 1) := by decide +kernel
theorem dX6_moves_22 : decode cX6_moves 22 = .ok (.aload_n 0, 1) := by decide +kernel
theorem dX6_moves_23 : decode cX6_moves 23 = .ok (.getfield 26, 3) := by decide +kernel
theorem dX6_moves_26 : decode cX6_moves 26 = .ok (.iload_n 1, 1) := by decide +kernel
theorem dX6_moves_27 : decode cX6_moves 27 = .ok (.iconst 0, 1) := by decide +kernel
theorem dX6_moves_28 : decode cX6_moves 28 = .ok (.invokevirtual 130, 3) := by decide +kernel
theorem dX6_moves_31 : decode cX6_moves 31 = .ok (.iload_n 2, 1) := by decide +kernel
theorem dX6_moves_32 : decode cX6_moves 32 = .ok (.ireturn, 1) := by decide +kernel
theorem dX6_go_0 : decode cX6_go 0 = .ok (.iload_n 1, 1) := by decide +kernel
theorem dX6_go_1 : decode cX6_go 1 = .ok (.iconst 1, 1) := by decide +kernel
theorem dX6_go_2 : decode cX6_go 2 = .ok (.if_icmp .lt 9, 3) := by decide +kernel
theorem dX6_go_5 : decode cX6_go 5 = .ok (.iload_n 1, 1) := by decide +kernel
theorem dX6_go_6 : decode cX6_go 6 = .ok (.bipush 99, 2) := by decide +kernel
theorem dX6_go_8 : decode cX6_go 8 = .ok (.if_icmp .le 5, 3) := by decide +kernel
theorem dX6_go_11 : decode cX6_go 11 = .ok (.iconst (-1), 1) := by decide +kernel
theorem dX6_go_12 : decode cX6_go 12 = .ok (.ireturn, 1) := by decide +kernel
theorem dX6_go_13 : decode cX6_go 13 = .ok (.aload_n 0, 1) := by decide +kernel
theorem dX6_go_14 : decode cX6_go 14 = .ok (.getfield 26, 3) := by decide +kernel
theorem dX6_go_17 : decode cX6_go 17 = .ok (.getfield 134, 3) := by decide +kernel
theorem dX6_go_20 : decode cX6_go 20 = .ok (.bipush 99, 2) := by decide +kernel
theorem dX6_go_22 : decode cX6_go 22 = .ok (.if_icmp .ge 13, 3) := by decide +kernel
theorem dX6_go_25 : decode cX6_go 25 = .ok (.aload_n 0, 1) := by decide +kernel
theorem dX6_go_26 : decode cX6_go 26 = .ok (.getfield 50, 3) := by decide +kernel
theorem dX6_go_29 : decode cX6_go 29 = .ok (.getfield 120, 3) := by decide +kernel
theorem dX6_go_32 : decode cX6_go 32 = .ok (.ifCond .ne 6, 3) := by decide +kernel
theorem dX6_go_35 : decode cX6_go 35 = .ok (.bipush (-2), 2) := by decide +kernel
theorem dX6_go_37 : decode cX6_go 37 = .ok (.ireturn, 1) := by decide +kernel
theorem dX6_go_38 : decode cX6_go 38 = .ok (.iload_n 1, 1) := by decide +kernel
theorem dX6_go_39 : decode cX6_go 39 = .ok (.bipush 99, 2) := by decide +kernel
theorem dX6_go_41 : decode cX6_go 41 = .ok (.aload_n 0, 1) := by decide +kernel
theorem dX6_go_42 : decode cX6_go 42 = .ok (.getfield 26, 3) := by decide +kernel
theorem dX6_go_45 : decode cX6_go 45 = .ok (.getfield 134, 3) := by decide +kernel
theorem dX6_go_48 : decode cX6_go 48 = .ok (.isub, 1) := by decide +kernel
theorem dX6_go_49 : decode cX6_go 49 = .ok (.invokestatic 137, 3) := by decide +kernel
theorem dX6_go_52 : decode cX6_go 52 = .ok (.istore_n 2, 1) := by decide +kernel
theorem dX6_go_53 : decode cX6_go 53 = .ok (.iconst 0, 1) := by decide +kernel
theorem dX6_go_54 : decode cX6_go 54 = .ok (.istore_n 3, 1) := by decide +kernel
theorem dX6_go_55 : decode cX6_go 55 = .ok (.iload_n 3, 1) := by decide +kernel
theorem dX6_go_56 : decode cX6_go 56 = .ok (.iload_n 2, 1) := by decide +kernel
theorem dX6_go_57 : decode cX6_go 57 = .ok (.if_icmp .ge 21, 3) := by decide +kernel
theorem dX6_go_60 : decode cX6_go 60 = .ok (.aload_n 0, 1) := by decide +kernel
theorem dX6_go_61 : decode cX6_go 61 = .ok (.getfield 26, 3) := by decide +kernel
theorem dX6_go_64 : decode cX6_go 64 = .ok (.aload_n 0, 1) := by decide +kernel
theorem dX6_go_65 : decode cX6_go 65 = .ok (.getfield 50, 3) := by decide +kernel
theorem dX6_go_68 : decode cX6_go 68 = .ok (.invokevirtual 142, 3) := by decide +kernel
theorem dX6_go_71 : decode cX6_go 71 = .ok (.pop, 1) := by decide +kernel
theorem dX6_go_72 : decode cX6_go 72 = .ok (.iinc 3 1, 3) := by decide +kernel
theorem dX6_go_75 : decode cX6_go 75 = .ok (.goto (-20), 3) := by decide +kernel
theorem dX6_go_78 : decode cX6_go 78 = .ok (.aload_n 0, 1) := by decide +kernel
theorem dX6_go_79 : decode cX6_go 79 = .ok (.getfield 26, 3) := by decide +kernel
theorem dX6_go_82 : decode cX6_go 82 = .ok (.getfield 146, 3) := by decide +kernel
theorem dX6_go_85 : decode cX6_go 85 = .ok (.ireturn, 1) := by decide +kernel
theorem dX6_now_0 : decode cX6_now 0 = .ok (.iload_n 1, 1) := by decide +kernel
theorem dX6_now_1 : decode cX6_now 1 = .ok (.tableswitch 51 0 2 #[27, 35, 43], 27) := by decide +kernel
theorem dX6_now_28 : decode cX6_now 28 = .ok (.aload_n 0, 1) := by decide +kernel
theorem dX6_now_29 : decode cX6_now 29 = .ok (.getfield 26, 3) := by decide +kernel
theorem dX6_now_32 : decode cX6_now 32 = .ok (.getfield 134, 3) := by decide +kernel
theorem dX6_now_35 : decode cX6_now 35 = .ok (.ireturn, 1) := by decide +kernel
theorem dX6_now_36 : decode cX6_now 36 = .ok (.aload_n 0, 1) := by decide +kernel
theorem dX6_now_37 : decode cX6_now 37 = .ok (.getfield 26, 3) := by decide +kernel
theorem dX6_now_40 : decode cX6_now 40 = .ok (.getfield 146, 3) := by decide +kernel
theorem dX6_now_43 : decode cX6_now 43 = .ok (.ireturn, 1) := by decide +kernel
theorem dX6_now_44 : decode cX6_now 44 = .ok (.aload_n 0, 1) := by decide +kernel
theorem dX6_now_45 : decode cX6_now 45 = .ok (.getfield 26, 3) := by decide +kernel
theorem dX6_now_48 : decode cX6_now 48 = .ok (.invokevirtual 149, 3) := by decide +kernel
theorem dX6_now_51 : decode cX6_now 51 = .ok (.ireturn, 1) := by decide +kernel
theorem dX6_now_52 : decode cX6_now 52 = .ok (.iconst (-1), 1) := by decide +kernel
theorem dX6_now_53 : decode cX6_now 53 = .ok (.ireturn, 1) := by decide +kernel
theorem dX6_anew_0 : decode cX6_anew 0 = .ok (.aload_n 0, 1) := by decide +kernel
theorem dX6_anew_1 : decode cX6_anew 1 = .ok (.getfield 26, 3) := by decide +kernel
theorem dX6_anew_4 : decode cX6_anew 4 = .ok (.getfield 134, 3) := by decide +kernel
theorem dX6_anew_7 : decode cX6_anew 7 = .ok (.istore_n 1, 1) := by decide +kernel
theorem dX6_anew_8 : decode cX6_anew 8 = .ok (.aload_n 0, 1) := by decide +kernel
theorem dX6_anew_9 : decode cX6_anew 9 = .ok (.getfield 26, 3) := by decide +kernel
theorem dX6_anew_12 : decode cX6_anew 12 = .ok (.aload_n 0, 1) := by decide +kernel
theorem dX6_anew_13 : decode cX6_anew 13 = .ok (.getfield 50, 3) := by decide +kernel
theorem dX6_anew_16 : decode cX6_anew 16 = .ok (.invokevirtual 57, 3) := by decide +kernel
theorem dX6_anew_19 : decode cX6_anew 19 = .ok (.iload_n 1, 1) := by decide +kernel
theorem dX6_anew_20 : decode cX6_anew 20 = .ok (.ireturn, 1) := by decide +kernel
theorem dX6_reigns_0 : decode cX6_reigns 0 = .ok (.iload_n 1, 1) := by decide +kernel
theorem dX6_reigns_1 : decode cX6_reigns 1 = .ok (.ifCond .lt 9, 3) := by decide +kernel
theorem dX6_reigns_4 : decode cX6_reigns 4 = .ok (.iload_n 1, 1) := by decide +kernel
theorem dX6_reigns_5 : decode cX6_reigns 5 = .ok (.bipush 40, 2) := by decide +kernel
theorem dX6_reigns_7 : decode cX6_reigns 7 = .ok (.if_icmp .le 5, 3) := by decide +kernel
theorem dX6_reigns_10 : decode cX6_reigns 10 = .ok (.iconst (-1), 1) := by decide +kernel
theorem dX6_reigns_11 : decode cX6_reigns 11 = .ok (.ireturn, 1) := by decide +kernel
theorem dX6_reigns_12 : decode cX6_reigns 12 = .ok (.aload_n 0, 1) := by decide +kernel
theorem dX6_reigns_13 : decode cX6_reigns 13 = .ok (.getfield 50, 3) := by decide +kernel
theorem dX6_reigns_16 : decode cX6_reigns 16 = .ok (.getfield 120, 3) := by decide +kernel
theorem dX6_reigns_19 : decode cX6_reigns 19 = .ok (.ifCond .ne 8, 3) := by decide +kernel
theorem dX6_reigns_22 : decode cX6_reigns 22 = .ok (.bipush (-2), 2) := by decide +kernel
theorem dX6_reigns_24 : decode cX6_reigns 24 = .ok (.goto 19, 3) := by decide +kernel
theorem dX6_reigns_27 : decode cX6_reigns 27 = .ok (.aload_n 0, 1) := by decide +kernel
theorem dX6_reigns_28 : decode cX6_reigns 28 = .ok (.getfield 43, 3) := by decide +kernel
theorem dX6_reigns_31 : decode cX6_reigns 31 = .ok (.aload_n 0, 1) := by decide +kernel
theorem dX6_reigns_32 : decode cX6_reigns 32 = .ok (.getfield 50, 3) := by decide +kernel
theorem dX6_reigns_35 : decode cX6_reigns 35 = .ok (.aload_n 0, 1) := by decide +kernel
theorem dX6_reigns_36 : decode cX6_reigns 36 = .ok (.getfield 26, 3) := by decide +kernel
theorem dX6_reigns_39 : decode cX6_reigns 39 = .ok (.iload_n 1, 1) := by decide +kernel
theorem dX6_reigns_40 : decode cX6_reigns 40 = .ok (.invokevirtual 153, 3) := by decide +kernel
theorem dX6_reigns_43 : decode cX6_reigns 43 = .ok (.ireturn, 1) := by decide +kernel
theorem dX6_ring_0 : decode cX6_ring 0 = .ok (.aload_n 0, 1) := by decide +kernel
theorem dX6_ring_1 : decode cX6_ring 1 = .ok (.getfield 50, 3) := by decide +kernel
theorem dX6_ring_4 : decode cX6_ring 4 = .ok (.getfield 120, 3) := by decide +kernel
theorem dX6_ring_7 : decode cX6_ring 7 = .ok (.ifCond .ne 8, 3) := by decide +kernel
theorem dX6_ring_10 : decode cX6_ring 10 = .ok (.bipush (-2), 2) := by decide +kernel
theorem dX6_ring_12 : decode cX6_ring 12 = .ok (.goto 18, 3) := by decide +kernel
theorem dX6_ring_15 : decode cX6_ring 15 = .ok (.aload_n 0, 1) := by decide +kernel
theorem dX6_ring_16 : decode cX6_ring 16 = .ok (.getfield 43, 3) := by decide +kernel
theorem dX6_ring_19 : decode cX6_ring 19 = .ok (.aload_n 0, 1) := by decide +kernel
theorem dX6_ring_20 : decode cX6_ring 20 = .ok (.getfield 50, 3) := by decide +kernel
theorem dX6_ring_23 : decode cX6_ring 23 = .ok (.aload_n 0, 1) := by decide +kernel
theorem dX6_ring_24 : decode cX6_ring 24 = .ok (.getfield 26, 3) := by decide +kernel
theorem dX6_ring_27 : decode cX6_ring 27 = .ok (.invokevirtual 157, 3) := by decide +kernel
theorem dX6_ring_30 : decode cX6_ring 30 = .ok (.ireturn, 1) := by decide +kernel
theorem dX6_brings_0 : decode cX6_brings 0 = .ok (.aload_n 0, 1) := by decide +kernel
theorem dX6_brings_1 : decode cX6_brings 1 = .ok (.iload_n 1, 1) := by decide +kernel
theorem dX6_brings_2 : decode cX6_brings 2 = .ok (.invokevirtual 89, 3) := by decide +kernel
theorem dX6_brings_5 : decode cX6_brings 5 = .ok (.ifCond .eq 20, 3) := by decide +kernel
theorem dX6_brings_8 : decode cX6_brings 8 = .ok (.iload_n 2, 1) := by decide +kernel
theorem dX6_brings_9 : decode cX6_brings 9 = .ok (.invokestatic 161, 3) := by decide +kernel
theorem dX6_brings_12 : decode cX6_brings 12 = .ok (.ifCond .eq 13, 3) := by decide +kernel
theorem dX6_brings_15 : decode cX6_brings 15 = .ok (.iload_n 3, 1) := by decide +kernel
theorem dX6_brings_16 : decode cX6_brings 16 = .ok (.iconst (-1), 1) := by decide +kernel
theorem dX6_brings_17 : decode cX6_brings 17 = .ok (.if_icmp .lt 8, 3) := by decide +kernel
theorem dX6_brings_20 : decode cX6_brings 20 = .ok (.iload_n 3, 1) := by decide +kernel
theorem dX6_brings_21 : decode cX6_brings 21 = .ok (.iconst 3, 1) := by decide +kernel
theorem dX6_brings_22 : decode cX6_brings 22 = .ok (.if_icmp .lt 5, 3) := by decide +kernel
theorem dX6_brings_25 : decode cX6_brings 25 = .ok (.iconst (-1), 1) := by decide +kernel
theorem dX6_brings_26 : decode cX6_brings 26 = .ok (.ireturn, 1) := by decide +kernel
theorem dX6_brings_27 : decode cX6_brings 27 = .ok (.aload_n 0, 1) := by decide +kernel
theorem dX6_brings_28 : decode cX6_brings 28 = .ok (.getfield 43, 3) := by decide +kernel
theorem dX6_brings_31 : decode cX6_brings 31 = .ok (.aload_n 0, 1) := by decide +kernel
theorem dX6_brings_32 : decode cX6_brings 32 = .ok (.getfield 50, 3) := by decide +kernel
theorem dX6_brings_35 : decode cX6_brings 35 = .ok (.aload_n 0, 1) := by decide +kernel
theorem dX6_brings_36 : decode cX6_brings 36 = .ok (.getfield 26, 3) := by decide +kernel
theorem dX6_brings_39 : decode cX6_brings 39 = .ok (.iload_n 1, 1) := by decide +kernel
theorem dX6_brings_40 : decode cX6_brings 40 = .ok (.iload_n 2, 1) := by decide +kernel
theorem dX6_brings_41 : decode cX6_brings 41 = .ok (.iconst 1, 1) := by decide +kernel
theorem dX6_brings_42 : decode cX6_brings 42 = .ok (.if_icmp .ne 7, 3) := by decide +kernel
theorem dX6_brings_45 : decode cX6_brings 45 = .ok (.iconst 1, 1) := by decide +kernel
theorem dX6_brings_46 : decode cX6_brings 46 = .ok (.goto 4, 3) := by decide +kernel
theorem dX6_brings_49 : decode cX6_brings 49 = .ok (.iconst 0, 1) := by decide +kernel
theorem dX6_brings_50 : decode cX6_brings 50 = .ok (.invokevirtual 164, 3) := by decide +kernel
theorem dX6_brings_53 : decode cX6_brings 53 = .ok (.istore 4, 2) := by decide +kernel
theorem dX6_brings_55 : decode cX6_brings 55 = .ok (.iload 4, 2) := by decide +kernel
theorem dX6_brings_57 : decode cX6_brings 57 = .ok (.ifCond .ge 6, 3) := by decide +kernel
theorem dX6_brings_60 : decode cX6_brings 60 = .ok (.bipush (-9), 2) := by decide +kernel
theorem dX6_brings_62 : decode cX6_brings 62 = .ok (.ireturn, 1) := by decide +kernel
theorem dX6_brings_63 : decode cX6_brings 63 = .ok (.iload_n 3, 1) := by decide +kernel
theorem dX6_brings_64 : decode cX6_brings 64 = .ok (.ifCond .ge 6, 3) := by decide +kernel
theorem dX6_brings_67 : decode cX6_brings 67 = .ok (.iload 4, 2) := by decide +kernel
theorem dX6_brings_69 : decode cX6_brings 69 = .ok (.ireturn, 1) := by decide +kernel
theorem dX6_brings_70 : decode cX6_brings 70 = .ok (.iload_n 3, 1) := by decide +kernel
theorem dX6_brings_71 : decode cX6_brings 71 = .ok (.iload 4, 2) := by decide +kernel
theorem dX6_brings_73 : decode cX6_brings 73 = .ok (.if_icmp .ge 17, 3) := by decide +kernel
theorem dX6_brings_76 : decode cX6_brings 76 = .ok (.aload_n 0, 1) := by decide +kernel
theorem dX6_brings_77 : decode cX6_brings 77 = .ok (.getfield 43, 3) := by decide +kernel
theorem dX6_brings_80 : decode cX6_brings 80 = .ok (.getfield 168, 3) := by decide +kernel
theorem dX6_brings_83 : decode cX6_brings 83 = .ok (.iload_n 3, 1) := by decide +kernel
theorem dX6_brings_84 : decode cX6_brings 84 = .ok (.invokestatic 97, 3) := by decide +kernel
theorem dX6_brings_87 : decode cX6_brings 87 = .ok (.goto 5, 3) := by decide +kernel
theorem dX6_brings_90 : decode cX6_brings 90 = .ok (.bipush (-5), 2) := by decide +kernel
theorem dX6_brings_92 : decode cX6_brings 92 = .ok (.ireturn, 1) := by decide +kernel
theorem dX6_days_0 : decode cX6_days 0 = .ok (.iload_n 1, 1) := by decide +kernel
theorem dX6_days_1 : decode cX6_days 1 = .ok (.iconst 1, 1) := by decide +kernel
theorem dX6_days_2 : decode cX6_days 2 = .ok (.if_icmp .lt 31, 3) := by decide +kernel
theorem dX6_days_5 : decode cX6_days 5 = .ok (.iload_n 1, 1) := by decide +kernel
theorem dX6_days_6 : decode cX6_days 6 = .ok (.iconst 3, 1) := by decide +kernel
theorem dX6_days_7 : decode cX6_days 7 = .ok (.if_icmp .gt 26, 3) := by decide +kernel
theorem dX6_days_10 : decode cX6_days 10 = .ok (.aload_n 0, 1) := by decide +kernel
theorem dX6_days_11 : decode cX6_days 11 = .ok (.iload_n 2, 1) := by decide +kernel
theorem dX6_days_12 : decode cX6_days 12 = .ok (.invokevirtual 89, 3) := by decide +kernel
theorem dX6_days_15 : decode cX6_days 15 = .ok (.ifCond .eq 18, 3) := by decide +kernel
theorem dX6_days_18 : decode cX6_days 18 = .ok (.iload_n 3, 1) := by decide +kernel
theorem dX6_days_19 : decode cX6_days 19 = .ok (.invokestatic 161, 3) := by decide +kernel
theorem dX6_days_22 : decode cX6_days 22 = .ok (.ifCond .eq 11, 3) := by decide +kernel
theorem dX6_days_25 : decode cX6_days 25 = .ok (.iload 4, 2) := by decide +kernel
theorem dX6_days_27 : decode cX6_days 27 = .ok (.invokestatic 161, 3) := by decide +kernel
theorem dX6_days_30 : decode cX6_days 30 = .ok (.ifCond .ne 5, 3) := by decide +kernel
theorem dX6_days_33 : decode cX6_days 33 = .ok (.iconst (-1), 1) := by decide +kernel
theorem dX6_days_34 : decode cX6_days 34 = .ok (.ireturn, 1) := by decide +kernel
theorem dX6_days_35 : decode cX6_days 35 = .ok (.aload_n 0, 1) := by decide +kernel
theorem dX6_days_36 : decode cX6_days 36 = .ok (.getfield 43, 3) := by decide +kernel
theorem dX6_days_39 : decode cX6_days 39 = .ok (.aload_n 0, 1) := by decide +kernel
theorem dX6_days_40 : decode cX6_days 40 = .ok (.getfield 50, 3) := by decide +kernel
theorem dX6_days_43 : decode cX6_days 43 = .ok (.aload_n 0, 1) := by decide +kernel
theorem dX6_days_44 : decode cX6_days 44 = .ok (.getfield 26, 3) := by decide +kernel
theorem dX6_days_47 : decode cX6_days 47 = .ok (.iload_n 1, 1) := by decide +kernel
theorem dX6_days_48 : decode cX6_days 48 = .ok (.iload_n 2, 1) := by decide +kernel
theorem dX6_days_49 : decode cX6_days 49 = .ok (.iload_n 3, 1) := by decide +kernel
theorem dX6_days_50 : decode cX6_days 50 = .ok (.iconst 1, 1) := by decide +kernel
theorem dX6_days_51 : decode cX6_days 51 = .ok (.if_icmp .ne 7, 3) := by decide +kernel
theorem dX6_days_54 : decode cX6_days 54 = .ok (.iconst 1, 1) := by decide +kernel
theorem dX6_days_55 : decode cX6_days 55 = .ok (.goto 4, 3) := by decide +kernel
theorem dX6_days_58 : decode cX6_days 58 = .ok (.iconst 0, 1) := by decide +kernel
theorem dX6_days_59 : decode cX6_days 59 = .ok (.invokevirtual 171, 3) := by decide +kernel
theorem dX6_days_62 : decode cX6_days 62 = .ok (.istore 5, 2) := by decide +kernel
theorem dX6_days_64 : decode cX6_days 64 = .ok (.iload 4, 2) := by decide +kernel
theorem dX6_days_66 : decode cX6_days 66 = .ok (.ifCond .ne 13, 3) := by decide +kernel
theorem dX6_days_69 : decode cX6_days 69 = .ok (.aload_n 0, 1) := by decide +kernel
theorem dX6_days_70 : decode cX6_days 70 = .ok (.getfield 43, 3) := by decide +kernel
theorem dX6_days_73 : decode cX6_days 73 = .ok (.getfield 175, 3) := by decide +kernel
theorem dX6_days_76 : decode cX6_days 76 = .ok (.goto 5, 3) := by decide +kernel
theorem dX6_days_79 : decode cX6_days 79 = .ok (.iload 5, 2) := by decide +kernel
theorem dX6_days_81 : decode cX6_days 81 = .ok (.ireturn, 1) := by decide +kernel
theorem dX6_asks_0 : decode cX6_asks 0 = .ok (.aload_n 0, 1) := by decide +kernel
theorem dX6_asks_1 : decode cX6_asks 1 = .ok (.iload_n 1, 1) := by decide +kernel
theorem dX6_asks_2 : decode cX6_asks 2 = .ok (.invokevirtual 89, 3) := by decide +kernel
theorem dX6_asks_5 : decode cX6_asks 5 = .ok (.ifCond .eq 13, 3) := by decide +kernel
theorem dX6_asks_8 : decode cX6_asks 8 = .ok (.iload_n 2, 1) := by decide +kernel
theorem dX6_asks_9 : decode cX6_asks 9 = .ok (.ifCond .lt 9, 3) := by decide +kernel
theorem dX6_asks_12 : decode cX6_asks 12 = .ok (.iload_n 2, 1) := by decide +kernel
theorem dX6_asks_13 : decode cX6_asks 13 = .ok (.bipush 8, 2) := by decide +kernel
theorem dX6_asks_15 : decode cX6_asks 15 = .ok (.if_icmp .le 5, 3) := by decide +kernel
theorem dX6_asks_18 : decode cX6_asks 18 = .ok (.iconst (-1), 1) := by decide +kernel
theorem dX6_asks_19 : decode cX6_asks 19 = .ok (.ireturn, 1) := by decide +kernel
theorem dX6_asks_20 : decode cX6_asks 20 = .ok (.aload_n 0, 1) := by decide +kernel
theorem dX6_asks_21 : decode cX6_asks 21 = .ok (.getfield 26, 3) := by decide +kernel
theorem dX6_asks_24 : decode cX6_asks 24 = .ok (.iload_n 1, 1) := by decide +kernel
theorem dX6_asks_25 : decode cX6_asks 25 = .ok (.iload_n 2, 1) := by decide +kernel
theorem dX6_asks_26 : decode cX6_asks 26 = .ok (.aload_n 0, 1) := by decide +kernel
theorem dX6_asks_27 : decode cX6_asks 27 = .ok (.getfield 50, 3) := by decide +kernel
theorem dX6_asks_30 : decode cX6_asks 30 = .ok (.getfield 120, 3) := by decide +kernel
theorem dX6_asks_33 : decode cX6_asks 33 = .ok (.invokevirtual 178, 3) := by decide +kernel
theorem dX6_asks_36 : decode cX6_asks 36 = .ok (.ireturn, 1) := by decide +kernel
theorem dX6_party_0 : decode cX6_party 0 = .ok (.aload_n 0, 1) := by decide +kernel
theorem dX6_party_1 : decode cX6_party 1 = .ok (.getfield 26, 3) := by decide +kernel
theorem dX6_party_4 : decode cX6_party 4 = .ok (.iload_n 1, 1) := by decide +kernel
theorem dX6_party_5 : decode cX6_party 5 = .ok (.aload_n 0, 1) := by decide +kernel
theorem dX6_party_6 : decode cX6_party 6 = .ok (.getfield 50, 3) := by decide +kernel
theorem dX6_party_9 : decode cX6_party 9 = .ok (.invokevirtual 182, 3) := by decide +kernel
theorem dX6_party_12 : decode cX6_party 12 = .ok (.iand, 1) := by decide +kernel
theorem dX6_party_13 : decode cX6_party 13 = .ok (.invokevirtual 185, 3) := by decide +kernel
theorem dX6_party_16 : decode cX6_party 16 = .ok (.ifCond .eq 7, 3) := by decide +kernel
theorem dX6_party_19 : decode cX6_party 19 = .ok (.iconst 1, 1) := by decide +kernel
theorem dX6_party_20 : decode cX6_party 20 = .ok (.goto 4, 3) := by decide +kernel
theorem dX6_party_23 : decode cX6_party 23 = .ok (.iconst 0, 1) := by decide +kernel
theorem dX6_party_24 : decode cX6_party 24 = .ok (.ireturn, 1) := by decide +kernel
theorem dX6_parties_0 : decode cX6_parties 0 = .ok (.iload_n 1, 1) := by decide +kernel
theorem dX6_parties_1 : decode cX6_parties 1 = .ok (.invokestatic 161, 3) := by decide +kernel
theorem dX6_parties_4 : decode cX6_parties 4 = .ok (.ifCond .ne 5, 3) := by decide +kernel
theorem dX6_parties_7 : decode cX6_parties 7 = .ok (.iconst (-1), 1) := by decide +kernel
theorem dX6_parties_8 : decode cX6_parties 8 = .ok (.ireturn, 1) := by decide +kernel
theorem dX6_parties_9 : decode cX6_parties 9 = .ok (.iconst 0, 1) := by decide +kernel
theorem dX6_parties_10 : decode cX6_parties 10 = .ok (.istore_n 2, 1) := by decide +kernel
theorem dX6_parties_11 : decode cX6_parties 11 = .ok (.iconst 0, 1) := by decide +kernel
theorem dX6_parties_12 : decode cX6_parties 12 = .ok (.istore_n 3, 1) := by decide +kernel
theorem dX6_parties_13 : decode cX6_parties 13 = .ok (.iconst 1, 1) := by decide +kernel
theorem dX6_parties_14 : decode cX6_parties 14 = .ok (.istore 4, 2) := by decide +kernel
theorem dX6_parties_16 : decode cX6_parties 16 = .ok (.iconst 0, 1) := by decide +kernel
theorem dX6_parties_17 : decode cX6_parties 17 = .ok (.istore 5, 2) := by decide +kernel
theorem dX6_parties_19 : decode cX6_parties 19 = .ok (.iload 5, 2) := by decide +kernel
theorem dX6_parties_21 : decode cX6_parties 21 = .ok (.aload_n 0, 1) := by decide +kernel
theorem dX6_parties_22 : decode cX6_parties 22 = .ok (.getfield 50, 3) := by decide +kernel
theorem dX6_parties_25 : decode cX6_parties 25 = .ok (.invokevirtual 182, 3) := by decide +kernel
theorem dX6_parties_28 : decode cX6_parties 28 = .ok (.if_icmp .gt 54, 3) := by decide +kernel
theorem dX6_parties_31 : decode cX6_parties 31 = .ok (.iload 5, 2) := by decide +kernel
theorem dX6_parties_33 : decode cX6_parties 33 = .ok (.invokestatic 188, 3) := by decide +kernel
theorem dX6_parties_36 : decode cX6_parties 36 = .ok (.istore 6, 2) := by decide +kernel
theorem dX6_parties_38 : decode cX6_parties 38 = .ok (.iload 6, 2) := by decide +kernel
theorem dX6_parties_40 : decode cX6_parties 40 = .ok (.iconst 2, 1) := by decide +kernel
theorem dX6_parties_41 : decode cX6_parties 41 = .ok (.if_icmp .lt 35, 3) := by decide +kernel
theorem dX6_parties_44 : decode cX6_parties 44 = .ok (.aload_n 0, 1) := by decide +kernel
theorem dX6_parties_45 : decode cX6_parties 45 = .ok (.getfield 26, 3) := by decide +kernel
theorem dX6_parties_48 : decode cX6_parties 48 = .ok (.iload 5, 2) := by decide +kernel
theorem dX6_parties_50 : decode cX6_parties 50 = .ok (.invokevirtual 185, 3) := by decide +kernel
theorem dX6_parties_53 : decode cX6_parties 53 = .ok (.ifCond .ne 6, 3) := by decide +kernel
theorem dX6_parties_56 : decode cX6_parties 56 = .ok (.goto 20, 3) := by decide +kernel
theorem dX6_parties_59 : decode cX6_parties 59 = .ok (.iinc 2 1, 3) := by decide +kernel
theorem dX6_parties_62 : decode cX6_parties 62 = .ok (.iload 6, 2) := by decide +kernel
theorem dX6_parties_64 : decode cX6_parties 64 = .ok (.iload 4, 2) := by decide +kernel
theorem dX6_parties_66 : decode cX6_parties 66 = .ok (.if_icmp .le 10, 3) := by decide +kernel
theorem dX6_parties_69 : decode cX6_parties 69 = .ok (.iload 6, 2) := by decide +kernel
theorem dX6_parties_71 : decode cX6_parties 71 = .ok (.istore 4, 2) := by decide +kernel
theorem dX6_parties_73 : decode cX6_parties 73 = .ok (.iload 5, 2) := by decide +kernel
theorem dX6_parties_75 : decode cX6_parties 75 = .ok (.istore_n 3, 1) := by decide +kernel
theorem dX6_parties_76 : decode cX6_parties 76 = .ok (.iinc 5 1, 3) := by decide +kernel
theorem dX6_parties_79 : decode cX6_parties 79 = .ok (.goto (-60), 3) := by decide +kernel
theorem dX6_parties_82 : decode cX6_parties 82 = .ok (.iload_n 1, 1) := by decide +kernel
theorem dX6_parties_83 : decode cX6_parties 83 = .ok (.ifCond .ne 7, 3) := by decide +kernel
theorem dX6_parties_86 : decode cX6_parties 86 = .ok (.iload_n 2, 1) := by decide +kernel
theorem dX6_parties_87 : decode cX6_parties 87 = .ok (.goto 4, 3) := by decide +kernel
theorem dX6_parties_90 : decode cX6_parties 90 = .ok (.iload_n 3, 1) := by decide +kernel
theorem dX6_parties_91 : decode cX6_parties 91 = .ok (.ireturn, 1) := by decide +kernel
theorem dX6_rate_0 : decode cX6_rate 0 = .ok (.aload_n 0, 1) := by decide +kernel
theorem dX6_rate_1 : decode cX6_rate 1 = .ok (.iload_n 2, 1) := by decide +kernel
theorem dX6_rate_2 : decode cX6_rate 2 = .ok (.invokevirtual 89, 3) := by decide +kernel
theorem dX6_rate_5 : decode cX6_rate 5 = .ok (.ifCond .ne 6, 3) := by decide +kernel
theorem dX6_rate_8 : decode cX6_rate 8 = .ok (.ldc 84, 2) := by decide +kernel
theorem dX6_rate_10 : decode cX6_rate 10 = .ok (.ireturn, 1) := by decide +kernel
theorem dX6_rate_11 : decode cX6_rate 11 = .ok (.iload_n 1, 1) := by decide +kernel
theorem dX6_rate_12 : decode cX6_rate 12 = .ok (.tableswitch 76 0 5 #[40, 46, 52, 58, 64, 70], 40) := by decide +kernel
theorem dX6_rate_52 : decode cX6_rate 52 = .ok (.aload_n 0, 1) := by decide +kernel
theorem dX6_rate_53 : decode cX6_rate 53 = .ok (.iload_n 2, 1) := by decide +kernel
theorem dX6_rate_54 : decode cX6_rate 54 = .ok (.invokevirtual 193, 3) := by decide +kernel
theorem dX6_rate_57 : decode cX6_rate 57 = .ok (.ireturn, 1) := by decide +kernel
theorem dX6_rate_58 : decode cX6_rate 58 = .ok (.aload_n 0, 1) := by decide +kernel
theorem dX6_rate_59 : decode cX6_rate 59 = .ok (.iload_n 2, 1) := by decide +kernel
theorem dX6_rate_60 : decode cX6_rate 60 = .ok (.invokevirtual 196, 3) := by decide +kernel
theorem dX6_rate_63 : decode cX6_rate 63 = .ok (.ireturn, 1) := by decide +kernel
theorem dX6_rate_64 : decode cX6_rate 64 = .ok (.aload_n 0, 1) := by decide +kernel
theorem dX6_rate_65 : decode cX6_rate 65 = .ok (.iload_n 2, 1) := by decide +kernel
theorem dX6_rate_66 : decode cX6_rate 66 = .ok (.invokevirtual 199, 3) := by decide +kernel
theorem dX6_rate_69 : decode cX6_rate 69 = .ok (.ireturn, 1) := by decide +kernel
theorem dX6_rate_70 : decode cX6_rate 70 = .ok (.aload_n 0, 1) := by decide +kernel
theorem dX6_rate_71 : decode cX6_rate 71 = .ok (.iload_n 2, 1) := by decide +kernel
theorem dX6_rate_72 : decode cX6_rate 72 = .ok (.invokevirtual 202, 3) := by decide +kernel
theorem dX6_rate_75 : decode cX6_rate 75 = .ok (.ireturn, 1) := by decide +kernel
theorem dX6_rate_76 : decode cX6_rate 76 = .ok (.aload_n 0, 1) := by decide +kernel
theorem dX6_rate_77 : decode cX6_rate 77 = .ok (.iload_n 2, 1) := by decide +kernel
theorem dX6_rate_78 : decode cX6_rate 78 = .ok (.invokevirtual 205, 3) := by decide +kernel
theorem dX6_rate_81 : decode cX6_rate 81 = .ok (.ireturn, 1) := by decide +kernel
theorem dX6_rate_82 : decode cX6_rate 82 = .ok (.aload_n 0, 1) := by decide +kernel
theorem dX6_rate_83 : decode cX6_rate 83 = .ok (.iload_n 2, 1) := by decide +kernel
theorem dX6_rate_84 : decode cX6_rate 84 = .ok (.invokevirtual 208, 3) := by decide +kernel
theorem dX6_rate_87 : decode cX6_rate 87 = .ok (.ireturn, 1) := by decide +kernel
theorem dX6_rate_88 : decode cX6_rate 88 = .ok (.ldc 84, 2) := by decide +kernel
theorem dX6_rate_90 : decode cX6_rate 90 = .ok (.ireturn, 1) := by decide +kernel
theorem dX6_keep_0 : decode cX6_keep 0 = .ok (.iload_n 1, 1) := by decide +kernel
theorem dX6_keep_1 : decode cX6_keep 1 = .ok (.invokestatic 161, 3) := by decide +kernel
theorem dX6_keep_4 : decode cX6_keep 4 = .ok (.ifCond .ne 5, 3) := by decide +kernel
theorem dX6_keep_7 : decode cX6_keep 7 = .ok (.iconst (-1), 1) := by decide +kernel
theorem dX6_keep_8 : decode cX6_keep 8 = .ok (.ireturn, 1) := by decide +kernel
theorem dX6_keep_9 : decode cX6_keep 9 = .ok (.aload_n 0, 1) := by decide +kernel
theorem dX6_keep_10 : decode cX6_keep 10 = .ok (.iload_n 1, 1) := by decide +kernel
theorem dX6_keep_11 : decode cX6_keep 11 = .ok (.invokevirtual 211, 3) := by decide +kernel
theorem dX6_keep_14 : decode cX6_keep 14 = .ok (.astore_n 2, 1) := by decide +kernel
theorem dX6_keep_15 : decode cX6_keep 15 = .ok (.aload_n 2, 1) := by decide +kernel
theorem dX6_keep_16 : decode cX6_keep 16 = .ok (.getfield 215, 3) := by decide +kernel
theorem dX6_keep_19 : decode cX6_keep 19 = .ok (.aload_n 0, 1) := by decide +kernel
theorem dX6_keep_20 : decode cX6_keep 20 = .ok (.getfield 26, 3) := by decide +kernel
theorem dX6_keep_23 : decode cX6_keep 23 = .ok (.invokevirtual 218, 3) := by decide +kernel
theorem dX6_keep_26 : decode cX6_keep 26 = .ok (.aload_n 2, 1) := by decide +kernel
theorem dX6_keep_27 : decode cX6_keep 27 = .ok (.iconst 1, 1) := by decide +kernel
theorem dX6_keep_28 : decode cX6_keep 28 = .ok (.putfield 73, 3) := by decide +kernel
theorem dX6_keep_31 : decode cX6_keep 31 = .ok (.aload_n 0, 1) := by decide +kernel
theorem dX6_keep_32 : decode cX6_keep 32 = .ok (.getfield 26, 3) := by decide +kernel
theorem dX6_keep_35 : decode cX6_keep 35 = .ok (.getfield 134, 3) := by decide +kernel
theorem dX6_keep_38 : decode cX6_keep 38 = .ok (.ireturn, 1) := by decide +kernel
theorem dX6_back_0 : decode cX6_back 0 = .ok (.iload_n 1, 1) := by decide +kernel
theorem dX6_back_1 : decode cX6_back 1 = .ok (.invokestatic 161, 3) := by decide +kernel
theorem dX6_back_4 : decode cX6_back 4 = .ok (.ifCond .ne 5, 3) := by decide +kernel
theorem dX6_back_7 : decode cX6_back 7 = .ok (.iconst (-1), 1) := by decide +kernel
theorem dX6_back_8 : decode cX6_back 8 = .ok (.ireturn, 1) := by decide +kernel
theorem dX6_back_9 : decode cX6_back 9 = .ok (.aload_n 0, 1) := by decide +kernel
theorem dX6_back_10 : decode cX6_back 10 = .ok (.iload_n 1, 1) := by decide +kernel
theorem dX6_back_11 : decode cX6_back 11 = .ok (.invokevirtual 211, 3) := by decide +kernel
theorem dX6_back_14 : decode cX6_back 14 = .ok (.astore_n 2, 1) := by decide +kernel
theorem dX6_back_15 : decode cX6_back 15 = .ok (.aload_n 2, 1) := by decide +kernel
theorem dX6_back_16 : decode cX6_back 16 = .ok (.getfield 73, 3) := by decide +kernel
theorem dX6_back_19 : decode cX6_back 19 = .ok (.ifCond .ne 6, 3) := by decide +kernel
theorem dX6_back_22 : decode cX6_back 22 = .ok (.bipush (-2), 2) := by decide +kernel
theorem dX6_back_24 : decode cX6_back 24 = .ok (.ireturn, 1) := by decide +kernel
theorem dX6_back_25 : decode cX6_back 25 = .ok (.aload_n 0, 1) := by decide +kernel
theorem dX6_back_26 : decode cX6_back 26 = .ok (.getfield 26, 3) := by decide +kernel
theorem dX6_back_29 : decode cX6_back 29 = .ok (.aload_n 2, 1) := by decide +kernel
theorem dX6_back_30 : decode cX6_back 30 = .ok (.getfield 215, 3) := by decide +kernel
theorem dX6_back_33 : decode cX6_back 33 = .ok (.invokevirtual 218, 3) := by decide +kernel
theorem dX6_back_36 : decode cX6_back 36 = .ok (.aload_n 0, 1) := by decide +kernel
theorem dX6_back_37 : decode cX6_back 37 = .ok (.getfield 26, 3) := by decide +kernel
theorem dX6_back_40 : decode cX6_back 40 = .ok (.getfield 134, 3) := by decide +kernel
theorem dX6_back_43 : decode cX6_back 43 = .ok (.ireturn, 1) := by decide +kernel
theorem dX6_count_0 : decode cX6_count 0 = .ok (.iload_n 1, 1) := by decide +kernel
theorem dX6_count_1 : decode cX6_count 1 = .ok (.tableswitch 63 0 3 #[31, 39, 47, 55], 31) := by decide +kernel
theorem dX6_count_32 : decode cX6_count 32 = .ok (.aload_n 0, 1) := by decide +kernel
theorem dX6_count_33 : decode cX6_count 33 = .ok (.getfield 50, 3) := by decide +kernel
theorem dX6_count_36 : decode cX6_count 36 = .ok (.getfield 120, 3) := by decide +kernel
theorem dX6_count_39 : decode cX6_count 39 = .ok (.ireturn, 1) := by decide +kernel
theorem dX6_count_40 : decode cX6_count 40 = .ok (.aload_n 0, 1) := by decide +kernel
theorem dX6_count_41 : decode cX6_count 41 = .ok (.getfield 26, 3) := by decide +kernel
theorem dX6_count_44 : decode cX6_count 44 = .ok (.invokevirtual 149, 3) := by decide +kernel
theorem dX6_count_47 : decode cX6_count 47 = .ok (.ireturn, 1) := by decide +kernel
theorem dX6_count_48 : decode cX6_count 48 = .ok (.aload_n 0, 1) := by decide +kernel
theorem dX6_count_49 : decode cX6_count 49 = .ok (.getfield 50, 3) := by decide +kernel
theorem dX6_count_52 : decode cX6_count 52 = .ok (.invokevirtual 222, 3) := by decide +kernel
theorem dX6_count_55 : decode cX6_count 55 = .ok (.ireturn, 1) := by decide +kernel
theorem dX6_count_56 : decode cX6_count 56 = .ok (.aload_n 0, 1) := by decide +kernel
theorem dX6_count_57 : decode cX6_count 57 = .ok (.getfield 10, 3) := by decide +kernel
theorem dX6_count_60 : decode cX6_count 60 = .ok (.getfield 61, 3) := by decide +kernel
theorem dX6_count_63 : decode cX6_count 63 = .ok (.ireturn, 1) := by decide +kernel
theorem dX6_count_64 : decode cX6_count 64 = .ok (.iconst (-1), 1) := by decide +kernel
theorem dX6_count_65 : decode cX6_count 65 = .ok (.ireturn, 1) := by decide +kernel
theorem dX6_trace_0 : decode cX6_trace 0 = .ok (.aload_n 0, 1) := by decide +kernel
theorem dX6_trace_1 : decode cX6_trace 1 = .ok (.getfield 225, 3) := by decide +kernel
theorem dX6_trace_4 : decode cX6_trace 4 = .ok (.lreturn, 1) := by decide +kernel
theorem dX6_asPerson_0 : decode cX6_asPerson 0 = .ok (.aload_n 0, 1) := by decide +kernel
theorem dX6_asPerson_1 : decode cX6_asPerson 1 = .ok (.dup, 1) := by decide +kernel
theorem dX6_asPerson_2 : decode cX6_asPerson 2 = .ok (.getfield 225, 3) := by decide +kernel
theorem dX6_asPerson_5 : decode cX6_asPerson 5 = .ok (.lconst 1, 1) := by decide +kernel
theorem dX6_asPerson_6 : decode cX6_asPerson 6 = .ok (.ladd, 1) := by decide +kernel
theorem dX6_asPerson_7 : decode cX6_asPerson 7 = .ok (.putfield 225, 3) := by decide +kernel
theorem dX6_asPerson_10 : decode cX6_asPerson 10 = .ok (.aload_n 0, 1) := by decide +kernel
theorem dX6_asPerson_11 : decode cX6_asPerson 11 = .ok (.getfield 26, 3) := by decide +kernel
theorem dX6_asPerson_14 : decode cX6_asPerson 14 = .ok (.getfield 93, 3) := by decide +kernel
theorem dX6_asPerson_17 : decode cX6_asPerson 17 = .ok (.iload_n 1, 1) := by decide +kernel
theorem dX6_asPerson_18 : decode cX6_asPerson 18 = .ok (.invokestatic 97, 3) := by decide +kernel
theorem dX6_asPerson_21 : decode cX6_asPerson 21 = .ok (.ireturn, 1) := by decide +kernel
theorem dX6_asShy_0 : decode cX6_asShy 0 = .ok (.aload_n 0, 1) := by decide +kernel
theorem dX6_asShy_1 : decode cX6_asShy 1 = .ok (.dup, 1) := by decide +kernel
theorem dX6_asShy_2 : decode cX6_asShy 2 = .ok (.getfield 225, 3) := by decide +kernel
theorem dX6_asShy_5 : decode cX6_asShy 5 = .ok (.ldc2_w 229, 3) := by decide +kernel
theorem dX6_asShy_8 : decode cX6_asShy 8 = .ok (.ladd, 1) := by decide +kernel
theorem dX6_asShy_9 : decode cX6_asShy 9 = .ok (.putfield 225, 3) := by decide +kernel
theorem dX6_asShy_12 : decode cX6_asShy 12 = .ok (.aload_n 0, 1) := by decide +kernel
theorem dX6_asShy_13 : decode cX6_asShy 13 = .ok (.iload_n 1, 1) := by decide +kernel
theorem dX6_asShy_14 : decode cX6_asShy 14 = .ok (.invokevirtual 193, 3) := by decide +kernel
theorem dX6_asShy_17 : decode cX6_asShy 17 = .ok (.aload_n 0, 1) := by decide +kernel
theorem dX6_asShy_18 : decode cX6_asShy 18 = .ok (.getfield 26, 3) := by decide +kernel
theorem dX6_asShy_21 : decode cX6_asShy 21 = .ok (.iload_n 1, 1) := by decide +kernel
theorem dX6_asShy_22 : decode cX6_asShy 22 = .ok (.invokevirtual 101, 3) := by decide +kernel
theorem dX6_asShy_25 : decode cX6_asShy 25 = .ok (.isub, 1) := by decide +kernel
theorem dX6_asShy_26 : decode cX6_asShy 26 = .ok (.ireturn, 1) := by decide +kernel
theorem dX6_asKnown_0 : decode cX6_asKnown 0 = .ok (.aload_n 0, 1) := by decide +kernel
theorem dX6_asKnown_1 : decode cX6_asKnown 1 = .ok (.dup, 1) := by decide +kernel
theorem dX6_asKnown_2 : decode cX6_asKnown 2 = .ok (.getfield 225, 3) := by decide +kernel
theorem dX6_asKnown_5 : decode cX6_asKnown 5 = .ok (.ldc2_w 231, 3) := by decide +kernel
theorem dX6_asKnown_8 : decode cX6_asKnown 8 = .ok (.ladd, 1) := by decide +kernel
theorem dX6_asKnown_9 : decode cX6_asKnown 9 = .ok (.putfield 225, 3) := by decide +kernel
theorem dX6_asKnown_12 : decode cX6_asKnown 12 = .ok (.aload_n 0, 1) := by decide +kernel
theorem dX6_asKnown_13 : decode cX6_asKnown 13 = .ok (.iload_n 1, 1) := by decide +kernel
theorem dX6_asKnown_14 : decode cX6_asKnown 14 = .ok (.invokevirtual 193, 3) := by decide +kernel
theorem dX6_asKnown_17 : decode cX6_asKnown 17 = .ok (.aload_n 0, 1) := by decide +kernel
theorem dX6_asKnown_18 : decode cX6_asKnown 18 = .ok (.getfield 26, 3) := by decide +kernel
theorem dX6_asKnown_21 : decode cX6_asKnown 21 = .ok (.getfield 108, 3) := by decide +kernel
theorem dX6_asKnown_24 : decode cX6_asKnown 24 = .ok (.iload_n 1, 1) := by decide +kernel
theorem dX6_asKnown_25 : decode cX6_asKnown 25 = .ok (.invokestatic 97, 3) := by decide +kernel
theorem dX6_asKnown_28 : decode cX6_asKnown 28 = .ok (.iadd, 1) := by decide +kernel
theorem dX6_asKnown_29 : decode cX6_asKnown 29 = .ok (.ireturn, 1) := by decide +kernel
theorem dX6_asMayor_0 : decode cX6_asMayor 0 = .ok (.aload_n 0, 1) := by decide +kernel
theorem dX6_asMayor_1 : decode cX6_asMayor 1 = .ok (.dup, 1) := by decide +kernel
theorem dX6_asMayor_2 : decode cX6_asMayor 2 = .ok (.getfield 225, 3) := by decide +kernel
theorem dX6_asMayor_5 : decode cX6_asMayor 5 = .ok (.ldc2_w 233, 3) := by decide +kernel
theorem dX6_asMayor_8 : decode cX6_asMayor 8 = .ok (.ladd, 1) := by decide +kernel
theorem dX6_asMayor_9 : decode cX6_asMayor 9 = .ok (.putfield 225, 3) := by decide +kernel
theorem dX6_asMayor_12 : decode cX6_asMayor 12 = .ok (.iconst 2, 1) := by decide +kernel
theorem dX6_asMayor_13 : decode cX6_asMayor 13 = .ok (.aload_n 0, 1) := by decide +kernel
theorem dX6_asMayor_14 : decode cX6_asMayor 14 = .ok (.iload_n 1, 1) := by decide +kernel
theorem dX6_asMayor_15 : decode cX6_asMayor 15 = .ok (.invokevirtual 199, 3) := by decide +kernel
theorem dX6_asMayor_18 : decode cX6_asMayor 18 = .ok (.imul, 1) := by decide +kernel
theorem dX6_asMayor_19 : decode cX6_asMayor 19 = .ok (.ireturn, 1) := by decide +kernel
theorem dX6_asHermit_0 : decode cX6_asHermit 0 = .ok (.aload_n 0, 1) := by decide +kernel
theorem dX6_asHermit_1 : decode cX6_asHermit 1 = .ok (.dup, 1) := by decide +kernel
theorem dX6_asHermit_2 : decode cX6_asHermit 2 = .ok (.getfield 225, 3) := by decide +kernel
theorem dX6_asHermit_5 : decode cX6_asHermit 5 = .ok (.ldc2_w 235, 3) := by decide +kernel
theorem dX6_asHermit_8 : decode cX6_asHermit 8 = .ok (.ladd, 1) := by decide +kernel
theorem dX6_asHermit_9 : decode cX6_asHermit 9 = .ok (.putfield 225, 3) := by decide +kernel
theorem dX6_asHermit_12 : decode cX6_asHermit 12 = .ok (.aload_n 0, 1) := by decide +kernel
theorem dX6_asHermit_13 : decode cX6_asHermit 13 = .ok (.iload_n 1, 1) := by decide +kernel
theorem dX6_asHermit_14 : decode cX6_asHermit 14 = .ok (.invokevirtual 196, 3) := by decide +kernel
theorem dX6_asHermit_17 : decode cX6_asHermit 17 = .ok (.iload_n 1, 1) := by decide +kernel
theorem dX6_asHermit_18 : decode cX6_asHermit 18 = .ok (.iadd, 1) := by decide +kernel
theorem dX6_asHermit_19 : decode cX6_asHermit 19 = .ok (.ireturn, 1) := by decide +kernel
theorem dX6_asStranger_0 : decode cX6_asStranger 0 = .ok (.aload_n 0, 1) := by decide +kernel
theorem dX6_asStranger_1 : decode cX6_asStranger 1 = .ok (.dup, 1) := by decide +kernel
theorem dX6_asStranger_2 : decode cX6_asStranger 2 = .ok (.getfield 225, 3) := by decide +kernel
theorem dX6_asStranger_5 : decode cX6_asStranger 5 = .ok (.ldc2_w 237, 3) := by decide +kernel
theorem dX6_asStranger_8 : decode cX6_asStranger 8 = .ok (.ladd, 1) := by decide +kernel
theorem dX6_asStranger_9 : decode cX6_asStranger 9 = .ok (.putfield 225, 3) := by decide +kernel
theorem dX6_asStranger_12 : decode cX6_asStranger 12 = .ok (.aload_n 0, 1) := by decide +kernel
theorem dX6_asStranger_13 : decode cX6_asStranger 13 = .ok (.iload_n 1, 1) := by decide +kernel
theorem dX6_asStranger_14 : decode cX6_asStranger 14 = .ok (.invokevirtual 193, 3) := by decide +kernel
theorem dX6_asStranger_17 : decode cX6_asStranger 17 = .ok (.aload_n 0, 1) := by decide +kernel
theorem dX6_asStranger_18 : decode cX6_asStranger 18 = .ok (.getfield 26, 3) := by decide +kernel
theorem dX6_asStranger_21 : decode cX6_asStranger 21 = .ok (.getfield 134, 3) := by decide +kernel
theorem dX6_asStranger_24 : decode cX6_asStranger 24 = .ok (.isub, 1) := by decide +kernel
theorem dX6_asStranger_25 : decode cX6_asStranger 25 = .ok (.ireturn, 1) := by decide +kernel
theorem dX6_isPerson_0 : decode cX6_isPerson 0 = .ok (.iload_n 1, 1) := by decide +kernel
theorem dX6_isPerson_1 : decode cX6_isPerson 1 = .ok (.ifCond .lt 18, 3) := by decide +kernel
theorem dX6_isPerson_4 : decode cX6_isPerson 4 = .ok (.iload_n 1, 1) := by decide +kernel
theorem dX6_isPerson_5 : decode cX6_isPerson 5 = .ok (.aload_n 0, 1) := by decide +kernel
theorem dX6_isPerson_6 : decode cX6_isPerson 6 = .ok (.getfield 50, 3) := by decide +kernel
theorem dX6_isPerson_9 : decode cX6_isPerson 9 = .ok (.getfield 120, 3) := by decide +kernel
theorem dX6_isPerson_12 : decode cX6_isPerson 12 = .ok (.if_icmp .ge 7, 3) := by decide +kernel
theorem dX6_isPerson_15 : decode cX6_isPerson 15 = .ok (.iconst 1, 1) := by decide +kernel
theorem dX6_isPerson_16 : decode cX6_isPerson 16 = .ok (.goto 4, 3) := by decide +kernel
theorem dX6_isPerson_19 : decode cX6_isPerson 19 = .ok (.iconst 0, 1) := by decide +kernel
theorem dX6_isPerson_20 : decode cX6_isPerson 20 = .ok (.ireturn, 1) := by decide +kernel
theorem dX6_isPair_0 : decode cX6_isPair 0 = .ok (.aload_n 0, 1) := by decide +kernel
theorem dX6_isPair_1 : decode cX6_isPair 1 = .ok (.iload_n 1, 1) := by decide +kernel
theorem dX6_isPair_2 : decode cX6_isPair 2 = .ok (.invokevirtual 89, 3) := by decide +kernel
theorem dX6_isPair_5 : decode cX6_isPair 5 = .ok (.ifCond .eq 20, 3) := by decide +kernel
theorem dX6_isPair_8 : decode cX6_isPair 8 = .ok (.aload_n 0, 1) := by decide +kernel
theorem dX6_isPair_9 : decode cX6_isPair 9 = .ok (.iload_n 2, 1) := by decide +kernel
theorem dX6_isPair_10 : decode cX6_isPair 10 = .ok (.invokevirtual 89, 3) := by decide +kernel
theorem dX6_isPair_13 : decode cX6_isPair 13 = .ok (.ifCond .eq 12, 3) := by decide +kernel
theorem dX6_isPair_16 : decode cX6_isPair 16 = .ok (.iload_n 1, 1) := by decide +kernel
theorem dX6_isPair_17 : decode cX6_isPair 17 = .ok (.iload_n 2, 1) := by decide +kernel
theorem dX6_isPair_18 : decode cX6_isPair 18 = .ok (.if_icmp .eq 7, 3) := by decide +kernel
theorem dX6_isPair_21 : decode cX6_isPair 21 = .ok (.iconst 1, 1) := by decide +kernel
theorem dX6_isPair_22 : decode cX6_isPair 22 = .ok (.goto 4, 3) := by decide +kernel
theorem dX6_isPair_25 : decode cX6_isPair 25 = .ok (.iconst 0, 1) := by decide +kernel
theorem dX6_isPair_26 : decode cX6_isPair 26 = .ok (.ireturn, 1) := by decide +kernel
theorem dX6_isChoice_0 : decode cX6_isChoice 0 = .ok (.iload_n 0, 1) := by decide +kernel
theorem dX6_isChoice_1 : decode cX6_isChoice 1 = .ok (.ifCond .eq 8, 3) := by decide +kernel
theorem dX6_isChoice_4 : decode cX6_isChoice 4 = .ok (.iload_n 0, 1) := by decide +kernel
theorem dX6_isChoice_5 : decode cX6_isChoice 5 = .ok (.iconst 1, 1) := by decide +kernel
theorem dX6_isChoice_6 : decode cX6_isChoice 6 = .ok (.if_icmp .ne 7, 3) := by decide +kernel
theorem dX6_isChoice_9 : decode cX6_isChoice 9 = .ok (.iconst 1, 1) := by decide +kernel
theorem dX6_isChoice_10 : decode cX6_isChoice 10 = .ok (.goto 4, 3) := by decide +kernel
theorem dX6_isChoice_13 : decode cX6_isChoice 13 = .ok (.iconst 0, 1) := by decide +kernel
theorem dX6_isChoice_14 : decode cX6_isChoice 14 = .ok (.ireturn, 1) := by decide +kernel
theorem dX6_imageOf_0 : decode cX6_imageOf 0 = .ok (.iload_n 1, 1) := by decide +kernel
theorem dX6_imageOf_1 : decode cX6_imageOf 1 = .ok (.ifCond .ne 10, 3) := by decide +kernel
theorem dX6_imageOf_4 : decode cX6_imageOf 4 = .ok (.aload_n 0, 1) := by decide +kernel
theorem dX6_imageOf_5 : decode cX6_imageOf 5 = .ok (.getfield 33, 3) := by decide +kernel
theorem dX6_imageOf_8 : decode cX6_imageOf 8 = .ok (.goto 7, 3) := by decide +kernel
theorem dX6_imageOf_11 : decode cX6_imageOf 11 = .ok (.aload_n 0, 1) := by decide +kernel
theorem dX6_imageOf_12 : decode cX6_imageOf 12 = .ok (.getfield 37, 3) := by decide +kernel
theorem dX6_imageOf_15 : decode cX6_imageOf 15 = .ok (.areturn, 1) := by decide +kernel
theorem dX6_at_0 : decode cX6_at 0 = .ok (.iload_n 1, 1) := by decide +kernel
theorem dX6_at_1 : decode cX6_at 1 = .ok (.ifCond .lt 15, 3) := by decide +kernel
theorem dX6_at_4 : decode cX6_at 4 = .ok (.iload_n 1, 1) := by decide +kernel
theorem dX6_at_5 : decode cX6_at 5 = .ok (.aload_n 0, 1) := by decide +kernel
theorem dX6_at_6 : decode cX6_at 6 = .ok (.arraylength, 1) := by decide +kernel
theorem dX6_at_7 : decode cX6_at 7 = .ok (.if_icmp .ge 9, 3) := by decide +kernel
theorem dX6_at_10 : decode cX6_at 10 = .ok (.aload_n 0, 1) := by decide +kernel
theorem dX6_at_11 : decode cX6_at 11 = .ok (.iload_n 1, 1) := by decide +kernel
theorem dX6_at_12 : decode cX6_at 12 = .ok (.iaload, 1) := by decide +kernel
theorem dX6_at_13 : decode cX6_at 13 = .ok (.goto 4, 3) := by decide +kernel
theorem dX6_at_16 : decode cX6_at 16 = .ok (.iconst 0, 1) := by decide +kernel
theorem dX6_at_17 : decode cX6_at 17 = .ok (.ireturn, 1) := by decide +kernel
theorem dX6_put_0 : decode cX6_put 0 = .ok (.iload_n 1, 1) := by decide +kernel
theorem dX6_put_1 : decode cX6_put 1 = .ok (.ifCond .lt 13, 3) := by decide +kernel
theorem dX6_put_4 : decode cX6_put 4 = .ok (.iload_n 1, 1) := by decide +kernel
theorem dX6_put_5 : decode cX6_put 5 = .ok (.aload_n 0, 1) := by decide +kernel
theorem dX6_put_6 : decode cX6_put 6 = .ok (.arraylength, 1) := by decide +kernel
theorem dX6_put_7 : decode cX6_put 7 = .ok (.if_icmp .ge 7, 3) := by decide +kernel
theorem dX6_put_10 : decode cX6_put 10 = .ok (.aload_n 0, 1) := by decide +kernel
theorem dX6_put_11 : decode cX6_put 11 = .ok (.iload_n 1, 1) := by decide +kernel
theorem dX6_put_12 : decode cX6_put 12 = .ok (.iload_n 2, 1) := by decide +kernel
theorem dX6_put_13 : decode cX6_put 13 = .ok (.iastore, 1) := by decide +kernel
theorem dX6_put_14 : decode cX6_put 14 = .ok (.return_, 1) := by decide +kernel
theorem dX6_copy_0 : decode cX6_copy 0 = .ok (.iconst 0, 1) := by decide +kernel
theorem dX6_copy_1 : decode cX6_copy 1 = .ok (.istore_n 2, 1) := by decide +kernel
theorem dX6_copy_2 : decode cX6_copy 2 = .ok (.iload_n 2, 1) := by decide +kernel
theorem dX6_copy_3 : decode cX6_copy 3 = .ok (.aload_n 0, 1) := by decide +kernel
theorem dX6_copy_4 : decode cX6_copy 4 = .ok (.arraylength, 1) := by decide +kernel
theorem dX6_copy_5 : decode cX6_copy 5 = .ok (.if_icmp .ge 21, 3) := by decide +kernel
theorem dX6_copy_8 : decode cX6_copy 8 = .ok (.iload_n 2, 1) := by decide +kernel
theorem dX6_copy_9 : decode cX6_copy 9 = .ok (.aload_n 1, 1) := by decide +kernel
theorem dX6_copy_10 : decode cX6_copy 10 = .ok (.arraylength, 1) := by decide +kernel
theorem dX6_copy_11 : decode cX6_copy 11 = .ok (.if_icmp .ge 15, 3) := by decide +kernel
theorem dX6_copy_14 : decode cX6_copy 14 = .ok (.aload_n 1, 1) := by decide +kernel
theorem dX6_copy_15 : decode cX6_copy 15 = .ok (.iload_n 2, 1) := by decide +kernel
theorem dX6_copy_16 : decode cX6_copy 16 = .ok (.aload_n 0, 1) := by decide +kernel
theorem dX6_copy_17 : decode cX6_copy 17 = .ok (.iload_n 2, 1) := by decide +kernel
theorem dX6_copy_18 : decode cX6_copy 18 = .ok (.iaload, 1) := by decide +kernel
theorem dX6_copy_19 : decode cX6_copy 19 = .ok (.iastore, 1) := by decide +kernel
theorem dX6_copy_20 : decode cX6_copy 20 = .ok (.iinc 2 1, 3) := by decide +kernel
theorem dX6_copy_23 : decode cX6_copy 23 = .ok (.goto (-21), 3) := by decide +kernel
theorem dX6_copy_26 : decode cX6_copy 26 = .ok (.return_, 1) := by decide +kernel
theorem dX6_fill_0 : decode cX6_fill 0 = .ok (.iconst 0, 1) := by decide +kernel
theorem dX6_fill_1 : decode cX6_fill 1 = .ok (.istore_n 2, 1) := by decide +kernel
theorem dX6_fill_2 : decode cX6_fill 2 = .ok (.iload_n 2, 1) := by decide +kernel
theorem dX6_fill_3 : decode cX6_fill 3 = .ok (.aload_n 0, 1) := by decide +kernel
theorem dX6_fill_4 : decode cX6_fill 4 = .ok (.arraylength, 1) := by decide +kernel
theorem dX6_fill_5 : decode cX6_fill 5 = .ok (.if_icmp .ge 13, 3) := by decide +kernel
theorem dX6_fill_8 : decode cX6_fill 8 = .ok (.aload_n 0, 1) := by decide +kernel
theorem dX6_fill_9 : decode cX6_fill 9 = .ok (.iload_n 2, 1) := by decide +kernel
theorem dX6_fill_10 : decode cX6_fill 10 = .ok (.iload_n 1, 1) := by decide +kernel
theorem dX6_fill_11 : decode cX6_fill 11 = .ok (.iastore, 1) := by decide +kernel
theorem dX6_fill_12 : decode cX6_fill 12 = .ok (.iinc 2 1, 3) := by decide +kernel
theorem dX6_fill_15 : decode cX6_fill 15 = .ok (.goto (-13), 3) := by decide +kernel
theorem dX6_fill_18 : decode cX6_fill 18 = .ok (.return_, 1) := by decide +kernel
theorem dJ6_bitCount_0f7a4_0 : decode cJ6_bitCount_0f7a4 0 = .ok (.iload_n 0, 1) := by decide +kernel
theorem dJ6_bitCount_0f7a4_1 : decode cJ6_bitCount_0f7a4 1 = .ok (.iload_n 0, 1) := by decide +kernel
theorem dJ6_bitCount_0f7a4_2 : decode cJ6_bitCount_0f7a4 2 = .ok (.iconst 1, 1) := by decide +kernel
theorem dJ6_bitCount_0f7a4_3 : decode cJ6_bitCount_0f7a4 3 = .ok (.iushr, 1) := by decide +kernel
theorem dJ6_bitCount_0f7a4_4 : decode cJ6_bitCount_0f7a4 4 = .ok (.ldc_w 265, 3) := by decide +kernel
theorem dJ6_bitCount_0f7a4_7 : decode cJ6_bitCount_0f7a4 7 = .ok (.iand, 1) := by decide +kernel
theorem dJ6_bitCount_0f7a4_8 : decode cJ6_bitCount_0f7a4 8 = .ok (.isub, 1) := by decide +kernel
theorem dJ6_bitCount_0f7a4_9 : decode cJ6_bitCount_0f7a4 9 = .ok (.istore_n 0, 1) := by decide +kernel
theorem dJ6_bitCount_0f7a4_10 : decode cJ6_bitCount_0f7a4 10 = .ok (.iload_n 0, 1) := by decide +kernel
theorem dJ6_bitCount_0f7a4_11 : decode cJ6_bitCount_0f7a4 11 = .ok (.ldc_w 266, 3) := by decide +kernel
theorem dJ6_bitCount_0f7a4_14 : decode cJ6_bitCount_0f7a4 14 = .ok (.iand, 1) := by decide +kernel
theorem dJ6_bitCount_0f7a4_15 : decode cJ6_bitCount_0f7a4 15 = .ok (.iload_n 0, 1) := by decide +kernel
theorem dJ6_bitCount_0f7a4_16 : decode cJ6_bitCount_0f7a4 16 = .ok (.iconst 2, 1) := by decide +kernel
theorem dJ6_bitCount_0f7a4_17 : decode cJ6_bitCount_0f7a4 17 = .ok (.iushr, 1) := by decide +kernel
theorem dJ6_bitCount_0f7a4_18 : decode cJ6_bitCount_0f7a4 18 = .ok (.ldc_w 266, 3) := by decide +kernel
theorem dJ6_bitCount_0f7a4_21 : decode cJ6_bitCount_0f7a4 21 = .ok (.iand, 1) := by decide +kernel
theorem dJ6_bitCount_0f7a4_22 : decode cJ6_bitCount_0f7a4 22 = .ok (.iadd, 1) := by decide +kernel
theorem dJ6_bitCount_0f7a4_23 : decode cJ6_bitCount_0f7a4 23 = .ok (.istore_n 0, 1) := by decide +kernel
theorem dJ6_bitCount_0f7a4_24 : decode cJ6_bitCount_0f7a4 24 = .ok (.iload_n 0, 1) := by decide +kernel
theorem dJ6_bitCount_0f7a4_25 : decode cJ6_bitCount_0f7a4 25 = .ok (.iload_n 0, 1) := by decide +kernel
theorem dJ6_bitCount_0f7a4_26 : decode cJ6_bitCount_0f7a4 26 = .ok (.iconst 4, 1) := by decide +kernel
theorem dJ6_bitCount_0f7a4_27 : decode cJ6_bitCount_0f7a4 27 = .ok (.iushr, 1) := by decide +kernel
theorem dJ6_bitCount_0f7a4_28 : decode cJ6_bitCount_0f7a4 28 = .ok (.iadd, 1) := by decide +kernel
theorem dJ6_bitCount_0f7a4_29 : decode cJ6_bitCount_0f7a4 29 = .ok (.ldc_w 267, 3) := by decide +kernel
theorem dJ6_bitCount_0f7a4_32 : decode cJ6_bitCount_0f7a4 32 = .ok (.iand, 1) := by decide +kernel
theorem dJ6_bitCount_0f7a4_33 : decode cJ6_bitCount_0f7a4 33 = .ok (.istore_n 0, 1) := by decide +kernel
theorem dJ6_bitCount_0f7a4_34 : decode cJ6_bitCount_0f7a4 34 = .ok (.iload_n 0, 1) := by decide +kernel
theorem dJ6_bitCount_0f7a4_35 : decode cJ6_bitCount_0f7a4 35 = .ok (.iload_n 0, 1) := by decide +kernel
theorem dJ6_bitCount_0f7a4_36 : decode cJ6_bitCount_0f7a4 36 = .ok (.bipush 8, 2) := by decide +kernel
theorem dJ6_bitCount_0f7a4_38 : decode cJ6_bitCount_0f7a4 38 = .ok (.iushr, 1) := by decide +kernel
theorem dJ6_bitCount_0f7a4_39 : decode cJ6_bitCount_0f7a4 39 = .ok (.iadd, 1) := by decide +kernel
theorem dJ6_bitCount_0f7a4_40 : decode cJ6_bitCount_0f7a4 40 = .ok (.istore_n 0, 1) := by decide +kernel
theorem dJ6_bitCount_0f7a4_41 : decode cJ6_bitCount_0f7a4 41 = .ok (.iload_n 0, 1) := by decide +kernel
theorem dJ6_bitCount_0f7a4_42 : decode cJ6_bitCount_0f7a4 42 = .ok (.iload_n 0, 1) := by decide +kernel
theorem dJ6_bitCount_0f7a4_43 : decode cJ6_bitCount_0f7a4 43 = .ok (.bipush 16, 2) := by decide +kernel
theorem dJ6_bitCount_0f7a4_45 : decode cJ6_bitCount_0f7a4 45 = .ok (.iushr, 1) := by decide +kernel
theorem dJ6_bitCount_0f7a4_46 : decode cJ6_bitCount_0f7a4 46 = .ok (.iadd, 1) := by decide +kernel
theorem dJ6_bitCount_0f7a4_47 : decode cJ6_bitCount_0f7a4 47 = .ok (.istore_n 0, 1) := by decide +kernel
theorem dJ6_bitCount_0f7a4_48 : decode cJ6_bitCount_0f7a4 48 = .ok (.iload_n 0, 1) := by decide +kernel
theorem dJ6_bitCount_0f7a4_49 : decode cJ6_bitCount_0f7a4 49 = .ok (.bipush 63, 2) := by decide +kernel
theorem dJ6_bitCount_0f7a4_51 : decode cJ6_bitCount_0f7a4 51 = .ok (.iand, 1) := by decide +kernel
theorem dJ6_bitCount_0f7a4_52 : decode cJ6_bitCount_0f7a4 52 = .ok (.ireturn, 1) := by decide +kernel
theorem dJ9_min_7cf53_0 : decode cJ9_min_7cf53 0 = .ok (.iload_n 0, 1) := by decide +kernel
theorem dJ9_min_7cf53_1 : decode cJ9_min_7cf53 1 = .ok (.iload_n 1, 1) := by decide +kernel
theorem dJ9_min_7cf53_2 : decode cJ9_min_7cf53 2 = .ok (.if_icmp .gt 7, 3) := by decide +kernel
theorem dJ9_min_7cf53_5 : decode cJ9_min_7cf53 5 = .ok (.iload_n 0, 1) := by decide +kernel
theorem dJ9_min_7cf53_6 : decode cJ9_min_7cf53 6 = .ok (.goto 4, 3) := by decide +kernel
theorem dJ9_min_7cf53_9 : decode cJ9_min_7cf53 9 = .ok (.iload_n 1, 1) := by decide +kernel
theorem dJ9_min_7cf53_10 : decode cJ9_min_7cf53 10 = .ok (.ireturn, 1) := by decide +kernel
theorem dJ0_length_8abf5_0 : decode cJ0_length_8abf5 0 = .ok (.aload_n 0, 1) := by decide +kernel
theorem dJ0_length_8abf5_1 : decode cJ0_length_8abf5 1 = .ok (.getfield 9, 3) := by decide +kernel
theorem dJ0_length_8abf5_4 : decode cJ0_length_8abf5 4 = .ok (.arraylength, 1) := by decide +kernel
theorem dJ0_length_8abf5_5 : decode cJ0_length_8abf5 5 = .ok (.aload_n 0, 1) := by decide +kernel
theorem dJ0_length_8abf5_6 : decode cJ0_length_8abf5 6 = .ok (.invokevirtual 335, 3) := by decide +kernel
theorem dJ0_length_8abf5_9 : decode cJ0_length_8abf5 9 = .ok (.ishr, 1) := by decide +kernel
theorem dJ0_length_8abf5_10 : decode cJ0_length_8abf5 10 = .ok (.ireturn, 1) := by decide +kernel
theorem dJ0_charAt_5068e_0 : decode cJ0_charAt_5068e 0 = .ok (.aload_n 0, 1) := by decide +kernel
theorem dJ0_charAt_5068e_1 : decode cJ0_charAt_5068e 1 = .ok (.invokevirtual 492, 3) := by decide +kernel
theorem dJ0_charAt_5068e_4 : decode cJ0_charAt_5068e 4 = .ok (.ifCond .eq 12, 3) := by decide +kernel
theorem dJ0_charAt_5068e_7 : decode cJ0_charAt_5068e 7 = .ok (.aload_n 0, 1) := by decide +kernel
theorem dJ0_charAt_5068e_8 : decode cJ0_charAt_5068e 8 = .ok (.getfield 9, 3) := by decide +kernel
theorem dJ0_charAt_5068e_11 : decode cJ0_charAt_5068e 11 = .ok (.iload_n 1, 1) := by decide +kernel
theorem dJ0_charAt_5068e_12 : decode cJ0_charAt_5068e 12 = .ok (.invokestatic 495, 3) := by decide +kernel
theorem dJ0_charAt_5068e_15 : decode cJ0_charAt_5068e 15 = .ok (.ireturn, 1) := by decide +kernel
theorem dJ0_charAt_5068e_16 : decode cJ0_charAt_5068e 16 = .ok (.aload_n 0, 1) := by decide +kernel
theorem dJ0_charAt_5068e_17 : decode cJ0_charAt_5068e 17 = .ok (.getfield 9, 3) := by decide +kernel
theorem dJ0_charAt_5068e_20 : decode cJ0_charAt_5068e 20 = .ok (.iload_n 1, 1) := by decide +kernel
theorem dJ0_charAt_5068e_21 : decode cJ0_charAt_5068e 21 = .ok (.invokestatic 498, 3) := by decide +kernel
theorem dJ0_charAt_5068e_24 : decode cJ0_charAt_5068e 24 = .ok (.ireturn, 1) := by decide +kernel
theorem dJ0_coder_7d493_0 : decode cJ0_coder_7d493 0 = .ok (.getstatic 38, 3) := by decide +kernel
theorem dJ0_coder_7d493_3 : decode cJ0_coder_7d493 3 = .ok (.ifCond .eq 10, 3) := by decide +kernel
theorem dJ0_coder_7d493_6 : decode cJ0_coder_7d493 6 = .ok (.aload_n 0, 1) := by decide +kernel
theorem dJ0_coder_7d493_7 : decode cJ0_coder_7d493 7 = .ok (.getfield 15, 3) := by decide +kernel
theorem dJ0_coder_7d493_10 : decode cJ0_coder_7d493 10 = .ok (.goto 4, 3) := by decide +kernel
theorem dJ0_coder_7d493_13 : decode cJ0_coder_7d493 13 = .ok (.iconst 1, 1) := by decide +kernel
theorem dJ0_coder_7d493_14 : decode cJ0_coder_7d493 14 = .ok (.ireturn, 1) := by decide +kernel
theorem dJ0_isLatin1_aae02_0 : decode cJ0_isLatin1_aae02 0 = .ok (.getstatic 38, 3) := by decide +kernel
theorem dJ0_isLatin1_aae02_3 : decode cJ0_isLatin1_aae02 3 = .ok (.ifCond .eq 14, 3) := by decide +kernel
theorem dJ0_isLatin1_aae02_6 : decode cJ0_isLatin1_aae02 6 = .ok (.aload_n 0, 1) := by decide +kernel
theorem dJ0_isLatin1_aae02_7 : decode cJ0_isLatin1_aae02 7 = .ok (.getfield 15, 3) := by decide +kernel
theorem dJ0_isLatin1_aae02_10 : decode cJ0_isLatin1_aae02 10 = .ok (.ifCond .ne 7, 3) := by decide +kernel
theorem dJ0_isLatin1_aae02_13 : decode cJ0_isLatin1_aae02 13 = .ok (.iconst 1, 1) := by decide +kernel
theorem dJ0_isLatin1_aae02_14 : decode cJ0_isLatin1_aae02 14 = .ok (.goto 4, 3) := by decide +kernel
theorem dJ0_isLatin1_aae02_17 : decode cJ0_isLatin1_aae02 17 = .ok (.iconst 0, 1) := by decide +kernel
theorem dJ0_isLatin1_aae02_18 : decode cJ0_isLatin1_aae02 18 = .ok (.ireturn, 1) := by decide +kernel
theorem dJ0_checkIndex_df160_0 : decode cJ0_checkIndex_df160 0 = .ok (.iload_n 0, 1) := by decide +kernel
theorem dJ0_checkIndex_df160_1 : decode cJ0_checkIndex_df160 1 = .ok (.iload_n 1, 1) := by decide +kernel
theorem dJ0_checkIndex_df160_2 : decode cJ0_checkIndex_df160 2 = .ok (.getstatic 1053, 3) := by decide +kernel
theorem dJ0_checkIndex_df160_5 : decode cJ0_checkIndex_df160 5 = .ok (.invokestatic 1059, 3) := by decide +kernel
theorem dJ0_checkIndex_df160_8 : decode cJ0_checkIndex_df160 8 = .ok (.pop, 1) := by decide +kernel
theorem dJ0_checkIndex_df160_9 : decode cJ0_checkIndex_df160 9 = .ok (.return_, 1) := by decide +kernel
theorem dJ1_charAt_3b067_0 : decode cJ1_charAt_3b067 0 = .ok (.iload_n 1, 1) := by decide +kernel
theorem dJ1_charAt_3b067_1 : decode cJ1_charAt_3b067 1 = .ok (.aload_n 0, 1) := by decide +kernel
theorem dJ1_charAt_3b067_2 : decode cJ1_charAt_3b067 2 = .ok (.arraylength, 1) := by decide +kernel
theorem dJ1_charAt_3b067_3 : decode cJ1_charAt_3b067 3 = .ok (.invokestatic 9, 3) := by decide +kernel
theorem dJ1_charAt_3b067_6 : decode cJ1_charAt_3b067 6 = .ok (.aload_n 0, 1) := by decide +kernel
theorem dJ1_charAt_3b067_7 : decode cJ1_charAt_3b067 7 = .ok (.iload_n 1, 1) := by decide +kernel
theorem dJ1_charAt_3b067_8 : decode cJ1_charAt_3b067 8 = .ok (.baload, 1) := by decide +kernel
theorem dJ1_charAt_3b067_9 : decode cJ1_charAt_3b067 9 = .ok (.sipush 255, 3) := by decide +kernel
theorem dJ1_charAt_3b067_12 : decode cJ1_charAt_3b067 12 = .ok (.iand, 1) := by decide +kernel
theorem dJ1_charAt_3b067_13 : decode cJ1_charAt_3b067 13 = .ok (.i2c, 1) := by decide +kernel
theorem dJ1_charAt_3b067_14 : decode cJ1_charAt_3b067 14 = .ok (.ireturn, 1) := by decide +kernel
theorem dJ2_getChar_3b067_0 : decode cJ2_getChar_3b067 0 = .ok (.getstatic 44, 3) := by decide +kernel
theorem dJ2_getChar_3b067_3 : decode cJ2_getChar_3b067 3 = .ok (.ifCond .ne 25, 3) := by decide +kernel
theorem dJ2_getChar_3b067_6 : decode cJ2_getChar_3b067 6 = .ok (.iload_n 1, 1) := by decide +kernel
theorem dJ2_getChar_3b067_7 : decode cJ2_getChar_3b067 7 = .ok (.ifCond .lt 11, 3) := by decide +kernel
theorem dJ2_getChar_3b067_10 : decode cJ2_getChar_3b067 10 = .ok (.iload_n 1, 1) := by decide +kernel
theorem dJ2_getChar_3b067_11 : decode cJ2_getChar_3b067 11 = .ok (.aload_n 0, 1) := by decide +kernel
theorem dJ2_getChar_3b067_12 : decode cJ2_getChar_3b067 12 = .ok (.invokestatic 48, 3) := by decide +kernel
theorem dJ2_getChar_3b067_15 : decode cJ2_getChar_3b067 15 = .ok (.if_icmp .lt 13, 3) := by decide +kernel
theorem dJ2_getChar_3b067_18 : decode cJ2_getChar_3b067 18 = .ok (.new 52, 3) := by decide +kernel
theorem dJ2_getChar_3b067_21 : decode cJ2_getChar_3b067 21 = .ok (.dup, 1) := by decide +kernel
theorem dJ2_getChar_3b067_22 : decode cJ2_getChar_3b067 22 = .ok (.ldc 54, 2) := by decide +kernel
theorem dJ2_getChar_3b067_24 : decode cJ2_getChar_3b067 24 = .ok (.invokespecial 56, 3) := by decide +kernel
theorem dJ2_getChar_3b067_27 : decode cJ2_getChar_3b067 27 = .ok (.athrow, 1) := by decide +kernel
theorem dJ2_getChar_3b067_28 : decode cJ2_getChar_3b067 28 = .ok (.iload_n 1, 1) := by decide +kernel
theorem dJ2_getChar_3b067_29 : decode cJ2_getChar_3b067 29 = .ok (.iconst 1, 1) := by decide +kernel
theorem dJ2_getChar_3b067_30 : decode cJ2_getChar_3b067 30 = .ok (.ishl, 1) := by decide +kernel
theorem dJ2_getChar_3b067_31 : decode cJ2_getChar_3b067 31 = .ok (.istore_n 1, 1) := by decide +kernel
theorem dJ2_getChar_3b067_32 : decode cJ2_getChar_3b067 32 = .ok (.aload_n 0, 1) := by decide +kernel
theorem dJ2_getChar_3b067_33 : decode cJ2_getChar_3b067 33 = .ok (.iload_n 1, 1) := by decide +kernel
theorem dJ2_getChar_3b067_34 : decode cJ2_getChar_3b067 34 = .ok (.iinc 1 1, 3) := by decide +kernel
theorem dJ2_getChar_3b067_37 : decode cJ2_getChar_3b067 37 = .ok (.baload, 1) := by decide +kernel
theorem dJ2_getChar_3b067_38 : decode cJ2_getChar_3b067 38 = .ok (.sipush 255, 3) := by decide +kernel
theorem dJ2_getChar_3b067_41 : decode cJ2_getChar_3b067 41 = .ok (.iand, 1) := by decide +kernel
theorem dJ2_getChar_3b067_42 : decode cJ2_getChar_3b067 42 = .ok (.getstatic 59, 3) := by decide +kernel
theorem dJ2_getChar_3b067_45 : decode cJ2_getChar_3b067 45 = .ok (.ishl, 1) := by decide +kernel
theorem dJ2_getChar_3b067_46 : decode cJ2_getChar_3b067 46 = .ok (.aload_n 0, 1) := by decide +kernel
theorem dJ2_getChar_3b067_47 : decode cJ2_getChar_3b067 47 = .ok (.iload_n 1, 1) := by decide +kernel
theorem dJ2_getChar_3b067_48 : decode cJ2_getChar_3b067 48 = .ok (.baload, 1) := by decide +kernel
theorem dJ2_getChar_3b067_49 : decode cJ2_getChar_3b067 49 = .ok (.sipush 255, 3) := by decide +kernel
theorem dJ2_getChar_3b067_52 : decode cJ2_getChar_3b067 52 = .ok (.iand, 1) := by decide +kernel
theorem dJ2_getChar_3b067_53 : decode cJ2_getChar_3b067 53 = .ok (.getstatic 63, 3) := by decide +kernel
theorem dJ2_getChar_3b067_56 : decode cJ2_getChar_3b067 56 = .ok (.ishl, 1) := by decide +kernel
theorem dJ2_getChar_3b067_57 : decode cJ2_getChar_3b067 57 = .ok (.ior, 1) := by decide +kernel
theorem dJ2_getChar_3b067_58 : decode cJ2_getChar_3b067 58 = .ok (.i2c, 1) := by decide +kernel
theorem dJ2_getChar_3b067_59 : decode cJ2_getChar_3b067 59 = .ok (.ireturn, 1) := by decide +kernel
theorem dJ2_length_9d52b_0 : decode cJ2_length_9d52b 0 = .ok (.aload_n 0, 1) := by decide +kernel
theorem dJ2_length_9d52b_1 : decode cJ2_length_9d52b 1 = .ok (.arraylength, 1) := by decide +kernel
theorem dJ2_length_9d52b_2 : decode cJ2_length_9d52b 2 = .ok (.iconst 1, 1) := by decide +kernel
theorem dJ2_length_9d52b_3 : decode cJ2_length_9d52b 3 = .ok (.ishr, 1) := by decide +kernel
theorem dJ2_length_9d52b_4 : decode cJ2_length_9d52b 4 = .ok (.ireturn, 1) := by decide +kernel
theorem dJ2_charAt_3b067_0 : decode cJ2_charAt_3b067 0 = .ok (.iload_n 1, 1) := by decide +kernel
theorem dJ2_charAt_3b067_1 : decode cJ2_charAt_3b067 1 = .ok (.aload_n 0, 1) := by decide +kernel
theorem dJ2_charAt_3b067_2 : decode cJ2_charAt_3b067 2 = .ok (.invokestatic 67, 3) := by decide +kernel
theorem dJ2_charAt_3b067_5 : decode cJ2_charAt_3b067 5 = .ok (.aload_n 0, 1) := by decide +kernel
theorem dJ2_charAt_3b067_6 : decode cJ2_charAt_3b067 6 = .ok (.iload_n 1, 1) := by decide +kernel
theorem dJ2_charAt_3b067_7 : decode cJ2_charAt_3b067 7 = .ok (.invokestatic 71, 3) := by decide +kernel
theorem dJ2_charAt_3b067_10 : decode cJ2_charAt_3b067 10 = .ok (.ireturn, 1) := by decide +kernel
theorem dJ2_checkIndex_2214a_0 : decode cJ2_checkIndex_2214a 0 = .ok (.iload_n 0, 1) := by decide +kernel
theorem dJ2_checkIndex_2214a_1 : decode cJ2_checkIndex_2214a 1 = .ok (.aload_n 1, 1) := by decide +kernel
theorem dJ2_checkIndex_2214a_2 : decode cJ2_checkIndex_2214a 2 = .ok (.invokestatic 48, 3) := by decide +kernel
theorem dJ2_checkIndex_2214a_5 : decode cJ2_checkIndex_2214a 5 = .ok (.invokestatic 414, 3) := by decide +kernel
theorem dJ2_checkIndex_2214a_8 : decode cJ2_checkIndex_2214a 8 = .ok (.return_, 1) := by decide +kernel
theorem dJ3_checkIndex_8e157_0 : decode cJ3_checkIndex_8e157 0 = .ok (.iload_n 0, 1) := by decide +kernel
theorem dJ3_checkIndex_8e157_1 : decode cJ3_checkIndex_8e157 1 = .ok (.ifCond .lt 8, 3) := by decide +kernel
theorem dJ3_checkIndex_8e157_4 : decode cJ3_checkIndex_8e157 4 = .ok (.iload_n 0, 1) := by decide +kernel
theorem dJ3_checkIndex_8e157_5 : decode cJ3_checkIndex_8e157 5 = .ok (.iload_n 1, 1) := by decide +kernel
theorem dJ3_checkIndex_8e157_6 : decode cJ3_checkIndex_8e157 6 = .ok (.if_icmp .lt 10, 3) := by decide +kernel
theorem dJ3_checkIndex_8e157_9 : decode cJ3_checkIndex_8e157 9 = .ok (.aload_n 2, 1) := by decide +kernel
theorem dJ3_checkIndex_8e157_10 : decode cJ3_checkIndex_8e157 10 = .ok (.iload_n 0, 1) := by decide +kernel
theorem dJ3_checkIndex_8e157_11 : decode cJ3_checkIndex_8e157 11 = .ok (.iload_n 1, 1) := by decide +kernel
theorem dJ3_checkIndex_8e157_12 : decode cJ3_checkIndex_8e157 12 = .ok (.invokestatic 95, 3) := by decide +kernel
theorem dJ3_checkIndex_8e157_15 : decode cJ3_checkIndex_8e157 15 = .ok (.athrow, 1) := by decide +kernel
theorem dJ3_checkIndex_8e157_16 : decode cJ3_checkIndex_8e157 16 = .ok (.iload_n 0, 1) := by decide +kernel
theorem dJ3_checkIndex_8e157_17 : decode cJ3_checkIndex_8e157 17 = .ok (.ireturn, 1) := by decide +kernel
theorem dL_law_0 : decode cL_law 0 = .ok (.new 7, 3) := by decide +kernel
theorem dL_law_3 : decode cL_law 3 = .ok (.dup, 1) := by decide +kernel
theorem dL_law_4 : decode cL_law 4 = .ok (.invokespecial 9, 3) := by decide +kernel
theorem dL_law_7 : decode cL_law 7 = .ok (.astore_n 1, 1) := by decide +kernel
theorem dL_law_8 : decode cL_law 8 = .ok (.new 10, 3) := by decide +kernel
theorem dL_law_11 : decode cL_law 11 = .ok (.dup, 1) := by decide +kernel
theorem dL_law_12 : decode cL_law 12 = .ok (.invokespecial 12, 3) := by decide +kernel
theorem dL_law_15 : decode cL_law 15 = .ok (.astore_n 2, 1) := by decide +kernel
theorem dL_law_16 : decode cL_law 16 = .ok (.iconst 0, 1) := by decide +kernel
theorem dL_law_17 : decode cL_law 17 = .ok (.istore_n 3, 1) := by decide +kernel
theorem dL_law_18 : decode cL_law 18 = .ok (.iload_n 3, 1) := by decide +kernel
theorem dL_law_19 : decode cL_law 19 = .ok (.aload_n 0, 1) := by decide +kernel
theorem dL_law_20 : decode cL_law 20 = .ok (.arraylength, 1) := by decide +kernel
theorem dL_law_21 : decode cL_law 21 = .ok (.iconst 5, 1) := by decide +kernel
theorem dL_law_22 : decode cL_law 22 = .ok (.isub, 1) := by decide +kernel
theorem dL_law_23 : decode cL_law 23 = .ok (.if_icmp .gt 881, 3) := by decide +kernel
theorem dL_law_26 : decode cL_law 26 = .ok (.aload_n 0, 1) := by decide +kernel
theorem dL_law_27 : decode cL_law 27 = .ok (.iload_n 3, 1) := by decide +kernel
theorem dL_law_28 : decode cL_law 28 = .ok (.iaload, 1) := by decide +kernel
theorem dL_law_29 : decode cL_law 29 = .ok (.bipush 31, 2) := by decide +kernel
theorem dL_law_31 : decode cL_law 31 = .ok (.iand, 1) := by decide +kernel
theorem dL_law_32 : decode cL_law 32 = .ok (.tableswitch 866 0 26 #[124, 187, 200, 213, 246, 279, 312, 335, 368, 381, 414, 457, 480, 503, 526, 539, 562, 575, 618, 671, 704, 727, 750, 783, 806, 829, 852], 124) := by decide +kernel
theorem dL_law_156 : decode cL_law 156 = .ok (.aload_n 1, 1) := by decide +kernel
theorem dL_law_157 : decode cL_law 157 = .ok (.aload_n 0, 1) := by decide +kernel
theorem dL_law_158 : decode cL_law 158 = .ok (.iload_n 3, 1) := by decide +kernel
theorem dL_law_159 : decode cL_law 159 = .ok (.iconst 1, 1) := by decide +kernel
theorem dL_law_160 : decode cL_law 160 = .ok (.iadd, 1) := by decide +kernel
theorem dL_law_161 : decode cL_law 161 = .ok (.iaload, 1) := by decide +kernel
theorem dL_law_162 : decode cL_law 162 = .ok (.i2l, 1) := by decide +kernel
theorem dL_law_163 : decode cL_law 163 = .ok (.bipush 32, 2) := by decide +kernel
theorem dL_law_165 : decode cL_law 165 = .ok (.lshl, 1) := by decide +kernel
theorem dL_law_166 : decode cL_law 166 = .ok (.aload_n 0, 1) := by decide +kernel
theorem dL_law_167 : decode cL_law 167 = .ok (.iload_n 3, 1) := by decide +kernel
theorem dL_law_168 : decode cL_law 168 = .ok (.iconst 2, 1) := by decide +kernel
theorem dL_law_169 : decode cL_law 169 = .ok (.iadd, 1) := by decide +kernel
theorem dL_law_170 : decode cL_law 170 = .ok (.iaload, 1) := by decide +kernel
theorem dL_law_171 : decode cL_law 171 = .ok (.i2l, 1) := by decide +kernel
theorem dL_law_172 : decode cL_law 172 = .ok (.ldc2_w 13, 3) := by decide +kernel
theorem dL_law_175 : decode cL_law 175 = .ok (.land, 1) := by decide +kernel
theorem dL_law_176 : decode cL_law 176 = .ok (.lor, 1) := by decide +kernel
theorem dL_law_177 : decode cL_law 177 = .ok (.aload_n 0, 1) := by decide +kernel
theorem dL_law_178 : decode cL_law 178 = .ok (.iload_n 3, 1) := by decide +kernel
theorem dL_law_179 : decode cL_law 179 = .ok (.iconst 3, 1) := by decide +kernel
theorem dL_law_180 : decode cL_law 180 = .ok (.iadd, 1) := by decide +kernel
theorem dL_law_181 : decode cL_law 181 = .ok (.iaload, 1) := by decide +kernel
theorem dL_law_182 : decode cL_law 182 = .ok (.invokevirtual 15, 3) := by decide +kernel
theorem dL_law_185 : decode cL_law 185 = .ok (.aload_n 2, 1) := by decide +kernel
theorem dL_law_186 : decode cL_law 186 = .ok (.aload_n 0, 1) := by decide +kernel
theorem dL_law_187 : decode cL_law 187 = .ok (.iload_n 3, 1) := by decide +kernel
theorem dL_law_188 : decode cL_law 188 = .ok (.iconst 1, 1) := by decide +kernel
theorem dL_law_189 : decode cL_law 189 = .ok (.iadd, 1) := by decide +kernel
theorem dL_law_190 : decode cL_law 190 = .ok (.iaload, 1) := by decide +kernel
theorem dL_law_191 : decode cL_law 191 = .ok (.i2l, 1) := by decide +kernel
theorem dL_law_192 : decode cL_law 192 = .ok (.bipush 32, 2) := by decide +kernel
theorem dL_law_194 : decode cL_law 194 = .ok (.lshl, 1) := by decide +kernel
theorem dL_law_195 : decode cL_law 195 = .ok (.aload_n 0, 1) := by decide +kernel
theorem dL_law_196 : decode cL_law 196 = .ok (.iload_n 3, 1) := by decide +kernel
theorem dL_law_197 : decode cL_law 197 = .ok (.iconst 2, 1) := by decide +kernel
theorem dL_law_198 : decode cL_law 198 = .ok (.iadd, 1) := by decide +kernel
theorem dL_law_199 : decode cL_law 199 = .ok (.iaload, 1) := by decide +kernel
theorem dL_law_200 : decode cL_law 200 = .ok (.i2l, 1) := by decide +kernel
theorem dL_law_201 : decode cL_law 201 = .ok (.ldc2_w 13, 3) := by decide +kernel
theorem dL_law_204 : decode cL_law 204 = .ok (.land, 1) := by decide +kernel
theorem dL_law_205 : decode cL_law 205 = .ok (.lor, 1) := by decide +kernel
theorem dL_law_206 : decode cL_law 206 = .ok (.aload_n 0, 1) := by decide +kernel
theorem dL_law_207 : decode cL_law 207 = .ok (.iload_n 3, 1) := by decide +kernel
theorem dL_law_208 : decode cL_law 208 = .ok (.iconst 3, 1) := by decide +kernel
theorem dL_law_209 : decode cL_law 209 = .ok (.iadd, 1) := by decide +kernel
theorem dL_law_210 : decode cL_law 210 = .ok (.iaload, 1) := by decide +kernel
theorem dL_law_211 : decode cL_law 211 = .ok (.invokevirtual 19, 3) := by decide +kernel
theorem dL_law_214 : decode cL_law 214 = .ok (.if_icmp .eq 684, 3) := by decide +kernel
theorem dL_law_217 : decode cL_law 217 = .ok (.iconst 0, 1) := by decide +kernel
theorem dL_law_218 : decode cL_law 218 = .ok (.ireturn, 1) := by decide +kernel
theorem dL_law_219 : decode cL_law 219 = .ok (.aload_n 1, 1) := by decide +kernel
theorem dL_law_220 : decode cL_law 220 = .ok (.invokevirtual 20, 3) := by decide +kernel
theorem dL_law_223 : decode cL_law 223 = .ok (.aload_n 2, 1) := by decide +kernel
theorem dL_law_224 : decode cL_law 224 = .ok (.invokevirtual 24, 3) := by decide +kernel
theorem dL_law_227 : decode cL_law 227 = .ok (.if_icmp .eq 671, 3) := by decide +kernel
theorem dL_law_230 : decode cL_law 230 = .ok (.iconst 0, 1) := by decide +kernel
theorem dL_law_231 : decode cL_law 231 = .ok (.ireturn, 1) := by decide +kernel
theorem dL_law_232 : decode cL_law 232 = .ok (.aload_n 1, 1) := by decide +kernel
theorem dL_law_233 : decode cL_law 233 = .ok (.invokevirtual 25, 3) := by decide +kernel
theorem dL_law_236 : decode cL_law 236 = .ok (.aload_n 2, 1) := by decide +kernel
theorem dL_law_237 : decode cL_law 237 = .ok (.invokevirtual 28, 3) := by decide +kernel
theorem dL_law_240 : decode cL_law 240 = .ok (.if_icmp .eq 658, 3) := by decide +kernel
theorem dL_law_243 : decode cL_law 243 = .ok (.iconst 0, 1) := by decide +kernel
theorem dL_law_244 : decode cL_law 244 = .ok (.ireturn, 1) := by decide +kernel
theorem dL_law_245 : decode cL_law 245 = .ok (.aload_n 1, 1) := by decide +kernel
theorem dL_law_246 : decode cL_law 246 = .ok (.aload_n 0, 1) := by decide +kernel
theorem dL_law_247 : decode cL_law 247 = .ok (.iload_n 3, 1) := by decide +kernel
theorem dL_law_248 : decode cL_law 248 = .ok (.iconst 1, 1) := by decide +kernel
theorem dL_law_249 : decode cL_law 249 = .ok (.iadd, 1) := by decide +kernel
theorem dL_law_250 : decode cL_law 250 = .ok (.iaload, 1) := by decide +kernel
theorem dL_law_251 : decode cL_law 251 = .ok (.aload_n 0, 1) := by decide +kernel
theorem dL_law_252 : decode cL_law 252 = .ok (.iload_n 3, 1) := by decide +kernel
theorem dL_law_253 : decode cL_law 253 = .ok (.iconst 2, 1) := by decide +kernel
theorem dL_law_254 : decode cL_law 254 = .ok (.iadd, 1) := by decide +kernel
theorem dL_law_255 : decode cL_law 255 = .ok (.iaload, 1) := by decide +kernel
theorem dL_law_256 : decode cL_law 256 = .ok (.invokevirtual 29, 3) := by decide +kernel
theorem dL_law_259 : decode cL_law 259 = .ok (.aload_n 2, 1) := by decide +kernel
theorem dL_law_260 : decode cL_law 260 = .ok (.aload_n 0, 1) := by decide +kernel
theorem dL_law_261 : decode cL_law 261 = .ok (.iload_n 3, 1) := by decide +kernel
theorem dL_law_262 : decode cL_law 262 = .ok (.iconst 1, 1) := by decide +kernel
theorem dL_law_263 : decode cL_law 263 = .ok (.iadd, 1) := by decide +kernel
theorem dL_law_264 : decode cL_law 264 = .ok (.iaload, 1) := by decide +kernel
theorem dL_law_265 : decode cL_law 265 = .ok (.aload_n 0, 1) := by decide +kernel
theorem dL_law_266 : decode cL_law 266 = .ok (.iload_n 3, 1) := by decide +kernel
theorem dL_law_267 : decode cL_law 267 = .ok (.iconst 2, 1) := by decide +kernel
theorem dL_law_268 : decode cL_law 268 = .ok (.iadd, 1) := by decide +kernel
theorem dL_law_269 : decode cL_law 269 = .ok (.iaload, 1) := by decide +kernel
theorem dL_law_270 : decode cL_law 270 = .ok (.invokevirtual 33, 3) := by decide +kernel
theorem dL_law_273 : decode cL_law 273 = .ok (.if_icmp .eq 625, 3) := by decide +kernel
theorem dL_law_276 : decode cL_law 276 = .ok (.iconst 0, 1) := by decide +kernel
theorem dL_law_277 : decode cL_law 277 = .ok (.ireturn, 1) := by decide +kernel
theorem dL_law_278 : decode cL_law 278 = .ok (.aload_n 1, 1) := by decide +kernel
theorem dL_law_279 : decode cL_law 279 = .ok (.aload_n 0, 1) := by decide +kernel
theorem dL_law_280 : decode cL_law 280 = .ok (.iload_n 3, 1) := by decide +kernel
theorem dL_law_281 : decode cL_law 281 = .ok (.iconst 1, 1) := by decide +kernel
theorem dL_law_282 : decode cL_law 282 = .ok (.iadd, 1) := by decide +kernel
theorem dL_law_283 : decode cL_law 283 = .ok (.iaload, 1) := by decide +kernel
theorem dL_law_284 : decode cL_law 284 = .ok (.aload_n 0, 1) := by decide +kernel
theorem dL_law_285 : decode cL_law 285 = .ok (.iload_n 3, 1) := by decide +kernel
theorem dL_law_286 : decode cL_law 286 = .ok (.iconst 2, 1) := by decide +kernel
theorem dL_law_287 : decode cL_law 287 = .ok (.iadd, 1) := by decide +kernel
theorem dL_law_288 : decode cL_law 288 = .ok (.iaload, 1) := by decide +kernel
theorem dL_law_289 : decode cL_law 289 = .ok (.invokevirtual 34, 3) := by decide +kernel
theorem dL_law_292 : decode cL_law 292 = .ok (.aload_n 2, 1) := by decide +kernel
theorem dL_law_293 : decode cL_law 293 = .ok (.aload_n 0, 1) := by decide +kernel
theorem dL_law_294 : decode cL_law 294 = .ok (.iload_n 3, 1) := by decide +kernel
theorem dL_law_295 : decode cL_law 295 = .ok (.iconst 1, 1) := by decide +kernel
theorem dL_law_296 : decode cL_law 296 = .ok (.iadd, 1) := by decide +kernel
theorem dL_law_297 : decode cL_law 297 = .ok (.iaload, 1) := by decide +kernel
theorem dL_law_298 : decode cL_law 298 = .ok (.aload_n 0, 1) := by decide +kernel
theorem dL_law_299 : decode cL_law 299 = .ok (.iload_n 3, 1) := by decide +kernel
theorem dL_law_300 : decode cL_law 300 = .ok (.iconst 2, 1) := by decide +kernel
theorem dL_law_301 : decode cL_law 301 = .ok (.iadd, 1) := by decide +kernel
theorem dL_law_302 : decode cL_law 302 = .ok (.iaload, 1) := by decide +kernel
theorem dL_law_303 : decode cL_law 303 = .ok (.invokevirtual 37, 3) := by decide +kernel
theorem dL_law_306 : decode cL_law 306 = .ok (.if_icmp .eq 592, 3) := by decide +kernel
theorem dL_law_309 : decode cL_law 309 = .ok (.iconst 0, 1) := by decide +kernel
theorem dL_law_310 : decode cL_law 310 = .ok (.ireturn, 1) := by decide +kernel
theorem dL_law_311 : decode cL_law 311 = .ok (.aload_n 1, 1) := by decide +kernel
theorem dL_law_312 : decode cL_law 312 = .ok (.aload_n 0, 1) := by decide +kernel
theorem dL_law_313 : decode cL_law 313 = .ok (.iload_n 3, 1) := by decide +kernel
theorem dL_law_314 : decode cL_law 314 = .ok (.iconst 1, 1) := by decide +kernel
theorem dL_law_315 : decode cL_law 315 = .ok (.iadd, 1) := by decide +kernel
theorem dL_law_316 : decode cL_law 316 = .ok (.iaload, 1) := by decide +kernel
theorem dL_law_317 : decode cL_law 317 = .ok (.aload_n 0, 1) := by decide +kernel
theorem dL_law_318 : decode cL_law 318 = .ok (.iload_n 3, 1) := by decide +kernel
theorem dL_law_319 : decode cL_law 319 = .ok (.iconst 2, 1) := by decide +kernel
theorem dL_law_320 : decode cL_law 320 = .ok (.iadd, 1) := by decide +kernel
theorem dL_law_321 : decode cL_law 321 = .ok (.iaload, 1) := by decide +kernel
theorem dL_law_322 : decode cL_law 322 = .ok (.invokevirtual 38, 3) := by decide +kernel
theorem dL_law_325 : decode cL_law 325 = .ok (.aload_n 2, 1) := by decide +kernel
theorem dL_law_326 : decode cL_law 326 = .ok (.aload_n 0, 1) := by decide +kernel
theorem dL_law_327 : decode cL_law 327 = .ok (.iload_n 3, 1) := by decide +kernel
theorem dL_law_328 : decode cL_law 328 = .ok (.iconst 1, 1) := by decide +kernel
theorem dL_law_329 : decode cL_law 329 = .ok (.iadd, 1) := by decide +kernel
theorem dL_law_330 : decode cL_law 330 = .ok (.iaload, 1) := by decide +kernel
theorem dL_law_331 : decode cL_law 331 = .ok (.aload_n 0, 1) := by decide +kernel
theorem dL_law_332 : decode cL_law 332 = .ok (.iload_n 3, 1) := by decide +kernel
theorem dL_law_333 : decode cL_law 333 = .ok (.iconst 2, 1) := by decide +kernel
theorem dL_law_334 : decode cL_law 334 = .ok (.iadd, 1) := by decide +kernel
theorem dL_law_335 : decode cL_law 335 = .ok (.iaload, 1) := by decide +kernel
theorem dL_law_336 : decode cL_law 336 = .ok (.invokevirtual 41, 3) := by decide +kernel
theorem dL_law_339 : decode cL_law 339 = .ok (.if_icmp .eq 559, 3) := by decide +kernel
theorem dL_law_342 : decode cL_law 342 = .ok (.iconst 0, 1) := by decide +kernel
theorem dL_law_343 : decode cL_law 343 = .ok (.ireturn, 1) := by decide +kernel
theorem dL_law_344 : decode cL_law 344 = .ok (.aload_n 1, 1) := by decide +kernel
theorem dL_law_345 : decode cL_law 345 = .ok (.aload_n 0, 1) := by decide +kernel
theorem dL_law_346 : decode cL_law 346 = .ok (.iload_n 3, 1) := by decide +kernel
theorem dL_law_347 : decode cL_law 347 = .ok (.iconst 1, 1) := by decide +kernel
theorem dL_law_348 : decode cL_law 348 = .ok (.iadd, 1) := by decide +kernel
theorem dL_law_349 : decode cL_law 349 = .ok (.iaload, 1) := by decide +kernel
theorem dL_law_350 : decode cL_law 350 = .ok (.invokevirtual 42, 3) := by decide +kernel
theorem dL_law_353 : decode cL_law 353 = .ok (.aload_n 2, 1) := by decide +kernel
theorem dL_law_354 : decode cL_law 354 = .ok (.aload_n 0, 1) := by decide +kernel
theorem dL_law_355 : decode cL_law 355 = .ok (.iload_n 3, 1) := by decide +kernel
theorem dL_law_356 : decode cL_law 356 = .ok (.iconst 1, 1) := by decide +kernel
theorem dL_law_357 : decode cL_law 357 = .ok (.iadd, 1) := by decide +kernel
theorem dL_law_358 : decode cL_law 358 = .ok (.iaload, 1) := by decide +kernel
theorem dL_law_359 : decode cL_law 359 = .ok (.invokevirtual 46, 3) := by decide +kernel
theorem dL_law_362 : decode cL_law 362 = .ok (.if_icmp .eq 536, 3) := by decide +kernel
theorem dL_law_365 : decode cL_law 365 = .ok (.iconst 0, 1) := by decide +kernel
theorem dL_law_366 : decode cL_law 366 = .ok (.ireturn, 1) := by decide +kernel
theorem dL_law_367 : decode cL_law 367 = .ok (.aload_n 1, 1) := by decide +kernel
theorem dL_law_368 : decode cL_law 368 = .ok (.aload_n 0, 1) := by decide +kernel
theorem dL_law_369 : decode cL_law 369 = .ok (.iload_n 3, 1) := by decide +kernel
theorem dL_law_370 : decode cL_law 370 = .ok (.iconst 1, 1) := by decide +kernel
theorem dL_law_371 : decode cL_law 371 = .ok (.iadd, 1) := by decide +kernel
theorem dL_law_372 : decode cL_law 372 = .ok (.iaload, 1) := by decide +kernel
theorem dL_law_373 : decode cL_law 373 = .ok (.aload_n 0, 1) := by decide +kernel
theorem dL_law_374 : decode cL_law 374 = .ok (.iload_n 3, 1) := by decide +kernel
theorem dL_law_375 : decode cL_law 375 = .ok (.iconst 2, 1) := by decide +kernel
theorem dL_law_376 : decode cL_law 376 = .ok (.iadd, 1) := by decide +kernel
theorem dL_law_377 : decode cL_law 377 = .ok (.iaload, 1) := by decide +kernel
theorem dL_law_378 : decode cL_law 378 = .ok (.invokevirtual 47, 3) := by decide +kernel
theorem dL_law_381 : decode cL_law 381 = .ok (.aload_n 2, 1) := by decide +kernel
theorem dL_law_382 : decode cL_law 382 = .ok (.aload_n 0, 1) := by decide +kernel
theorem dL_law_383 : decode cL_law 383 = .ok (.iload_n 3, 1) := by decide +kernel
theorem dL_law_384 : decode cL_law 384 = .ok (.iconst 1, 1) := by decide +kernel
theorem dL_law_385 : decode cL_law 385 = .ok (.iadd, 1) := by decide +kernel
theorem dL_law_386 : decode cL_law 386 = .ok (.iaload, 1) := by decide +kernel
theorem dL_law_387 : decode cL_law 387 = .ok (.aload_n 0, 1) := by decide +kernel
theorem dL_law_388 : decode cL_law 388 = .ok (.iload_n 3, 1) := by decide +kernel
theorem dL_law_389 : decode cL_law 389 = .ok (.iconst 2, 1) := by decide +kernel
theorem dL_law_390 : decode cL_law 390 = .ok (.iadd, 1) := by decide +kernel
theorem dL_law_391 : decode cL_law 391 = .ok (.iaload, 1) := by decide +kernel
theorem dL_law_392 : decode cL_law 392 = .ok (.invokevirtual 50, 3) := by decide +kernel
theorem dL_law_395 : decode cL_law 395 = .ok (.if_icmp .eq 503, 3) := by decide +kernel
theorem dL_law_398 : decode cL_law 398 = .ok (.iconst 0, 1) := by decide +kernel
theorem dL_law_399 : decode cL_law 399 = .ok (.ireturn, 1) := by decide +kernel
theorem dL_law_400 : decode cL_law 400 = .ok (.aload_n 1, 1) := by decide +kernel
theorem dL_law_401 : decode cL_law 401 = .ok (.invokevirtual 51, 3) := by decide +kernel
theorem dL_law_404 : decode cL_law 404 = .ok (.aload_n 2, 1) := by decide +kernel
theorem dL_law_405 : decode cL_law 405 = .ok (.invokevirtual 54, 3) := by decide +kernel
theorem dL_law_408 : decode cL_law 408 = .ok (.if_icmp .eq 490, 3) := by decide +kernel
theorem dL_law_411 : decode cL_law 411 = .ok (.iconst 0, 1) := by decide +kernel
theorem dL_law_412 : decode cL_law 412 = .ok (.ireturn, 1) := by decide +kernel
theorem dL_law_413 : decode cL_law 413 = .ok (.aload_n 1, 1) := by decide +kernel
theorem dL_law_414 : decode cL_law 414 = .ok (.aload_n 0, 1) := by decide +kernel
theorem dL_law_415 : decode cL_law 415 = .ok (.iload_n 3, 1) := by decide +kernel
theorem dL_law_416 : decode cL_law 416 = .ok (.iconst 1, 1) := by decide +kernel
theorem dL_law_417 : decode cL_law 417 = .ok (.iadd, 1) := by decide +kernel
theorem dL_law_418 : decode cL_law 418 = .ok (.iaload, 1) := by decide +kernel
theorem dL_law_419 : decode cL_law 419 = .ok (.aload_n 0, 1) := by decide +kernel
theorem dL_law_420 : decode cL_law 420 = .ok (.iload_n 3, 1) := by decide +kernel
theorem dL_law_421 : decode cL_law 421 = .ok (.iconst 2, 1) := by decide +kernel
theorem dL_law_422 : decode cL_law 422 = .ok (.iadd, 1) := by decide +kernel
theorem dL_law_423 : decode cL_law 423 = .ok (.iaload, 1) := by decide +kernel
theorem dL_law_424 : decode cL_law 424 = .ok (.invokevirtual 55, 3) := by decide +kernel
theorem dL_law_427 : decode cL_law 427 = .ok (.aload_n 2, 1) := by decide +kernel
theorem dL_law_428 : decode cL_law 428 = .ok (.aload_n 0, 1) := by decide +kernel
theorem dL_law_429 : decode cL_law 429 = .ok (.iload_n 3, 1) := by decide +kernel
theorem dL_law_430 : decode cL_law 430 = .ok (.iconst 1, 1) := by decide +kernel
theorem dL_law_431 : decode cL_law 431 = .ok (.iadd, 1) := by decide +kernel
theorem dL_law_432 : decode cL_law 432 = .ok (.iaload, 1) := by decide +kernel
theorem dL_law_433 : decode cL_law 433 = .ok (.aload_n 0, 1) := by decide +kernel
theorem dL_law_434 : decode cL_law 434 = .ok (.iload_n 3, 1) := by decide +kernel
theorem dL_law_435 : decode cL_law 435 = .ok (.iconst 2, 1) := by decide +kernel
theorem dL_law_436 : decode cL_law 436 = .ok (.iadd, 1) := by decide +kernel
theorem dL_law_437 : decode cL_law 437 = .ok (.iaload, 1) := by decide +kernel
theorem dL_law_438 : decode cL_law 438 = .ok (.invokevirtual 58, 3) := by decide +kernel
theorem dL_law_441 : decode cL_law 441 = .ok (.if_icmp .eq 457, 3) := by decide +kernel
theorem dL_law_444 : decode cL_law 444 = .ok (.iconst 0, 1) := by decide +kernel
theorem dL_law_445 : decode cL_law 445 = .ok (.ireturn, 1) := by decide +kernel
theorem dL_law_446 : decode cL_law 446 = .ok (.aload_n 1, 1) := by decide +kernel
theorem dL_law_447 : decode cL_law 447 = .ok (.aload_n 0, 1) := by decide +kernel
theorem dL_law_448 : decode cL_law 448 = .ok (.iload_n 3, 1) := by decide +kernel
theorem dL_law_449 : decode cL_law 449 = .ok (.iconst 1, 1) := by decide +kernel
theorem dL_law_450 : decode cL_law 450 = .ok (.iadd, 1) := by decide +kernel
theorem dL_law_451 : decode cL_law 451 = .ok (.iaload, 1) := by decide +kernel
theorem dL_law_452 : decode cL_law 452 = .ok (.aload_n 0, 1) := by decide +kernel
theorem dL_law_453 : decode cL_law 453 = .ok (.iload_n 3, 1) := by decide +kernel
theorem dL_law_454 : decode cL_law 454 = .ok (.iconst 2, 1) := by decide +kernel
theorem dL_law_455 : decode cL_law 455 = .ok (.iadd, 1) := by decide +kernel
theorem dL_law_456 : decode cL_law 456 = .ok (.iaload, 1) := by decide +kernel
theorem dL_law_457 : decode cL_law 457 = .ok (.aload_n 0, 1) := by decide +kernel
theorem dL_law_458 : decode cL_law 458 = .ok (.iload_n 3, 1) := by decide +kernel
theorem dL_law_459 : decode cL_law 459 = .ok (.iconst 3, 1) := by decide +kernel
theorem dL_law_460 : decode cL_law 460 = .ok (.iadd, 1) := by decide +kernel
theorem dL_law_461 : decode cL_law 461 = .ok (.iaload, 1) := by decide +kernel
theorem dL_law_462 : decode cL_law 462 = .ok (.invokevirtual 59, 3) := by decide +kernel
theorem dL_law_465 : decode cL_law 465 = .ok (.aload_n 2, 1) := by decide +kernel
theorem dL_law_466 : decode cL_law 466 = .ok (.aload_n 0, 1) := by decide +kernel
theorem dL_law_467 : decode cL_law 467 = .ok (.iload_n 3, 1) := by decide +kernel
theorem dL_law_468 : decode cL_law 468 = .ok (.iconst 1, 1) := by decide +kernel
theorem dL_law_469 : decode cL_law 469 = .ok (.iadd, 1) := by decide +kernel
theorem dL_law_470 : decode cL_law 470 = .ok (.iaload, 1) := by decide +kernel
theorem dL_law_471 : decode cL_law 471 = .ok (.aload_n 0, 1) := by decide +kernel
theorem dL_law_472 : decode cL_law 472 = .ok (.iload_n 3, 1) := by decide +kernel
theorem dL_law_473 : decode cL_law 473 = .ok (.iconst 2, 1) := by decide +kernel
theorem dL_law_474 : decode cL_law 474 = .ok (.iadd, 1) := by decide +kernel
theorem dL_law_475 : decode cL_law 475 = .ok (.iaload, 1) := by decide +kernel
theorem dL_law_476 : decode cL_law 476 = .ok (.aload_n 0, 1) := by decide +kernel
theorem dL_law_477 : decode cL_law 477 = .ok (.iload_n 3, 1) := by decide +kernel
theorem dL_law_478 : decode cL_law 478 = .ok (.iconst 3, 1) := by decide +kernel
theorem dL_law_479 : decode cL_law 479 = .ok (.iadd, 1) := by decide +kernel
theorem dL_law_480 : decode cL_law 480 = .ok (.iaload, 1) := by decide +kernel
theorem dL_law_481 : decode cL_law 481 = .ok (.invokevirtual 63, 3) := by decide +kernel
theorem dL_law_484 : decode cL_law 484 = .ok (.if_icmp .eq 414, 3) := by decide +kernel
theorem dL_law_487 : decode cL_law 487 = .ok (.iconst 0, 1) := by decide +kernel
theorem dL_law_488 : decode cL_law 488 = .ok (.ireturn, 1) := by decide +kernel
theorem dL_law_489 : decode cL_law 489 = .ok (.aload_n 1, 1) := by decide +kernel
theorem dL_law_490 : decode cL_law 490 = .ok (.aload_n 0, 1) := by decide +kernel
theorem dL_law_491 : decode cL_law 491 = .ok (.iload_n 3, 1) := by decide +kernel
theorem dL_law_492 : decode cL_law 492 = .ok (.iconst 1, 1) := by decide +kernel
theorem dL_law_493 : decode cL_law 493 = .ok (.iadd, 1) := by decide +kernel
theorem dL_law_494 : decode cL_law 494 = .ok (.iaload, 1) := by decide +kernel
theorem dL_law_495 : decode cL_law 495 = .ok (.invokevirtual 64, 3) := by decide +kernel
theorem dL_law_498 : decode cL_law 498 = .ok (.aload_n 2, 1) := by decide +kernel
theorem dL_law_499 : decode cL_law 499 = .ok (.aload_n 0, 1) := by decide +kernel
theorem dL_law_500 : decode cL_law 500 = .ok (.iload_n 3, 1) := by decide +kernel
theorem dL_law_501 : decode cL_law 501 = .ok (.iconst 1, 1) := by decide +kernel
theorem dL_law_502 : decode cL_law 502 = .ok (.iadd, 1) := by decide +kernel
theorem dL_law_503 : decode cL_law 503 = .ok (.iaload, 1) := by decide +kernel
theorem dL_law_504 : decode cL_law 504 = .ok (.invokevirtual 67, 3) := by decide +kernel
theorem dL_law_507 : decode cL_law 507 = .ok (.if_icmp .eq 391, 3) := by decide +kernel
theorem dL_law_510 : decode cL_law 510 = .ok (.iconst 0, 1) := by decide +kernel
theorem dL_law_511 : decode cL_law 511 = .ok (.ireturn, 1) := by decide +kernel
theorem dL_law_512 : decode cL_law 512 = .ok (.aload_n 1, 1) := by decide +kernel
theorem dL_law_513 : decode cL_law 513 = .ok (.aload_n 0, 1) := by decide +kernel
theorem dL_law_514 : decode cL_law 514 = .ok (.iload_n 3, 1) := by decide +kernel
theorem dL_law_515 : decode cL_law 515 = .ok (.iconst 1, 1) := by decide +kernel
theorem dL_law_516 : decode cL_law 516 = .ok (.iadd, 1) := by decide +kernel
theorem dL_law_517 : decode cL_law 517 = .ok (.iaload, 1) := by decide +kernel
theorem dL_law_518 : decode cL_law 518 = .ok (.invokevirtual 68, 3) := by decide +kernel
theorem dL_law_521 : decode cL_law 521 = .ok (.aload_n 2, 1) := by decide +kernel
theorem dL_law_522 : decode cL_law 522 = .ok (.aload_n 0, 1) := by decide +kernel
theorem dL_law_523 : decode cL_law 523 = .ok (.iload_n 3, 1) := by decide +kernel
theorem dL_law_524 : decode cL_law 524 = .ok (.iconst 1, 1) := by decide +kernel
theorem dL_law_525 : decode cL_law 525 = .ok (.iadd, 1) := by decide +kernel
theorem dL_law_526 : decode cL_law 526 = .ok (.iaload, 1) := by decide +kernel
theorem dL_law_527 : decode cL_law 527 = .ok (.invokevirtual 71, 3) := by decide +kernel
theorem dL_law_530 : decode cL_law 530 = .ok (.if_icmp .eq 368, 3) := by decide +kernel
theorem dL_law_533 : decode cL_law 533 = .ok (.iconst 0, 1) := by decide +kernel
theorem dL_law_534 : decode cL_law 534 = .ok (.ireturn, 1) := by decide +kernel
theorem dL_law_535 : decode cL_law 535 = .ok (.aload_n 1, 1) := by decide +kernel
theorem dL_law_536 : decode cL_law 536 = .ok (.aload_n 0, 1) := by decide +kernel
theorem dL_law_537 : decode cL_law 537 = .ok (.iload_n 3, 1) := by decide +kernel
theorem dL_law_538 : decode cL_law 538 = .ok (.iconst 1, 1) := by decide +kernel
theorem dL_law_539 : decode cL_law 539 = .ok (.iadd, 1) := by decide +kernel
theorem dL_law_540 : decode cL_law 540 = .ok (.iaload, 1) := by decide +kernel
theorem dL_law_541 : decode cL_law 541 = .ok (.invokevirtual 72, 3) := by decide +kernel
theorem dL_law_544 : decode cL_law 544 = .ok (.aload_n 2, 1) := by decide +kernel
theorem dL_law_545 : decode cL_law 545 = .ok (.aload_n 0, 1) := by decide +kernel
theorem dL_law_546 : decode cL_law 546 = .ok (.iload_n 3, 1) := by decide +kernel
theorem dL_law_547 : decode cL_law 547 = .ok (.iconst 1, 1) := by decide +kernel
theorem dL_law_548 : decode cL_law 548 = .ok (.iadd, 1) := by decide +kernel
theorem dL_law_549 : decode cL_law 549 = .ok (.iaload, 1) := by decide +kernel
theorem dL_law_550 : decode cL_law 550 = .ok (.invokevirtual 75, 3) := by decide +kernel
theorem dL_law_553 : decode cL_law 553 = .ok (.if_icmp .eq 345, 3) := by decide +kernel
theorem dL_law_556 : decode cL_law 556 = .ok (.iconst 0, 1) := by decide +kernel
theorem dL_law_557 : decode cL_law 557 = .ok (.ireturn, 1) := by decide +kernel
theorem dL_law_558 : decode cL_law 558 = .ok (.aload_n 1, 1) := by decide +kernel
theorem dL_law_559 : decode cL_law 559 = .ok (.invokevirtual 76, 3) := by decide +kernel
theorem dL_law_562 : decode cL_law 562 = .ok (.aload_n 2, 1) := by decide +kernel
theorem dL_law_563 : decode cL_law 563 = .ok (.invokevirtual 79, 3) := by decide +kernel
theorem dL_law_566 : decode cL_law 566 = .ok (.if_icmp .eq 332, 3) := by decide +kernel
theorem dL_law_569 : decode cL_law 569 = .ok (.iconst 0, 1) := by decide +kernel
theorem dL_law_570 : decode cL_law 570 = .ok (.ireturn, 1) := by decide +kernel
theorem dL_law_571 : decode cL_law 571 = .ok (.aload_n 1, 1) := by decide +kernel
theorem dL_law_572 : decode cL_law 572 = .ok (.aload_n 0, 1) := by decide +kernel
theorem dL_law_573 : decode cL_law 573 = .ok (.iload_n 3, 1) := by decide +kernel
theorem dL_law_574 : decode cL_law 574 = .ok (.iconst 1, 1) := by decide +kernel
theorem dL_law_575 : decode cL_law 575 = .ok (.iadd, 1) := by decide +kernel
theorem dL_law_576 : decode cL_law 576 = .ok (.iaload, 1) := by decide +kernel
theorem dL_law_577 : decode cL_law 577 = .ok (.invokevirtual 80, 3) := by decide +kernel
theorem dL_law_580 : decode cL_law 580 = .ok (.aload_n 2, 1) := by decide +kernel
theorem dL_law_581 : decode cL_law 581 = .ok (.aload_n 0, 1) := by decide +kernel
theorem dL_law_582 : decode cL_law 582 = .ok (.iload_n 3, 1) := by decide +kernel
theorem dL_law_583 : decode cL_law 583 = .ok (.iconst 1, 1) := by decide +kernel
theorem dL_law_584 : decode cL_law 584 = .ok (.iadd, 1) := by decide +kernel
theorem dL_law_585 : decode cL_law 585 = .ok (.iaload, 1) := by decide +kernel
theorem dL_law_586 : decode cL_law 586 = .ok (.invokevirtual 83, 3) := by decide +kernel
theorem dL_law_589 : decode cL_law 589 = .ok (.if_icmp .eq 309, 3) := by decide +kernel
theorem dL_law_592 : decode cL_law 592 = .ok (.iconst 0, 1) := by decide +kernel
theorem dL_law_593 : decode cL_law 593 = .ok (.ireturn, 1) := by decide +kernel
theorem dL_law_594 : decode cL_law 594 = .ok (.aload_n 1, 1) := by decide +kernel
theorem dL_law_595 : decode cL_law 595 = .ok (.invokevirtual 84, 3) := by decide +kernel
theorem dL_law_598 : decode cL_law 598 = .ok (.aload_n 2, 1) := by decide +kernel
theorem dL_law_599 : decode cL_law 599 = .ok (.invokevirtual 87, 3) := by decide +kernel
theorem dL_law_602 : decode cL_law 602 = .ok (.if_icmp .eq 296, 3) := by decide +kernel
theorem dL_law_605 : decode cL_law 605 = .ok (.iconst 0, 1) := by decide +kernel
theorem dL_law_606 : decode cL_law 606 = .ok (.ireturn, 1) := by decide +kernel
theorem dL_law_607 : decode cL_law 607 = .ok (.aload_n 1, 1) := by decide +kernel
theorem dL_law_608 : decode cL_law 608 = .ok (.aload_n 0, 1) := by decide +kernel
theorem dL_law_609 : decode cL_law 609 = .ok (.iload_n 3, 1) := by decide +kernel
theorem dL_law_610 : decode cL_law 610 = .ok (.iconst 1, 1) := by decide +kernel
theorem dL_law_611 : decode cL_law 611 = .ok (.iadd, 1) := by decide +kernel
theorem dL_law_612 : decode cL_law 612 = .ok (.iaload, 1) := by decide +kernel
theorem dL_law_613 : decode cL_law 613 = .ok (.aload_n 0, 1) := by decide +kernel
theorem dL_law_614 : decode cL_law 614 = .ok (.iload_n 3, 1) := by decide +kernel
theorem dL_law_615 : decode cL_law 615 = .ok (.iconst 2, 1) := by decide +kernel
theorem dL_law_616 : decode cL_law 616 = .ok (.iadd, 1) := by decide +kernel
theorem dL_law_617 : decode cL_law 617 = .ok (.iaload, 1) := by decide +kernel
theorem dL_law_618 : decode cL_law 618 = .ok (.aload_n 0, 1) := by decide +kernel
theorem dL_law_619 : decode cL_law 619 = .ok (.iload_n 3, 1) := by decide +kernel
theorem dL_law_620 : decode cL_law 620 = .ok (.iconst 3, 1) := by decide +kernel
theorem dL_law_621 : decode cL_law 621 = .ok (.iadd, 1) := by decide +kernel
theorem dL_law_622 : decode cL_law 622 = .ok (.iaload, 1) := by decide +kernel
theorem dL_law_623 : decode cL_law 623 = .ok (.invokevirtual 88, 3) := by decide +kernel
theorem dL_law_626 : decode cL_law 626 = .ok (.aload_n 2, 1) := by decide +kernel
theorem dL_law_627 : decode cL_law 627 = .ok (.aload_n 0, 1) := by decide +kernel
theorem dL_law_628 : decode cL_law 628 = .ok (.iload_n 3, 1) := by decide +kernel
theorem dL_law_629 : decode cL_law 629 = .ok (.iconst 1, 1) := by decide +kernel
theorem dL_law_630 : decode cL_law 630 = .ok (.iadd, 1) := by decide +kernel
theorem dL_law_631 : decode cL_law 631 = .ok (.iaload, 1) := by decide +kernel
theorem dL_law_632 : decode cL_law 632 = .ok (.aload_n 0, 1) := by decide +kernel
theorem dL_law_633 : decode cL_law 633 = .ok (.iload_n 3, 1) := by decide +kernel
theorem dL_law_634 : decode cL_law 634 = .ok (.iconst 2, 1) := by decide +kernel
theorem dL_law_635 : decode cL_law 635 = .ok (.iadd, 1) := by decide +kernel
theorem dL_law_636 : decode cL_law 636 = .ok (.iaload, 1) := by decide +kernel
theorem dL_law_637 : decode cL_law 637 = .ok (.aload_n 0, 1) := by decide +kernel
theorem dL_law_638 : decode cL_law 638 = .ok (.iload_n 3, 1) := by decide +kernel
theorem dL_law_639 : decode cL_law 639 = .ok (.iconst 3, 1) := by decide +kernel
theorem dL_law_640 : decode cL_law 640 = .ok (.iadd, 1) := by decide +kernel
theorem dL_law_641 : decode cL_law 641 = .ok (.iaload, 1) := by decide +kernel
theorem dL_law_642 : decode cL_law 642 = .ok (.invokevirtual 91, 3) := by decide +kernel
theorem dL_law_645 : decode cL_law 645 = .ok (.if_icmp .eq 253, 3) := by decide +kernel
theorem dL_law_648 : decode cL_law 648 = .ok (.iconst 0, 1) := by decide +kernel
theorem dL_law_649 : decode cL_law 649 = .ok (.ireturn, 1) := by decide +kernel
theorem dL_law_650 : decode cL_law 650 = .ok (.aload_n 1, 1) := by decide +kernel
theorem dL_law_651 : decode cL_law 651 = .ok (.aload_n 0, 1) := by decide +kernel
theorem dL_law_652 : decode cL_law 652 = .ok (.iload_n 3, 1) := by decide +kernel
theorem dL_law_653 : decode cL_law 653 = .ok (.iconst 1, 1) := by decide +kernel
theorem dL_law_654 : decode cL_law 654 = .ok (.iadd, 1) := by decide +kernel
theorem dL_law_655 : decode cL_law 655 = .ok (.iaload, 1) := by decide +kernel
theorem dL_law_656 : decode cL_law 656 = .ok (.aload_n 0, 1) := by decide +kernel
theorem dL_law_657 : decode cL_law 657 = .ok (.iload_n 3, 1) := by decide +kernel
theorem dL_law_658 : decode cL_law 658 = .ok (.iconst 2, 1) := by decide +kernel
theorem dL_law_659 : decode cL_law 659 = .ok (.iadd, 1) := by decide +kernel
theorem dL_law_660 : decode cL_law 660 = .ok (.iaload, 1) := by decide +kernel
theorem dL_law_661 : decode cL_law 661 = .ok (.aload_n 0, 1) := by decide +kernel
theorem dL_law_662 : decode cL_law 662 = .ok (.iload_n 3, 1) := by decide +kernel
theorem dL_law_663 : decode cL_law 663 = .ok (.iconst 3, 1) := by decide +kernel
theorem dL_law_664 : decode cL_law 664 = .ok (.iadd, 1) := by decide +kernel
theorem dL_law_665 : decode cL_law 665 = .ok (.iaload, 1) := by decide +kernel
theorem dL_law_666 : decode cL_law 666 = .ok (.aload_n 0, 1) := by decide +kernel
theorem dL_law_667 : decode cL_law 667 = .ok (.iload_n 3, 1) := by decide +kernel
theorem dL_law_668 : decode cL_law 668 = .ok (.iconst 4, 1) := by decide +kernel
theorem dL_law_669 : decode cL_law 669 = .ok (.iadd, 1) := by decide +kernel
theorem dL_law_670 : decode cL_law 670 = .ok (.iaload, 1) := by decide +kernel
theorem dL_law_671 : decode cL_law 671 = .ok (.invokevirtual 92, 3) := by decide +kernel
theorem dL_law_674 : decode cL_law 674 = .ok (.aload_n 2, 1) := by decide +kernel
theorem dL_law_675 : decode cL_law 675 = .ok (.aload_n 0, 1) := by decide +kernel
theorem dL_law_676 : decode cL_law 676 = .ok (.iload_n 3, 1) := by decide +kernel
theorem dL_law_677 : decode cL_law 677 = .ok (.iconst 1, 1) := by decide +kernel
theorem dL_law_678 : decode cL_law 678 = .ok (.iadd, 1) := by decide +kernel
theorem dL_law_679 : decode cL_law 679 = .ok (.iaload, 1) := by decide +kernel
theorem dL_law_680 : decode cL_law 680 = .ok (.aload_n 0, 1) := by decide +kernel
theorem dL_law_681 : decode cL_law 681 = .ok (.iload_n 3, 1) := by decide +kernel
theorem dL_law_682 : decode cL_law 682 = .ok (.iconst 2, 1) := by decide +kernel
theorem dL_law_683 : decode cL_law 683 = .ok (.iadd, 1) := by decide +kernel
theorem dL_law_684 : decode cL_law 684 = .ok (.iaload, 1) := by decide +kernel
theorem dL_law_685 : decode cL_law 685 = .ok (.aload_n 0, 1) := by decide +kernel
theorem dL_law_686 : decode cL_law 686 = .ok (.iload_n 3, 1) := by decide +kernel
theorem dL_law_687 : decode cL_law 687 = .ok (.iconst 3, 1) := by decide +kernel
theorem dL_law_688 : decode cL_law 688 = .ok (.iadd, 1) := by decide +kernel
theorem dL_law_689 : decode cL_law 689 = .ok (.iaload, 1) := by decide +kernel
theorem dL_law_690 : decode cL_law 690 = .ok (.aload_n 0, 1) := by decide +kernel
theorem dL_law_691 : decode cL_law 691 = .ok (.iload_n 3, 1) := by decide +kernel
theorem dL_law_692 : decode cL_law 692 = .ok (.iconst 4, 1) := by decide +kernel
theorem dL_law_693 : decode cL_law 693 = .ok (.iadd, 1) := by decide +kernel
theorem dL_law_694 : decode cL_law 694 = .ok (.iaload, 1) := by decide +kernel
theorem dL_law_695 : decode cL_law 695 = .ok (.invokevirtual 96, 3) := by decide +kernel
theorem dL_law_698 : decode cL_law 698 = .ok (.if_icmp .eq 200, 3) := by decide +kernel
theorem dL_law_701 : decode cL_law 701 = .ok (.iconst 0, 1) := by decide +kernel
theorem dL_law_702 : decode cL_law 702 = .ok (.ireturn, 1) := by decide +kernel
theorem dL_law_703 : decode cL_law 703 = .ok (.aload_n 1, 1) := by decide +kernel
theorem dL_law_704 : decode cL_law 704 = .ok (.aload_n 0, 1) := by decide +kernel
theorem dL_law_705 : decode cL_law 705 = .ok (.iload_n 3, 1) := by decide +kernel
theorem dL_law_706 : decode cL_law 706 = .ok (.iconst 1, 1) := by decide +kernel
theorem dL_law_707 : decode cL_law 707 = .ok (.iadd, 1) := by decide +kernel
theorem dL_law_708 : decode cL_law 708 = .ok (.iaload, 1) := by decide +kernel
theorem dL_law_709 : decode cL_law 709 = .ok (.aload_n 0, 1) := by decide +kernel
theorem dL_law_710 : decode cL_law 710 = .ok (.iload_n 3, 1) := by decide +kernel
theorem dL_law_711 : decode cL_law 711 = .ok (.iconst 2, 1) := by decide +kernel
theorem dL_law_712 : decode cL_law 712 = .ok (.iadd, 1) := by decide +kernel
theorem dL_law_713 : decode cL_law 713 = .ok (.iaload, 1) := by decide +kernel
theorem dL_law_714 : decode cL_law 714 = .ok (.invokevirtual 97, 3) := by decide +kernel
theorem dL_law_717 : decode cL_law 717 = .ok (.aload_n 2, 1) := by decide +kernel
theorem dL_law_718 : decode cL_law 718 = .ok (.aload_n 0, 1) := by decide +kernel
theorem dL_law_719 : decode cL_law 719 = .ok (.iload_n 3, 1) := by decide +kernel
theorem dL_law_720 : decode cL_law 720 = .ok (.iconst 1, 1) := by decide +kernel
theorem dL_law_721 : decode cL_law 721 = .ok (.iadd, 1) := by decide +kernel
theorem dL_law_722 : decode cL_law 722 = .ok (.iaload, 1) := by decide +kernel
theorem dL_law_723 : decode cL_law 723 = .ok (.aload_n 0, 1) := by decide +kernel
theorem dL_law_724 : decode cL_law 724 = .ok (.iload_n 3, 1) := by decide +kernel
theorem dL_law_725 : decode cL_law 725 = .ok (.iconst 2, 1) := by decide +kernel
theorem dL_law_726 : decode cL_law 726 = .ok (.iadd, 1) := by decide +kernel
theorem dL_law_727 : decode cL_law 727 = .ok (.iaload, 1) := by decide +kernel
theorem dL_law_728 : decode cL_law 728 = .ok (.invokevirtual 100, 3) := by decide +kernel
theorem dL_law_731 : decode cL_law 731 = .ok (.if_icmp .eq 167, 3) := by decide +kernel
theorem dL_law_734 : decode cL_law 734 = .ok (.iconst 0, 1) := by decide +kernel
theorem dL_law_735 : decode cL_law 735 = .ok (.ireturn, 1) := by decide +kernel
theorem dL_law_736 : decode cL_law 736 = .ok (.aload_n 1, 1) := by decide +kernel
theorem dL_law_737 : decode cL_law 737 = .ok (.aload_n 0, 1) := by decide +kernel
theorem dL_law_738 : decode cL_law 738 = .ok (.iload_n 3, 1) := by decide +kernel
theorem dL_law_739 : decode cL_law 739 = .ok (.iconst 1, 1) := by decide +kernel
theorem dL_law_740 : decode cL_law 740 = .ok (.iadd, 1) := by decide +kernel
theorem dL_law_741 : decode cL_law 741 = .ok (.iaload, 1) := by decide +kernel
theorem dL_law_742 : decode cL_law 742 = .ok (.invokevirtual 101, 3) := by decide +kernel
theorem dL_law_745 : decode cL_law 745 = .ok (.aload_n 2, 1) := by decide +kernel
theorem dL_law_746 : decode cL_law 746 = .ok (.aload_n 0, 1) := by decide +kernel
theorem dL_law_747 : decode cL_law 747 = .ok (.iload_n 3, 1) := by decide +kernel
theorem dL_law_748 : decode cL_law 748 = .ok (.iconst 1, 1) := by decide +kernel
theorem dL_law_749 : decode cL_law 749 = .ok (.iadd, 1) := by decide +kernel
theorem dL_law_750 : decode cL_law 750 = .ok (.iaload, 1) := by decide +kernel
theorem dL_law_751 : decode cL_law 751 = .ok (.invokevirtual 104, 3) := by decide +kernel
theorem dL_law_754 : decode cL_law 754 = .ok (.if_icmp .eq 144, 3) := by decide +kernel
theorem dL_law_757 : decode cL_law 757 = .ok (.iconst 0, 1) := by decide +kernel
theorem dL_law_758 : decode cL_law 758 = .ok (.ireturn, 1) := by decide +kernel
theorem dL_law_759 : decode cL_law 759 = .ok (.aload_n 1, 1) := by decide +kernel
theorem dL_law_760 : decode cL_law 760 = .ok (.aload_n 0, 1) := by decide +kernel
theorem dL_law_761 : decode cL_law 761 = .ok (.iload_n 3, 1) := by decide +kernel
theorem dL_law_762 : decode cL_law 762 = .ok (.iconst 1, 1) := by decide +kernel
theorem dL_law_763 : decode cL_law 763 = .ok (.iadd, 1) := by decide +kernel
theorem dL_law_764 : decode cL_law 764 = .ok (.iaload, 1) := by decide +kernel
theorem dL_law_765 : decode cL_law 765 = .ok (.invokevirtual 105, 3) := by decide +kernel
theorem dL_law_768 : decode cL_law 768 = .ok (.aload_n 2, 1) := by decide +kernel
theorem dL_law_769 : decode cL_law 769 = .ok (.aload_n 0, 1) := by decide +kernel
theorem dL_law_770 : decode cL_law 770 = .ok (.iload_n 3, 1) := by decide +kernel
theorem dL_law_771 : decode cL_law 771 = .ok (.iconst 1, 1) := by decide +kernel
theorem dL_law_772 : decode cL_law 772 = .ok (.iadd, 1) := by decide +kernel
theorem dL_law_773 : decode cL_law 773 = .ok (.iaload, 1) := by decide +kernel
theorem dL_law_774 : decode cL_law 774 = .ok (.invokevirtual 108, 3) := by decide +kernel
theorem dL_law_777 : decode cL_law 777 = .ok (.if_icmp .eq 121, 3) := by decide +kernel
theorem dL_law_780 : decode cL_law 780 = .ok (.iconst 0, 1) := by decide +kernel
theorem dL_law_781 : decode cL_law 781 = .ok (.ireturn, 1) := by decide +kernel
theorem dL_law_782 : decode cL_law 782 = .ok (.aload_n 1, 1) := by decide +kernel
theorem dL_law_783 : decode cL_law 783 = .ok (.aload_n 0, 1) := by decide +kernel
theorem dL_law_784 : decode cL_law 784 = .ok (.iload_n 3, 1) := by decide +kernel
theorem dL_law_785 : decode cL_law 785 = .ok (.iconst 1, 1) := by decide +kernel
theorem dL_law_786 : decode cL_law 786 = .ok (.iadd, 1) := by decide +kernel
theorem dL_law_787 : decode cL_law 787 = .ok (.iaload, 1) := by decide +kernel
theorem dL_law_788 : decode cL_law 788 = .ok (.aload_n 0, 1) := by decide +kernel
theorem dL_law_789 : decode cL_law 789 = .ok (.iload_n 3, 1) := by decide +kernel
theorem dL_law_790 : decode cL_law 790 = .ok (.iconst 2, 1) := by decide +kernel
theorem dL_law_791 : decode cL_law 791 = .ok (.iadd, 1) := by decide +kernel
theorem dL_law_792 : decode cL_law 792 = .ok (.iaload, 1) := by decide +kernel
theorem dL_law_793 : decode cL_law 793 = .ok (.invokevirtual 109, 3) := by decide +kernel
theorem dL_law_796 : decode cL_law 796 = .ok (.aload_n 2, 1) := by decide +kernel
theorem dL_law_797 : decode cL_law 797 = .ok (.aload_n 0, 1) := by decide +kernel
theorem dL_law_798 : decode cL_law 798 = .ok (.iload_n 3, 1) := by decide +kernel
theorem dL_law_799 : decode cL_law 799 = .ok (.iconst 1, 1) := by decide +kernel
theorem dL_law_800 : decode cL_law 800 = .ok (.iadd, 1) := by decide +kernel
theorem dL_law_801 : decode cL_law 801 = .ok (.iaload, 1) := by decide +kernel
theorem dL_law_802 : decode cL_law 802 = .ok (.aload_n 0, 1) := by decide +kernel
theorem dL_law_803 : decode cL_law 803 = .ok (.iload_n 3, 1) := by decide +kernel
theorem dL_law_804 : decode cL_law 804 = .ok (.iconst 2, 1) := by decide +kernel
theorem dL_law_805 : decode cL_law 805 = .ok (.iadd, 1) := by decide +kernel
theorem dL_law_806 : decode cL_law 806 = .ok (.iaload, 1) := by decide +kernel
theorem dL_law_807 : decode cL_law 807 = .ok (.invokevirtual 112, 3) := by decide +kernel
theorem dL_law_810 : decode cL_law 810 = .ok (.if_icmp .eq 88, 3) := by decide +kernel
theorem dL_law_813 : decode cL_law 813 = .ok (.iconst 0, 1) := by decide +kernel
theorem dL_law_814 : decode cL_law 814 = .ok (.ireturn, 1) := by decide +kernel
theorem dL_law_815 : decode cL_law 815 = .ok (.aload_n 1, 1) := by decide +kernel
theorem dL_law_816 : decode cL_law 816 = .ok (.aload_n 0, 1) := by decide +kernel
theorem dL_law_817 : decode cL_law 817 = .ok (.iload_n 3, 1) := by decide +kernel
theorem dL_law_818 : decode cL_law 818 = .ok (.iconst 1, 1) := by decide +kernel
theorem dL_law_819 : decode cL_law 819 = .ok (.iadd, 1) := by decide +kernel
theorem dL_law_820 : decode cL_law 820 = .ok (.iaload, 1) := by decide +kernel
theorem dL_law_821 : decode cL_law 821 = .ok (.invokevirtual 113, 3) := by decide +kernel
theorem dL_law_824 : decode cL_law 824 = .ok (.aload_n 2, 1) := by decide +kernel
theorem dL_law_825 : decode cL_law 825 = .ok (.aload_n 0, 1) := by decide +kernel
theorem dL_law_826 : decode cL_law 826 = .ok (.iload_n 3, 1) := by decide +kernel
theorem dL_law_827 : decode cL_law 827 = .ok (.iconst 1, 1) := by decide +kernel
theorem dL_law_828 : decode cL_law 828 = .ok (.iadd, 1) := by decide +kernel
theorem dL_law_829 : decode cL_law 829 = .ok (.iaload, 1) := by decide +kernel
theorem dL_law_830 : decode cL_law 830 = .ok (.invokevirtual 116, 3) := by decide +kernel
theorem dL_law_833 : decode cL_law 833 = .ok (.if_icmp .eq 65, 3) := by decide +kernel
theorem dL_law_836 : decode cL_law 836 = .ok (.iconst 0, 1) := by decide +kernel
theorem dL_law_837 : decode cL_law 837 = .ok (.ireturn, 1) := by decide +kernel
theorem dL_law_838 : decode cL_law 838 = .ok (.aload_n 1, 1) := by decide +kernel
theorem dL_law_839 : decode cL_law 839 = .ok (.aload_n 0, 1) := by decide +kernel
theorem dL_law_840 : decode cL_law 840 = .ok (.iload_n 3, 1) := by decide +kernel
theorem dL_law_841 : decode cL_law 841 = .ok (.iconst 1, 1) := by decide +kernel
theorem dL_law_842 : decode cL_law 842 = .ok (.iadd, 1) := by decide +kernel
theorem dL_law_843 : decode cL_law 843 = .ok (.iaload, 1) := by decide +kernel
theorem dL_law_844 : decode cL_law 844 = .ok (.invokevirtual 117, 3) := by decide +kernel
theorem dL_law_847 : decode cL_law 847 = .ok (.aload_n 2, 1) := by decide +kernel
theorem dL_law_848 : decode cL_law 848 = .ok (.aload_n 0, 1) := by decide +kernel
theorem dL_law_849 : decode cL_law 849 = .ok (.iload_n 3, 1) := by decide +kernel
theorem dL_law_850 : decode cL_law 850 = .ok (.iconst 1, 1) := by decide +kernel
theorem dL_law_851 : decode cL_law 851 = .ok (.iadd, 1) := by decide +kernel
theorem dL_law_852 : decode cL_law 852 = .ok (.iaload, 1) := by decide +kernel
theorem dL_law_853 : decode cL_law 853 = .ok (.invokevirtual 120, 3) := by decide +kernel
theorem dL_law_856 : decode cL_law 856 = .ok (.if_icmp .eq 42, 3) := by decide +kernel
theorem dL_law_859 : decode cL_law 859 = .ok (.iconst 0, 1) := by decide +kernel
theorem dL_law_860 : decode cL_law 860 = .ok (.ireturn, 1) := by decide +kernel
theorem dL_law_861 : decode cL_law 861 = .ok (.aload_n 1, 1) := by decide +kernel
theorem dL_law_862 : decode cL_law 862 = .ok (.aload_n 0, 1) := by decide +kernel
theorem dL_law_863 : decode cL_law 863 = .ok (.iload_n 3, 1) := by decide +kernel
theorem dL_law_864 : decode cL_law 864 = .ok (.iconst 1, 1) := by decide +kernel
theorem dL_law_865 : decode cL_law 865 = .ok (.iadd, 1) := by decide +kernel
theorem dL_law_866 : decode cL_law 866 = .ok (.iaload, 1) := by decide +kernel
theorem dL_law_867 : decode cL_law 867 = .ok (.invokevirtual 121, 3) := by decide +kernel
theorem dL_law_870 : decode cL_law 870 = .ok (.aload_n 2, 1) := by decide +kernel
theorem dL_law_871 : decode cL_law 871 = .ok (.aload_n 0, 1) := by decide +kernel
theorem dL_law_872 : decode cL_law 872 = .ok (.iload_n 3, 1) := by decide +kernel
theorem dL_law_873 : decode cL_law 873 = .ok (.iconst 1, 1) := by decide +kernel
theorem dL_law_874 : decode cL_law 874 = .ok (.iadd, 1) := by decide +kernel
theorem dL_law_875 : decode cL_law 875 = .ok (.iaload, 1) := by decide +kernel
theorem dL_law_876 : decode cL_law 876 = .ok (.invokevirtual 124, 3) := by decide +kernel
theorem dL_law_879 : decode cL_law 879 = .ok (.if_icmp .eq 19, 3) := by decide +kernel
theorem dL_law_882 : decode cL_law 882 = .ok (.iconst 0, 1) := by decide +kernel
theorem dL_law_883 : decode cL_law 883 = .ok (.ireturn, 1) := by decide +kernel
theorem dL_law_884 : decode cL_law 884 = .ok (.aload_n 1, 1) := by decide +kernel
theorem dL_law_885 : decode cL_law 885 = .ok (.invokevirtual 125, 3) := by decide +kernel
theorem dL_law_888 : decode cL_law 888 = .ok (.aload_n 2, 1) := by decide +kernel
theorem dL_law_889 : decode cL_law 889 = .ok (.invokevirtual 129, 3) := by decide +kernel
theorem dL_law_892 : decode cL_law 892 = .ok (.lcmp, 1) := by decide +kernel
theorem dL_law_893 : decode cL_law 893 = .ok (.ifCond .eq 5, 3) := by decide +kernel
theorem dL_law_896 : decode cL_law 896 = .ok (.iconst 0, 1) := by decide +kernel
theorem dL_law_897 : decode cL_law 897 = .ok (.ireturn, 1) := by decide +kernel
theorem dL_law_898 : decode cL_law 898 = .ok (.iinc 3 5, 3) := by decide +kernel
theorem dL_law_901 : decode cL_law 901 = .ok (.goto (-883), 3) := by decide +kernel
theorem dL_law_904 : decode cL_law 904 = .ok (.iconst 1, 1) := by decide +kernel
theorem dL_law_905 : decode cL_law 905 = .ok (.ireturn, 1) := by decide +kernel
