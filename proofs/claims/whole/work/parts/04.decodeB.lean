theorem dX7_init_0 : decode cX7_init 0 = .ok (.aload_n 0, 1) := by decide +kernel
theorem dX7_init_1 : decode cX7_init 1 = .ok (.invokespecial 1, 3) := by decide +kernel
theorem dX7_init_4 : decode cX7_init 4 = .ok (.aload_n 0, 1) := by decide +kernel
theorem dX7_init_5 : decode cX7_init 5 = .ok (.sipush 400, 3) := by decide +kernel
theorem dX7_init_8 : decode cX7_init 8 = .ok (.newarray .int, 2) := by decide +kernel
theorem dX7_init_10 : decode cX7_init 10 = .ok (.putfield 7, 3) := by decide +kernel
theorem dX7_init_13 : decode cX7_init 13 = .ok (.aload_n 0, 1) := by decide +kernel
theorem dX7_init_14 : decode cX7_init 14 = .ok (.bipush 16, 2) := by decide +kernel
theorem dX7_init_16 : decode cX7_init 16 = .ok (.newarray .int, 2) := by decide +kernel
theorem dX7_init_18 : decode cX7_init 18 = .ok (.putfield 13, 3) := by decide +kernel
theorem dX7_init_21 : decode cX7_init 21 = .ok (.aload_n 0, 1) := by decide +kernel
theorem dX7_init_22 : decode cX7_init 22 = .ok (.bipush 16, 2) := by decide +kernel
theorem dX7_init_24 : decode cX7_init 24 = .ok (.newarray .int, 2) := by decide +kernel
theorem dX7_init_26 : decode cX7_init 26 = .ok (.putfield 16, 3) := by decide +kernel
theorem dX7_init_29 : decode cX7_init 29 = .ok (.aload_n 0, 1) := by decide +kernel
theorem dX7_init_30 : decode cX7_init 30 = .ok (.bipush 82, 2) := by decide +kernel
theorem dX7_init_32 : decode cX7_init 32 = .ok (.newarray .int, 2) := by decide +kernel
theorem dX7_init_34 : decode cX7_init 34 = .ok (.putfield 19, 3) := by decide +kernel
theorem dX7_init_37 : decode cX7_init 37 = .ok (.aload_n 0, 1) := by decide +kernel
theorem dX7_init_38 : decode cX7_init 38 = .ok (.bipush 82, 2) := by decide +kernel
theorem dX7_init_40 : decode cX7_init 40 = .ok (.newarray .int, 2) := by decide +kernel
theorem dX7_init_42 : decode cX7_init 42 = .ok (.putfield 22, 3) := by decide +kernel
theorem dX7_init_45 : decode cX7_init 45 = .ok (.aload_n 0, 1) := by decide +kernel
theorem dX7_init_46 : decode cX7_init 46 = .ok (.sipush 164, 3) := by decide +kernel
theorem dX7_init_49 : decode cX7_init 49 = .ok (.newarray .int, 2) := by decide +kernel
theorem dX7_init_51 : decode cX7_init 51 = .ok (.putfield 25, 3) := by decide +kernel
theorem dX7_init_54 : decode cX7_init 54 = .ok (.aload_n 0, 1) := by decide +kernel
theorem dX7_init_55 : decode cX7_init 55 = .ok (.iconst 2, 1) := by decide +kernel
theorem dX7_init_56 : decode cX7_init 56 = .ok (.newarray .boolean, 2) := by decide +kernel
theorem dX7_init_58 : decode cX7_init 58 = .ok (.putfield 28, 3) := by decide +kernel
theorem dX7_init_61 : decode cX7_init 61 = .ok (.aload_n 0, 1) := by decide +kernel
theorem dX7_init_62 : decode cX7_init 62 = .ok (.bipush 40, 2) := by decide +kernel
theorem dX7_init_64 : decode cX7_init 64 = .ok (.newarray .int, 2) := by decide +kernel
theorem dX7_init_66 : decode cX7_init 66 = .ok (.putfield 32, 3) := by decide +kernel
theorem dX7_init_69 : decode cX7_init 69 = .ok (.aload_n 0, 1) := by decide +kernel
theorem dX7_init_70 : decode cX7_init 70 = .ok (.iconst 3, 1) := by decide +kernel
theorem dX7_init_71 : decode cX7_init 71 = .ok (.newarray .int, 2) := by decide +kernel
theorem dX7_init_73 : decode cX7_init 73 = .ok (.putfield 35, 3) := by decide +kernel
theorem dX7_init_76 : decode cX7_init 76 = .ok (.aload_n 0, 1) := by decide +kernel
theorem dX7_init_77 : decode cX7_init 77 = .ok (.bipush 24, 2) := by decide +kernel
theorem dX7_init_79 : decode cX7_init 79 = .ok (.newarray .int, 2) := by decide +kernel
theorem dX7_init_81 : decode cX7_init 81 = .ok (.putfield 38, 3) := by decide +kernel
theorem dX7_init_84 : decode cX7_init 84 = .ok (.aload_n 0, 1) := by decide +kernel
theorem dX7_init_85 : decode cX7_init 85 = .ok (.iconst 3, 1) := by decide +kernel
theorem dX7_init_86 : decode cX7_init 86 = .ok (.newarray .int, 2) := by decide +kernel
theorem dX7_init_88 : decode cX7_init 88 = .ok (.putfield 41, 3) := by decide +kernel
theorem dX7_init_91 : decode cX7_init 91 = .ok (.aload_n 0, 1) := by decide +kernel
theorem dX7_init_92 : decode cX7_init 92 = .ok (.iconst 2, 1) := by decide +kernel
theorem dX7_init_93 : decode cX7_init 93 = .ok (.putfield 44, 3) := by decide +kernel
theorem dX7_init_96 : decode cX7_init 96 = .ok (.iconst 0, 1) := by decide +kernel
theorem dX7_init_97 : decode cX7_init 97 = .ok (.istore_n 1, 1) := by decide +kernel
theorem dX7_init_98 : decode cX7_init 98 = .ok (.iload_n 1, 1) := by decide +kernel
theorem dX7_init_99 : decode cX7_init 99 = .ok (.bipush 8, 2) := by decide +kernel
theorem dX7_init_101 : decode cX7_init 101 = .ok (.if_icmp .ge 17, 3) := by decide +kernel
theorem dX7_init_104 : decode cX7_init 104 = .ok (.aload_n 0, 1) := by decide +kernel
theorem dX7_init_105 : decode cX7_init 105 = .ok (.getfield 16, 3) := by decide +kernel
theorem dX7_init_108 : decode cX7_init 108 = .ok (.iload_n 1, 1) := by decide +kernel
theorem dX7_init_109 : decode cX7_init 109 = .ok (.bipush (-9), 2) := by decide +kernel
theorem dX7_init_111 : decode cX7_init 111 = .ok (.iastore, 1) := by decide +kernel
theorem dX7_init_112 : decode cX7_init 112 = .ok (.iinc 1 1, 3) := by decide +kernel
theorem dX7_init_115 : decode cX7_init 115 = .ok (.goto (-17), 3) := by decide +kernel
theorem dX7_init_118 : decode cX7_init 118 = .ok (.aload_n 0, 1) := by decide +kernel
theorem dX7_init_119 : decode cX7_init 119 = .ok (.invokevirtual 48, 3) := by decide +kernel
theorem dX7_init_122 : decode cX7_init 122 = .ok (.return_, 1) := by decide +kernel
theorem dX7_in_0 : decode cX7_in 0 = .ok (.iload_n 0, 1) := by decide +kernel
theorem dX7_in_1 : decode cX7_in 1 = .ok (.iload_n 1, 1) := by decide +kernel
theorem dX7_in_2 : decode cX7_in 2 = .ok (.if_icmp .lt 12, 3) := by decide +kernel
theorem dX7_in_5 : decode cX7_in 5 = .ok (.iload_n 0, 1) := by decide +kernel
theorem dX7_in_6 : decode cX7_in 6 = .ok (.iload_n 2, 1) := by decide +kernel
theorem dX7_in_7 : decode cX7_in 7 = .ok (.if_icmp .gt 7, 3) := by decide +kernel
theorem dX7_in_10 : decode cX7_in 10 = .ok (.iconst 1, 1) := by decide +kernel
theorem dX7_in_11 : decode cX7_in 11 = .ok (.goto 4, 3) := by decide +kernel
theorem dX7_in_14 : decode cX7_in 14 = .ok (.iconst 0, 1) := by decide +kernel
theorem dX7_in_15 : decode cX7_in 15 = .ok (.ireturn, 1) := by decide +kernel
theorem dX7_type_0 : decode cX7_type 0 = .ok (.aload_n 0, 1) := by decide +kernel
theorem dX7_type_1 : decode cX7_type 1 = .ok (.iconst 0, 1) := by decide +kernel
theorem dX7_type_2 : decode cX7_type 2 = .ok (.putfield 51, 3) := by decide +kernel
theorem dX7_type_5 : decode cX7_type 5 = .ok (.iload_n 3, 1) := by decide +kernel
theorem dX7_type_6 : decode cX7_type 6 = .ok (.iconst 1, 1) := by decide +kernel
theorem dX7_type_7 : decode cX7_type 7 = .ok (.bipush 8, 2) := by decide +kernel
theorem dX7_type_9 : decode cX7_type 9 = .ok (.invokestatic 54, 3) := by decide +kernel
theorem dX7_type_12 : decode cX7_type 12 = .ok (.ifCond .ne 5, 3) := by decide +kernel
theorem dX7_type_15 : decode cX7_type 15 = .ok (.iconst (-1), 1) := by decide +kernel
theorem dX7_type_16 : decode cX7_type 16 = .ok (.ireturn, 1) := by decide +kernel
theorem dX7_type_17 : decode cX7_type 17 = .ok (.aload_n 0, 1) := by decide +kernel
theorem dX7_type_18 : decode cX7_type 18 = .ok (.getfield 58, 3) := by decide +kernel
theorem dX7_type_21 : decode cX7_type 21 = .ok (.iload_n 3, 1) := by decide +kernel
theorem dX7_type_22 : decode cX7_type 22 = .ok (.iadd, 1) := by decide +kernel
theorem dX7_type_23 : decode cX7_type 23 = .ok (.sipush 400, 3) := by decide +kernel
theorem dX7_type_26 : decode cX7_type 26 = .ok (.if_icmp .le 6, 3) := by decide +kernel
theorem dX7_type_29 : decode cX7_type 29 = .ok (.bipush (-3), 2) := by decide +kernel
theorem dX7_type_31 : decode cX7_type 31 = .ok (.ireturn, 1) := by decide +kernel
theorem dX7_type_32 : decode cX7_type 32 = .ok (.iload_n 3, 1) := by decide +kernel
theorem dX7_type_33 : decode cX7_type 33 = .ok (.iconst 1, 1) := by decide +kernel
theorem dX7_type_34 : decode cX7_type 34 = .ok (.isub, 1) := by decide +kernel
theorem dX7_type_35 : decode cX7_type 35 = .ok (.istore 4, 2) := by decide +kernel
theorem dX7_type_37 : decode cX7_type 37 = .ok (.iload 4, 2) := by decide +kernel
theorem dX7_type_39 : decode cX7_type 39 = .ok (.ifCond .lt 40, 3) := by decide +kernel
theorem dX7_type_42 : decode cX7_type 42 = .ok (.aload_n 0, 1) := by decide +kernel
theorem dX7_type_43 : decode cX7_type 43 = .ok (.getfield 7, 3) := by decide +kernel
theorem dX7_type_46 : decode cX7_type 46 = .ok (.aload_n 0, 1) := by decide +kernel
theorem dX7_type_47 : decode cX7_type 47 = .ok (.getfield 58, 3) := by decide +kernel
theorem dX7_type_50 : decode cX7_type 50 = .ok (.lload_n 1, 1) := by decide +kernel
theorem dX7_type_51 : decode cX7_type 51 = .ok (.bipush 8, 2) := by decide +kernel
theorem dX7_type_53 : decode cX7_type 53 = .ok (.iload 4, 2) := by decide +kernel
theorem dX7_type_55 : decode cX7_type 55 = .ok (.imul, 1) := by decide +kernel
theorem dX7_type_56 : decode cX7_type 56 = .ok (.lshr, 1) := by decide +kernel
theorem dX7_type_57 : decode cX7_type 57 = .ok (.ldc2_w 61, 3) := by decide +kernel
theorem dX7_type_60 : decode cX7_type 60 = .ok (.land, 1) := by decide +kernel
theorem dX7_type_61 : decode cX7_type 61 = .ok (.l2i, 1) := by decide +kernel
theorem dX7_type_62 : decode cX7_type 62 = .ok (.iastore, 1) := by decide +kernel
theorem dX7_type_63 : decode cX7_type 63 = .ok (.aload_n 0, 1) := by decide +kernel
theorem dX7_type_64 : decode cX7_type 64 = .ok (.dup, 1) := by decide +kernel
theorem dX7_type_65 : decode cX7_type 65 = .ok (.getfield 58, 3) := by decide +kernel
theorem dX7_type_68 : decode cX7_type 68 = .ok (.iconst 1, 1) := by decide +kernel
theorem dX7_type_69 : decode cX7_type 69 = .ok (.iadd, 1) := by decide +kernel
theorem dX7_type_70 : decode cX7_type 70 = .ok (.putfield 58, 3) := by decide +kernel
theorem dX7_type_73 : decode cX7_type 73 = .ok (.iinc 4 (-1), 3) := by decide +kernel
theorem dX7_type_76 : decode cX7_type 76 = .ok (.goto (-39), 3) := by decide +kernel
theorem dX7_type_79 : decode cX7_type 79 = .ok (.aload_n 0, 1) := by decide +kernel
theorem dX7_type_80 : decode cX7_type 80 = .ok (.getfield 58, 3) := by decide +kernel
theorem dX7_type_83 : decode cX7_type 83 = .ok (.ireturn, 1) := by decide +kernel
theorem dX7_clear_0 : decode cX7_clear 0 = .ok (.aload_n 0, 1) := by decide +kernel
theorem dX7_clear_1 : decode cX7_clear 1 = .ok (.iconst 0, 1) := by decide +kernel
theorem dX7_clear_2 : decode cX7_clear 2 = .ok (.putfield 51, 3) := by decide +kernel
theorem dX7_clear_5 : decode cX7_clear 5 = .ok (.aload_n 0, 1) := by decide +kernel
theorem dX7_clear_6 : decode cX7_clear 6 = .ok (.getfield 58, 3) := by decide +kernel
theorem dX7_clear_9 : decode cX7_clear 9 = .ok (.istore_n 1, 1) := by decide +kernel
theorem dX7_clear_10 : decode cX7_clear 10 = .ok (.aload_n 0, 1) := by decide +kernel
theorem dX7_clear_11 : decode cX7_clear 11 = .ok (.iconst 0, 1) := by decide +kernel
theorem dX7_clear_12 : decode cX7_clear 12 = .ok (.putfield 58, 3) := by decide +kernel
theorem dX7_clear_15 : decode cX7_clear 15 = .ok (.iload_n 1, 1) := by decide +kernel
theorem dX7_clear_16 : decode cX7_clear 16 = .ok (.ireturn, 1) := by decide +kernel
theorem dX7_byteAt_0 : decode cX7_byteAt 0 = .ok (.iload_n 1, 1) := by decide +kernel
theorem dX7_byteAt_1 : decode cX7_byteAt 1 = .ok (.aload_n 0, 1) := by decide +kernel
theorem dX7_byteAt_2 : decode cX7_byteAt 2 = .ok (.getfield 58, 3) := by decide +kernel
theorem dX7_byteAt_5 : decode cX7_byteAt 5 = .ok (.if_icmp .ge 12, 3) := by decide +kernel
theorem dX7_byteAt_8 : decode cX7_byteAt 8 = .ok (.aload_n 0, 1) := by decide +kernel
theorem dX7_byteAt_9 : decode cX7_byteAt 9 = .ok (.getfield 7, 3) := by decide +kernel
theorem dX7_byteAt_12 : decode cX7_byteAt 12 = .ok (.iload_n 1, 1) := by decide +kernel
theorem dX7_byteAt_13 : decode cX7_byteAt 13 = .ok (.iaload, 1) := by decide +kernel
theorem dX7_byteAt_14 : decode cX7_byteAt 14 = .ok (.goto 4, 3) := by decide +kernel
theorem dX7_byteAt_17 : decode cX7_byteAt 17 = .ok (.iconst (-1), 1) := by decide +kernel
theorem dX7_byteAt_18 : decode cX7_byteAt 18 = .ok (.ireturn, 1) := by decide +kernel
theorem dX7_add_0 : decode cX7_add 0 = .ok (.iload_n 2, 1) := by decide +kernel
theorem dX7_add_1 : decode cX7_add 1 = .ok (.ifCond .ne 7, 3) := by decide +kernel
theorem dX7_add_4 : decode cX7_add 4 = .ok (.lload_n 0, 1) := by decide +kernel
theorem dX7_add_5 : decode cX7_add 5 = .ok (.goto 11, 3) := by decide +kernel
theorem dX7_add_8 : decode cX7_add 8 = .ok (.ldc2_w 63, 3) := by decide +kernel
theorem dX7_add_11 : decode cX7_add 11 = .ok (.lload_n 0, 1) := by decide +kernel
theorem dX7_add_12 : decode cX7_add 12 = .ok (.lmul, 1) := by decide +kernel
theorem dX7_add_13 : decode cX7_add 13 = .ok (.iload_n 2, 1) := by decide +kernel
theorem dX7_add_14 : decode cX7_add 14 = .ok (.i2l, 1) := by decide +kernel
theorem dX7_add_15 : decode cX7_add 15 = .ok (.ladd, 1) := by decide +kernel
theorem dX7_add_16 : decode cX7_add 16 = .ok (.lreturn, 1) := by decide +kernel
theorem dX7_named_0 : decode cX7_named 0 = .ok (.lconst 0, 1) := by decide +kernel
theorem dX7_named_1 : decode cX7_named 1 = .ok (.iload_n 0, 1) := by decide +kernel
theorem dX7_named_2 : decode cX7_named 2 = .ok (.invokestatic 65, 3) := by decide +kernel
theorem dX7_named_5 : decode cX7_named 5 = .ok (.iload_n 1, 1) := by decide +kernel
theorem dX7_named_6 : decode cX7_named 6 = .ok (.invokestatic 65, 3) := by decide +kernel
theorem dX7_named_9 : decode cX7_named 9 = .ok (.iload_n 2, 1) := by decide +kernel
theorem dX7_named_10 : decode cX7_named 10 = .ok (.invokestatic 65, 3) := by decide +kernel
theorem dX7_named_13 : decode cX7_named 13 = .ok (.iload_n 3, 1) := by decide +kernel
theorem dX7_named_14 : decode cX7_named 14 = .ok (.invokestatic 65, 3) := by decide +kernel
theorem dX7_named_17 : decode cX7_named 17 = .ok (.iload 4, 2) := by decide +kernel
theorem dX7_named_19 : decode cX7_named 19 = .ok (.invokestatic 65, 3) := by decide +kernel
theorem dX7_named_22 : decode cX7_named 22 = .ok (.iload 5, 2) := by decide +kernel
theorem dX7_named_24 : decode cX7_named 24 = .ok (.invokestatic 65, 3) := by decide +kernel
theorem dX7_named_27 : decode cX7_named 27 = .ok (.lreturn, 1) := by decide +kernel
theorem dX7_wordOf_0 : decode cX7_wordOf 0 = .ok (.lload_n 0, 1) := by decide +kernel
theorem dX7_wordOf_1 : decode cX7_wordOf 1 = .ok (.bipush 102, 2) := by decide +kernel
theorem dX7_wordOf_3 : decode cX7_wordOf 3 = .ok (.bipush 111, 2) := by decide +kernel
theorem dX7_wordOf_5 : decode cX7_wordOf 5 = .ok (.bipush 114, 2) := by decide +kernel
theorem dX7_wordOf_7 : decode cX7_wordOf 7 = .ok (.bipush 103, 2) := by decide +kernel
theorem dX7_wordOf_9 : decode cX7_wordOf 9 = .ok (.bipush 101, 2) := by decide +kernel
theorem dX7_wordOf_11 : decode cX7_wordOf 11 = .ok (.bipush 116, 2) := by decide +kernel
theorem dX7_wordOf_13 : decode cX7_wordOf 13 = .ok (.invokestatic 69, 3) := by decide +kernel
theorem dX7_wordOf_16 : decode cX7_wordOf 16 = .ok (.bipush 115, 2) := by decide +kernel
theorem dX7_wordOf_18 : decode cX7_wordOf 18 = .ok (.invokestatic 65, 3) := by decide +kernel
theorem dX7_wordOf_21 : decode cX7_wordOf 21 = .ok (.lcmp, 1) := by decide +kernel
theorem dX7_wordOf_22 : decode cX7_wordOf 22 = .ok (.ifCond .ne 5, 3) := by decide +kernel
theorem dX7_wordOf_25 : decode cX7_wordOf 25 = .ok (.iconst 4, 1) := by decide +kernel
theorem dX7_wordOf_26 : decode cX7_wordOf 26 = .ok (.ireturn, 1) := by decide +kernel
theorem dX7_wordOf_27 : decode cX7_wordOf 27 = .ok (.lload_n 0, 1) := by decide +kernel
theorem dX7_wordOf_28 : decode cX7_wordOf 28 = .ok (.bipush 112, 2) := by decide +kernel
theorem dX7_wordOf_30 : decode cX7_wordOf 30 = .ok (.bipush 101, 2) := by decide +kernel
theorem dX7_wordOf_32 : decode cX7_wordOf 32 = .ok (.bipush 114, 2) := by decide +kernel
theorem dX7_wordOf_34 : decode cX7_wordOf 34 = .ok (.bipush 115, 2) := by decide +kernel
theorem dX7_wordOf_36 : decode cX7_wordOf 36 = .ok (.bipush 111, 2) := by decide +kernel
theorem dX7_wordOf_38 : decode cX7_wordOf 38 = .ok (.bipush 110, 2) := by decide +kernel
theorem dX7_wordOf_40 : decode cX7_wordOf 40 = .ok (.invokestatic 69, 3) := by decide +kernel
theorem dX7_wordOf_43 : decode cX7_wordOf 43 = .ok (.lcmp, 1) := by decide +kernel
theorem dX7_wordOf_44 : decode cX7_wordOf 44 = .ok (.ifCond .ne 7, 3) := by decide +kernel
theorem dX7_wordOf_47 : decode cX7_wordOf 47 = .ok (.iconst 0, 1) := by decide +kernel
theorem dX7_wordOf_48 : decode cX7_wordOf 48 = .ok (.goto 75, 3) := by decide +kernel
theorem dX7_wordOf_51 : decode cX7_wordOf 51 = .ok (.lload_n 0, 1) := by decide +kernel
theorem dX7_wordOf_52 : decode cX7_wordOf 52 = .ok (.bipush 107, 2) := by decide +kernel
theorem dX7_wordOf_54 : decode cX7_wordOf 54 = .ok (.bipush 110, 2) := by decide +kernel
theorem dX7_wordOf_56 : decode cX7_wordOf 56 = .ok (.bipush 111, 2) := by decide +kernel
theorem dX7_wordOf_58 : decode cX7_wordOf 58 = .ok (.bipush 119, 2) := by decide +kernel
theorem dX7_wordOf_60 : decode cX7_wordOf 60 = .ok (.bipush 115, 2) := by decide +kernel
theorem dX7_wordOf_62 : decode cX7_wordOf 62 = .ok (.iconst 0, 1) := by decide +kernel
theorem dX7_wordOf_63 : decode cX7_wordOf 63 = .ok (.invokestatic 69, 3) := by decide +kernel
theorem dX7_wordOf_66 : decode cX7_wordOf 66 = .ok (.lcmp, 1) := by decide +kernel
theorem dX7_wordOf_67 : decode cX7_wordOf 67 = .ok (.ifCond .ne 7, 3) := by decide +kernel
theorem dX7_wordOf_70 : decode cX7_wordOf 70 = .ok (.iconst 1, 1) := by decide +kernel
theorem dX7_wordOf_71 : decode cX7_wordOf 71 = .ok (.goto 52, 3) := by decide +kernel
theorem dX7_wordOf_74 : decode cX7_wordOf 74 = .ok (.lload_n 0, 1) := by decide +kernel
theorem dX7_wordOf_75 : decode cX7_wordOf 75 = .ok (.bipush 109, 2) := by decide +kernel
theorem dX7_wordOf_77 : decode cX7_wordOf 77 = .ok (.bipush 117, 2) := by decide +kernel
theorem dX7_wordOf_79 : decode cX7_wordOf 79 = .ok (.bipush 116, 2) := by decide +kernel
theorem dX7_wordOf_81 : decode cX7_wordOf 81 = .ok (.bipush 117, 2) := by decide +kernel
theorem dX7_wordOf_83 : decode cX7_wordOf 83 = .ok (.bipush 97, 2) := by decide +kernel
theorem dX7_wordOf_85 : decode cX7_wordOf 85 = .ok (.bipush 108, 2) := by decide +kernel
theorem dX7_wordOf_87 : decode cX7_wordOf 87 = .ok (.invokestatic 69, 3) := by decide +kernel
theorem dX7_wordOf_90 : decode cX7_wordOf 90 = .ok (.lcmp, 1) := by decide +kernel
theorem dX7_wordOf_91 : decode cX7_wordOf 91 = .ok (.ifCond .ne 7, 3) := by decide +kernel
theorem dX7_wordOf_94 : decode cX7_wordOf 94 = .ok (.iconst 2, 1) := by decide +kernel
theorem dX7_wordOf_95 : decode cX7_wordOf 95 = .ok (.goto 28, 3) := by decide +kernel
theorem dX7_wordOf_98 : decode cX7_wordOf 98 = .ok (.lload_n 0, 1) := by decide +kernel
theorem dX7_wordOf_99 : decode cX7_wordOf 99 = .ok (.bipush 99, 2) := by decide +kernel
theorem dX7_wordOf_101 : decode cX7_wordOf 101 = .ok (.bipush 97, 2) := by decide +kernel
theorem dX7_wordOf_103 : decode cX7_wordOf 103 = .ok (.bipush 108, 2) := by decide +kernel
theorem dX7_wordOf_105 : decode cX7_wordOf 105 = .ok (.bipush 108, 2) := by decide +kernel
theorem dX7_wordOf_107 : decode cX7_wordOf 107 = .ok (.bipush 115, 2) := by decide +kernel
theorem dX7_wordOf_109 : decode cX7_wordOf 109 = .ok (.iconst 0, 1) := by decide +kernel
theorem dX7_wordOf_110 : decode cX7_wordOf 110 = .ok (.invokestatic 69, 3) := by decide +kernel
theorem dX7_wordOf_113 : decode cX7_wordOf 113 = .ok (.lcmp, 1) := by decide +kernel
theorem dX7_wordOf_114 : decode cX7_wordOf 114 = .ok (.ifCond .ne 7, 3) := by decide +kernel
theorem dX7_wordOf_117 : decode cX7_wordOf 117 = .ok (.iconst 3, 1) := by decide +kernel
theorem dX7_wordOf_118 : decode cX7_wordOf 118 = .ok (.goto 5, 3) := by decide +kernel
theorem dX7_wordOf_121 : decode cX7_wordOf 121 = .ok (.bipush (-9), 2) := by decide +kernel
theorem dX7_wordOf_123 : decode cX7_wordOf 123 = .ok (.istore_n 2, 1) := by decide +kernel
theorem dX7_wordOf_124 : decode cX7_wordOf 124 = .ok (.iload_n 2, 1) := by decide +kernel
theorem dX7_wordOf_125 : decode cX7_wordOf 125 = .ok (.bipush (-9), 2) := by decide +kernel
theorem dX7_wordOf_127 : decode cX7_wordOf 127 = .ok (.if_icmp .eq 5, 3) := by decide +kernel
theorem dX7_wordOf_130 : decode cX7_wordOf 130 = .ok (.iload_n 2, 1) := by decide +kernel
theorem dX7_wordOf_131 : decode cX7_wordOf 131 = .ok (.ireturn, 1) := by decide +kernel
theorem dX7_wordOf_132 : decode cX7_wordOf 132 = .ok (.lload_n 0, 1) := by decide +kernel
theorem dX7_wordOf_133 : decode cX7_wordOf 133 = .ok (.bipush 108, 2) := by decide +kernel
theorem dX7_wordOf_135 : decode cX7_wordOf 135 = .ok (.bipush 97, 2) := by decide +kernel
theorem dX7_wordOf_137 : decode cX7_wordOf 137 = .ok (.bipush 119, 2) := by decide +kernel
theorem dX7_wordOf_139 : decode cX7_wordOf 139 = .ok (.iconst 0, 1) := by decide +kernel
theorem dX7_wordOf_140 : decode cX7_wordOf 140 = .ok (.iconst 0, 1) := by decide +kernel
theorem dX7_wordOf_141 : decode cX7_wordOf 141 = .ok (.iconst 0, 1) := by decide +kernel
theorem dX7_wordOf_142 : decode cX7_wordOf 142 = .ok (.invokestatic 69, 3) := by decide +kernel
theorem dX7_wordOf_145 : decode cX7_wordOf 145 = .ok (.lcmp, 1) := by decide +kernel
theorem dX7_wordOf_146 : decode cX7_wordOf 146 = .ok (.ifCond .ne 7, 3) := by decide +kernel
theorem dX7_wordOf_149 : decode cX7_wordOf 149 = .ok (.iconst 5, 1) := by decide +kernel
theorem dX7_wordOf_150 : decode cX7_wordOf 150 = .ok (.goto 54, 3) := by decide +kernel
theorem dX7_wordOf_153 : decode cX7_wordOf 153 = .ok (.lload_n 0, 1) := by decide +kernel
theorem dX7_wordOf_154 : decode cX7_wordOf 154 = .ok (.bipush 108, 2) := by decide +kernel
theorem dX7_wordOf_156 : decode cX7_wordOf 156 = .ok (.bipush 101, 2) := by decide +kernel
theorem dX7_wordOf_158 : decode cX7_wordOf 158 = .ok (.bipush 97, 2) := by decide +kernel
theorem dX7_wordOf_160 : decode cX7_wordOf 160 = .ok (.bipush 115, 2) := by decide +kernel
theorem dX7_wordOf_162 : decode cX7_wordOf 162 = .ok (.bipush 116, 2) := by decide +kernel
theorem dX7_wordOf_164 : decode cX7_wordOf 164 = .ok (.iconst 0, 1) := by decide +kernel
theorem dX7_wordOf_165 : decode cX7_wordOf 165 = .ok (.invokestatic 69, 3) := by decide +kernel
theorem dX7_wordOf_168 : decode cX7_wordOf 168 = .ok (.lcmp, 1) := by decide +kernel
theorem dX7_wordOf_169 : decode cX7_wordOf 169 = .ok (.ifCond .ne 8, 3) := by decide +kernel
theorem dX7_wordOf_172 : decode cX7_wordOf 172 = .ok (.bipush 6, 2) := by decide +kernel
theorem dX7_wordOf_174 : decode cX7_wordOf 174 = .ok (.goto 30, 3) := by decide +kernel
theorem dX7_wordOf_177 : decode cX7_wordOf 177 = .ok (.lload_n 0, 1) := by decide +kernel
theorem dX7_wordOf_178 : decode cX7_wordOf 178 = .ok (.bipush 115, 2) := by decide +kernel
theorem dX7_wordOf_180 : decode cX7_wordOf 180 = .ok (.bipush 101, 2) := by decide +kernel
theorem dX7_wordOf_182 : decode cX7_wordOf 182 = .ok (.bipush 99, 2) := by decide +kernel
theorem dX7_wordOf_184 : decode cX7_wordOf 184 = .ok (.bipush 111, 2) := by decide +kernel
theorem dX7_wordOf_186 : decode cX7_wordOf 186 = .ok (.bipush 110, 2) := by decide +kernel
theorem dX7_wordOf_188 : decode cX7_wordOf 188 = .ok (.bipush 100, 2) := by decide +kernel
theorem dX7_wordOf_190 : decode cX7_wordOf 190 = .ok (.invokestatic 69, 3) := by decide +kernel
theorem dX7_wordOf_193 : decode cX7_wordOf 193 = .ok (.lcmp, 1) := by decide +kernel
theorem dX7_wordOf_194 : decode cX7_wordOf 194 = .ok (.ifCond .ne 8, 3) := by decide +kernel
theorem dX7_wordOf_197 : decode cX7_wordOf 197 = .ok (.bipush 7, 2) := by decide +kernel
theorem dX7_wordOf_199 : decode cX7_wordOf 199 = .ok (.goto 5, 3) := by decide +kernel
theorem dX7_wordOf_202 : decode cX7_wordOf 202 = .ok (.bipush (-9), 2) := by decide +kernel
theorem dX7_wordOf_204 : decode cX7_wordOf 204 = .ok (.istore_n 3, 1) := by decide +kernel
theorem dX7_wordOf_205 : decode cX7_wordOf 205 = .ok (.iload_n 3, 1) := by decide +kernel
theorem dX7_wordOf_206 : decode cX7_wordOf 206 = .ok (.bipush (-9), 2) := by decide +kernel
theorem dX7_wordOf_208 : decode cX7_wordOf 208 = .ok (.if_icmp .eq 7, 3) := by decide +kernel
theorem dX7_wordOf_211 : decode cX7_wordOf 211 = .ok (.iload_n 3, 1) := by decide +kernel
theorem dX7_wordOf_212 : decode cX7_wordOf 212 = .ok (.goto 52, 3) := by decide +kernel
theorem dX7_wordOf_215 : decode cX7_wordOf 215 = .ok (.lload_n 0, 1) := by decide +kernel
theorem dX7_wordOf_216 : decode cX7_wordOf 216 = .ok (.bipush 106, 2) := by decide +kernel
theorem dX7_wordOf_218 : decode cX7_wordOf 218 = .ok (.bipush 117, 2) := by decide +kernel
theorem dX7_wordOf_220 : decode cX7_wordOf 220 = .ok (.bipush 115, 2) := by decide +kernel
theorem dX7_wordOf_222 : decode cX7_wordOf 222 = .ok (.bipush 116, 2) := by decide +kernel
theorem dX7_wordOf_224 : decode cX7_wordOf 224 = .ok (.iconst 0, 1) := by decide +kernel
theorem dX7_wordOf_225 : decode cX7_wordOf 225 = .ok (.iconst 0, 1) := by decide +kernel
theorem dX7_wordOf_226 : decode cX7_wordOf 226 = .ok (.invokestatic 69, 3) := by decide +kernel
theorem dX7_wordOf_229 : decode cX7_wordOf 229 = .ok (.lcmp, 1) := by decide +kernel
theorem dX7_wordOf_230 : decode cX7_wordOf 230 = .ok (.ifCond .ne 8, 3) := by decide +kernel
theorem dX7_wordOf_233 : decode cX7_wordOf 233 = .ok (.bipush 8, 2) := by decide +kernel
theorem dX7_wordOf_235 : decode cX7_wordOf 235 = .ok (.goto 29, 3) := by decide +kernel
theorem dX7_wordOf_238 : decode cX7_wordOf 238 = .ok (.lload_n 0, 1) := by decide +kernel
theorem dX7_wordOf_239 : decode cX7_wordOf 239 = .ok (.bipush 110, 2) := by decide +kernel
theorem dX7_wordOf_241 : decode cX7_wordOf 241 = .ok (.bipush 101, 2) := by decide +kernel
theorem dX7_wordOf_243 : decode cX7_wordOf 243 = .ok (.bipush 118, 2) := by decide +kernel
theorem dX7_wordOf_245 : decode cX7_wordOf 245 = .ok (.bipush 101, 2) := by decide +kernel
theorem dX7_wordOf_247 : decode cX7_wordOf 247 = .ok (.bipush 114, 2) := by decide +kernel
theorem dX7_wordOf_249 : decode cX7_wordOf 249 = .ok (.iconst 0, 1) := by decide +kernel
theorem dX7_wordOf_250 : decode cX7_wordOf 250 = .ok (.invokestatic 69, 3) := by decide +kernel
theorem dX7_wordOf_253 : decode cX7_wordOf 253 = .ok (.lcmp, 1) := by decide +kernel
theorem dX7_wordOf_254 : decode cX7_wordOf 254 = .ok (.ifCond .ne 8, 3) := by decide +kernel
theorem dX7_wordOf_257 : decode cX7_wordOf 257 = .ok (.bipush 9, 2) := by decide +kernel
theorem dX7_wordOf_259 : decode cX7_wordOf 259 = .ok (.goto 5, 3) := by decide +kernel
theorem dX7_wordOf_262 : decode cX7_wordOf 262 = .ok (.bipush (-9), 2) := by decide +kernel
theorem dX7_wordOf_264 : decode cX7_wordOf 264 = .ok (.ireturn, 1) := by decide +kernel
theorem dX7_advances_0 : decode cX7_advances 0 = .ok (.aload_n 0, 1) := by decide +kernel
theorem dX7_advances_1 : decode cX7_advances 1 = .ok (.aload_n 0, 1) := by decide +kernel
theorem dX7_advances_2 : decode cX7_advances 2 = .ok (.getfield 73, 3) := by decide +kernel
theorem dX7_advances_5 : decode cX7_advances 5 = .ok (.invokevirtual 76, 3) := by decide +kernel
theorem dX7_advances_8 : decode cX7_advances 8 = .ok (.bipush 32, 2) := by decide +kernel
theorem dX7_advances_10 : decode cX7_advances 10 = .ok (.if_icmp .ne 16, 3) := by decide +kernel
theorem dX7_advances_13 : decode cX7_advances 13 = .ok (.aload_n 0, 1) := by decide +kernel
theorem dX7_advances_14 : decode cX7_advances 14 = .ok (.dup, 1) := by decide +kernel
theorem dX7_advances_15 : decode cX7_advances 15 = .ok (.getfield 73, 3) := by decide +kernel
theorem dX7_advances_18 : decode cX7_advances 18 = .ok (.iconst 1, 1) := by decide +kernel
theorem dX7_advances_19 : decode cX7_advances 19 = .ok (.iadd, 1) := by decide +kernel
theorem dX7_advances_20 : decode cX7_advances 20 = .ok (.putfield 73, 3) := by decide +kernel
theorem dX7_advances_23 : decode cX7_advances 23 = .ok (.goto (-23), 3) := by decide +kernel
theorem dX7_advances_26 : decode cX7_advances 26 = .ok (.aload_n 0, 1) := by decide +kernel
theorem dX7_advances_27 : decode cX7_advances 27 = .ok (.aload_n 0, 1) := by decide +kernel
theorem dX7_advances_28 : decode cX7_advances 28 = .ok (.getfield 73, 3) := by decide +kernel
theorem dX7_advances_31 : decode cX7_advances 31 = .ok (.putfield 80, 3) := by decide +kernel
theorem dX7_advances_34 : decode cX7_advances 34 = .ok (.aload_n 0, 1) := by decide +kernel
theorem dX7_advances_35 : decode cX7_advances 35 = .ok (.aload_n 0, 1) := by decide +kernel
theorem dX7_advances_36 : decode cX7_advances 36 = .ok (.getfield 73, 3) := by decide +kernel
theorem dX7_advances_39 : decode cX7_advances 39 = .ok (.invokevirtual 76, 3) := by decide +kernel
theorem dX7_advances_42 : decode cX7_advances 42 = .ok (.istore_n 1, 1) := by decide +kernel
theorem dX7_advances_43 : decode cX7_advances 43 = .ok (.iload_n 1, 1) := by decide +kernel
theorem dX7_advances_44 : decode cX7_advances 44 = .ok (.ifCond .ge 11, 3) := by decide +kernel
theorem dX7_advances_47 : decode cX7_advances 47 = .ok (.aload_n 0, 1) := by decide +kernel
theorem dX7_advances_48 : decode cX7_advances 48 = .ok (.iconst 0, 1) := by decide +kernel
theorem dX7_advances_49 : decode cX7_advances 49 = .ok (.putfield 83, 3) := by decide +kernel
theorem dX7_advances_52 : decode cX7_advances 52 = .ok (.goto 277, 3) := by decide +kernel
theorem dX7_advances_55 : decode cX7_advances 55 = .ok (.iload_n 1, 1) := by decide +kernel
theorem dX7_advances_56 : decode cX7_advances 56 = .ok (.bipush 97, 2) := by decide +kernel
theorem dX7_advances_58 : decode cX7_advances 58 = .ok (.bipush 122, 2) := by decide +kernel
theorem dX7_advances_60 : decode cX7_advances 60 = .ok (.invokestatic 54, 3) := by decide +kernel
theorem dX7_advances_63 : decode cX7_advances 63 = .ok (.ifCond .eq 115, 3) := by decide +kernel
theorem dX7_advances_66 : decode cX7_advances 66 = .ok (.lconst 0, 1) := by decide +kernel
theorem dX7_advances_67 : decode cX7_advances 67 = .ok (.lstore_n 2, 1) := by decide +kernel
theorem dX7_advances_68 : decode cX7_advances 68 = .ok (.aload_n 0, 1) := by decide +kernel
theorem dX7_advances_69 : decode cX7_advances 69 = .ok (.aload_n 0, 1) := by decide +kernel
theorem dX7_advances_70 : decode cX7_advances 70 = .ok (.getfield 73, 3) := by decide +kernel
theorem dX7_advances_73 : decode cX7_advances 73 = .ok (.invokevirtual 76, 3) := by decide +kernel
theorem dX7_advances_76 : decode cX7_advances 76 = .ok (.bipush 97, 2) := by decide +kernel
theorem dX7_advances_78 : decode cX7_advances 78 = .ok (.bipush 122, 2) := by decide +kernel
theorem dX7_advances_80 : decode cX7_advances 80 = .ok (.invokestatic 54, 3) := by decide +kernel
theorem dX7_advances_83 : decode cX7_advances 83 = .ok (.ifCond .eq 47, 3) := by decide +kernel
theorem dX7_advances_86 : decode cX7_advances 86 = .ok (.aload_n 0, 1) := by decide +kernel
theorem dX7_advances_87 : decode cX7_advances 87 = .ok (.getfield 73, 3) := by decide +kernel
theorem dX7_advances_90 : decode cX7_advances 90 = .ok (.aload_n 0, 1) := by decide +kernel
theorem dX7_advances_91 : decode cX7_advances 91 = .ok (.getfield 80, 3) := by decide +kernel
theorem dX7_advances_94 : decode cX7_advances 94 = .ok (.isub, 1) := by decide +kernel
theorem dX7_advances_95 : decode cX7_advances 95 = .ok (.bipush 8, 2) := by decide +kernel
theorem dX7_advances_97 : decode cX7_advances 97 = .ok (.if_icmp .ge 18, 3) := by decide +kernel
theorem dX7_advances_100 : decode cX7_advances 100 = .ok (.lload_n 2, 1) := by decide +kernel
theorem dX7_advances_101 : decode cX7_advances 101 = .ok (.aload_n 0, 1) := by decide +kernel
theorem dX7_advances_102 : decode cX7_advances 102 = .ok (.aload_n 0, 1) := by decide +kernel
theorem dX7_advances_103 : decode cX7_advances 103 = .ok (.getfield 73, 3) := by decide +kernel
theorem dX7_advances_106 : decode cX7_advances 106 = .ok (.invokevirtual 76, 3) := by decide +kernel
theorem dX7_advances_109 : decode cX7_advances 109 = .ok (.invokestatic 65, 3) := by decide +kernel
theorem dX7_advances_112 : decode cX7_advances 112 = .ok (.goto 4, 3) := by decide +kernel
theorem dX7_advances_115 : decode cX7_advances 115 = .ok (.lload_n 2, 1) := by decide +kernel
theorem dX7_advances_116 : decode cX7_advances 116 = .ok (.lstore_n 2, 1) := by decide +kernel
theorem dX7_advances_117 : decode cX7_advances 117 = .ok (.aload_n 0, 1) := by decide +kernel
theorem dX7_advances_118 : decode cX7_advances 118 = .ok (.dup, 1) := by decide +kernel
theorem dX7_advances_119 : decode cX7_advances 119 = .ok (.getfield 73, 3) := by decide +kernel
theorem dX7_advances_122 : decode cX7_advances 122 = .ok (.iconst 1, 1) := by decide +kernel
theorem dX7_advances_123 : decode cX7_advances 123 = .ok (.iadd, 1) := by decide +kernel
theorem dX7_advances_124 : decode cX7_advances 124 = .ok (.putfield 73, 3) := by decide +kernel
theorem dX7_advances_127 : decode cX7_advances 127 = .ok (.goto (-59), 3) := by decide +kernel
theorem dX7_advances_130 : decode cX7_advances 130 = .ok (.aload_n 0, 1) := by decide +kernel
theorem dX7_advances_131 : decode cX7_advances 131 = .ok (.aload_n 0, 1) := by decide +kernel
theorem dX7_advances_132 : decode cX7_advances 132 = .ok (.getfield 73, 3) := by decide +kernel
theorem dX7_advances_135 : decode cX7_advances 135 = .ok (.aload_n 0, 1) := by decide +kernel
theorem dX7_advances_136 : decode cX7_advances 136 = .ok (.getfield 80, 3) := by decide +kernel
theorem dX7_advances_139 : decode cX7_advances 139 = .ok (.isub, 1) := by decide +kernel
theorem dX7_advances_140 : decode cX7_advances 140 = .ok (.bipush 7, 2) := by decide +kernel
theorem dX7_advances_142 : decode cX7_advances 142 = .ok (.if_icmp .le 8, 3) := by decide +kernel
theorem dX7_advances_145 : decode cX7_advances 145 = .ok (.bipush (-9), 2) := by decide +kernel
theorem dX7_advances_147 : decode cX7_advances 147 = .ok (.goto 7, 3) := by decide +kernel
theorem dX7_advances_150 : decode cX7_advances 150 = .ok (.lload_n 2, 1) := by decide +kernel
theorem dX7_advances_151 : decode cX7_advances 151 = .ok (.invokestatic 86, 3) := by decide +kernel
theorem dX7_advances_154 : decode cX7_advances 154 = .ok (.putfield 90, 3) := by decide +kernel
theorem dX7_advances_157 : decode cX7_advances 157 = .ok (.aload_n 0, 1) := by decide +kernel
theorem dX7_advances_158 : decode cX7_advances 158 = .ok (.aload_n 0, 1) := by decide +kernel
theorem dX7_advances_159 : decode cX7_advances 159 = .ok (.getfield 90, 3) := by decide +kernel
theorem dX7_advances_162 : decode cX7_advances 162 = .ok (.bipush (-9), 2) := by decide +kernel
theorem dX7_advances_164 : decode cX7_advances 164 = .ok (.if_icmp .ne 7, 3) := by decide +kernel
theorem dX7_advances_167 : decode cX7_advances 167 = .ok (.iconst 4, 1) := by decide +kernel
theorem dX7_advances_168 : decode cX7_advances 168 = .ok (.goto 4, 3) := by decide +kernel
theorem dX7_advances_171 : decode cX7_advances 171 = .ok (.iconst 1, 1) := by decide +kernel
theorem dX7_advances_172 : decode cX7_advances 172 = .ok (.putfield 83, 3) := by decide +kernel
theorem dX7_advances_175 : decode cX7_advances 175 = .ok (.goto 154, 3) := by decide +kernel
theorem dX7_advances_178 : decode cX7_advances 178 = .ok (.iload_n 1, 1) := by decide +kernel
theorem dX7_advances_179 : decode cX7_advances 179 = .ok (.bipush 48, 2) := by decide +kernel
theorem dX7_advances_181 : decode cX7_advances 181 = .ok (.bipush 57, 2) := by decide +kernel
theorem dX7_advances_183 : decode cX7_advances 183 = .ok (.invokestatic 54, 3) := by decide +kernel
theorem dX7_advances_186 : decode cX7_advances 186 = .ok (.ifCond .eq 118, 3) := by decide +kernel
theorem dX7_advances_189 : decode cX7_advances 189 = .ok (.aload_n 0, 1) := by decide +kernel
theorem dX7_advances_190 : decode cX7_advances 190 = .ok (.iconst 0, 1) := by decide +kernel
theorem dX7_advances_191 : decode cX7_advances 191 = .ok (.putfield 90, 3) := by decide +kernel
theorem dX7_advances_194 : decode cX7_advances 194 = .ok (.aload_n 0, 1) := by decide +kernel
theorem dX7_advances_195 : decode cX7_advances 195 = .ok (.aload_n 0, 1) := by decide +kernel
theorem dX7_advances_196 : decode cX7_advances 196 = .ok (.getfield 73, 3) := by decide +kernel
theorem dX7_advances_199 : decode cX7_advances 199 = .ok (.invokevirtual 76, 3) := by decide +kernel
theorem dX7_advances_202 : decode cX7_advances 202 = .ok (.bipush 48, 2) := by decide +kernel
theorem dX7_advances_204 : decode cX7_advances 204 = .ok (.bipush 57, 2) := by decide +kernel
theorem dX7_advances_206 : decode cX7_advances 206 = .ok (.invokestatic 54, 3) := by decide +kernel
theorem dX7_advances_209 : decode cX7_advances 209 = .ok (.ifCond .eq 55, 3) := by decide +kernel
theorem dX7_advances_212 : decode cX7_advances 212 = .ok (.aload_n 0, 1) := by decide +kernel
theorem dX7_advances_213 : decode cX7_advances 213 = .ok (.aload_n 0, 1) := by decide +kernel
theorem dX7_advances_214 : decode cX7_advances 214 = .ok (.getfield 90, 3) := by decide +kernel
theorem dX7_advances_217 : decode cX7_advances 217 = .ok (.bipush 99, 2) := by decide +kernel
theorem dX7_advances_219 : decode cX7_advances 219 = .ok (.if_icmp .le 10, 3) := by decide +kernel
theorem dX7_advances_222 : decode cX7_advances 222 = .ok (.aload_n 0, 1) := by decide +kernel
theorem dX7_advances_223 : decode cX7_advances 223 = .ok (.getfield 90, 3) := by decide +kernel
theorem dX7_advances_226 : decode cX7_advances 226 = .ok (.goto 22, 3) := by decide +kernel
theorem dX7_advances_229 : decode cX7_advances 229 = .ok (.bipush 10, 2) := by decide +kernel
theorem dX7_advances_231 : decode cX7_advances 231 = .ok (.aload_n 0, 1) := by decide +kernel
theorem dX7_advances_232 : decode cX7_advances 232 = .ok (.getfield 90, 3) := by decide +kernel
theorem dX7_advances_235 : decode cX7_advances 235 = .ok (.imul, 1) := by decide +kernel
theorem dX7_advances_236 : decode cX7_advances 236 = .ok (.aload_n 0, 1) := by decide +kernel
theorem dX7_advances_237 : decode cX7_advances 237 = .ok (.aload_n 0, 1) := by decide +kernel
theorem dX7_advances_238 : decode cX7_advances 238 = .ok (.getfield 73, 3) := by decide +kernel
theorem dX7_advances_241 : decode cX7_advances 241 = .ok (.invokevirtual 76, 3) := by decide +kernel
theorem dX7_advances_244 : decode cX7_advances 244 = .ok (.iadd, 1) := by decide +kernel
theorem dX7_advances_245 : decode cX7_advances 245 = .ok (.bipush 48, 2) := by decide +kernel
theorem dX7_advances_247 : decode cX7_advances 247 = .ok (.isub, 1) := by decide +kernel
theorem dX7_advances_248 : decode cX7_advances 248 = .ok (.putfield 90, 3) := by decide +kernel
theorem dX7_advances_251 : decode cX7_advances 251 = .ok (.aload_n 0, 1) := by decide +kernel
theorem dX7_advances_252 : decode cX7_advances 252 = .ok (.dup, 1) := by decide +kernel
theorem dX7_advances_253 : decode cX7_advances 253 = .ok (.getfield 73, 3) := by decide +kernel
theorem dX7_advances_256 : decode cX7_advances 256 = .ok (.iconst 1, 1) := by decide +kernel
theorem dX7_advances_257 : decode cX7_advances 257 = .ok (.iadd, 1) := by decide +kernel
theorem dX7_advances_258 : decode cX7_advances 258 = .ok (.putfield 73, 3) := by decide +kernel
theorem dX7_advances_261 : decode cX7_advances 261 = .ok (.goto (-67), 3) := by decide +kernel
theorem dX7_advances_264 : decode cX7_advances 264 = .ok (.aload_n 0, 1) := by decide +kernel
theorem dX7_advances_265 : decode cX7_advances 265 = .ok (.aload_n 0, 1) := by decide +kernel
theorem dX7_advances_266 : decode cX7_advances 266 = .ok (.getfield 90, 3) := by decide +kernel
theorem dX7_advances_269 : decode cX7_advances 269 = .ok (.bipush 99, 2) := by decide +kernel
theorem dX7_advances_271 : decode cX7_advances 271 = .ok (.if_icmp .gt 22, 3) := by decide +kernel
theorem dX7_advances_274 : decode cX7_advances 274 = .ok (.iload_n 1, 1) := by decide +kernel
theorem dX7_advances_275 : decode cX7_advances 275 = .ok (.bipush 48, 2) := by decide +kernel
theorem dX7_advances_277 : decode cX7_advances 277 = .ok (.if_icmp .ne 20, 3) := by decide +kernel
theorem dX7_advances_280 : decode cX7_advances 280 = .ok (.aload_n 0, 1) := by decide +kernel
theorem dX7_advances_281 : decode cX7_advances 281 = .ok (.getfield 73, 3) := by decide +kernel
theorem dX7_advances_284 : decode cX7_advances 284 = .ok (.aload_n 0, 1) := by decide +kernel
theorem dX7_advances_285 : decode cX7_advances 285 = .ok (.getfield 80, 3) := by decide +kernel
theorem dX7_advances_288 : decode cX7_advances 288 = .ok (.isub, 1) := by decide +kernel
theorem dX7_advances_289 : decode cX7_advances 289 = .ok (.iconst 1, 1) := by decide +kernel
theorem dX7_advances_290 : decode cX7_advances 290 = .ok (.if_icmp .le 7, 3) := by decide +kernel
theorem dX7_advances_293 : decode cX7_advances 293 = .ok (.iconst 4, 1) := by decide +kernel
theorem dX7_advances_294 : decode cX7_advances 294 = .ok (.goto 4, 3) := by decide +kernel
theorem dX7_advances_297 : decode cX7_advances 297 = .ok (.iconst 2, 1) := by decide +kernel
theorem dX7_advances_298 : decode cX7_advances 298 = .ok (.putfield 83, 3) := by decide +kernel
theorem dX7_advances_301 : decode cX7_advances 301 = .ok (.goto 28, 3) := by decide +kernel
theorem dX7_advances_304 : decode cX7_advances 304 = .ok (.aload_n 0, 1) := by decide +kernel
theorem dX7_advances_305 : decode cX7_advances 305 = .ok (.dup, 1) := by decide +kernel
theorem dX7_advances_306 : decode cX7_advances 306 = .ok (.getfield 73, 3) := by decide +kernel
theorem dX7_advances_309 : decode cX7_advances 309 = .ok (.iconst 1, 1) := by decide +kernel
theorem dX7_advances_310 : decode cX7_advances 310 = .ok (.iadd, 1) := by decide +kernel
theorem dX7_advances_311 : decode cX7_advances 311 = .ok (.putfield 73, 3) := by decide +kernel
theorem dX7_advances_314 : decode cX7_advances 314 = .ok (.aload_n 0, 1) := by decide +kernel
theorem dX7_advances_315 : decode cX7_advances 315 = .ok (.iload_n 1, 1) := by decide +kernel
theorem dX7_advances_316 : decode cX7_advances 316 = .ok (.bipush 59, 2) := by decide +kernel
theorem dX7_advances_318 : decode cX7_advances 318 = .ok (.if_icmp .ne 7, 3) := by decide +kernel
theorem dX7_advances_321 : decode cX7_advances 321 = .ok (.iconst 3, 1) := by decide +kernel
theorem dX7_advances_322 : decode cX7_advances 322 = .ok (.goto 4, 3) := by decide +kernel
theorem dX7_advances_325 : decode cX7_advances 325 = .ok (.iconst 4, 1) := by decide +kernel
theorem dX7_advances_326 : decode cX7_advances 326 = .ok (.putfield 83, 3) := by decide +kernel
theorem dX7_advances_329 : decode cX7_advances 329 = .ok (.return_, 1) := by decide +kernel
theorem dX7_isWell_0 : decode cX7_isWell 0 = .ok (.aload_n 0, 1) := by decide +kernel
theorem dX7_isWell_1 : decode cX7_isWell 1 = .ok (.getfield 93, 3) := by decide +kernel
theorem dX7_isWell_4 : decode cX7_isWell 4 = .ok (.ifCond .ge 7, 3) := by decide +kernel
theorem dX7_isWell_7 : decode cX7_isWell 7 = .ok (.iconst 1, 1) := by decide +kernel
theorem dX7_isWell_8 : decode cX7_isWell 8 = .ok (.goto 4, 3) := by decide +kernel
theorem dX7_isWell_11 : decode cX7_isWell 11 = .ok (.iconst 0, 1) := by decide +kernel
theorem dX7_isWell_12 : decode cX7_isWell 12 = .ok (.ireturn, 1) := by decide +kernel
theorem dX7_takes_0 : decode cX7_takes 0 = .ok (.aload_n 0, 1) := by decide +kernel
theorem dX7_takes_1 : decode cX7_takes 1 = .ok (.invokevirtual 96, 3) := by decide +kernel
theorem dX7_takes_4 : decode cX7_takes 4 = .ok (.ifCond .ne 5, 3) := by decide +kernel
theorem dX7_takes_7 : decode cX7_takes 7 = .ok (.iconst 0, 1) := by decide +kernel
theorem dX7_takes_8 : decode cX7_takes 8 = .ok (.ireturn, 1) := by decide +kernel
theorem dX7_takes_9 : decode cX7_takes 9 = .ok (.iload_n 1, 1) := by decide +kernel
theorem dX7_takes_10 : decode cX7_takes 10 = .ok (.ifCond .ne 13, 3) := by decide +kernel
theorem dX7_takes_13 : decode cX7_takes 13 = .ok (.aload_n 0, 1) := by decide +kernel
theorem dX7_takes_14 : decode cX7_takes 14 = .ok (.aload_n 0, 1) := by decide +kernel
theorem dX7_takes_15 : decode cX7_takes 15 = .ok (.getfield 80, 3) := by decide +kernel
theorem dX7_takes_18 : decode cX7_takes 18 = .ok (.putfield 93, 3) := by decide +kernel
theorem dX7_takes_21 : decode cX7_takes 21 = .ok (.iconst 0, 1) := by decide +kernel
theorem dX7_takes_22 : decode cX7_takes 22 = .ok (.ireturn, 1) := by decide +kernel
theorem dX7_takes_23 : decode cX7_takes 23 = .ok (.aload_n 0, 1) := by decide +kernel
theorem dX7_takes_24 : decode cX7_takes 24 = .ok (.getfield 90, 3) := by decide +kernel
theorem dX7_takes_27 : decode cX7_takes 27 = .ok (.istore_n 2, 1) := by decide +kernel
theorem dX7_takes_28 : decode cX7_takes 28 = .ok (.aload_n 0, 1) := by decide +kernel
theorem dX7_takes_29 : decode cX7_takes 29 = .ok (.invokevirtual 100, 3) := by decide +kernel
theorem dX7_takes_32 : decode cX7_takes 32 = .ok (.iload_n 2, 1) := by decide +kernel
theorem dX7_takes_33 : decode cX7_takes 33 = .ok (.ireturn, 1) := by decide +kernel
theorem dX7_number_0 : decode cX7_number 0 = .ok (.aload_n 0, 1) := by decide +kernel
theorem dX7_number_1 : decode cX7_number 1 = .ok (.aload_n 0, 1) := by decide +kernel
theorem dX7_number_2 : decode cX7_number 2 = .ok (.getfield 83, 3) := by decide +kernel
theorem dX7_number_5 : decode cX7_number 5 = .ok (.iconst 2, 1) := by decide +kernel
theorem dX7_number_6 : decode cX7_number 6 = .ok (.if_icmp .ne 19, 3) := by decide +kernel
theorem dX7_number_9 : decode cX7_number 9 = .ok (.aload_n 0, 1) := by decide +kernel
theorem dX7_number_10 : decode cX7_number 10 = .ok (.getfield 90, 3) := by decide +kernel
theorem dX7_number_13 : decode cX7_number 13 = .ok (.iload_n 1, 1) := by decide +kernel
theorem dX7_number_14 : decode cX7_number 14 = .ok (.iload_n 2, 1) := by decide +kernel
theorem dX7_number_15 : decode cX7_number 15 = .ok (.invokestatic 54, 3) := by decide +kernel
theorem dX7_number_18 : decode cX7_number 18 = .ok (.ifCond .eq 7, 3) := by decide +kernel
theorem dX7_number_21 : decode cX7_number 21 = .ok (.iconst 1, 1) := by decide +kernel
theorem dX7_number_22 : decode cX7_number 22 = .ok (.goto 4, 3) := by decide +kernel
theorem dX7_number_25 : decode cX7_number 25 = .ok (.iconst 0, 1) := by decide +kernel
theorem dX7_number_26 : decode cX7_number 26 = .ok (.invokevirtual 103, 3) := by decide +kernel
theorem dX7_number_29 : decode cX7_number 29 = .ok (.ireturn, 1) := by decide +kernel
theorem dX7_readsTwo_0 : decode cX7_readsTwo 0 = .ok (.aload_n 0, 1) := by decide +kernel
theorem dX7_readsTwo_1 : decode cX7_readsTwo 1 = .ok (.aload_n 0, 1) := by decide +kernel
theorem dX7_readsTwo_2 : decode cX7_readsTwo 2 = .ok (.getfield 83, 3) := by decide +kernel
theorem dX7_readsTwo_5 : decode cX7_readsTwo 5 = .ok (.iconst 2, 1) := by decide +kernel
theorem dX7_readsTwo_6 : decode cX7_readsTwo 6 = .ok (.if_icmp .ne 46, 3) := by decide +kernel
theorem dX7_readsTwo_9 : decode cX7_readsTwo 9 = .ok (.aload_n 0, 1) := by decide +kernel
theorem dX7_readsTwo_10 : decode cX7_readsTwo 10 = .ok (.getfield 90, 3) := by decide +kernel
theorem dX7_readsTwo_13 : decode cX7_readsTwo 13 = .ok (.iconst 0, 1) := by decide +kernel
theorem dX7_readsTwo_14 : decode cX7_readsTwo 14 = .ok (.aload_n 0, 1) := by decide +kernel
theorem dX7_readsTwo_15 : decode cX7_readsTwo 15 = .ok (.getfield 107, 3) := by decide +kernel
theorem dX7_readsTwo_18 : decode cX7_readsTwo 18 = .ok (.iconst 1, 1) := by decide +kernel
theorem dX7_readsTwo_19 : decode cX7_readsTwo 19 = .ok (.isub, 1) := by decide +kernel
theorem dX7_readsTwo_20 : decode cX7_readsTwo 20 = .ok (.invokestatic 54, 3) := by decide +kernel
theorem dX7_readsTwo_23 : decode cX7_readsTwo 23 = .ok (.ifCond .eq 29, 3) := by decide +kernel
theorem dX7_readsTwo_26 : decode cX7_readsTwo 26 = .ok (.iload_n 1, 1) := by decide +kernel
theorem dX7_readsTwo_27 : decode cX7_readsTwo 27 = .ok (.iconst 3, 1) := by decide +kernel
theorem dX7_readsTwo_28 : decode cX7_readsTwo 28 = .ok (.if_icmp .ne 20, 3) := by decide +kernel
theorem dX7_readsTwo_31 : decode cX7_readsTwo 31 = .ok (.aload_n 0, 1) := by decide +kernel
theorem dX7_readsTwo_32 : decode cX7_readsTwo 32 = .ok (.getfield 16, 3) := by decide +kernel
theorem dX7_readsTwo_35 : decode cX7_readsTwo 35 = .ok (.bipush 8, 2) := by decide +kernel
theorem dX7_readsTwo_37 : decode cX7_readsTwo 37 = .ok (.aload_n 0, 1) := by decide +kernel
theorem dX7_readsTwo_38 : decode cX7_readsTwo 38 = .ok (.getfield 90, 3) := by decide +kernel
theorem dX7_readsTwo_41 : decode cX7_readsTwo 41 = .ok (.iadd, 1) := by decide +kernel
theorem dX7_readsTwo_42 : decode cX7_readsTwo 42 = .ok (.iaload, 1) := by decide +kernel
theorem dX7_readsTwo_43 : decode cX7_readsTwo 43 = .ok (.bipush (-9), 2) := by decide +kernel
theorem dX7_readsTwo_45 : decode cX7_readsTwo 45 = .ok (.if_icmp .ne 7, 3) := by decide +kernel
theorem dX7_readsTwo_48 : decode cX7_readsTwo 48 = .ok (.iconst 1, 1) := by decide +kernel
theorem dX7_readsTwo_49 : decode cX7_readsTwo 49 = .ok (.goto 4, 3) := by decide +kernel
theorem dX7_readsTwo_52 : decode cX7_readsTwo 52 = .ok (.iconst 0, 1) := by decide +kernel
theorem dX7_readsTwo_53 : decode cX7_readsTwo 53 = .ok (.invokevirtual 103, 3) := by decide +kernel
theorem dX7_readsTwo_56 : decode cX7_readsTwo 56 = .ok (.istore_n 2, 1) := by decide +kernel
theorem dX7_readsTwo_57 : decode cX7_readsTwo 57 = .ok (.aload_n 0, 1) := by decide +kernel
theorem dX7_readsTwo_58 : decode cX7_readsTwo 58 = .ok (.aload_n 0, 1) := by decide +kernel
theorem dX7_readsTwo_59 : decode cX7_readsTwo 59 = .ok (.getfield 83, 3) := by decide +kernel
theorem dX7_readsTwo_62 : decode cX7_readsTwo 62 = .ok (.iconst 2, 1) := by decide +kernel
theorem dX7_readsTwo_63 : decode cX7_readsTwo 63 = .ok (.if_icmp .ne 32, 3) := by decide +kernel
theorem dX7_readsTwo_66 : decode cX7_readsTwo 66 = .ok (.aload_n 0, 1) := by decide +kernel
theorem dX7_readsTwo_67 : decode cX7_readsTwo 67 = .ok (.getfield 90, 3) := by decide +kernel
theorem dX7_readsTwo_70 : decode cX7_readsTwo 70 = .ok (.iconst 0, 1) := by decide +kernel
theorem dX7_readsTwo_71 : decode cX7_readsTwo 71 = .ok (.aload_n 0, 1) := by decide +kernel
theorem dX7_readsTwo_72 : decode cX7_readsTwo 72 = .ok (.getfield 107, 3) := by decide +kernel
theorem dX7_readsTwo_75 : decode cX7_readsTwo 75 = .ok (.iconst 1, 1) := by decide +kernel
theorem dX7_readsTwo_76 : decode cX7_readsTwo 76 = .ok (.isub, 1) := by decide +kernel
theorem dX7_readsTwo_77 : decode cX7_readsTwo 77 = .ok (.invokestatic 54, 3) := by decide +kernel
theorem dX7_readsTwo_80 : decode cX7_readsTwo 80 = .ok (.ifCond .eq 15, 3) := by decide +kernel
theorem dX7_readsTwo_83 : decode cX7_readsTwo 83 = .ok (.aload_n 0, 1) := by decide +kernel
theorem dX7_readsTwo_84 : decode cX7_readsTwo 84 = .ok (.getfield 90, 3) := by decide +kernel
theorem dX7_readsTwo_87 : decode cX7_readsTwo 87 = .ok (.iload_n 2, 1) := by decide +kernel
theorem dX7_readsTwo_88 : decode cX7_readsTwo 88 = .ok (.if_icmp .eq 7, 3) := by decide +kernel
theorem dX7_readsTwo_91 : decode cX7_readsTwo 91 = .ok (.iconst 1, 1) := by decide +kernel
theorem dX7_readsTwo_92 : decode cX7_readsTwo 92 = .ok (.goto 4, 3) := by decide +kernel
theorem dX7_readsTwo_95 : decode cX7_readsTwo 95 = .ok (.iconst 0, 1) := by decide +kernel
theorem dX7_readsTwo_96 : decode cX7_readsTwo 96 = .ok (.invokevirtual 103, 3) := by decide +kernel
theorem dX7_readsTwo_99 : decode cX7_readsTwo 99 = .ok (.istore_n 3, 1) := by decide +kernel
theorem dX7_readsTwo_100 : decode cX7_readsTwo 100 = .ok (.aload_n 0, 1) := by decide +kernel
theorem dX7_readsTwo_101 : decode cX7_readsTwo 101 = .ok (.invokevirtual 96, 3) := by decide +kernel
theorem dX7_readsTwo_104 : decode cX7_readsTwo 104 = .ok (.ifCond .ne 4, 3) := by decide +kernel
theorem dX7_readsTwo_107 : decode cX7_readsTwo 107 = .ok (.return_, 1) := by decide +kernel
theorem dX7_readsTwo_108 : decode cX7_readsTwo 108 = .ok (.iload_n 1, 1) := by decide +kernel
theorem dX7_readsTwo_109 : decode cX7_readsTwo 109 = .ok (.iconst 3, 1) := by decide +kernel
theorem dX7_readsTwo_110 : decode cX7_readsTwo 110 = .ok (.if_icmp .ne 16, 3) := by decide +kernel
theorem dX7_readsTwo_113 : decode cX7_readsTwo 113 = .ok (.aload_n 0, 1) := by decide +kernel
theorem dX7_readsTwo_114 : decode cX7_readsTwo 114 = .ok (.getfield 16, 3) := by decide +kernel
theorem dX7_readsTwo_117 : decode cX7_readsTwo 117 = .ok (.bipush 8, 2) := by decide +kernel
theorem dX7_readsTwo_119 : decode cX7_readsTwo 119 = .ok (.iload_n 2, 1) := by decide +kernel
theorem dX7_readsTwo_120 : decode cX7_readsTwo 120 = .ok (.iadd, 1) := by decide +kernel
theorem dX7_readsTwo_121 : decode cX7_readsTwo 121 = .ok (.iload_n 3, 1) := by decide +kernel
theorem dX7_readsTwo_122 : decode cX7_readsTwo 122 = .ok (.iastore, 1) := by decide +kernel
theorem dX7_readsTwo_123 : decode cX7_readsTwo 123 = .ok (.goto 42, 3) := by decide +kernel
theorem dX7_readsTwo_126 : decode cX7_readsTwo 126 = .ok (.aload_n 0, 1) := by decide +kernel
theorem dX7_readsTwo_127 : decode cX7_readsTwo 127 = .ok (.getfield 13, 3) := by decide +kernel
theorem dX7_readsTwo_130 : decode cX7_readsTwo 130 = .ok (.bipush 8, 2) := by decide +kernel
theorem dX7_readsTwo_132 : decode cX7_readsTwo 132 = .ok (.iload_n 2, 1) := by decide +kernel
theorem dX7_readsTwo_133 : decode cX7_readsTwo 133 = .ok (.iadd, 1) := by decide +kernel
theorem dX7_readsTwo_134 : decode cX7_readsTwo 134 = .ok (.dup2, 1) := by decide +kernel
theorem dX7_readsTwo_135 : decode cX7_readsTwo 135 = .ok (.iaload, 1) := by decide +kernel
theorem dX7_readsTwo_136 : decode cX7_readsTwo 136 = .ok (.iconst 1, 1) := by decide +kernel
theorem dX7_readsTwo_137 : decode cX7_readsTwo 137 = .ok (.iload_n 3, 1) := by decide +kernel
theorem dX7_readsTwo_138 : decode cX7_readsTwo 138 = .ok (.ishl, 1) := by decide +kernel
theorem dX7_readsTwo_139 : decode cX7_readsTwo 139 = .ok (.ior, 1) := by decide +kernel
theorem dX7_readsTwo_140 : decode cX7_readsTwo 140 = .ok (.iastore, 1) := by decide +kernel
theorem dX7_readsTwo_141 : decode cX7_readsTwo 141 = .ok (.aload_n 0, 1) := by decide +kernel
theorem dX7_readsTwo_142 : decode cX7_readsTwo 142 = .ok (.getfield 13, 3) := by decide +kernel
theorem dX7_readsTwo_145 : decode cX7_readsTwo 145 = .ok (.bipush 8, 2) := by decide +kernel
theorem dX7_readsTwo_147 : decode cX7_readsTwo 147 = .ok (.iload_n 3, 1) := by decide +kernel
theorem dX7_readsTwo_148 : decode cX7_readsTwo 148 = .ok (.iadd, 1) := by decide +kernel
theorem dX7_readsTwo_149 : decode cX7_readsTwo 149 = .ok (.dup2, 1) := by decide +kernel
theorem dX7_readsTwo_150 : decode cX7_readsTwo 150 = .ok (.iaload, 1) := by decide +kernel
theorem dX7_readsTwo_151 : decode cX7_readsTwo 151 = .ok (.iload_n 1, 1) := by decide +kernel
theorem dX7_readsTwo_152 : decode cX7_readsTwo 152 = .ok (.iconst 2, 1) := by decide +kernel
theorem dX7_readsTwo_153 : decode cX7_readsTwo 153 = .ok (.if_icmp .ne 9, 3) := by decide +kernel
theorem dX7_readsTwo_156 : decode cX7_readsTwo 156 = .ok (.iconst 1, 1) := by decide +kernel
theorem dX7_readsTwo_157 : decode cX7_readsTwo 157 = .ok (.iload_n 2, 1) := by decide +kernel
theorem dX7_readsTwo_158 : decode cX7_readsTwo 158 = .ok (.ishl, 1) := by decide +kernel
theorem dX7_readsTwo_159 : decode cX7_readsTwo 159 = .ok (.goto 4, 3) := by decide +kernel
theorem dX7_readsTwo_162 : decode cX7_readsTwo 162 = .ok (.iconst 0, 1) := by decide +kernel
theorem dX7_readsTwo_163 : decode cX7_readsTwo 163 = .ok (.ior, 1) := by decide +kernel
theorem dX7_readsTwo_164 : decode cX7_readsTwo 164 = .ok (.iastore, 1) := by decide +kernel
theorem dX7_readsTwo_165 : decode cX7_readsTwo 165 = .ok (.return_, 1) := by decide +kernel
theorem dX7_readsItem_0 : decode cX7_readsItem 0 = .ok (.iload_n 1, 1) := by decide +kernel
theorem dX7_readsItem_1 : decode cX7_readsItem 1 = .ok (.ifCond .ne 43, 3) := by decide +kernel
theorem dX7_readsItem_4 : decode cX7_readsItem 4 = .ok (.aload_n 0, 1) := by decide +kernel
theorem dX7_readsItem_5 : decode cX7_readsItem 5 = .ok (.getfield 13, 3) := by decide +kernel
theorem dX7_readsItem_8 : decode cX7_readsItem 8 = .ok (.bipush 8, 2) := by decide +kernel
theorem dX7_readsItem_10 : decode cX7_readsItem 10 = .ok (.aload_n 0, 1) := by decide +kernel
theorem dX7_readsItem_11 : decode cX7_readsItem 11 = .ok (.getfield 107, 3) := by decide +kernel
theorem dX7_readsItem_14 : decode cX7_readsItem 14 = .ok (.iadd, 1) := by decide +kernel
theorem dX7_readsItem_15 : decode cX7_readsItem 15 = .ok (.iconst 0, 1) := by decide +kernel
theorem dX7_readsItem_16 : decode cX7_readsItem 16 = .ok (.iastore, 1) := by decide +kernel
theorem dX7_readsItem_17 : decode cX7_readsItem 17 = .ok (.aload_n 0, 1) := by decide +kernel
theorem dX7_readsItem_18 : decode cX7_readsItem 18 = .ok (.getfield 16, 3) := by decide +kernel
theorem dX7_readsItem_21 : decode cX7_readsItem 21 = .ok (.bipush 8, 2) := by decide +kernel
theorem dX7_readsItem_23 : decode cX7_readsItem 23 = .ok (.aload_n 0, 1) := by decide +kernel
theorem dX7_readsItem_24 : decode cX7_readsItem 24 = .ok (.getfield 107, 3) := by decide +kernel
theorem dX7_readsItem_27 : decode cX7_readsItem 27 = .ok (.iadd, 1) := by decide +kernel
theorem dX7_readsItem_28 : decode cX7_readsItem 28 = .ok (.bipush (-9), 2) := by decide +kernel
theorem dX7_readsItem_30 : decode cX7_readsItem 30 = .ok (.iastore, 1) := by decide +kernel
theorem dX7_readsItem_31 : decode cX7_readsItem 31 = .ok (.aload_n 0, 1) := by decide +kernel
theorem dX7_readsItem_32 : decode cX7_readsItem 32 = .ok (.dup, 1) := by decide +kernel
theorem dX7_readsItem_33 : decode cX7_readsItem 33 = .ok (.getfield 107, 3) := by decide +kernel
theorem dX7_readsItem_36 : decode cX7_readsItem 36 = .ok (.iconst 1, 1) := by decide +kernel
theorem dX7_readsItem_37 : decode cX7_readsItem 37 = .ok (.iadd, 1) := by decide +kernel
theorem dX7_readsItem_38 : decode cX7_readsItem 38 = .ok (.putfield 107, 3) := by decide +kernel
theorem dX7_readsItem_41 : decode cX7_readsItem 41 = .ok (.goto 104, 3) := by decide +kernel
theorem dX7_readsItem_44 : decode cX7_readsItem 44 = .ok (.iload_n 1, 1) := by decide +kernel
theorem dX7_readsItem_45 : decode cX7_readsItem 45 = .ok (.iconst 4, 1) := by decide +kernel
theorem dX7_readsItem_46 : decode cX7_readsItem 46 = .ok (.if_icmp .ne 22, 3) := by decide +kernel
theorem dX7_readsItem_49 : decode cX7_readsItem 49 = .ok (.aload_n 0, 1) := by decide +kernel
theorem dX7_readsItem_50 : decode cX7_readsItem 50 = .ok (.aload_n 0, 1) := by decide +kernel
theorem dX7_readsItem_51 : decode cX7_readsItem 51 = .ok (.iconst 0, 1) := by decide +kernel
theorem dX7_readsItem_52 : decode cX7_readsItem 52 = .ok (.bipush 9, 2) := by decide +kernel
theorem dX7_readsItem_54 : decode cX7_readsItem 54 = .ok (.invokevirtual 110, 3) := by decide +kernel
theorem dX7_readsItem_57 : decode cX7_readsItem 57 = .ok (.putfield 114, 3) := by decide +kernel
theorem dX7_readsItem_60 : decode cX7_readsItem 60 = .ok (.aload_n 0, 1) := by decide +kernel
theorem dX7_readsItem_61 : decode cX7_readsItem 61 = .ok (.iconst 1, 1) := by decide +kernel
theorem dX7_readsItem_62 : decode cX7_readsItem 62 = .ok (.putfield 117, 3) := by decide +kernel
theorem dX7_readsItem_65 : decode cX7_readsItem 65 = .ok (.goto 80, 3) := by decide +kernel
theorem dX7_readsItem_68 : decode cX7_readsItem 68 = .ok (.iload_n 1, 1) := by decide +kernel
theorem dX7_readsItem_69 : decode cX7_readsItem 69 = .ok (.iconst 5, 1) := by decide +kernel
theorem dX7_readsItem_70 : decode cX7_readsItem 70 = .ok (.if_icmp .ne 70, 3) := by decide +kernel
theorem dX7_readsItem_73 : decode cX7_readsItem 73 = .ok (.aload_n 0, 1) := by decide +kernel
theorem dX7_readsItem_74 : decode cX7_readsItem 74 = .ok (.aload_n 0, 1) := by decide +kernel
theorem dX7_readsItem_75 : decode cX7_readsItem 75 = .ok (.getfield 83, 3) := by decide +kernel
theorem dX7_readsItem_78 : decode cX7_readsItem 78 = .ok (.iconst 1, 1) := by decide +kernel
theorem dX7_readsItem_79 : decode cX7_readsItem 79 = .ok (.if_icmp .ne 16, 3) := by decide +kernel
theorem dX7_readsItem_82 : decode cX7_readsItem 82 = .ok (.aload_n 0, 1) := by decide +kernel
theorem dX7_readsItem_83 : decode cX7_readsItem 83 = .ok (.getfield 90, 3) := by decide +kernel
theorem dX7_readsItem_86 : decode cX7_readsItem 86 = .ok (.bipush 6, 2) := by decide +kernel
theorem dX7_readsItem_88 : decode cX7_readsItem 88 = .ok (.if_icmp .lt 7, 3) := by decide +kernel
theorem dX7_readsItem_91 : decode cX7_readsItem 91 = .ok (.iconst 1, 1) := by decide +kernel
theorem dX7_readsItem_92 : decode cX7_readsItem 92 = .ok (.goto 4, 3) := by decide +kernel
theorem dX7_readsItem_95 : decode cX7_readsItem 95 = .ok (.iconst 0, 1) := by decide +kernel
theorem dX7_readsItem_96 : decode cX7_readsItem 96 = .ok (.invokevirtual 103, 3) := by decide +kernel
theorem dX7_readsItem_99 : decode cX7_readsItem 99 = .ok (.istore_n 2, 1) := by decide +kernel
theorem dX7_readsItem_100 : decode cX7_readsItem 100 = .ok (.aload_n 0, 1) := by decide +kernel
theorem dX7_readsItem_101 : decode cX7_readsItem 101 = .ok (.iload_n 2, 1) := by decide +kernel
theorem dX7_readsItem_102 : decode cX7_readsItem 102 = .ok (.bipush 6, 2) := by decide +kernel
theorem dX7_readsItem_104 : decode cX7_readsItem 104 = .ok (.isub, 1) := by decide +kernel
theorem dX7_readsItem_105 : decode cX7_readsItem 105 = .ok (.putfield 121, 3) := by decide +kernel
theorem dX7_readsItem_108 : decode cX7_readsItem 108 = .ok (.aload_n 0, 1) := by decide +kernel
theorem dX7_readsItem_109 : decode cX7_readsItem 109 = .ok (.invokevirtual 96, 3) := by decide +kernel
theorem dX7_readsItem_112 : decode cX7_readsItem 112 = .ok (.ifCond .eq 20, 3) := by decide +kernel
theorem dX7_readsItem_115 : decode cX7_readsItem 115 = .ok (.iload_n 2, 1) := by decide +kernel
theorem dX7_readsItem_116 : decode cX7_readsItem 116 = .ok (.bipush 8, 2) := by decide +kernel
theorem dX7_readsItem_118 : decode cX7_readsItem 118 = .ok (.if_icmp .ne 14, 3) := by decide +kernel
theorem dX7_readsItem_121 : decode cX7_readsItem 121 = .ok (.aload_n 0, 1) := by decide +kernel
theorem dX7_readsItem_122 : decode cX7_readsItem 122 = .ok (.aload_n 0, 1) := by decide +kernel
theorem dX7_readsItem_123 : decode cX7_readsItem 123 = .ok (.iconst 0, 1) := by decide +kernel
theorem dX7_readsItem_124 : decode cX7_readsItem 124 = .ok (.bipush 7, 2) := by decide +kernel
theorem dX7_readsItem_126 : decode cX7_readsItem 126 = .ok (.invokevirtual 110, 3) := by decide +kernel
theorem dX7_readsItem_129 : decode cX7_readsItem 129 = .ok (.putfield 124, 3) := by decide +kernel
theorem dX7_readsItem_132 : decode cX7_readsItem 132 = .ok (.aload_n 0, 1) := by decide +kernel
theorem dX7_readsItem_133 : decode cX7_readsItem 133 = .ok (.iconst 1, 1) := by decide +kernel
theorem dX7_readsItem_134 : decode cX7_readsItem 134 = .ok (.putfield 127, 3) := by decide +kernel
theorem dX7_readsItem_137 : decode cX7_readsItem 137 = .ok (.goto 8, 3) := by decide +kernel
theorem dX7_readsItem_140 : decode cX7_readsItem 140 = .ok (.aload_n 0, 1) := by decide +kernel
theorem dX7_readsItem_141 : decode cX7_readsItem 141 = .ok (.iload_n 1, 1) := by decide +kernel
theorem dX7_readsItem_142 : decode cX7_readsItem 142 = .ok (.invokevirtual 130, 3) := by decide +kernel
theorem dX7_readsItem_145 : decode cX7_readsItem 145 = .ok (.return_, 1) := by decide +kernel
theorem dX7_town_0 : decode cX7_town 0 = .ok (.aload_n 0, 1) := by decide +kernel
theorem dX7_town_1 : decode cX7_town 1 = .ok (.iconst 0, 1) := by decide +kernel
theorem dX7_town_2 : decode cX7_town 2 = .ok (.putfield 51, 3) := by decide +kernel
theorem dX7_town_5 : decode cX7_town 5 = .ok (.aload_n 0, 1) := by decide +kernel
theorem dX7_town_6 : decode cX7_town 6 = .ok (.iconst (-1), 1) := by decide +kernel
theorem dX7_town_7 : decode cX7_town 7 = .ok (.putfield 93, 3) := by decide +kernel
theorem dX7_town_10 : decode cX7_town 10 = .ok (.aload_n 0, 1) := by decide +kernel
theorem dX7_town_11 : decode cX7_town 11 = .ok (.iconst 0, 1) := by decide +kernel
theorem dX7_town_12 : decode cX7_town 12 = .ok (.putfield 73, 3) := by decide +kernel
theorem dX7_town_15 : decode cX7_town 15 = .ok (.iconst 0, 1) := by decide +kernel
theorem dX7_town_16 : decode cX7_town 16 = .ok (.istore_n 1, 1) := by decide +kernel
theorem dX7_town_17 : decode cX7_town 17 = .ok (.aload_n 0, 1) := by decide +kernel
theorem dX7_town_18 : decode cX7_town 18 = .ok (.iconst 0, 1) := by decide +kernel
theorem dX7_town_19 : decode cX7_town 19 = .ok (.putfield 107, 3) := by decide +kernel
theorem dX7_town_22 : decode cX7_town 22 = .ok (.aload_n 0, 1) := by decide +kernel
theorem dX7_town_23 : decode cX7_town 23 = .ok (.iconst 0, 1) := by decide +kernel
theorem dX7_town_24 : decode cX7_town 24 = .ok (.putfield 114, 3) := by decide +kernel
theorem dX7_town_27 : decode cX7_town 27 = .ok (.aload_n 0, 1) := by decide +kernel
theorem dX7_town_28 : decode cX7_town 28 = .ok (.iconst 0, 1) := by decide +kernel
theorem dX7_town_29 : decode cX7_town 29 = .ok (.putfield 121, 3) := by decide +kernel
theorem dX7_town_32 : decode cX7_town 32 = .ok (.aload_n 0, 1) := by decide +kernel
theorem dX7_town_33 : decode cX7_town 33 = .ok (.iconst 2, 1) := by decide +kernel
theorem dX7_town_34 : decode cX7_town 34 = .ok (.putfield 124, 3) := by decide +kernel
theorem dX7_town_37 : decode cX7_town 37 = .ok (.aload_n 0, 1) := by decide +kernel
theorem dX7_town_38 : decode cX7_town 38 = .ok (.iconst 0, 1) := by decide +kernel
theorem dX7_town_39 : decode cX7_town 39 = .ok (.putfield 117, 3) := by decide +kernel
theorem dX7_town_42 : decode cX7_town 42 = .ok (.aload_n 0, 1) := by decide +kernel
theorem dX7_town_43 : decode cX7_town 43 = .ok (.iconst 0, 1) := by decide +kernel
theorem dX7_town_44 : decode cX7_town 44 = .ok (.putfield 127, 3) := by decide +kernel
theorem dX7_town_47 : decode cX7_town 47 = .ok (.aload_n 0, 1) := by decide +kernel
theorem dX7_town_48 : decode cX7_town 48 = .ok (.invokevirtual 100, 3) := by decide +kernel
theorem dX7_town_51 : decode cX7_town 51 = .ok (.aload_n 0, 1) := by decide +kernel
theorem dX7_town_52 : decode cX7_town 52 = .ok (.invokevirtual 96, 3) := by decide +kernel
theorem dX7_town_55 : decode cX7_town 55 = .ok (.ifCond .eq 152, 3) := by decide +kernel
theorem dX7_town_58 : decode cX7_town 58 = .ok (.aload_n 0, 1) := by decide +kernel
theorem dX7_town_59 : decode cX7_town 59 = .ok (.getfield 83, 3) := by decide +kernel
theorem dX7_town_62 : decode cX7_town 62 = .ok (.ifCond .eq 145, 3) := by decide +kernel
theorem dX7_town_65 : decode cX7_town 65 = .ok (.aload_n 0, 1) := by decide +kernel
theorem dX7_town_66 : decode cX7_town 66 = .ok (.getfield 90, 3) := by decide +kernel
theorem dX7_town_69 : decode cX7_town 69 = .ok (.ifCond .ne 20, 3) := by decide +kernel
theorem dX7_town_72 : decode cX7_town 72 = .ok (.aload_n 0, 1) := by decide +kernel
theorem dX7_town_73 : decode cX7_town 73 = .ok (.getfield 107, 3) := by decide +kernel
theorem dX7_town_76 : decode cX7_town 76 = .ok (.bipush 8, 2) := by decide +kernel
theorem dX7_town_78 : decode cX7_town 78 = .ok (.if_icmp .ge 7, 3) := by decide +kernel
theorem dX7_town_81 : decode cX7_town 81 = .ok (.iconst 1, 1) := by decide +kernel
theorem dX7_town_82 : decode cX7_town 82 = .ok (.goto 66, 3) := by decide +kernel
theorem dX7_town_85 : decode cX7_town 85 = .ok (.iconst 0, 1) := by decide +kernel
theorem dX7_town_86 : decode cX7_town 86 = .ok (.goto 62, 3) := by decide +kernel
theorem dX7_town_89 : decode cX7_town 89 = .ok (.aload_n 0, 1) := by decide +kernel
theorem dX7_town_90 : decode cX7_town 90 = .ok (.getfield 90, 3) := by decide +kernel
theorem dX7_town_93 : decode cX7_town 93 = .ok (.iconst 4, 1) := by decide +kernel
theorem dX7_town_94 : decode cX7_town 94 = .ok (.if_icmp .ne 18, 3) := by decide +kernel
theorem dX7_town_97 : decode cX7_town 97 = .ok (.aload_n 0, 1) := by decide +kernel
theorem dX7_town_98 : decode cX7_town 98 = .ok (.getfield 117, 3) := by decide +kernel
theorem dX7_town_101 : decode cX7_town 101 = .ok (.ifCond .ne 7, 3) := by decide +kernel
theorem dX7_town_104 : decode cX7_town 104 = .ok (.iconst 1, 1) := by decide +kernel
theorem dX7_town_105 : decode cX7_town 105 = .ok (.goto 43, 3) := by decide +kernel
theorem dX7_town_108 : decode cX7_town 108 = .ok (.iconst 0, 1) := by decide +kernel
theorem dX7_town_109 : decode cX7_town 109 = .ok (.goto 39, 3) := by decide +kernel
theorem dX7_town_112 : decode cX7_town 112 = .ok (.aload_n 0, 1) := by decide +kernel
theorem dX7_town_113 : decode cX7_town 113 = .ok (.getfield 90, 3) := by decide +kernel
theorem dX7_town_116 : decode cX7_town 116 = .ok (.iconst 5, 1) := by decide +kernel
theorem dX7_town_117 : decode cX7_town 117 = .ok (.if_icmp .ne 18, 3) := by decide +kernel
theorem dX7_town_120 : decode cX7_town 120 = .ok (.aload_n 0, 1) := by decide +kernel
theorem dX7_town_121 : decode cX7_town 121 = .ok (.getfield 127, 3) := by decide +kernel
theorem dX7_town_124 : decode cX7_town 124 = .ok (.ifCond .ne 7, 3) := by decide +kernel
theorem dX7_town_127 : decode cX7_town 127 = .ok (.iconst 1, 1) := by decide +kernel
theorem dX7_town_128 : decode cX7_town 128 = .ok (.goto 20, 3) := by decide +kernel
theorem dX7_town_131 : decode cX7_town 131 = .ok (.iconst 0, 1) := by decide +kernel
theorem dX7_town_132 : decode cX7_town 132 = .ok (.goto 16, 3) := by decide +kernel
theorem dX7_town_135 : decode cX7_town 135 = .ok (.aload_n 0, 1) := by decide +kernel
theorem dX7_town_136 : decode cX7_town 136 = .ok (.getfield 90, 3) := by decide +kernel
theorem dX7_town_139 : decode cX7_town 139 = .ok (.iconst 4, 1) := by decide +kernel
theorem dX7_town_140 : decode cX7_town 140 = .ok (.if_icmp .ge 7, 3) := by decide +kernel
theorem dX7_town_143 : decode cX7_town 143 = .ok (.iconst 1, 1) := by decide +kernel
theorem dX7_town_144 : decode cX7_town 144 = .ok (.goto 4, 3) := by decide +kernel
theorem dX7_town_147 : decode cX7_town 147 = .ok (.iconst 0, 1) := by decide +kernel
theorem dX7_town_148 : decode cX7_town 148 = .ok (.istore_n 2, 1) := by decide +kernel
theorem dX7_town_149 : decode cX7_town 149 = .ok (.aload_n 0, 1) := by decide +kernel
theorem dX7_town_150 : decode cX7_town 150 = .ok (.aload_n 0, 1) := by decide +kernel
theorem dX7_town_151 : decode cX7_town 151 = .ok (.getfield 83, 3) := by decide +kernel
theorem dX7_town_154 : decode cX7_town 154 = .ok (.iconst 1, 1) := by decide +kernel
theorem dX7_town_155 : decode cX7_town 155 = .ok (.if_icmp .ne 11, 3) := by decide +kernel
theorem dX7_town_158 : decode cX7_town 158 = .ok (.iload_n 2, 1) := by decide +kernel
theorem dX7_town_159 : decode cX7_town 159 = .ok (.ifCond .eq 7, 3) := by decide +kernel
theorem dX7_town_162 : decode cX7_town 162 = .ok (.iconst 1, 1) := by decide +kernel
theorem dX7_town_163 : decode cX7_town 163 = .ok (.goto 4, 3) := by decide +kernel
theorem dX7_town_166 : decode cX7_town 166 = .ok (.iconst 0, 1) := by decide +kernel
theorem dX7_town_167 : decode cX7_town 167 = .ok (.invokevirtual 103, 3) := by decide +kernel
theorem dX7_town_170 : decode cX7_town 170 = .ok (.istore_n 3, 1) := by decide +kernel
theorem dX7_town_171 : decode cX7_town 171 = .ok (.aload_n 0, 1) := by decide +kernel
theorem dX7_town_172 : decode cX7_town 172 = .ok (.invokevirtual 96, 3) := by decide +kernel
theorem dX7_town_175 : decode cX7_town 175 = .ok (.ifCond .eq 8, 3) := by decide +kernel
theorem dX7_town_178 : decode cX7_town 178 = .ok (.aload_n 0, 1) := by decide +kernel
theorem dX7_town_179 : decode cX7_town 179 = .ok (.iload_n 3, 1) := by decide +kernel
theorem dX7_town_180 : decode cX7_town 180 = .ok (.invokevirtual 134, 3) := by decide +kernel
theorem dX7_town_183 : decode cX7_town 183 = .ok (.aload_n 0, 1) := by decide +kernel
theorem dX7_town_184 : decode cX7_town 184 = .ok (.aload_n 0, 1) := by decide +kernel
theorem dX7_town_185 : decode cX7_town 185 = .ok (.getfield 83, 3) := by decide +kernel
theorem dX7_town_188 : decode cX7_town 188 = .ok (.iconst 3, 1) := by decide +kernel
theorem dX7_town_189 : decode cX7_town 189 = .ok (.if_icmp .ne 7, 3) := by decide +kernel
theorem dX7_town_192 : decode cX7_town 192 = .ok (.iconst 1, 1) := by decide +kernel
theorem dX7_town_193 : decode cX7_town 193 = .ok (.goto 4, 3) := by decide +kernel
theorem dX7_town_196 : decode cX7_town 196 = .ok (.iconst 0, 1) := by decide +kernel
theorem dX7_town_197 : decode cX7_town 197 = .ok (.invokevirtual 103, 3) := by decide +kernel
theorem dX7_town_200 : decode cX7_town 200 = .ok (.pop, 1) := by decide +kernel
theorem dX7_town_201 : decode cX7_town 201 = .ok (.iinc 1 1, 3) := by decide +kernel
theorem dX7_town_204 : decode cX7_town 204 = .ok (.goto (-153), 3) := by decide +kernel
theorem dX7_town_207 : decode cX7_town 207 = .ok (.aload_n 0, 1) := by decide +kernel
theorem dX7_town_208 : decode cX7_town 208 = .ok (.invokevirtual 96, 3) := by decide +kernel
theorem dX7_town_211 : decode cX7_town 211 = .ok (.ifCond .ne 11, 3) := by decide +kernel
theorem dX7_town_214 : decode cX7_town 214 = .ok (.bipush (-10), 2) := by decide +kernel
theorem dX7_town_216 : decode cX7_town 216 = .ok (.aload_n 0, 1) := by decide +kernel
theorem dX7_town_217 : decode cX7_town 217 = .ok (.getfield 93, 3) := by decide +kernel
theorem dX7_town_220 : decode cX7_town 220 = .ok (.isub, 1) := by decide +kernel
theorem dX7_town_221 : decode cX7_town 221 = .ok (.ireturn, 1) := by decide +kernel
theorem dX7_town_222 : decode cX7_town 222 = .ok (.aload_n 0, 1) := by decide +kernel
theorem dX7_town_223 : decode cX7_town 223 = .ok (.aload_n 0, 1) := by decide +kernel
theorem dX7_town_224 : decode cX7_town 224 = .ok (.getfield 107, 3) := by decide +kernel
theorem dX7_town_227 : decode cX7_town 227 = .ok (.putfield 137, 3) := by decide +kernel
theorem dX7_town_230 : decode cX7_town 230 = .ok (.aload_n 0, 1) := by decide +kernel
theorem dX7_town_231 : decode cX7_town 231 = .ok (.aload_n 0, 1) := by decide +kernel
theorem dX7_town_232 : decode cX7_town 232 = .ok (.getfield 114, 3) := by decide +kernel
theorem dX7_town_235 : decode cX7_town 235 = .ok (.putfield 140, 3) := by decide +kernel
theorem dX7_town_238 : decode cX7_town 238 = .ok (.aload_n 0, 1) := by decide +kernel
theorem dX7_town_239 : decode cX7_town 239 = .ok (.aload_n 0, 1) := by decide +kernel
theorem dX7_town_240 : decode cX7_town 240 = .ok (.getfield 121, 3) := by decide +kernel
theorem dX7_town_243 : decode cX7_town 243 = .ok (.putfield 143, 3) := by decide +kernel
theorem dX7_town_246 : decode cX7_town 246 = .ok (.aload_n 0, 1) := by decide +kernel
theorem dX7_town_247 : decode cX7_town 247 = .ok (.aload_n 0, 1) := by decide +kernel
theorem dX7_town_248 : decode cX7_town 248 = .ok (.getfield 124, 3) := by decide +kernel
theorem dX7_town_251 : decode cX7_town 251 = .ok (.putfield 44, 3) := by decide +kernel
theorem dX7_town_254 : decode cX7_town 254 = .ok (.iconst 0, 1) := by decide +kernel
theorem dX7_town_255 : decode cX7_town 255 = .ok (.istore_n 2, 1) := by decide +kernel
theorem dX7_town_256 : decode cX7_town 256 = .ok (.iload_n 2, 1) := by decide +kernel
theorem dX7_town_257 : decode cX7_town 257 = .ok (.bipush 8, 2) := by decide +kernel
theorem dX7_town_259 : decode cX7_town 259 = .ok (.if_icmp .ge 64, 3) := by decide +kernel
theorem dX7_town_262 : decode cX7_town 262 = .ok (.aload_n 0, 1) := by decide +kernel
theorem dX7_town_263 : decode cX7_town 263 = .ok (.getfield 13, 3) := by decide +kernel
theorem dX7_town_266 : decode cX7_town 266 = .ok (.iload_n 2, 1) := by decide +kernel
theorem dX7_town_267 : decode cX7_town 267 = .ok (.iload_n 2, 1) := by decide +kernel
theorem dX7_town_268 : decode cX7_town 268 = .ok (.aload_n 0, 1) := by decide +kernel
theorem dX7_town_269 : decode cX7_town 269 = .ok (.getfield 137, 3) := by decide +kernel
theorem dX7_town_272 : decode cX7_town 272 = .ok (.if_icmp .ge 15, 3) := by decide +kernel
theorem dX7_town_275 : decode cX7_town 275 = .ok (.aload_n 0, 1) := by decide +kernel
theorem dX7_town_276 : decode cX7_town 276 = .ok (.getfield 13, 3) := by decide +kernel
theorem dX7_town_279 : decode cX7_town 279 = .ok (.bipush 8, 2) := by decide +kernel
theorem dX7_town_281 : decode cX7_town 281 = .ok (.iload_n 2, 1) := by decide +kernel
theorem dX7_town_282 : decode cX7_town 282 = .ok (.iadd, 1) := by decide +kernel
theorem dX7_town_283 : decode cX7_town 283 = .ok (.iaload, 1) := by decide +kernel
theorem dX7_town_284 : decode cX7_town 284 = .ok (.goto 4, 3) := by decide +kernel
theorem dX7_town_287 : decode cX7_town 287 = .ok (.iconst 0, 1) := by decide +kernel
theorem dX7_town_288 : decode cX7_town 288 = .ok (.iastore, 1) := by decide +kernel
theorem dX7_town_289 : decode cX7_town 289 = .ok (.aload_n 0, 1) := by decide +kernel
theorem dX7_town_290 : decode cX7_town 290 = .ok (.getfield 16, 3) := by decide +kernel
theorem dX7_town_293 : decode cX7_town 293 = .ok (.iload_n 2, 1) := by decide +kernel
theorem dX7_town_294 : decode cX7_town 294 = .ok (.iload_n 2, 1) := by decide +kernel
theorem dX7_town_295 : decode cX7_town 295 = .ok (.aload_n 0, 1) := by decide +kernel
theorem dX7_town_296 : decode cX7_town 296 = .ok (.getfield 137, 3) := by decide +kernel
theorem dX7_town_299 : decode cX7_town 299 = .ok (.if_icmp .ge 15, 3) := by decide +kernel
theorem dX7_town_302 : decode cX7_town 302 = .ok (.aload_n 0, 1) := by decide +kernel
theorem dX7_town_303 : decode cX7_town 303 = .ok (.getfield 16, 3) := by decide +kernel
theorem dX7_town_306 : decode cX7_town 306 = .ok (.bipush 8, 2) := by decide +kernel
theorem dX7_town_308 : decode cX7_town 308 = .ok (.iload_n 2, 1) := by decide +kernel
theorem dX7_town_309 : decode cX7_town 309 = .ok (.iadd, 1) := by decide +kernel
theorem dX7_town_310 : decode cX7_town 310 = .ok (.iaload, 1) := by decide +kernel
theorem dX7_town_311 : decode cX7_town 311 = .ok (.goto 5, 3) := by decide +kernel
theorem dX7_town_314 : decode cX7_town 314 = .ok (.bipush (-9), 2) := by decide +kernel
theorem dX7_town_316 : decode cX7_town 316 = .ok (.iastore, 1) := by decide +kernel
theorem dX7_town_317 : decode cX7_town 317 = .ok (.iinc 2 1, 3) := by decide +kernel
theorem dX7_town_320 : decode cX7_town 320 = .ok (.goto (-64), 3) := by decide +kernel
theorem dX7_town_323 : decode cX7_town 323 = .ok (.aload_n 0, 1) := by decide +kernel
theorem dX7_town_324 : decode cX7_town 324 = .ok (.iconst 0, 1) := by decide +kernel
theorem dX7_town_325 : decode cX7_town 325 = .ok (.putfield 58, 3) := by decide +kernel
theorem dX7_town_328 : decode cX7_town 328 = .ok (.aload_n 0, 1) := by decide +kernel
theorem dX7_town_329 : decode cX7_town 329 = .ok (.getfield 28, 3) := by decide +kernel
theorem dX7_town_332 : decode cX7_town 332 = .ok (.iconst 0, 1) := by decide +kernel
theorem dX7_town_333 : decode cX7_town 333 = .ok (.iconst 0, 1) := by decide +kernel
theorem dX7_town_334 : decode cX7_town 334 = .ok (.bastore, 1) := by decide +kernel
theorem dX7_town_335 : decode cX7_town 335 = .ok (.aload_n 0, 1) := by decide +kernel
theorem dX7_town_336 : decode cX7_town 336 = .ok (.getfield 28, 3) := by decide +kernel
theorem dX7_town_339 : decode cX7_town 339 = .ok (.iconst 1, 1) := by decide +kernel
theorem dX7_town_340 : decode cX7_town 340 = .ok (.iconst 0, 1) := by decide +kernel
theorem dX7_town_341 : decode cX7_town 341 = .ok (.bastore, 1) := by decide +kernel
theorem dX7_town_342 : decode cX7_town 342 = .ok (.aload_n 0, 1) := by decide +kernel
theorem dX7_town_343 : decode cX7_town 343 = .ok (.invokevirtual 48, 3) := by decide +kernel
theorem dX7_town_346 : decode cX7_town 346 = .ok (.iload_n 1, 1) := by decide +kernel
theorem dX7_town_347 : decode cX7_town 347 = .ok (.ireturn, 1) := by decide +kernel
theorem dX7_begins_0 : decode cX7_begins 0 = .ok (.iconst 0, 1) := by decide +kernel
theorem dX7_begins_1 : decode cX7_begins 1 = .ok (.istore_n 1, 1) := by decide +kernel
theorem dX7_begins_2 : decode cX7_begins 2 = .ok (.iload_n 1, 1) := by decide +kernel
theorem dX7_begins_3 : decode cX7_begins 3 = .ok (.bipush 82, 2) := by decide +kernel
theorem dX7_begins_5 : decode cX7_begins 5 = .ok (.if_icmp .ge 52, 3) := by decide +kernel
theorem dX7_begins_8 : decode cX7_begins 8 = .ok (.aload_n 0, 1) := by decide +kernel
theorem dX7_begins_9 : decode cX7_begins 9 = .ok (.getfield 19, 3) := by decide +kernel
theorem dX7_begins_12 : decode cX7_begins 12 = .ok (.iload_n 1, 1) := by decide +kernel
theorem dX7_begins_13 : decode cX7_begins 13 = .ok (.iload_n 1, 1) := by decide +kernel
theorem dX7_begins_14 : decode cX7_begins 14 = .ok (.bipush 8, 2) := by decide +kernel
theorem dX7_begins_16 : decode cX7_begins 16 = .ok (.if_icmp .ge 12, 3) := by decide +kernel
theorem dX7_begins_19 : decode cX7_begins 19 = .ok (.aload_n 0, 1) := by decide +kernel
theorem dX7_begins_20 : decode cX7_begins 20 = .ok (.getfield 13, 3) := by decide +kernel
theorem dX7_begins_23 : decode cX7_begins 23 = .ok (.iload_n 1, 1) := by decide +kernel
theorem dX7_begins_24 : decode cX7_begins 24 = .ok (.iaload, 1) := by decide +kernel
theorem dX7_begins_25 : decode cX7_begins 25 = .ok (.goto 25, 3) := by decide +kernel
theorem dX7_begins_28 : decode cX7_begins 28 = .ok (.iload_n 1, 1) := by decide +kernel
theorem dX7_begins_29 : decode cX7_begins 29 = .ok (.bipush 72, 2) := by decide +kernel
theorem dX7_begins_31 : decode cX7_begins 31 = .ok (.if_icmp .ge 7, 3) := by decide +kernel
theorem dX7_begins_34 : decode cX7_begins 34 = .ok (.iconst (-1), 1) := by decide +kernel
theorem dX7_begins_35 : decode cX7_begins 35 = .ok (.goto 15, 3) := by decide +kernel
theorem dX7_begins_38 : decode cX7_begins 38 = .ok (.iload_n 1, 1) := by decide +kernel
theorem dX7_begins_39 : decode cX7_begins 39 = .ok (.bipush 81, 2) := by decide +kernel
theorem dX7_begins_41 : decode cX7_begins 41 = .ok (.if_icmp .ne 8, 3) := by decide +kernel
theorem dX7_begins_44 : decode cX7_begins 44 = .ok (.bipush (-9), 2) := by decide +kernel
theorem dX7_begins_46 : decode cX7_begins 46 = .ok (.goto 4, 3) := by decide +kernel
theorem dX7_begins_49 : decode cX7_begins 49 = .ok (.iconst 0, 1) := by decide +kernel
theorem dX7_begins_50 : decode cX7_begins 50 = .ok (.iastore, 1) := by decide +kernel
theorem dX7_begins_51 : decode cX7_begins 51 = .ok (.iinc 1 1, 3) := by decide +kernel
theorem dX7_begins_54 : decode cX7_begins 54 = .ok (.goto (-52), 3) := by decide +kernel
theorem dX7_begins_57 : decode cX7_begins 57 = .ok (.return_, 1) := by decide +kernel
theorem dX7_isPerson_0 : decode cX7_isPerson 0 = .ok (.iload_n 1, 1) := by decide +kernel
theorem dX7_isPerson_1 : decode cX7_isPerson 1 = .ok (.iconst 0, 1) := by decide +kernel
theorem dX7_isPerson_2 : decode cX7_isPerson 2 = .ok (.aload_n 0, 1) := by decide +kernel
theorem dX7_isPerson_3 : decode cX7_isPerson 3 = .ok (.getfield 137, 3) := by decide +kernel
theorem dX7_isPerson_6 : decode cX7_isPerson 6 = .ok (.iconst 1, 1) := by decide +kernel
theorem dX7_isPerson_7 : decode cX7_isPerson 7 = .ok (.isub, 1) := by decide +kernel
theorem dX7_isPerson_8 : decode cX7_isPerson 8 = .ok (.invokestatic 54, 3) := by decide +kernel
theorem dX7_isPerson_11 : decode cX7_isPerson 11 = .ok (.ireturn, 1) := by decide +kernel
theorem dX7_areTwo_0 : decode cX7_areTwo 0 = .ok (.aload_n 0, 1) := by decide +kernel
theorem dX7_areTwo_1 : decode cX7_areTwo 1 = .ok (.iload_n 1, 1) := by decide +kernel
theorem dX7_areTwo_2 : decode cX7_areTwo 2 = .ok (.invokevirtual 146, 3) := by decide +kernel
theorem dX7_areTwo_5 : decode cX7_areTwo 5 = .ok (.ifCond .eq 20, 3) := by decide +kernel
theorem dX7_areTwo_8 : decode cX7_areTwo 8 = .ok (.aload_n 0, 1) := by decide +kernel
theorem dX7_areTwo_9 : decode cX7_areTwo 9 = .ok (.iload_n 2, 1) := by decide +kernel
theorem dX7_areTwo_10 : decode cX7_areTwo 10 = .ok (.invokevirtual 146, 3) := by decide +kernel
theorem dX7_areTwo_13 : decode cX7_areTwo 13 = .ok (.ifCond .eq 12, 3) := by decide +kernel
theorem dX7_areTwo_16 : decode cX7_areTwo 16 = .ok (.iload_n 1, 1) := by decide +kernel
theorem dX7_areTwo_17 : decode cX7_areTwo 17 = .ok (.iload_n 2, 1) := by decide +kernel
theorem dX7_areTwo_18 : decode cX7_areTwo 18 = .ok (.if_icmp .eq 7, 3) := by decide +kernel
theorem dX7_areTwo_21 : decode cX7_areTwo 21 = .ok (.iconst 1, 1) := by decide +kernel
theorem dX7_areTwo_22 : decode cX7_areTwo 22 = .ok (.goto 4, 3) := by decide +kernel
theorem dX7_areTwo_25 : decode cX7_areTwo 25 = .ok (.iconst 0, 1) := by decide +kernel
theorem dX7_areTwo_26 : decode cX7_areTwo 26 = .ok (.ireturn, 1) := by decide +kernel
theorem dX7_isKnown_0 : decode cX7_isKnown 0 = .ok (.aload_n 0, 1) := by decide +kernel
theorem dX7_isKnown_1 : decode cX7_isKnown 1 = .ok (.getfield 19, 3) := by decide +kernel
theorem dX7_isKnown_4 : decode cX7_isKnown 4 = .ok (.iload_n 1, 1) := by decide +kernel
theorem dX7_isKnown_5 : decode cX7_isKnown 5 = .ok (.iaload, 1) := by decide +kernel
theorem dX7_isKnown_6 : decode cX7_isKnown 6 = .ok (.iload_n 2, 1) := by decide +kernel
theorem dX7_isKnown_7 : decode cX7_isKnown 7 = .ok (.ishr, 1) := by decide +kernel
theorem dX7_isKnown_8 : decode cX7_isKnown 8 = .ok (.iconst 1, 1) := by decide +kernel
theorem dX7_isKnown_9 : decode cX7_isKnown 9 = .ok (.iand, 1) := by decide +kernel
theorem dX7_isKnown_10 : decode cX7_isKnown 10 = .ok (.iconst 1, 1) := by decide +kernel
theorem dX7_isKnown_11 : decode cX7_isKnown 11 = .ok (.if_icmp .ne 7, 3) := by decide +kernel
theorem dX7_isKnown_14 : decode cX7_isKnown 14 = .ok (.iconst 1, 1) := by decide +kernel
theorem dX7_isKnown_15 : decode cX7_isKnown 15 = .ok (.goto 4, 3) := by decide +kernel
theorem dX7_isKnown_18 : decode cX7_isKnown 18 = .ok (.iconst 0, 1) := by decide +kernel
theorem dX7_isKnown_19 : decode cX7_isKnown 19 = .ok (.ireturn, 1) := by decide +kernel
theorem dX7_knows_0 : decode cX7_knows 0 = .ok (.aload_n 0, 1) := by decide +kernel
theorem dX7_knows_1 : decode cX7_knows 1 = .ok (.iconst 0, 1) := by decide +kernel
theorem dX7_knows_2 : decode cX7_knows 2 = .ok (.putfield 51, 3) := by decide +kernel
theorem dX7_knows_5 : decode cX7_knows 5 = .ok (.aload_n 0, 1) := by decide +kernel
theorem dX7_knows_6 : decode cX7_knows 6 = .ok (.iload_n 1, 1) := by decide +kernel
theorem dX7_knows_7 : decode cX7_knows 7 = .ok (.iload_n 2, 1) := by decide +kernel
theorem dX7_knows_8 : decode cX7_knows 8 = .ok (.invokevirtual 150, 3) := by decide +kernel
theorem dX7_knows_11 : decode cX7_knows 11 = .ok (.ifCond .ne 7, 3) := by decide +kernel
theorem dX7_knows_14 : decode cX7_knows 14 = .ok (.iconst (-1), 1) := by decide +kernel
theorem dX7_knows_15 : decode cX7_knows 15 = .ok (.goto 17, 3) := by decide +kernel
theorem dX7_knows_18 : decode cX7_knows 18 = .ok (.aload_n 0, 1) := by decide +kernel
theorem dX7_knows_19 : decode cX7_knows 19 = .ok (.iload_n 1, 1) := by decide +kernel
theorem dX7_knows_20 : decode cX7_knows 20 = .ok (.iload_n 2, 1) := by decide +kernel
theorem dX7_knows_21 : decode cX7_knows 21 = .ok (.invokevirtual 154, 3) := by decide +kernel
theorem dX7_knows_24 : decode cX7_knows 24 = .ok (.ifCond .eq 7, 3) := by decide +kernel
theorem dX7_knows_27 : decode cX7_knows 27 = .ok (.iconst 1, 1) := by decide +kernel
theorem dX7_knows_28 : decode cX7_knows 28 = .ok (.goto 4, 3) := by decide +kernel
theorem dX7_knows_31 : decode cX7_knows 31 = .ok (.iconst 0, 1) := by decide +kernel
theorem dX7_knows_32 : decode cX7_knows 32 = .ok (.ireturn, 1) := by decide +kernel
theorem dX7_seen_0 : decode cX7_seen 0 = .ok (.aload_n 0, 1) := by decide +kernel
theorem dX7_seen_1 : decode cX7_seen 1 = .ok (.iconst 0, 1) := by decide +kernel
theorem dX7_seen_2 : decode cX7_seen 2 = .ok (.putfield 51, 3) := by decide +kernel
theorem dX7_seen_5 : decode cX7_seen 5 = .ok (.aload_n 0, 1) := by decide +kernel
theorem dX7_seen_6 : decode cX7_seen 6 = .ok (.iload_n 1, 1) := by decide +kernel
theorem dX7_seen_7 : decode cX7_seen 7 = .ok (.iload_n 2, 1) := by decide +kernel
theorem dX7_seen_8 : decode cX7_seen 8 = .ok (.invokevirtual 150, 3) := by decide +kernel
theorem dX7_seen_11 : decode cX7_seen 11 = .ok (.ifCond .eq 29, 3) := by decide +kernel
theorem dX7_seen_14 : decode cX7_seen 14 = .ok (.aload_n 0, 1) := by decide +kernel
theorem dX7_seen_15 : decode cX7_seen 15 = .ok (.iload_n 1, 1) := by decide +kernel
theorem dX7_seen_16 : decode cX7_seen 16 = .ok (.iload_n 2, 1) := by decide +kernel
theorem dX7_seen_17 : decode cX7_seen 17 = .ok (.invokevirtual 154, 3) := by decide +kernel
theorem dX7_seen_20 : decode cX7_seen 20 = .ok (.ifCond .eq 20, 3) := by decide +kernel
theorem dX7_seen_23 : decode cX7_seen 23 = .ok (.aload_n 0, 1) := by decide +kernel
theorem dX7_seen_24 : decode cX7_seen 24 = .ok (.getfield 19, 3) := by decide +kernel
theorem dX7_seen_27 : decode cX7_seen 27 = .ok (.bipush 8, 2) := by decide +kernel
theorem dX7_seen_29 : decode cX7_seen 29 = .ok (.bipush 8, 2) := by decide +kernel
theorem dX7_seen_31 : decode cX7_seen 31 = .ok (.iload_n 1, 1) := by decide +kernel
theorem dX7_seen_32 : decode cX7_seen 32 = .ok (.imul, 1) := by decide +kernel
theorem dX7_seen_33 : decode cX7_seen 33 = .ok (.iadd, 1) := by decide +kernel
theorem dX7_seen_34 : decode cX7_seen 34 = .ok (.iload_n 2, 1) := by decide +kernel
theorem dX7_seen_35 : decode cX7_seen 35 = .ok (.iadd, 1) := by decide +kernel
theorem dX7_seen_36 : decode cX7_seen 36 = .ok (.iaload, 1) := by decide +kernel
theorem dX7_seen_37 : decode cX7_seen 37 = .ok (.goto 5, 3) := by decide +kernel
theorem dX7_seen_40 : decode cX7_seen 40 = .ok (.ldc 157, 2) := by decide +kernel
theorem dX7_seen_42 : decode cX7_seen 42 = .ok (.ireturn, 1) := by decide +kernel
theorem dX7_countOf_0 : decode cX7_countOf 0 = .ok (.iconst 0, 1) := by decide +kernel
theorem dX7_countOf_1 : decode cX7_countOf 1 = .ok (.istore_n 2, 1) := by decide +kernel
theorem dX7_countOf_2 : decode cX7_countOf 2 = .ok (.iconst 0, 1) := by decide +kernel
theorem dX7_countOf_3 : decode cX7_countOf 3 = .ok (.istore_n 3, 1) := by decide +kernel
theorem dX7_countOf_4 : decode cX7_countOf 4 = .ok (.iload_n 3, 1) := by decide +kernel
theorem dX7_countOf_5 : decode cX7_countOf 5 = .ok (.aload_n 0, 1) := by decide +kernel
theorem dX7_countOf_6 : decode cX7_countOf 6 = .ok (.getfield 137, 3) := by decide +kernel
theorem dX7_countOf_9 : decode cX7_countOf 9 = .ok (.if_icmp .ge 22, 3) := by decide +kernel
theorem dX7_countOf_12 : decode cX7_countOf 12 = .ok (.iload_n 2, 1) := by decide +kernel
theorem dX7_countOf_13 : decode cX7_countOf 13 = .ok (.aload_n 0, 1) := by decide +kernel
theorem dX7_countOf_14 : decode cX7_countOf 14 = .ok (.getfield 19, 3) := by decide +kernel
theorem dX7_countOf_17 : decode cX7_countOf 17 = .ok (.iload_n 3, 1) := by decide +kernel
theorem dX7_countOf_18 : decode cX7_countOf 18 = .ok (.iaload, 1) := by decide +kernel
theorem dX7_countOf_19 : decode cX7_countOf 19 = .ok (.iload_n 1, 1) := by decide +kernel
theorem dX7_countOf_20 : decode cX7_countOf 20 = .ok (.ishr, 1) := by decide +kernel
theorem dX7_countOf_21 : decode cX7_countOf 21 = .ok (.iconst 1, 1) := by decide +kernel
theorem dX7_countOf_22 : decode cX7_countOf 22 = .ok (.iand, 1) := by decide +kernel
theorem dX7_countOf_23 : decode cX7_countOf 23 = .ok (.iadd, 1) := by decide +kernel
theorem dX7_countOf_24 : decode cX7_countOf 24 = .ok (.istore_n 2, 1) := by decide +kernel
theorem dX7_countOf_25 : decode cX7_countOf 25 = .ok (.iinc 3 1, 3) := by decide +kernel
theorem dX7_countOf_28 : decode cX7_countOf 28 = .ok (.goto (-24), 3) := by decide +kernel
theorem dX7_countOf_31 : decode cX7_countOf 31 = .ok (.iload_n 2, 1) := by decide +kernel
theorem dX7_countOf_32 : decode cX7_countOf 32 = .ok (.ireturn, 1) := by decide +kernel
theorem dX7_ones_0 : decode cX7_ones 0 = .ok (.iconst 0, 1) := by decide +kernel
theorem dX7_ones_1 : decode cX7_ones 1 = .ok (.istore_n 1, 1) := by decide +kernel
theorem dX7_ones_2 : decode cX7_ones 2 = .ok (.iconst 0, 1) := by decide +kernel
theorem dX7_ones_3 : decode cX7_ones 3 = .ok (.istore_n 2, 1) := by decide +kernel
theorem dX7_ones_4 : decode cX7_ones 4 = .ok (.iload_n 2, 1) := by decide +kernel
theorem dX7_ones_5 : decode cX7_ones 5 = .ok (.bipush 8, 2) := by decide +kernel
theorem dX7_ones_7 : decode cX7_ones 7 = .ok (.if_icmp .ge 17, 3) := by decide +kernel
theorem dX7_ones_10 : decode cX7_ones 10 = .ok (.iload_n 1, 1) := by decide +kernel
theorem dX7_ones_11 : decode cX7_ones 11 = .ok (.iload_n 0, 1) := by decide +kernel
theorem dX7_ones_12 : decode cX7_ones 12 = .ok (.iload_n 2, 1) := by decide +kernel
theorem dX7_ones_13 : decode cX7_ones 13 = .ok (.ishr, 1) := by decide +kernel
theorem dX7_ones_14 : decode cX7_ones 14 = .ok (.iconst 1, 1) := by decide +kernel
theorem dX7_ones_15 : decode cX7_ones 15 = .ok (.iand, 1) := by decide +kernel
theorem dX7_ones_16 : decode cX7_ones 16 = .ok (.iadd, 1) := by decide +kernel
theorem dX7_ones_17 : decode cX7_ones 17 = .ok (.istore_n 1, 1) := by decide +kernel
theorem dX7_ones_18 : decode cX7_ones 18 = .ok (.iinc 2 1, 3) := by decide +kernel
theorem dX7_ones_21 : decode cX7_ones 21 = .ok (.goto (-17), 3) := by decide +kernel
theorem dX7_ones_24 : decode cX7_ones 24 = .ok (.iload_n 1, 1) := by decide +kernel
theorem dX7_ones_25 : decode cX7_ones 25 = .ok (.ireturn, 1) := by decide +kernel
theorem dX7_person_0 : decode cX7_person 0 = .ok (.aload_n 0, 1) := by decide +kernel
theorem dX7_person_1 : decode cX7_person 1 = .ok (.iconst 0, 1) := by decide +kernel
theorem dX7_person_2 : decode cX7_person 2 = .ok (.putfield 51, 3) := by decide +kernel
theorem dX7_person_5 : decode cX7_person 5 = .ok (.aload_n 0, 1) := by decide +kernel
theorem dX7_person_6 : decode cX7_person 6 = .ok (.iload_n 1, 1) := by decide +kernel
theorem dX7_person_7 : decode cX7_person 7 = .ok (.invokevirtual 146, 3) := by decide +kernel
theorem dX7_person_10 : decode cX7_person 10 = .ok (.ifCond .eq 12, 3) := by decide +kernel
theorem dX7_person_13 : decode cX7_person 13 = .ok (.iload_n 2, 1) := by decide +kernel
theorem dX7_person_14 : decode cX7_person 14 = .ok (.iconst 0, 1) := by decide +kernel
theorem dX7_person_15 : decode cX7_person 15 = .ok (.iconst 3, 1) := by decide +kernel
theorem dX7_person_16 : decode cX7_person 16 = .ok (.invokestatic 54, 3) := by decide +kernel
theorem dX7_person_19 : decode cX7_person 19 = .ok (.ifCond .ne 5, 3) := by decide +kernel
theorem dX7_person_22 : decode cX7_person 22 = .ok (.iconst (-1), 1) := by decide +kernel
theorem dX7_person_23 : decode cX7_person 23 = .ok (.ireturn, 1) := by decide +kernel
theorem dX7_person_24 : decode cX7_person 24 = .ok (.iload_n 2, 1) := by decide +kernel
theorem dX7_person_25 : decode cX7_person 25 = .ok (.ifCond .ne 11, 3) := by decide +kernel
theorem dX7_person_28 : decode cX7_person 28 = .ok (.aload_n 0, 1) := by decide +kernel
theorem dX7_person_29 : decode cX7_person 29 = .ok (.iload_n 1, 1) := by decide +kernel
theorem dX7_person_30 : decode cX7_person 30 = .ok (.invokevirtual 158, 3) := by decide +kernel
theorem dX7_person_33 : decode cX7_person 33 = .ok (.goto 43, 3) := by decide +kernel
theorem dX7_person_36 : decode cX7_person 36 = .ok (.iload_n 2, 1) := by decide +kernel
theorem dX7_person_37 : decode cX7_person 37 = .ok (.iconst 1, 1) := by decide +kernel
theorem dX7_person_38 : decode cX7_person 38 = .ok (.if_icmp .ne 15, 3) := by decide +kernel
theorem dX7_person_41 : decode cX7_person 41 = .ok (.aload_n 0, 1) := by decide +kernel
theorem dX7_person_42 : decode cX7_person 42 = .ok (.getfield 19, 3) := by decide +kernel
theorem dX7_person_45 : decode cX7_person 45 = .ok (.iload_n 1, 1) := by decide +kernel
theorem dX7_person_46 : decode cX7_person 46 = .ok (.iaload, 1) := by decide +kernel
theorem dX7_person_47 : decode cX7_person 47 = .ok (.invokestatic 161, 3) := by decide +kernel
theorem dX7_person_50 : decode cX7_person 50 = .ok (.goto 26, 3) := by decide +kernel
theorem dX7_person_53 : decode cX7_person 53 = .ok (.iload_n 2, 1) := by decide +kernel
theorem dX7_person_54 : decode cX7_person 54 = .ok (.iconst 2, 1) := by decide +kernel
theorem dX7_person_55 : decode cX7_person 55 = .ok (.if_icmp .ne 12, 3) := by decide +kernel
theorem dX7_person_58 : decode cX7_person 58 = .ok (.aload_n 0, 1) := by decide +kernel
theorem dX7_person_59 : decode cX7_person 59 = .ok (.getfield 16, 3) := by decide +kernel
theorem dX7_person_62 : decode cX7_person 62 = .ok (.iload_n 1, 1) := by decide +kernel
theorem dX7_person_63 : decode cX7_person 63 = .ok (.iaload, 1) := by decide +kernel
theorem dX7_person_64 : decode cX7_person 64 = .ok (.goto 12, 3) := by decide +kernel
theorem dX7_person_67 : decode cX7_person 67 = .ok (.aload_n 0, 1) := by decide +kernel
theorem dX7_person_68 : decode cX7_person 68 = .ok (.getfield 19, 3) := by decide +kernel
theorem dX7_person_71 : decode cX7_person 71 = .ok (.bipush 73, 2) := by decide +kernel
theorem dX7_person_73 : decode cX7_person 73 = .ok (.iload_n 1, 1) := by decide +kernel
theorem dX7_person_74 : decode cX7_person 74 = .ok (.iadd, 1) := by decide +kernel
theorem dX7_person_75 : decode cX7_person 75 = .ok (.iaload, 1) := by decide +kernel
theorem dX7_person_76 : decode cX7_person 76 = .ok (.ireturn, 1) := by decide +kernel
theorem dX7_law_0 : decode cX7_law 0 = .ok (.aload_n 0, 1) := by decide +kernel
theorem dX7_law_1 : decode cX7_law 1 = .ok (.iconst 0, 1) := by decide +kernel
theorem dX7_law_2 : decode cX7_law 2 = .ok (.putfield 51, 3) := by decide +kernel
theorem dX7_law_5 : decode cX7_law 5 = .ok (.iload_n 1, 1) := by decide +kernel
theorem dX7_law_6 : decode cX7_law 6 = .ok (.ifCond .ne 10, 3) := by decide +kernel
theorem dX7_law_9 : decode cX7_law 9 = .ok (.aload_n 0, 1) := by decide +kernel
theorem dX7_law_10 : decode cX7_law 10 = .ok (.getfield 143, 3) := by decide +kernel
theorem dX7_law_13 : decode cX7_law 13 = .ok (.goto 28, 3) := by decide +kernel
theorem dX7_law_16 : decode cX7_law 16 = .ok (.iload_n 1, 1) := by decide +kernel
theorem dX7_law_17 : decode cX7_law 17 = .ok (.iconst 1, 1) := by decide +kernel
theorem dX7_law_18 : decode cX7_law 18 = .ok (.if_icmp .ne 10, 3) := by decide +kernel
theorem dX7_law_21 : decode cX7_law 21 = .ok (.aload_n 0, 1) := by decide +kernel
theorem dX7_law_22 : decode cX7_law 22 = .ok (.getfield 44, 3) := by decide +kernel
theorem dX7_law_25 : decode cX7_law 25 = .ok (.goto 16, 3) := by decide +kernel
theorem dX7_law_28 : decode cX7_law 28 = .ok (.iload_n 1, 1) := by decide +kernel
theorem dX7_law_29 : decode cX7_law 29 = .ok (.iconst 2, 1) := by decide +kernel
theorem dX7_law_30 : decode cX7_law 30 = .ok (.if_icmp .ne 10, 3) := by decide +kernel
theorem dX7_law_33 : decode cX7_law 33 = .ok (.aload_n 0, 1) := by decide +kernel
theorem dX7_law_34 : decode cX7_law 34 = .ok (.getfield 140, 3) := by decide +kernel
theorem dX7_law_37 : decode cX7_law 37 = .ok (.goto 4, 3) := by decide +kernel
theorem dX7_law_40 : decode cX7_law 40 = .ok (.iconst (-1), 1) := by decide +kernel
theorem dX7_law_41 : decode cX7_law 41 = .ok (.ireturn, 1) := by decide +kernel
theorem dX7_rules_0 : decode cX7_rules 0 = .ok (.aload_n 0, 1) := by decide +kernel
theorem dX7_rules_1 : decode cX7_rules 1 = .ok (.iconst 0, 1) := by decide +kernel
theorem dX7_rules_2 : decode cX7_rules 2 = .ok (.putfield 51, 3) := by decide +kernel
theorem dX7_rules_5 : decode cX7_rules 5 = .ok (.iload_n 1, 1) := by decide +kernel
theorem dX7_rules_6 : decode cX7_rules 6 = .ok (.iconst 0, 1) := by decide +kernel
theorem dX7_rules_7 : decode cX7_rules 7 = .ok (.iconst 3, 1) := by decide +kernel
theorem dX7_rules_8 : decode cX7_rules 8 = .ok (.invokestatic 54, 3) := by decide +kernel
theorem dX7_rules_11 : decode cX7_rules 11 = .ok (.ifCond .eq 22, 3) := by decide +kernel
theorem dX7_rules_14 : decode cX7_rules 14 = .ok (.iload_n 2, 1) := by decide +kernel
theorem dX7_rules_15 : decode cX7_rules 15 = .ok (.iconst 0, 1) := by decide +kernel
theorem dX7_rules_16 : decode cX7_rules 16 = .ok (.iload_n 1, 1) := by decide +kernel
theorem dX7_rules_17 : decode cX7_rules 17 = .ok (.iconst 2, 1) := by decide +kernel
theorem dX7_rules_18 : decode cX7_rules 18 = .ok (.if_icmp .ne 8, 3) := by decide +kernel
theorem dX7_rules_21 : decode cX7_rules 21 = .ok (.bipush 7, 2) := by decide +kernel
theorem dX7_rules_23 : decode cX7_rules 23 = .ok (.goto 4, 3) := by decide +kernel
theorem dX7_rules_26 : decode cX7_rules 26 = .ok (.iconst 0, 1) := by decide +kernel
theorem dX7_rules_27 : decode cX7_rules 27 = .ok (.invokestatic 54, 3) := by decide +kernel
theorem dX7_rules_30 : decode cX7_rules 30 = .ok (.ifCond .ne 5, 3) := by decide +kernel
theorem dX7_rules_33 : decode cX7_rules 33 = .ok (.iconst (-1), 1) := by decide +kernel
theorem dX7_rules_34 : decode cX7_rules 34 = .ok (.ireturn, 1) := by decide +kernel
theorem dX7_rules_35 : decode cX7_rules 35 = .ok (.aload_n 0, 1) := by decide +kernel
theorem dX7_rules_36 : decode cX7_rules 36 = .ok (.getfield 143, 3) := by decide +kernel
theorem dX7_rules_39 : decode cX7_rules 39 = .ok (.istore_n 3, 1) := by decide +kernel
theorem dX7_rules_40 : decode cX7_rules 40 = .ok (.aload_n 0, 1) := by decide +kernel
theorem dX7_rules_41 : decode cX7_rules 41 = .ok (.iload_n 1, 1) := by decide +kernel
theorem dX7_rules_42 : decode cX7_rules 42 = .ok (.putfield 143, 3) := by decide +kernel
theorem dX7_rules_45 : decode cX7_rules 45 = .ok (.aload_n 0, 1) := by decide +kernel
theorem dX7_rules_46 : decode cX7_rules 46 = .ok (.iload_n 1, 1) := by decide +kernel
theorem dX7_rules_47 : decode cX7_rules 47 = .ok (.iconst 2, 1) := by decide +kernel
theorem dX7_rules_48 : decode cX7_rules 48 = .ok (.if_icmp .ne 7, 3) := by decide +kernel
theorem dX7_rules_51 : decode cX7_rules 51 = .ok (.iload_n 2, 1) := by decide +kernel
theorem dX7_rules_52 : decode cX7_rules 52 = .ok (.goto 7, 3) := by decide +kernel
theorem dX7_rules_55 : decode cX7_rules 55 = .ok (.aload_n 0, 1) := by decide +kernel
theorem dX7_rules_56 : decode cX7_rules 56 = .ok (.getfield 44, 3) := by decide +kernel
theorem dX7_rules_59 : decode cX7_rules 59 = .ok (.putfield 44, 3) := by decide +kernel
theorem dX7_rules_62 : decode cX7_rules 62 = .ok (.iload_n 3, 1) := by decide +kernel
theorem dX7_rules_63 : decode cX7_rules 63 = .ok (.ireturn, 1) := by decide +kernel
theorem dX7_leastOf_0 : decode cX7_leastOf 0 = .ok (.bipush (-9), 2) := by decide +kernel
theorem dX7_leastOf_2 : decode cX7_leastOf 2 = .ok (.istore_n 2, 1) := by decide +kernel
theorem dX7_leastOf_3 : decode cX7_leastOf 3 = .ok (.iconst 0, 1) := by decide +kernel
theorem dX7_leastOf_4 : decode cX7_leastOf 4 = .ok (.istore_n 3, 1) := by decide +kernel
theorem dX7_leastOf_5 : decode cX7_leastOf 5 = .ok (.iload_n 3, 1) := by decide +kernel
theorem dX7_leastOf_6 : decode cX7_leastOf 6 = .ok (.aload_n 0, 1) := by decide +kernel
theorem dX7_leastOf_7 : decode cX7_leastOf 7 = .ok (.getfield 137, 3) := by decide +kernel
theorem dX7_leastOf_10 : decode cX7_leastOf 10 = .ok (.if_icmp .ge 55, 3) := by decide +kernel
theorem dX7_leastOf_13 : decode cX7_leastOf 13 = .ok (.iload_n 1, 1) := by decide +kernel
theorem dX7_leastOf_14 : decode cX7_leastOf 14 = .ok (.iload_n 3, 1) := by decide +kernel
theorem dX7_leastOf_15 : decode cX7_leastOf 15 = .ok (.ishr, 1) := by decide +kernel
theorem dX7_leastOf_16 : decode cX7_leastOf 16 = .ok (.iconst 1, 1) := by decide +kernel
theorem dX7_leastOf_17 : decode cX7_leastOf 17 = .ok (.iand, 1) := by decide +kernel
theorem dX7_leastOf_18 : decode cX7_leastOf 18 = .ok (.iconst 1, 1) := by decide +kernel
theorem dX7_leastOf_19 : decode cX7_leastOf 19 = .ok (.if_icmp .ne 7, 3) := by decide +kernel
theorem dX7_leastOf_22 : decode cX7_leastOf 22 = .ok (.iconst 1, 1) := by decide +kernel
theorem dX7_leastOf_23 : decode cX7_leastOf 23 = .ok (.goto 4, 3) := by decide +kernel
theorem dX7_leastOf_26 : decode cX7_leastOf 26 = .ok (.iconst 0, 1) := by decide +kernel
theorem dX7_leastOf_27 : decode cX7_leastOf 27 = .ok (.istore 4, 2) := by decide +kernel
theorem dX7_leastOf_29 : decode cX7_leastOf 29 = .ok (.iload 4, 2) := by decide +kernel
theorem dX7_leastOf_31 : decode cX7_leastOf 31 = .ok (.ifCond .eq 26, 3) := by decide +kernel
theorem dX7_leastOf_34 : decode cX7_leastOf 34 = .ok (.iload_n 2, 1) := by decide +kernel
theorem dX7_leastOf_35 : decode cX7_leastOf 35 = .ok (.bipush (-9), 2) := by decide +kernel
theorem dX7_leastOf_37 : decode cX7_leastOf 37 = .ok (.if_icmp .eq 16, 3) := by decide +kernel
theorem dX7_leastOf_40 : decode cX7_leastOf 40 = .ok (.aload_n 0, 1) := by decide +kernel
theorem dX7_leastOf_41 : decode cX7_leastOf 41 = .ok (.iload_n 3, 1) := by decide +kernel
theorem dX7_leastOf_42 : decode cX7_leastOf 42 = .ok (.invokevirtual 158, 3) := by decide +kernel
theorem dX7_leastOf_45 : decode cX7_leastOf 45 = .ok (.aload_n 0, 1) := by decide +kernel
theorem dX7_leastOf_46 : decode cX7_leastOf 46 = .ok (.iload_n 2, 1) := by decide +kernel
theorem dX7_leastOf_47 : decode cX7_leastOf 47 = .ok (.invokevirtual 158, 3) := by decide +kernel
theorem dX7_leastOf_50 : decode cX7_leastOf 50 = .ok (.if_icmp .ge 7, 3) := by decide +kernel
theorem dX7_leastOf_53 : decode cX7_leastOf 53 = .ok (.iload_n 3, 1) := by decide +kernel
theorem dX7_leastOf_54 : decode cX7_leastOf 54 = .ok (.goto 4, 3) := by decide +kernel
theorem dX7_leastOf_57 : decode cX7_leastOf 57 = .ok (.iload_n 2, 1) := by decide +kernel
theorem dX7_leastOf_58 : decode cX7_leastOf 58 = .ok (.istore_n 2, 1) := by decide +kernel
theorem dX7_leastOf_59 : decode cX7_leastOf 59 = .ok (.iinc 3 1, 3) := by decide +kernel
theorem dX7_leastOf_62 : decode cX7_leastOf 62 = .ok (.goto (-57), 3) := by decide +kernel
theorem dX7_leastOf_65 : decode cX7_leastOf 65 = .ok (.iload_n 2, 1) := by decide +kernel
theorem dX7_leastOf_66 : decode cX7_leastOf 66 = .ok (.ireturn, 1) := by decide +kernel
theorem dX7_chosenNow_0 : decode cX7_chosenNow 0 = .ok (.iconst 1, 1) := by decide +kernel
theorem dX7_chosenNow_1 : decode cX7_chosenNow 1 = .ok (.aload_n 0, 1) := by decide +kernel
theorem dX7_chosenNow_2 : decode cX7_chosenNow 2 = .ok (.getfield 137, 3) := by decide +kernel
theorem dX7_chosenNow_5 : decode cX7_chosenNow 5 = .ok (.ishl, 1) := by decide +kernel
theorem dX7_chosenNow_6 : decode cX7_chosenNow 6 = .ok (.iconst 1, 1) := by decide +kernel
theorem dX7_chosenNow_7 : decode cX7_chosenNow 7 = .ok (.isub, 1) := by decide +kernel
theorem dX7_chosenNow_8 : decode cX7_chosenNow 8 = .ok (.istore_n 1, 1) := by decide +kernel
theorem dX7_chosenNow_9 : decode cX7_chosenNow 9 = .ok (.aload_n 0, 1) := by decide +kernel
theorem dX7_chosenNow_10 : decode cX7_chosenNow 10 = .ok (.iload_n 1, 1) := by decide +kernel
theorem dX7_chosenNow_11 : decode cX7_chosenNow 11 = .ok (.invokevirtual 164, 3) := by decide +kernel
theorem dX7_chosenNow_14 : decode cX7_chosenNow 14 = .ok (.istore_n 2, 1) := by decide +kernel
theorem dX7_chosenNow_15 : decode cX7_chosenNow 15 = .ok (.aload_n 0, 1) := by decide +kernel
theorem dX7_chosenNow_16 : decode cX7_chosenNow 16 = .ok (.getfield 143, 3) := by decide +kernel
theorem dX7_chosenNow_19 : decode cX7_chosenNow 19 = .ok (.iconst 1, 1) := by decide +kernel
theorem dX7_chosenNow_20 : decode cX7_chosenNow 20 = .ok (.if_icmp .ne 27, 3) := by decide +kernel
theorem dX7_chosenNow_23 : decode cX7_chosenNow 23 = .ok (.aload_n 0, 1) := by decide +kernel
theorem dX7_chosenNow_24 : decode cX7_chosenNow 24 = .ok (.getfield 137, 3) := by decide +kernel
theorem dX7_chosenNow_27 : decode cX7_chosenNow 27 = .ok (.iconst 1, 1) := by decide +kernel
theorem dX7_chosenNow_28 : decode cX7_chosenNow 28 = .ok (.if_icmp .ne 7, 3) := by decide +kernel
theorem dX7_chosenNow_31 : decode cX7_chosenNow 31 = .ok (.iload_n 2, 1) := by decide +kernel
theorem dX7_chosenNow_32 : decode cX7_chosenNow 32 = .ok (.goto 14, 3) := by decide +kernel
theorem dX7_chosenNow_35 : decode cX7_chosenNow 35 = .ok (.aload_n 0, 1) := by decide +kernel
theorem dX7_chosenNow_36 : decode cX7_chosenNow 36 = .ok (.iload_n 1, 1) := by decide +kernel
theorem dX7_chosenNow_37 : decode cX7_chosenNow 37 = .ok (.iconst 1, 1) := by decide +kernel
theorem dX7_chosenNow_38 : decode cX7_chosenNow 38 = .ok (.iload_n 2, 1) := by decide +kernel
theorem dX7_chosenNow_39 : decode cX7_chosenNow 39 = .ok (.ishl, 1) := by decide +kernel
theorem dX7_chosenNow_40 : decode cX7_chosenNow 40 = .ok (.iconst (-1), 1) := by decide +kernel
theorem dX7_chosenNow_41 : decode cX7_chosenNow 41 = .ok (.ixor, 1) := by decide +kernel
theorem dX7_chosenNow_42 : decode cX7_chosenNow 42 = .ok (.iand, 1) := by decide +kernel
theorem dX7_chosenNow_43 : decode cX7_chosenNow 43 = .ok (.invokevirtual 164, 3) := by decide +kernel
theorem dX7_chosenNow_46 : decode cX7_chosenNow 46 = .ok (.ireturn, 1) := by decide +kernel
theorem dX7_chosenNow_47 : decode cX7_chosenNow 47 = .ok (.aload_n 0, 1) := by decide +kernel
theorem dX7_chosenNow_48 : decode cX7_chosenNow 48 = .ok (.getfield 143, 3) := by decide +kernel
theorem dX7_chosenNow_51 : decode cX7_chosenNow 51 = .ok (.iconst 2, 1) := by decide +kernel
theorem dX7_chosenNow_52 : decode cX7_chosenNow 52 = .ok (.if_icmp .ne 33, 3) := by decide +kernel
theorem dX7_chosenNow_55 : decode cX7_chosenNow 55 = .ok (.iconst 0, 1) := by decide +kernel
theorem dX7_chosenNow_56 : decode cX7_chosenNow 56 = .ok (.istore_n 3, 1) := by decide +kernel
theorem dX7_chosenNow_57 : decode cX7_chosenNow 57 = .ok (.iload_n 3, 1) := by decide +kernel
theorem dX7_chosenNow_58 : decode cX7_chosenNow 58 = .ok (.aload_n 0, 1) := by decide +kernel
theorem dX7_chosenNow_59 : decode cX7_chosenNow 59 = .ok (.getfield 137, 3) := by decide +kernel
theorem dX7_chosenNow_62 : decode cX7_chosenNow 62 = .ok (.if_icmp .ge 23, 3) := by decide +kernel
theorem dX7_chosenNow_65 : decode cX7_chosenNow 65 = .ok (.aload_n 0, 1) := by decide +kernel
theorem dX7_chosenNow_66 : decode cX7_chosenNow 66 = .ok (.iload_n 3, 1) := by decide +kernel
theorem dX7_chosenNow_67 : decode cX7_chosenNow 67 = .ok (.invokevirtual 158, 3) := by decide +kernel
theorem dX7_chosenNow_70 : decode cX7_chosenNow 70 = .ok (.aload_n 0, 1) := by decide +kernel
theorem dX7_chosenNow_71 : decode cX7_chosenNow 71 = .ok (.getfield 44, 3) := by decide +kernel
theorem dX7_chosenNow_74 : decode cX7_chosenNow 74 = .ok (.if_icmp .ne 5, 3) := by decide +kernel
theorem dX7_chosenNow_77 : decode cX7_chosenNow 77 = .ok (.iload_n 3, 1) := by decide +kernel
theorem dX7_chosenNow_78 : decode cX7_chosenNow 78 = .ok (.ireturn, 1) := by decide +kernel
theorem dX7_chosenNow_79 : decode cX7_chosenNow 79 = .ok (.iinc 3 1, 3) := by decide +kernel
theorem dX7_chosenNow_82 : decode cX7_chosenNow 82 = .ok (.goto (-25), 3) := by decide +kernel
theorem dX7_chosenNow_85 : decode cX7_chosenNow 85 = .ok (.aload_n 0, 1) := by decide +kernel
theorem dX7_chosenNow_86 : decode cX7_chosenNow 86 = .ok (.getfield 143, 3) := by decide +kernel
theorem dX7_chosenNow_89 : decode cX7_chosenNow 89 = .ok (.iconst 3, 1) := by decide +kernel
theorem dX7_chosenNow_90 : decode cX7_chosenNow 90 = .ok (.if_icmp .ne 61, 3) := by decide +kernel
theorem dX7_chosenNow_93 : decode cX7_chosenNow 93 = .ok (.iconst 0, 1) := by decide +kernel
theorem dX7_chosenNow_94 : decode cX7_chosenNow 94 = .ok (.istore_n 3, 1) := by decide +kernel
theorem dX7_chosenNow_95 : decode cX7_chosenNow 95 = .ok (.iconst 0, 1) := by decide +kernel
theorem dX7_chosenNow_96 : decode cX7_chosenNow 96 = .ok (.istore 4, 2) := by decide +kernel
theorem dX7_chosenNow_98 : decode cX7_chosenNow 98 = .ok (.iload 4, 2) := by decide +kernel
theorem dX7_chosenNow_100 : decode cX7_chosenNow 100 = .ok (.aload_n 0, 1) := by decide +kernel
theorem dX7_chosenNow_101 : decode cX7_chosenNow 101 = .ok (.getfield 137, 3) := by decide +kernel
theorem dX7_chosenNow_104 : decode cX7_chosenNow 104 = .ok (.if_icmp .ge 33, 3) := by decide +kernel
theorem dX7_chosenNow_107 : decode cX7_chosenNow 107 = .ok (.iload_n 3, 1) := by decide +kernel
theorem dX7_chosenNow_108 : decode cX7_chosenNow 108 = .ok (.aload_n 0, 1) := by decide +kernel
theorem dX7_chosenNow_109 : decode cX7_chosenNow 109 = .ok (.getfield 19, 3) := by decide +kernel
theorem dX7_chosenNow_112 : decode cX7_chosenNow 112 = .ok (.bipush 73, 2) := by decide +kernel
theorem dX7_chosenNow_114 : decode cX7_chosenNow 114 = .ok (.iload 4, 2) := by decide +kernel
theorem dX7_chosenNow_116 : decode cX7_chosenNow 116 = .ok (.iadd, 1) := by decide +kernel
theorem dX7_chosenNow_117 : decode cX7_chosenNow 117 = .ok (.iaload, 1) := by decide +kernel
theorem dX7_chosenNow_118 : decode cX7_chosenNow 118 = .ok (.ifCond .ne 10, 3) := by decide +kernel
theorem dX7_chosenNow_121 : decode cX7_chosenNow 121 = .ok (.iconst 1, 1) := by decide +kernel
theorem dX7_chosenNow_122 : decode cX7_chosenNow 122 = .ok (.iload 4, 2) := by decide +kernel
theorem dX7_chosenNow_124 : decode cX7_chosenNow 124 = .ok (.ishl, 1) := by decide +kernel
theorem dX7_chosenNow_125 : decode cX7_chosenNow 125 = .ok (.goto 4, 3) := by decide +kernel
theorem dX7_chosenNow_128 : decode cX7_chosenNow 128 = .ok (.iconst 0, 1) := by decide +kernel
theorem dX7_chosenNow_129 : decode cX7_chosenNow 129 = .ok (.ior, 1) := by decide +kernel
theorem dX7_chosenNow_130 : decode cX7_chosenNow 130 = .ok (.istore_n 3, 1) := by decide +kernel
theorem dX7_chosenNow_131 : decode cX7_chosenNow 131 = .ok (.iinc 4 1, 3) := by decide +kernel
theorem dX7_chosenNow_134 : decode cX7_chosenNow 134 = .ok (.goto (-36), 3) := by decide +kernel
theorem dX7_chosenNow_137 : decode cX7_chosenNow 137 = .ok (.iload_n 3, 1) := by decide +kernel
theorem dX7_chosenNow_138 : decode cX7_chosenNow 138 = .ok (.ifCond .ne 7, 3) := by decide +kernel
theorem dX7_chosenNow_141 : decode cX7_chosenNow 141 = .ok (.iload_n 2, 1) := by decide +kernel
theorem dX7_chosenNow_142 : decode cX7_chosenNow 142 = .ok (.goto 8, 3) := by decide +kernel
theorem dX7_chosenNow_145 : decode cX7_chosenNow 145 = .ok (.aload_n 0, 1) := by decide +kernel
theorem dX7_chosenNow_146 : decode cX7_chosenNow 146 = .ok (.iload_n 3, 1) := by decide +kernel
theorem dX7_chosenNow_147 : decode cX7_chosenNow 147 = .ok (.invokevirtual 164, 3) := by decide +kernel
theorem dX7_chosenNow_150 : decode cX7_chosenNow 150 = .ok (.ireturn, 1) := by decide +kernel
theorem dX7_chosenNow_151 : decode cX7_chosenNow 151 = .ok (.iload_n 2, 1) := by decide +kernel
theorem dX7_chosenNow_152 : decode cX7_chosenNow 152 = .ok (.ireturn, 1) := by decide +kernel
theorem dX7_chosen_0 : decode cX7_chosen 0 = .ok (.aload_n 0, 1) := by decide +kernel
theorem dX7_chosen_1 : decode cX7_chosen 1 = .ok (.iconst 0, 1) := by decide +kernel
theorem dX7_chosen_2 : decode cX7_chosen 2 = .ok (.putfield 51, 3) := by decide +kernel
theorem dX7_chosen_5 : decode cX7_chosen 5 = .ok (.aload_n 0, 1) := by decide +kernel
theorem dX7_chosen_6 : decode cX7_chosen 6 = .ok (.getfield 137, 3) := by decide +kernel
theorem dX7_chosen_9 : decode cX7_chosen 9 = .ok (.ifCond .ne 8, 3) := by decide +kernel
theorem dX7_chosen_12 : decode cX7_chosen 12 = .ok (.bipush (-2), 2) := by decide +kernel
theorem dX7_chosen_14 : decode cX7_chosen 14 = .ok (.goto 7, 3) := by decide +kernel
theorem dX7_chosen_17 : decode cX7_chosen 17 = .ok (.aload_n 0, 1) := by decide +kernel
theorem dX7_chosen_18 : decode cX7_chosen 18 = .ok (.invokevirtual 167, 3) := by decide +kernel
theorem dX7_chosen_21 : decode cX7_chosen 21 = .ok (.ireturn, 1) := by decide +kernel
theorem dX7_learns_0 : decode cX7_learns 0 = .ok (.aload_n 0, 1) := by decide +kernel
theorem dX7_learns_1 : decode cX7_learns 1 = .ok (.iload_n 1, 1) := by decide +kernel
theorem dX7_learns_2 : decode cX7_learns 2 = .ok (.iload_n 2, 1) := by decide +kernel
theorem dX7_learns_3 : decode cX7_learns 3 = .ok (.invokevirtual 154, 3) := by decide +kernel
theorem dX7_learns_6 : decode cX7_learns 6 = .ok (.ifCond .eq 7, 3) := by decide +kernel
theorem dX7_learns_9 : decode cX7_learns 9 = .ok (.iconst 0, 1) := by decide +kernel
theorem dX7_learns_10 : decode cX7_learns 10 = .ok (.goto 4, 3) := by decide +kernel
theorem dX7_learns_13 : decode cX7_learns 13 = .ok (.iconst 1, 1) := by decide +kernel
theorem dX7_learns_14 : decode cX7_learns 14 = .ok (.istore_n 3, 1) := by decide +kernel
theorem dX7_learns_15 : decode cX7_learns 15 = .ok (.aload_n 0, 1) := by decide +kernel
theorem dX7_learns_16 : decode cX7_learns 16 = .ok (.getfield 19, 3) := by decide +kernel
theorem dX7_learns_19 : decode cX7_learns 19 = .ok (.iload_n 1, 1) := by decide +kernel
theorem dX7_learns_20 : decode cX7_learns 20 = .ok (.dup2, 1) := by decide +kernel
theorem dX7_learns_21 : decode cX7_learns 21 = .ok (.iaload, 1) := by decide +kernel
theorem dX7_learns_22 : decode cX7_learns 22 = .ok (.iconst 1, 1) := by decide +kernel
theorem dX7_learns_23 : decode cX7_learns 23 = .ok (.iload_n 2, 1) := by decide +kernel
theorem dX7_learns_24 : decode cX7_learns 24 = .ok (.ishl, 1) := by decide +kernel
theorem dX7_learns_25 : decode cX7_learns 25 = .ok (.ior, 1) := by decide +kernel
theorem dX7_learns_26 : decode cX7_learns 26 = .ok (.iastore, 1) := by decide +kernel
theorem dX7_learns_27 : decode cX7_learns 27 = .ok (.aload_n 0, 1) := by decide +kernel
theorem dX7_learns_28 : decode cX7_learns 28 = .ok (.getfield 19, 3) := by decide +kernel
theorem dX7_learns_31 : decode cX7_learns 31 = .ok (.bipush 8, 2) := by decide +kernel
theorem dX7_learns_33 : decode cX7_learns 33 = .ok (.bipush 8, 2) := by decide +kernel
theorem dX7_learns_35 : decode cX7_learns 35 = .ok (.iload_n 1, 1) := by decide +kernel
theorem dX7_learns_36 : decode cX7_learns 36 = .ok (.imul, 1) := by decide +kernel
theorem dX7_learns_37 : decode cX7_learns 37 = .ok (.iadd, 1) := by decide +kernel
theorem dX7_learns_38 : decode cX7_learns 38 = .ok (.iload_n 2, 1) := by decide +kernel
theorem dX7_learns_39 : decode cX7_learns 39 = .ok (.iadd, 1) := by decide +kernel
theorem dX7_learns_40 : decode cX7_learns 40 = .ok (.aload_n 0, 1) := by decide +kernel
theorem dX7_learns_41 : decode cX7_learns 41 = .ok (.getfield 19, 3) := by decide +kernel
theorem dX7_learns_44 : decode cX7_learns 44 = .ok (.bipush 72, 2) := by decide +kernel
theorem dX7_learns_46 : decode cX7_learns 46 = .ok (.iaload, 1) := by decide +kernel
theorem dX7_learns_47 : decode cX7_learns 47 = .ok (.iastore, 1) := by decide +kernel
theorem dX7_learns_48 : decode cX7_learns 48 = .ok (.iload_n 3, 1) := by decide +kernel
theorem dX7_learns_49 : decode cX7_learns 49 = .ok (.ireturn, 1) := by decide +kernel
theorem dX7_meet_0 : decode cX7_meet 0 = .ok (.aload_n 0, 1) := by decide +kernel
theorem dX7_meet_1 : decode cX7_meet 1 = .ok (.iconst 0, 1) := by decide +kernel
theorem dX7_meet_2 : decode cX7_meet 2 = .ok (.putfield 51, 3) := by decide +kernel
theorem dX7_meet_5 : decode cX7_meet 5 = .ok (.aload_n 0, 1) := by decide +kernel
theorem dX7_meet_6 : decode cX7_meet 6 = .ok (.iload_n 1, 1) := by decide +kernel
theorem dX7_meet_7 : decode cX7_meet 7 = .ok (.iload_n 2, 1) := by decide +kernel
theorem dX7_meet_8 : decode cX7_meet 8 = .ok (.invokevirtual 150, 3) := by decide +kernel
theorem dX7_meet_11 : decode cX7_meet 11 = .ok (.ifCond .eq 19, 3) := by decide +kernel
theorem dX7_meet_14 : decode cX7_meet 14 = .ok (.aload_n 0, 1) := by decide +kernel
theorem dX7_meet_15 : decode cX7_meet 15 = .ok (.iload_n 1, 1) := by decide +kernel
theorem dX7_meet_16 : decode cX7_meet 16 = .ok (.iload_n 2, 1) := by decide +kernel
theorem dX7_meet_17 : decode cX7_meet 17 = .ok (.invokevirtual 171, 3) := by decide +kernel
theorem dX7_meet_20 : decode cX7_meet 20 = .ok (.aload_n 0, 1) := by decide +kernel
theorem dX7_meet_21 : decode cX7_meet 21 = .ok (.iload_n 2, 1) := by decide +kernel
theorem dX7_meet_22 : decode cX7_meet 22 = .ok (.iload_n 1, 1) := by decide +kernel
theorem dX7_meet_23 : decode cX7_meet 23 = .ok (.invokevirtual 171, 3) := by decide +kernel
theorem dX7_meet_26 : decode cX7_meet 26 = .ok (.iadd, 1) := by decide +kernel
theorem dX7_meet_27 : decode cX7_meet 27 = .ok (.goto 4, 3) := by decide +kernel
theorem dX7_meet_30 : decode cX7_meet 30 = .ok (.iconst (-1), 1) := by decide +kernel
theorem dX7_meet_31 : decode cX7_meet 31 = .ok (.ireturn, 1) := by decide +kernel
theorem dX7_introduce_0 : decode cX7_introduce 0 = .ok (.aload_n 0, 1) := by decide +kernel
theorem dX7_introduce_1 : decode cX7_introduce 1 = .ok (.iconst 0, 1) := by decide +kernel
theorem dX7_introduce_2 : decode cX7_introduce 2 = .ok (.putfield 51, 3) := by decide +kernel
theorem dX7_introduce_5 : decode cX7_introduce 5 = .ok (.aload_n 0, 1) := by decide +kernel
theorem dX7_introduce_6 : decode cX7_introduce 6 = .ok (.iload_n 1, 1) := by decide +kernel
theorem dX7_introduce_7 : decode cX7_introduce 7 = .ok (.iload_n 2, 1) := by decide +kernel
theorem dX7_introduce_8 : decode cX7_introduce 8 = .ok (.invokevirtual 150, 3) := by decide +kernel
theorem dX7_introduce_11 : decode cX7_introduce 11 = .ok (.ifCond .eq 21, 3) := by decide +kernel
theorem dX7_introduce_14 : decode cX7_introduce 14 = .ok (.aload_n 0, 1) := by decide +kernel
theorem dX7_introduce_15 : decode cX7_introduce 15 = .ok (.iload_n 1, 1) := by decide +kernel
theorem dX7_introduce_16 : decode cX7_introduce 16 = .ok (.iload_n 3, 1) := by decide +kernel
theorem dX7_introduce_17 : decode cX7_introduce 17 = .ok (.invokevirtual 150, 3) := by decide +kernel
theorem dX7_introduce_20 : decode cX7_introduce 20 = .ok (.ifCond .eq 12, 3) := by decide +kernel
theorem dX7_introduce_23 : decode cX7_introduce 23 = .ok (.aload_n 0, 1) := by decide +kernel
theorem dX7_introduce_24 : decode cX7_introduce 24 = .ok (.iload_n 2, 1) := by decide +kernel
theorem dX7_introduce_25 : decode cX7_introduce 25 = .ok (.iload_n 3, 1) := by decide +kernel
theorem dX7_introduce_26 : decode cX7_introduce 26 = .ok (.invokevirtual 150, 3) := by decide +kernel
theorem dX7_introduce_29 : decode cX7_introduce 29 = .ok (.ifCond .ne 5, 3) := by decide +kernel
theorem dX7_introduce_32 : decode cX7_introduce 32 = .ok (.iconst (-1), 1) := by decide +kernel
theorem dX7_introduce_33 : decode cX7_introduce 33 = .ok (.ireturn, 1) := by decide +kernel
theorem dX7_introduce_34 : decode cX7_introduce 34 = .ok (.aload_n 0, 1) := by decide +kernel
theorem dX7_introduce_35 : decode cX7_introduce 35 = .ok (.iload_n 1, 1) := by decide +kernel
theorem dX7_introduce_36 : decode cX7_introduce 36 = .ok (.iload_n 3, 1) := by decide +kernel
theorem dX7_introduce_37 : decode cX7_introduce 37 = .ok (.invokevirtual 154, 3) := by decide +kernel
theorem dX7_introduce_40 : decode cX7_introduce 40 = .ok (.ifCond .ne 6, 3) := by decide +kernel
theorem dX7_introduce_43 : decode cX7_introduce 43 = .ok (.bipush (-2), 2) := by decide +kernel
theorem dX7_introduce_45 : decode cX7_introduce 45 = .ok (.ireturn, 1) := by decide +kernel
theorem dX7_introduce_46 : decode cX7_introduce 46 = .ok (.aload_n 0, 1) := by decide +kernel
theorem dX7_introduce_47 : decode cX7_introduce 47 = .ok (.iload_n 2, 1) := by decide +kernel
theorem dX7_introduce_48 : decode cX7_introduce 48 = .ok (.iload_n 3, 1) := by decide +kernel
theorem dX7_introduce_49 : decode cX7_introduce 49 = .ok (.invokevirtual 171, 3) := by decide +kernel
theorem dX7_introduce_52 : decode cX7_introduce 52 = .ok (.ireturn, 1) := by decide +kernel
theorem dX7_moves_0 : decode cX7_moves 0 = .ok (.aload_n 0, 1) := by decide +kernel
theorem dX7_moves_1 : decode cX7_moves 1 = .ok (.iconst 0, 1) := by decide +kernel
theorem dX7_moves_2 : decode cX7_moves 2 = .ok (.putfield 51, 3) := by decide +kernel
theorem dX7_moves_5 : decode cX7_moves 5 = .ok (.aload_n 0, 1) := by decide +kernel
theorem dX7_moves_6 : decode cX7_moves 6 = .ok (.iload_n 1, 1) := by decide +kernel
theorem dX7_moves_7 : decode cX7_moves 7 = .ok (.invokevirtual 146, 3) := by decide +kernel
theorem dX7_moves_10 : decode cX7_moves 10 = .ok (.ifCond .ne 5, 3) := by decide +kernel
theorem dX7_moves_13 : decode cX7_moves 13 = .ok (.iconst (-1), 1) := by decide +kernel
theorem dX7_moves_14 : decode cX7_moves 14 = .ok (.ireturn, 1) := by decide +kernel
theorem dX7_moves_15 : decode cX7_moves 15 = .ok (.aload_n 0, 1) := by decide +kernel
theorem dX7_moves_16 : decode cX7_moves 16 = .ok (.iload_n 1, 1) := by decide +kernel
theorem dX7_moves_17 : decode cX7_moves 17 = .ok (.invokevirtual 158, 3) := by decide +kernel
theorem dX7_moves_20 : decode cX7_moves 20 = .ok (.istore_n 2, 1) := by decide +kernel
theorem dX7_moves_21 : decode cX7_moves 21 = .ok (.iconst 0, 1) := by decide +kernel
theorem dX7_moves_22 : decode cX7_moves 22 = .ok (.istore_n 3, 1) := by decide +kernel
theorem dX7_moves_23 : decode cX7_moves 23 = .ok (.iload_n 3, 1) := by decide +kernel
theorem dX7_moves_24 : decode cX7_moves 24 = .ok (.aload_n 0, 1) := by decide +kernel
theorem dX7_moves_25 : decode cX7_moves 25 = .ok (.getfield 137, 3) := by decide +kernel
theorem dX7_moves_28 : decode cX7_moves 28 = .ok (.if_icmp .ge 23, 3) := by decide +kernel
theorem dX7_moves_31 : decode cX7_moves 31 = .ok (.aload_n 0, 1) := by decide +kernel
theorem dX7_moves_32 : decode cX7_moves 32 = .ok (.getfield 19, 3) := by decide +kernel
theorem dX7_moves_35 : decode cX7_moves 35 = .ok (.iload_n 3, 1) := by decide +kernel
theorem dX7_moves_36 : decode cX7_moves 36 = .ok (.dup2, 1) := by decide +kernel
theorem dX7_moves_37 : decode cX7_moves 37 = .ok (.iaload, 1) := by decide +kernel
theorem dX7_moves_38 : decode cX7_moves 38 = .ok (.iconst 1, 1) := by decide +kernel
theorem dX7_moves_39 : decode cX7_moves 39 = .ok (.iload_n 1, 1) := by decide +kernel
theorem dX7_moves_40 : decode cX7_moves 40 = .ok (.ishl, 1) := by decide +kernel
theorem dX7_moves_41 : decode cX7_moves 41 = .ok (.iconst (-1), 1) := by decide +kernel
theorem dX7_moves_42 : decode cX7_moves 42 = .ok (.ixor, 1) := by decide +kernel
theorem dX7_moves_43 : decode cX7_moves 43 = .ok (.iand, 1) := by decide +kernel
theorem dX7_moves_44 : decode cX7_moves 44 = .ok (.iastore, 1) := by decide +kernel
theorem dX7_moves_45 : decode cX7_moves 45 = .ok (.iinc 3 1, 3) := by decide +kernel
theorem dX7_moves_48 : decode cX7_moves 48 = .ok (.goto (-25), 3) := by decide +kernel
theorem dX7_moves_51 : decode cX7_moves 51 = .ok (.iload_n 2, 1) := by decide +kernel
theorem dX7_moves_52 : decode cX7_moves 52 = .ok (.ireturn, 1) := by decide +kernel
theorem dX7_springs_0 : decode cX7_springs 0 = .ok (.iconst 0, 1) := by decide +kernel
theorem dX7_springs_1 : decode cX7_springs 1 = .ok (.istore_n 1, 1) := by decide +kernel
theorem dX7_springs_2 : decode cX7_springs 2 = .ok (.iload_n 1, 1) := by decide +kernel
theorem dX7_springs_3 : decode cX7_springs 3 = .ok (.aload_n 0, 1) := by decide +kernel
theorem dX7_springs_4 : decode cX7_springs 4 = .ok (.getfield 137, 3) := by decide +kernel
theorem dX7_springs_7 : decode cX7_springs 7 = .ok (.if_icmp .ge 44, 3) := by decide +kernel
theorem dX7_springs_10 : decode cX7_springs 10 = .ok (.aload_n 0, 1) := by decide +kernel
theorem dX7_springs_11 : decode cX7_springs 11 = .ok (.getfield 16, 3) := by decide +kernel
theorem dX7_springs_14 : decode cX7_springs 14 = .ok (.iload_n 1, 1) := by decide +kernel
theorem dX7_springs_15 : decode cX7_springs 15 = .ok (.iaload, 1) := by decide +kernel
theorem dX7_springs_16 : decode cX7_springs 16 = .ok (.bipush (-9), 2) := by decide +kernel
theorem dX7_springs_18 : decode cX7_springs 18 = .ok (.if_icmp .eq 27, 3) := by decide +kernel
theorem dX7_springs_21 : decode cX7_springs 21 = .ok (.aload_n 0, 1) := by decide +kernel
theorem dX7_springs_22 : decode cX7_springs 22 = .ok (.iload_n 1, 1) := by decide +kernel
theorem dX7_springs_23 : decode cX7_springs 23 = .ok (.aload_n 0, 1) := by decide +kernel
theorem dX7_springs_24 : decode cX7_springs 24 = .ok (.getfield 16, 3) := by decide +kernel
theorem dX7_springs_27 : decode cX7_springs 27 = .ok (.iload_n 1, 1) := by decide +kernel
theorem dX7_springs_28 : decode cX7_springs 28 = .ok (.iaload, 1) := by decide +kernel
theorem dX7_springs_29 : decode cX7_springs 29 = .ok (.invokevirtual 171, 3) := by decide +kernel
theorem dX7_springs_32 : decode cX7_springs 32 = .ok (.pop, 1) := by decide +kernel
theorem dX7_springs_33 : decode cX7_springs 33 = .ok (.aload_n 0, 1) := by decide +kernel
theorem dX7_springs_34 : decode cX7_springs 34 = .ok (.aload_n 0, 1) := by decide +kernel
theorem dX7_springs_35 : decode cX7_springs 35 = .ok (.getfield 16, 3) := by decide +kernel
theorem dX7_springs_38 : decode cX7_springs 38 = .ok (.iload_n 1, 1) := by decide +kernel
theorem dX7_springs_39 : decode cX7_springs 39 = .ok (.iaload, 1) := by decide +kernel
theorem dX7_springs_40 : decode cX7_springs 40 = .ok (.iload_n 1, 1) := by decide +kernel
theorem dX7_springs_41 : decode cX7_springs 41 = .ok (.invokevirtual 171, 3) := by decide +kernel
theorem dX7_springs_44 : decode cX7_springs 44 = .ok (.pop, 1) := by decide +kernel
theorem dX7_springs_45 : decode cX7_springs 45 = .ok (.iinc 1 1, 3) := by decide +kernel
theorem dX7_springs_48 : decode cX7_springs 48 = .ok (.goto (-46), 3) := by decide +kernel
theorem dX7_springs_51 : decode cX7_springs 51 = .ok (.aload_n 0, 1) := by decide +kernel
theorem dX7_springs_52 : decode cX7_springs 52 = .ok (.invokevirtual 167, 3) := by decide +kernel
theorem dX7_springs_55 : decode cX7_springs 55 = .ok (.istore_n 1, 1) := by decide +kernel
theorem dX7_springs_56 : decode cX7_springs 56 = .ok (.iconst 0, 1) := by decide +kernel
theorem dX7_springs_57 : decode cX7_springs 57 = .ok (.istore_n 2, 1) := by decide +kernel
theorem dX7_springs_58 : decode cX7_springs 58 = .ok (.iload_n 2, 1) := by decide +kernel
theorem dX7_springs_59 : decode cX7_springs 59 = .ok (.aload_n 0, 1) := by decide +kernel
theorem dX7_springs_60 : decode cX7_springs 60 = .ok (.getfield 137, 3) := by decide +kernel
theorem dX7_springs_63 : decode cX7_springs 63 = .ok (.if_icmp .ge 21, 3) := by decide +kernel
theorem dX7_springs_66 : decode cX7_springs 66 = .ok (.iload_n 2, 1) := by decide +kernel
theorem dX7_springs_67 : decode cX7_springs 67 = .ok (.iload_n 1, 1) := by decide +kernel
theorem dX7_springs_68 : decode cX7_springs 68 = .ok (.if_icmp .eq 10, 3) := by decide +kernel
theorem dX7_springs_71 : decode cX7_springs 71 = .ok (.aload_n 0, 1) := by decide +kernel
theorem dX7_springs_72 : decode cX7_springs 72 = .ok (.iload_n 2, 1) := by decide +kernel
theorem dX7_springs_73 : decode cX7_springs 73 = .ok (.iload_n 1, 1) := by decide +kernel
theorem dX7_springs_74 : decode cX7_springs 74 = .ok (.invokevirtual 171, 3) := by decide +kernel
theorem dX7_springs_77 : decode cX7_springs 77 = .ok (.pop, 1) := by decide +kernel
theorem dX7_springs_78 : decode cX7_springs 78 = .ok (.iinc 2 1, 3) := by decide +kernel
theorem dX7_springs_81 : decode cX7_springs 81 = .ok (.goto (-23), 3) := by decide +kernel
theorem dX7_springs_84 : decode cX7_springs 84 = .ok (.aload_n 0, 1) := by decide +kernel
theorem dX7_springs_85 : decode cX7_springs 85 = .ok (.getfield 19, 3) := by decide +kernel
theorem dX7_springs_88 : decode cX7_springs 88 = .ok (.bipush 73, 2) := by decide +kernel
theorem dX7_springs_90 : decode cX7_springs 90 = .ok (.iload_n 1, 1) := by decide +kernel
theorem dX7_springs_91 : decode cX7_springs 91 = .ok (.iadd, 1) := by decide +kernel
theorem dX7_springs_92 : decode cX7_springs 92 = .ok (.dup2, 1) := by decide +kernel
theorem dX7_springs_93 : decode cX7_springs 93 = .ok (.iaload, 1) := by decide +kernel
theorem dX7_springs_94 : decode cX7_springs 94 = .ok (.iconst 1, 1) := by decide +kernel
theorem dX7_springs_95 : decode cX7_springs 95 = .ok (.iadd, 1) := by decide +kernel
theorem dX7_springs_96 : decode cX7_springs 96 = .ok (.iastore, 1) := by decide +kernel
theorem dX7_springs_97 : decode cX7_springs 97 = .ok (.aload_n 0, 1) := by decide +kernel
theorem dX7_springs_98 : decode cX7_springs 98 = .ok (.getfield 19, 3) := by decide +kernel
theorem dX7_springs_101 : decode cX7_springs 101 = .ok (.bipush 81, 2) := by decide +kernel
theorem dX7_springs_103 : decode cX7_springs 103 = .ok (.iload_n 1, 1) := by decide +kernel
theorem dX7_springs_104 : decode cX7_springs 104 = .ok (.iastore, 1) := by decide +kernel
theorem dX7_springs_105 : decode cX7_springs 105 = .ok (.iconst 0, 1) := by decide +kernel
theorem dX7_springs_106 : decode cX7_springs 106 = .ok (.istore_n 2, 1) := by decide +kernel
theorem dX7_springs_107 : decode cX7_springs 107 = .ok (.iload_n 2, 1) := by decide +kernel
theorem dX7_springs_108 : decode cX7_springs 108 = .ok (.bipush 64, 2) := by decide +kernel
theorem dX7_springs_110 : decode cX7_springs 110 = .ok (.if_icmp .ge 60, 3) := by decide +kernel
theorem dX7_springs_113 : decode cX7_springs 113 = .ok (.aload_n 0, 1) := by decide +kernel
theorem dX7_springs_114 : decode cX7_springs 114 = .ok (.getfield 140, 3) := by decide +kernel
theorem dX7_springs_117 : decode cX7_springs 117 = .ok (.ifCond .le 47, 3) := by decide +kernel
theorem dX7_springs_120 : decode cX7_springs 120 = .ok (.aload_n 0, 1) := by decide +kernel
theorem dX7_springs_121 : decode cX7_springs 121 = .ok (.getfield 19, 3) := by decide +kernel
theorem dX7_springs_124 : decode cX7_springs 124 = .ok (.bipush 72, 2) := by decide +kernel
theorem dX7_springs_126 : decode cX7_springs 126 = .ok (.iaload, 1) := by decide +kernel
theorem dX7_springs_127 : decode cX7_springs 127 = .ok (.aload_n 0, 1) := by decide +kernel
theorem dX7_springs_128 : decode cX7_springs 128 = .ok (.getfield 19, 3) := by decide +kernel
theorem dX7_springs_131 : decode cX7_springs 131 = .ok (.bipush 8, 2) := by decide +kernel
theorem dX7_springs_133 : decode cX7_springs 133 = .ok (.iload_n 2, 1) := by decide +kernel
theorem dX7_springs_134 : decode cX7_springs 134 = .ok (.iadd, 1) := by decide +kernel
theorem dX7_springs_135 : decode cX7_springs 135 = .ok (.iaload, 1) := by decide +kernel
theorem dX7_springs_136 : decode cX7_springs 136 = .ok (.isub, 1) := by decide +kernel
theorem dX7_springs_137 : decode cX7_springs 137 = .ok (.aload_n 0, 1) := by decide +kernel
theorem dX7_springs_138 : decode cX7_springs 138 = .ok (.getfield 140, 3) := by decide +kernel
theorem dX7_springs_141 : decode cX7_springs 141 = .ok (.if_icmp .lt 23, 3) := by decide +kernel
theorem dX7_springs_144 : decode cX7_springs 144 = .ok (.aload_n 0, 1) := by decide +kernel
theorem dX7_springs_145 : decode cX7_springs 145 = .ok (.getfield 19, 3) := by decide +kernel
theorem dX7_springs_148 : decode cX7_springs 148 = .ok (.iload_n 2, 1) := by decide +kernel
theorem dX7_springs_149 : decode cX7_springs 149 = .ok (.bipush 8, 2) := by decide +kernel
theorem dX7_springs_151 : decode cX7_springs 151 = .ok (.idiv, 1) := by decide +kernel
theorem dX7_springs_152 : decode cX7_springs 152 = .ok (.dup2, 1) := by decide +kernel
theorem dX7_springs_153 : decode cX7_springs 153 = .ok (.iaload, 1) := by decide +kernel
theorem dX7_springs_154 : decode cX7_springs 154 = .ok (.iconst 1, 1) := by decide +kernel
theorem dX7_springs_155 : decode cX7_springs 155 = .ok (.iload_n 2, 1) := by decide +kernel
theorem dX7_springs_156 : decode cX7_springs 156 = .ok (.bipush 8, 2) := by decide +kernel
theorem dX7_springs_158 : decode cX7_springs 158 = .ok (.irem, 1) := by decide +kernel
theorem dX7_springs_159 : decode cX7_springs 159 = .ok (.ishl, 1) := by decide +kernel
theorem dX7_springs_160 : decode cX7_springs 160 = .ok (.iconst (-1), 1) := by decide +kernel
theorem dX7_springs_161 : decode cX7_springs 161 = .ok (.ixor, 1) := by decide +kernel
theorem dX7_springs_162 : decode cX7_springs 162 = .ok (.iand, 1) := by decide +kernel
theorem dX7_springs_163 : decode cX7_springs 163 = .ok (.iastore, 1) := by decide +kernel
theorem dX7_springs_164 : decode cX7_springs 164 = .ok (.iinc 2 1, 3) := by decide +kernel
theorem dX7_springs_167 : decode cX7_springs 167 = .ok (.goto (-60), 3) := by decide +kernel
theorem dX7_springs_170 : decode cX7_springs 170 = .ok (.aload_n 0, 1) := by decide +kernel
theorem dX7_springs_171 : decode cX7_springs 171 = .ok (.getfield 19, 3) := by decide +kernel
theorem dX7_springs_174 : decode cX7_springs 174 = .ok (.bipush 72, 2) := by decide +kernel
theorem dX7_springs_176 : decode cX7_springs 176 = .ok (.dup2, 1) := by decide +kernel
theorem dX7_springs_177 : decode cX7_springs 177 = .ok (.iaload, 1) := by decide +kernel
theorem dX7_springs_178 : decode cX7_springs 178 = .ok (.iconst 1, 1) := by decide +kernel
theorem dX7_springs_179 : decode cX7_springs 179 = .ok (.iadd, 1) := by decide +kernel
theorem dX7_springs_180 : decode cX7_springs 180 = .ok (.iastore, 1) := by decide +kernel
theorem dX7_springs_181 : decode cX7_springs 181 = .ok (.iload_n 1, 1) := by decide +kernel
theorem dX7_springs_182 : decode cX7_springs 182 = .ok (.ireturn, 1) := by decide +kernel
theorem dX7_go_0 : decode cX7_go 0 = .ok (.aload_n 0, 1) := by decide +kernel
theorem dX7_go_1 : decode cX7_go 1 = .ok (.iconst 0, 1) := by decide +kernel
theorem dX7_go_2 : decode cX7_go 2 = .ok (.putfield 51, 3) := by decide +kernel
theorem dX7_go_5 : decode cX7_go 5 = .ok (.iload_n 1, 1) := by decide +kernel
theorem dX7_go_6 : decode cX7_go 6 = .ok (.iconst 1, 1) := by decide +kernel
theorem dX7_go_7 : decode cX7_go 7 = .ok (.bipush 99, 2) := by decide +kernel
theorem dX7_go_9 : decode cX7_go 9 = .ok (.invokestatic 54, 3) := by decide +kernel
theorem dX7_go_12 : decode cX7_go 12 = .ok (.ifCond .ne 5, 3) := by decide +kernel
theorem dX7_go_15 : decode cX7_go 15 = .ok (.iconst (-1), 1) := by decide +kernel
theorem dX7_go_16 : decode cX7_go 16 = .ok (.ireturn, 1) := by decide +kernel
theorem dX7_go_17 : decode cX7_go 17 = .ok (.aload_n 0, 1) := by decide +kernel
theorem dX7_go_18 : decode cX7_go 18 = .ok (.getfield 19, 3) := by decide +kernel
theorem dX7_go_21 : decode cX7_go 21 = .ok (.bipush 72, 2) := by decide +kernel
theorem dX7_go_23 : decode cX7_go 23 = .ok (.iaload, 1) := by decide +kernel
theorem dX7_go_24 : decode cX7_go 24 = .ok (.bipush 99, 2) := by decide +kernel
theorem dX7_go_26 : decode cX7_go 26 = .ok (.if_icmp .eq 10, 3) := by decide +kernel
theorem dX7_go_29 : decode cX7_go 29 = .ok (.aload_n 0, 1) := by decide +kernel
theorem dX7_go_30 : decode cX7_go 30 = .ok (.getfield 137, 3) := by decide +kernel
theorem dX7_go_33 : decode cX7_go 33 = .ok (.ifCond .ne 6, 3) := by decide +kernel
theorem dX7_go_36 : decode cX7_go 36 = .ok (.bipush (-2), 2) := by decide +kernel
theorem dX7_go_38 : decode cX7_go 38 = .ok (.ireturn, 1) := by decide +kernel
theorem dX7_go_39 : decode cX7_go 39 = .ok (.iconst 0, 1) := by decide +kernel
theorem dX7_go_40 : decode cX7_go 40 = .ok (.istore_n 2, 1) := by decide +kernel
theorem dX7_go_41 : decode cX7_go 41 = .ok (.iload_n 2, 1) := by decide +kernel
theorem dX7_go_42 : decode cX7_go 42 = .ok (.iload_n 1, 1) := by decide +kernel
theorem dX7_go_43 : decode cX7_go 43 = .ok (.if_icmp .ge 26, 3) := by decide +kernel
theorem dX7_go_46 : decode cX7_go 46 = .ok (.aload_n 0, 1) := by decide +kernel
theorem dX7_go_47 : decode cX7_go 47 = .ok (.getfield 19, 3) := by decide +kernel
theorem dX7_go_50 : decode cX7_go 50 = .ok (.bipush 72, 2) := by decide +kernel
theorem dX7_go_52 : decode cX7_go 52 = .ok (.iaload, 1) := by decide +kernel
theorem dX7_go_53 : decode cX7_go 53 = .ok (.bipush 99, 2) := by decide +kernel
theorem dX7_go_55 : decode cX7_go 55 = .ok (.if_icmp .ge 14, 3) := by decide +kernel
theorem dX7_go_58 : decode cX7_go 58 = .ok (.aload_n 0, 1) := by decide +kernel
theorem dX7_go_59 : decode cX7_go 59 = .ok (.invokevirtual 174, 3) := by decide +kernel
theorem dX7_go_62 : decode cX7_go 62 = .ok (.pop, 1) := by decide +kernel
theorem dX7_go_63 : decode cX7_go 63 = .ok (.iinc 2 1, 3) := by decide +kernel
theorem dX7_go_66 : decode cX7_go 66 = .ok (.goto (-25), 3) := by decide +kernel
theorem dX7_go_69 : decode cX7_go 69 = .ok (.aload_n 0, 1) := by decide +kernel
theorem dX7_go_70 : decode cX7_go 70 = .ok (.getfield 19, 3) := by decide +kernel
theorem dX7_go_73 : decode cX7_go 73 = .ok (.bipush 81, 2) := by decide +kernel
theorem dX7_go_75 : decode cX7_go 75 = .ok (.iaload, 1) := by decide +kernel
theorem dX7_go_76 : decode cX7_go 76 = .ok (.ireturn, 1) := by decide +kernel
theorem dX7_countAll_0 : decode cX7_countAll 0 = .ok (.iconst 0, 1) := by decide +kernel
theorem dX7_countAll_1 : decode cX7_countAll 1 = .ok (.istore_n 1, 1) := by decide +kernel
theorem dX7_countAll_2 : decode cX7_countAll 2 = .ok (.iconst 0, 1) := by decide +kernel
theorem dX7_countAll_3 : decode cX7_countAll 3 = .ok (.istore_n 2, 1) := by decide +kernel
theorem dX7_countAll_4 : decode cX7_countAll 4 = .ok (.iload_n 2, 1) := by decide +kernel
theorem dX7_countAll_5 : decode cX7_countAll 5 = .ok (.aload_n 0, 1) := by decide +kernel
theorem dX7_countAll_6 : decode cX7_countAll 6 = .ok (.getfield 137, 3) := by decide +kernel
theorem dX7_countAll_9 : decode cX7_countAll 9 = .ok (.if_icmp .ge 17, 3) := by decide +kernel
theorem dX7_countAll_12 : decode cX7_countAll 12 = .ok (.iload_n 1, 1) := by decide +kernel
theorem dX7_countAll_13 : decode cX7_countAll 13 = .ok (.aload_n 0, 1) := by decide +kernel
theorem dX7_countAll_14 : decode cX7_countAll 14 = .ok (.iload_n 2, 1) := by decide +kernel
theorem dX7_countAll_15 : decode cX7_countAll 15 = .ok (.invokevirtual 158, 3) := by decide +kernel
theorem dX7_countAll_18 : decode cX7_countAll 18 = .ok (.iadd, 1) := by decide +kernel
theorem dX7_countAll_19 : decode cX7_countAll 19 = .ok (.istore_n 1, 1) := by decide +kernel
theorem dX7_countAll_20 : decode cX7_countAll 20 = .ok (.iinc 2 1, 3) := by decide +kernel
theorem dX7_countAll_23 : decode cX7_countAll 23 = .ok (.goto (-19), 3) := by decide +kernel
theorem dX7_countAll_26 : decode cX7_countAll 26 = .ok (.iload_n 1, 1) := by decide +kernel
theorem dX7_countAll_27 : decode cX7_countAll 27 = .ok (.ireturn, 1) := by decide +kernel
theorem dX7_now_0 : decode cX7_now 0 = .ok (.aload_n 0, 1) := by decide +kernel
theorem dX7_now_1 : decode cX7_now 1 = .ok (.iconst 0, 1) := by decide +kernel
theorem dX7_now_2 : decode cX7_now 2 = .ok (.putfield 51, 3) := by decide +kernel
theorem dX7_now_5 : decode cX7_now 5 = .ok (.iload_n 1, 1) := by decide +kernel
theorem dX7_now_6 : decode cX7_now 6 = .ok (.ifCond .ne 13, 3) := by decide +kernel
theorem dX7_now_9 : decode cX7_now 9 = .ok (.aload_n 0, 1) := by decide +kernel
theorem dX7_now_10 : decode cX7_now 10 = .ok (.getfield 19, 3) := by decide +kernel
theorem dX7_now_13 : decode cX7_now 13 = .ok (.bipush 72, 2) := by decide +kernel
theorem dX7_now_15 : decode cX7_now 15 = .ok (.iaload, 1) := by decide +kernel
theorem dX7_now_16 : decode cX7_now 16 = .ok (.goto 31, 3) := by decide +kernel
theorem dX7_now_19 : decode cX7_now 19 = .ok (.iload_n 1, 1) := by decide +kernel
theorem dX7_now_20 : decode cX7_now 20 = .ok (.iconst 1, 1) := by decide +kernel
theorem dX7_now_21 : decode cX7_now 21 = .ok (.if_icmp .ne 13, 3) := by decide +kernel
theorem dX7_now_24 : decode cX7_now 24 = .ok (.aload_n 0, 1) := by decide +kernel
theorem dX7_now_25 : decode cX7_now 25 = .ok (.getfield 19, 3) := by decide +kernel
theorem dX7_now_28 : decode cX7_now 28 = .ok (.bipush 81, 2) := by decide +kernel
theorem dX7_now_30 : decode cX7_now 30 = .ok (.iaload, 1) := by decide +kernel
theorem dX7_now_31 : decode cX7_now 31 = .ok (.goto 16, 3) := by decide +kernel
theorem dX7_now_34 : decode cX7_now 34 = .ok (.iload_n 1, 1) := by decide +kernel
theorem dX7_now_35 : decode cX7_now 35 = .ok (.iconst 2, 1) := by decide +kernel
theorem dX7_now_36 : decode cX7_now 36 = .ok (.if_icmp .ne 10, 3) := by decide +kernel
theorem dX7_now_39 : decode cX7_now 39 = .ok (.aload_n 0, 1) := by decide +kernel
theorem dX7_now_40 : decode cX7_now 40 = .ok (.invokevirtual 177, 3) := by decide +kernel
theorem dX7_now_43 : decode cX7_now 43 = .ok (.goto 4, 3) := by decide +kernel
theorem dX7_now_46 : decode cX7_now 46 = .ok (.iconst (-1), 1) := by decide +kernel
theorem dX7_now_47 : decode cX7_now 47 = .ok (.ireturn, 1) := by decide +kernel
theorem dX7_anew_0 : decode cX7_anew 0 = .ok (.aload_n 0, 1) := by decide +kernel
theorem dX7_anew_1 : decode cX7_anew 1 = .ok (.iconst 0, 1) := by decide +kernel
theorem dX7_anew_2 : decode cX7_anew 2 = .ok (.putfield 51, 3) := by decide +kernel
theorem dX7_anew_5 : decode cX7_anew 5 = .ok (.aload_n 0, 1) := by decide +kernel
theorem dX7_anew_6 : decode cX7_anew 6 = .ok (.getfield 19, 3) := by decide +kernel
theorem dX7_anew_9 : decode cX7_anew 9 = .ok (.bipush 72, 2) := by decide +kernel
theorem dX7_anew_11 : decode cX7_anew 11 = .ok (.iaload, 1) := by decide +kernel
theorem dX7_anew_12 : decode cX7_anew 12 = .ok (.istore_n 1, 1) := by decide +kernel
theorem dX7_anew_13 : decode cX7_anew 13 = .ok (.aload_n 0, 1) := by decide +kernel
theorem dX7_anew_14 : decode cX7_anew 14 = .ok (.invokevirtual 48, 3) := by decide +kernel
theorem dX7_anew_17 : decode cX7_anew 17 = .ok (.iload_n 1, 1) := by decide +kernel
theorem dX7_anew_18 : decode cX7_anew 18 = .ok (.ireturn, 1) := by decide +kernel
theorem dX7_aside_0 : decode cX7_aside 0 = .ok (.iconst 0, 1) := by decide +kernel
theorem dX7_aside_1 : decode cX7_aside 1 = .ok (.istore_n 2, 1) := by decide +kernel
theorem dX7_aside_2 : decode cX7_aside 2 = .ok (.iload_n 2, 1) := by decide +kernel
theorem dX7_aside_3 : decode cX7_aside 3 = .ok (.bipush 82, 2) := by decide +kernel
theorem dX7_aside_5 : decode cX7_aside 5 = .ok (.if_icmp .ge 40, 3) := by decide +kernel
theorem dX7_aside_8 : decode cX7_aside 8 = .ok (.iload_n 1, 1) := by decide +kernel
theorem dX7_aside_9 : decode cX7_aside 9 = .ok (.ifCond .eq 18, 3) := by decide +kernel
theorem dX7_aside_12 : decode cX7_aside 12 = .ok (.aload_n 0, 1) := by decide +kernel
theorem dX7_aside_13 : decode cX7_aside 13 = .ok (.getfield 22, 3) := by decide +kernel
theorem dX7_aside_16 : decode cX7_aside 16 = .ok (.iload_n 2, 1) := by decide +kernel
theorem dX7_aside_17 : decode cX7_aside 17 = .ok (.aload_n 0, 1) := by decide +kernel
theorem dX7_aside_18 : decode cX7_aside 18 = .ok (.getfield 19, 3) := by decide +kernel
theorem dX7_aside_21 : decode cX7_aside 21 = .ok (.iload_n 2, 1) := by decide +kernel
theorem dX7_aside_22 : decode cX7_aside 22 = .ok (.iaload, 1) := by decide +kernel
theorem dX7_aside_23 : decode cX7_aside 23 = .ok (.iastore, 1) := by decide +kernel
theorem dX7_aside_24 : decode cX7_aside 24 = .ok (.goto 15, 3) := by decide +kernel
theorem dX7_aside_27 : decode cX7_aside 27 = .ok (.aload_n 0, 1) := by decide +kernel
theorem dX7_aside_28 : decode cX7_aside 28 = .ok (.getfield 19, 3) := by decide +kernel
theorem dX7_aside_31 : decode cX7_aside 31 = .ok (.iload_n 2, 1) := by decide +kernel
theorem dX7_aside_32 : decode cX7_aside 32 = .ok (.aload_n 0, 1) := by decide +kernel
theorem dX7_aside_33 : decode cX7_aside 33 = .ok (.getfield 22, 3) := by decide +kernel
theorem dX7_aside_36 : decode cX7_aside 36 = .ok (.iload_n 2, 1) := by decide +kernel
theorem dX7_aside_37 : decode cX7_aside 37 = .ok (.iaload, 1) := by decide +kernel
theorem dX7_aside_38 : decode cX7_aside 38 = .ok (.iastore, 1) := by decide +kernel
theorem dX7_aside_39 : decode cX7_aside 39 = .ok (.iinc 2 1, 3) := by decide +kernel
theorem dX7_aside_42 : decode cX7_aside 42 = .ok (.goto (-40), 3) := by decide +kernel
theorem dX7_aside_45 : decode cX7_aside 45 = .ok (.return_, 1) := by decide +kernel
theorem dX7_reigns_0 : decode cX7_reigns 0 = .ok (.aload_n 0, 1) := by decide +kernel
theorem dX7_reigns_1 : decode cX7_reigns 1 = .ok (.iconst 0, 1) := by decide +kernel
theorem dX7_reigns_2 : decode cX7_reigns 2 = .ok (.putfield 51, 3) := by decide +kernel
theorem dX7_reigns_5 : decode cX7_reigns 5 = .ok (.iload_n 1, 1) := by decide +kernel
theorem dX7_reigns_6 : decode cX7_reigns 6 = .ok (.iconst 0, 1) := by decide +kernel
theorem dX7_reigns_7 : decode cX7_reigns 7 = .ok (.bipush 40, 2) := by decide +kernel
theorem dX7_reigns_9 : decode cX7_reigns 9 = .ok (.invokestatic 54, 3) := by decide +kernel
theorem dX7_reigns_12 : decode cX7_reigns 12 = .ok (.ifCond .ne 5, 3) := by decide +kernel
theorem dX7_reigns_15 : decode cX7_reigns 15 = .ok (.iconst (-1), 1) := by decide +kernel
theorem dX7_reigns_16 : decode cX7_reigns 16 = .ok (.ireturn, 1) := by decide +kernel
theorem dX7_reigns_17 : decode cX7_reigns 17 = .ok (.aload_n 0, 1) := by decide +kernel
theorem dX7_reigns_18 : decode cX7_reigns 18 = .ok (.getfield 137, 3) := by decide +kernel
theorem dX7_reigns_21 : decode cX7_reigns 21 = .ok (.ifCond .ne 6, 3) := by decide +kernel
theorem dX7_reigns_24 : decode cX7_reigns 24 = .ok (.bipush (-2), 2) := by decide +kernel
theorem dX7_reigns_26 : decode cX7_reigns 26 = .ok (.ireturn, 1) := by decide +kernel
theorem dX7_reigns_27 : decode cX7_reigns 27 = .ok (.aload_n 0, 1) := by decide +kernel
theorem dX7_reigns_28 : decode cX7_reigns 28 = .ok (.iconst 1, 1) := by decide +kernel
theorem dX7_reigns_29 : decode cX7_reigns 29 = .ok (.invokevirtual 180, 3) := by decide +kernel
theorem dX7_reigns_32 : decode cX7_reigns 32 = .ok (.bipush (-9), 2) := by decide +kernel
theorem dX7_reigns_34 : decode cX7_reigns 34 = .ok (.istore_n 2, 1) := by decide +kernel
theorem dX7_reigns_35 : decode cX7_reigns 35 = .ok (.iconst 0, 1) := by decide +kernel
theorem dX7_reigns_36 : decode cX7_reigns 36 = .ok (.istore_n 3, 1) := by decide +kernel
theorem dX7_reigns_37 : decode cX7_reigns 37 = .ok (.iload_n 3, 1) := by decide +kernel
theorem dX7_reigns_38 : decode cX7_reigns 38 = .ok (.iload_n 1, 1) := by decide +kernel
theorem dX7_reigns_39 : decode cX7_reigns 39 = .ok (.if_icmp .gt 14, 3) := by decide +kernel
theorem dX7_reigns_42 : decode cX7_reigns 42 = .ok (.aload_n 0, 1) := by decide +kernel
theorem dX7_reigns_43 : decode cX7_reigns 43 = .ok (.invokevirtual 174, 3) := by decide +kernel
theorem dX7_reigns_46 : decode cX7_reigns 46 = .ok (.istore_n 2, 1) := by decide +kernel
theorem dX7_reigns_47 : decode cX7_reigns 47 = .ok (.iinc 3 1, 3) := by decide +kernel
theorem dX7_reigns_50 : decode cX7_reigns 50 = .ok (.goto (-13), 3) := by decide +kernel
theorem dX7_reigns_53 : decode cX7_reigns 53 = .ok (.aload_n 0, 1) := by decide +kernel
theorem dX7_reigns_54 : decode cX7_reigns 54 = .ok (.iconst 0, 1) := by decide +kernel
theorem dX7_reigns_55 : decode cX7_reigns 55 = .ok (.invokevirtual 180, 3) := by decide +kernel
theorem dX7_reigns_58 : decode cX7_reigns 58 = .ok (.iload_n 2, 1) := by decide +kernel
theorem dX7_reigns_59 : decode cX7_reigns 59 = .ok (.ireturn, 1) := by decide +kernel
theorem dX7_ring_0 : decode cX7_ring 0 = .ok (.aload_n 0, 1) := by decide +kernel
theorem dX7_ring_1 : decode cX7_ring 1 = .ok (.iconst 0, 1) := by decide +kernel
theorem dX7_ring_2 : decode cX7_ring 2 = .ok (.putfield 51, 3) := by decide +kernel
theorem dX7_ring_5 : decode cX7_ring 5 = .ok (.aload_n 0, 1) := by decide +kernel
theorem dX7_ring_6 : decode cX7_ring 6 = .ok (.getfield 137, 3) := by decide +kernel
theorem dX7_ring_9 : decode cX7_ring 9 = .ok (.ifCond .ne 6, 3) := by decide +kernel
theorem dX7_ring_12 : decode cX7_ring 12 = .ok (.bipush (-2), 2) := by decide +kernel
theorem dX7_ring_14 : decode cX7_ring 14 = .ok (.ireturn, 1) := by decide +kernel
theorem dX7_ring_15 : decode cX7_ring 15 = .ok (.aload_n 0, 1) := by decide +kernel
theorem dX7_ring_16 : decode cX7_ring 16 = .ok (.iconst 1, 1) := by decide +kernel
theorem dX7_ring_17 : decode cX7_ring 17 = .ok (.invokevirtual 180, 3) := by decide +kernel
theorem dX7_ring_20 : decode cX7_ring 20 = .ok (.iconst 0, 1) := by decide +kernel
theorem dX7_ring_21 : decode cX7_ring 21 = .ok (.istore_n 1, 1) := by decide +kernel
theorem dX7_ring_22 : decode cX7_ring 22 = .ok (.iload_n 1, 1) := by decide +kernel
theorem dX7_ring_23 : decode cX7_ring 23 = .ok (.bipush 40, 2) := by decide +kernel
theorem dX7_ring_25 : decode cX7_ring 25 = .ok (.if_icmp .ge 19, 3) := by decide +kernel
theorem dX7_ring_28 : decode cX7_ring 28 = .ok (.aload_n 0, 1) := by decide +kernel
theorem dX7_ring_29 : decode cX7_ring 29 = .ok (.getfield 32, 3) := by decide +kernel
theorem dX7_ring_32 : decode cX7_ring 32 = .ok (.iload_n 1, 1) := by decide +kernel
theorem dX7_ring_33 : decode cX7_ring 33 = .ok (.aload_n 0, 1) := by decide +kernel
theorem dX7_ring_34 : decode cX7_ring 34 = .ok (.invokevirtual 174, 3) := by decide +kernel
theorem dX7_ring_37 : decode cX7_ring 37 = .ok (.iastore, 1) := by decide +kernel
theorem dX7_ring_38 : decode cX7_ring 38 = .ok (.iinc 1 1, 3) := by decide +kernel
theorem dX7_ring_41 : decode cX7_ring 41 = .ok (.goto (-19), 3) := by decide +kernel
theorem dX7_ring_44 : decode cX7_ring 44 = .ok (.aload_n 0, 1) := by decide +kernel
theorem dX7_ring_45 : decode cX7_ring 45 = .ok (.iconst 0, 1) := by decide +kernel
theorem dX7_ring_46 : decode cX7_ring 46 = .ok (.invokevirtual 180, 3) := by decide +kernel
theorem dX7_ring_49 : decode cX7_ring 49 = .ok (.iconst 1, 1) := by decide +kernel
theorem dX7_ring_50 : decode cX7_ring 50 = .ok (.istore_n 1, 1) := by decide +kernel
theorem dX7_ring_51 : decode cX7_ring 51 = .ok (.iload_n 1, 1) := by decide +kernel
theorem dX7_ring_52 : decode cX7_ring 52 = .ok (.bipush 11, 2) := by decide +kernel
theorem dX7_ring_54 : decode cX7_ring 54 = .ok (.if_icmp .ge 61, 3) := by decide +kernel
theorem dX7_ring_57 : decode cX7_ring 57 = .ok (.iconst 1, 1) := by decide +kernel
theorem dX7_ring_58 : decode cX7_ring 58 = .ok (.istore_n 2, 1) := by decide +kernel
theorem dX7_ring_59 : decode cX7_ring 59 = .ok (.bipush 20, 2) := by decide +kernel
theorem dX7_ring_61 : decode cX7_ring 61 = .ok (.iload_n 1, 1) := by decide +kernel
theorem dX7_ring_62 : decode cX7_ring 62 = .ok (.iadd, 1) := by decide +kernel
theorem dX7_ring_63 : decode cX7_ring 63 = .ok (.istore_n 3, 1) := by decide +kernel
theorem dX7_ring_64 : decode cX7_ring 64 = .ok (.iload_n 3, 1) := by decide +kernel
theorem dX7_ring_65 : decode cX7_ring 65 = .ok (.bipush 40, 2) := by decide +kernel
theorem dX7_ring_67 : decode cX7_ring 67 = .ok (.if_icmp .ge 36, 3) := by decide +kernel
theorem dX7_ring_70 : decode cX7_ring 70 = .ok (.iload_n 2, 1) := by decide +kernel
theorem dX7_ring_71 : decode cX7_ring 71 = .ok (.ifCond .eq 24, 3) := by decide +kernel
theorem dX7_ring_74 : decode cX7_ring 74 = .ok (.aload_n 0, 1) := by decide +kernel
theorem dX7_ring_75 : decode cX7_ring 75 = .ok (.getfield 32, 3) := by decide +kernel
theorem dX7_ring_78 : decode cX7_ring 78 = .ok (.iload_n 3, 1) := by decide +kernel
theorem dX7_ring_79 : decode cX7_ring 79 = .ok (.iaload, 1) := by decide +kernel
theorem dX7_ring_80 : decode cX7_ring 80 = .ok (.aload_n 0, 1) := by decide +kernel
theorem dX7_ring_81 : decode cX7_ring 81 = .ok (.getfield 32, 3) := by decide +kernel
theorem dX7_ring_84 : decode cX7_ring 84 = .ok (.iload_n 3, 1) := by decide +kernel
theorem dX7_ring_85 : decode cX7_ring 85 = .ok (.iload_n 1, 1) := by decide +kernel
theorem dX7_ring_86 : decode cX7_ring 86 = .ok (.isub, 1) := by decide +kernel
theorem dX7_ring_87 : decode cX7_ring 87 = .ok (.iaload, 1) := by decide +kernel
theorem dX7_ring_88 : decode cX7_ring 88 = .ok (.if_icmp .ne 7, 3) := by decide +kernel
theorem dX7_ring_91 : decode cX7_ring 91 = .ok (.iconst 1, 1) := by decide +kernel
theorem dX7_ring_92 : decode cX7_ring 92 = .ok (.goto 4, 3) := by decide +kernel
theorem dX7_ring_95 : decode cX7_ring 95 = .ok (.iconst 0, 1) := by decide +kernel
theorem dX7_ring_96 : decode cX7_ring 96 = .ok (.istore_n 2, 1) := by decide +kernel
theorem dX7_ring_97 : decode cX7_ring 97 = .ok (.iinc 3 1, 3) := by decide +kernel
theorem dX7_ring_100 : decode cX7_ring 100 = .ok (.goto (-36), 3) := by decide +kernel
theorem dX7_ring_103 : decode cX7_ring 103 = .ok (.iload_n 2, 1) := by decide +kernel
theorem dX7_ring_104 : decode cX7_ring 104 = .ok (.ifCond .eq 5, 3) := by decide +kernel
theorem dX7_ring_107 : decode cX7_ring 107 = .ok (.iload_n 1, 1) := by decide +kernel
theorem dX7_ring_108 : decode cX7_ring 108 = .ok (.ireturn, 1) := by decide +kernel
theorem dX7_ring_109 : decode cX7_ring 109 = .ok (.iinc 1 1, 3) := by decide +kernel
theorem dX7_ring_112 : decode cX7_ring 112 = .ok (.goto (-61), 3) := by decide +kernel
theorem dX7_ring_115 : decode cX7_ring 115 = .ok (.bipush (-9), 2) := by decide +kernel
theorem dX7_ring_117 : decode cX7_ring 117 = .ok (.ireturn, 1) := by decide +kernel
theorem dX7_isSo_0 : decode cX7_isSo 0 = .ok (.aload_n 0, 1) := by decide +kernel
theorem dX7_isSo_1 : decode cX7_isSo 1 = .ok (.invokevirtual 167, 3) := by decide +kernel
theorem dX7_isSo_4 : decode cX7_isSo 4 = .ok (.iload_n 1, 1) := by decide +kernel
theorem dX7_isSo_5 : decode cX7_isSo 5 = .ok (.if_icmp .ne 7, 3) := by decide +kernel
theorem dX7_isSo_8 : decode cX7_isSo 8 = .ok (.iconst 1, 1) := by decide +kernel
theorem dX7_isSo_9 : decode cX7_isSo 9 = .ok (.goto 4, 3) := by decide +kernel
theorem dX7_isSo_12 : decode cX7_isSo 12 = .ok (.iconst 0, 1) := by decide +kernel
theorem dX7_isSo_13 : decode cX7_isSo 13 = .ok (.iload_n 2, 1) := by decide +kernel
theorem dX7_isSo_14 : decode cX7_isSo 14 = .ok (.if_icmp .ne 7, 3) := by decide +kernel
theorem dX7_isSo_17 : decode cX7_isSo 17 = .ok (.iconst 1, 1) := by decide +kernel
theorem dX7_isSo_18 : decode cX7_isSo 18 = .ok (.goto 4, 3) := by decide +kernel
theorem dX7_isSo_21 : decode cX7_isSo 21 = .ok (.iconst 0, 1) := by decide +kernel
theorem dX7_isSo_22 : decode cX7_isSo 22 = .ok (.ireturn, 1) := by decide +kernel
theorem dX7_nextPair_0 : decode cX7_nextPair 0 = .ok (.iload_n 1, 1) := by decide +kernel
theorem dX7_nextPair_1 : decode cX7_nextPair 1 = .ok (.iconst 1, 1) := by decide +kernel
theorem dX7_nextPair_2 : decode cX7_nextPair 2 = .ok (.iadd, 1) := by decide +kernel
theorem dX7_nextPair_3 : decode cX7_nextPair 3 = .ok (.istore_n 2, 1) := by decide +kernel
theorem dX7_nextPair_4 : decode cX7_nextPair 4 = .ok (.iload_n 2, 1) := by decide +kernel
theorem dX7_nextPair_5 : decode cX7_nextPair 5 = .ok (.bipush 10, 2) := by decide +kernel
theorem dX7_nextPair_7 : decode cX7_nextPair 7 = .ok (.aload_n 0, 1) := by decide +kernel
theorem dX7_nextPair_8 : decode cX7_nextPair 8 = .ok (.getfield 137, 3) := by decide +kernel
theorem dX7_nextPair_11 : decode cX7_nextPair 11 = .ok (.imul, 1) := by decide +kernel
theorem dX7_nextPair_12 : decode cX7_nextPair 12 = .ok (.if_icmp .ge 33, 3) := by decide +kernel
theorem dX7_nextPair_15 : decode cX7_nextPair 15 = .ok (.iload_n 2, 1) := by decide +kernel
theorem dX7_nextPair_16 : decode cX7_nextPair 16 = .ok (.bipush 10, 2) := by decide +kernel
theorem dX7_nextPair_18 : decode cX7_nextPair 18 = .ok (.idiv, 1) := by decide +kernel
theorem dX7_nextPair_19 : decode cX7_nextPair 19 = .ok (.iload_n 2, 1) := by decide +kernel
theorem dX7_nextPair_20 : decode cX7_nextPair 20 = .ok (.bipush 10, 2) := by decide +kernel
theorem dX7_nextPair_22 : decode cX7_nextPair 22 = .ok (.irem, 1) := by decide +kernel
theorem dX7_nextPair_23 : decode cX7_nextPair 23 = .ok (.if_icmp .ge 16, 3) := by decide +kernel
theorem dX7_nextPair_26 : decode cX7_nextPair 26 = .ok (.iload_n 2, 1) := by decide +kernel
theorem dX7_nextPair_27 : decode cX7_nextPair 27 = .ok (.bipush 10, 2) := by decide +kernel
theorem dX7_nextPair_29 : decode cX7_nextPair 29 = .ok (.irem, 1) := by decide +kernel
theorem dX7_nextPair_30 : decode cX7_nextPair 30 = .ok (.aload_n 0, 1) := by decide +kernel
theorem dX7_nextPair_31 : decode cX7_nextPair 31 = .ok (.getfield 137, 3) := by decide +kernel
theorem dX7_nextPair_34 : decode cX7_nextPair 34 = .ok (.if_icmp .ge 5, 3) := by decide +kernel
theorem dX7_nextPair_37 : decode cX7_nextPair 37 = .ok (.iload_n 2, 1) := by decide +kernel
theorem dX7_nextPair_38 : decode cX7_nextPair 38 = .ok (.ireturn, 1) := by decide +kernel
theorem dX7_nextPair_39 : decode cX7_nextPair 39 = .ok (.iinc 2 1, 3) := by decide +kernel
theorem dX7_nextPair_42 : decode cX7_nextPair 42 = .ok (.goto (-38), 3) := by decide +kernel
theorem dX7_nextPair_45 : decode cX7_nextPair 45 = .ok (.iconst (-1), 1) := by decide +kernel
theorem dX7_nextPair_46 : decode cX7_nextPair 46 = .ok (.ireturn, 1) := by decide +kernel
theorem dX7_meets_0 : decode cX7_meets 0 = .ok (.aload_n 0, 1) := by decide +kernel
theorem dX7_meets_1 : decode cX7_meets 1 = .ok (.iload_n 1, 1) := by decide +kernel
theorem dX7_meets_2 : decode cX7_meets 2 = .ok (.bipush 10, 2) := by decide +kernel
theorem dX7_meets_4 : decode cX7_meets 4 = .ok (.idiv, 1) := by decide +kernel
theorem dX7_meets_5 : decode cX7_meets 5 = .ok (.iload_n 1, 1) := by decide +kernel
theorem dX7_meets_6 : decode cX7_meets 6 = .ok (.bipush 10, 2) := by decide +kernel
theorem dX7_meets_8 : decode cX7_meets 8 = .ok (.irem, 1) := by decide +kernel
theorem dX7_meets_9 : decode cX7_meets 9 = .ok (.invokevirtual 171, 3) := by decide +kernel
theorem dX7_meets_12 : decode cX7_meets 12 = .ok (.pop, 1) := by decide +kernel
theorem dX7_meets_13 : decode cX7_meets 13 = .ok (.aload_n 0, 1) := by decide +kernel
theorem dX7_meets_14 : decode cX7_meets 14 = .ok (.iload_n 1, 1) := by decide +kernel
theorem dX7_meets_15 : decode cX7_meets 15 = .ok (.bipush 10, 2) := by decide +kernel
theorem dX7_meets_17 : decode cX7_meets 17 = .ok (.irem, 1) := by decide +kernel
theorem dX7_meets_18 : decode cX7_meets 18 = .ok (.iload_n 1, 1) := by decide +kernel
theorem dX7_meets_19 : decode cX7_meets 19 = .ok (.bipush 10, 2) := by decide +kernel
theorem dX7_meets_21 : decode cX7_meets 21 = .ok (.idiv, 1) := by decide +kernel
theorem dX7_meets_22 : decode cX7_meets 22 = .ok (.invokevirtual 171, 3) := by decide +kernel
theorem dX7_meets_25 : decode cX7_meets 25 = .ok (.pop, 1) := by decide +kernel
theorem dX7_meets_26 : decode cX7_meets 26 = .ok (.return_, 1) := by decide +kernel
theorem dX7_bringsBy_0 : decode cX7_bringsBy 0 = .ok (.aload_n 0, 1) := by decide +kernel
theorem dX7_bringsBy_1 : decode cX7_bringsBy 1 = .ok (.getfield 35, 3) := by decide +kernel
theorem dX7_bringsBy_4 : decode cX7_bringsBy 4 = .ok (.iconst 0, 1) := by decide +kernel
theorem dX7_bringsBy_5 : decode cX7_bringsBy 5 = .ok (.iload_n 3, 1) := by decide +kernel
theorem dX7_bringsBy_6 : decode cX7_bringsBy 6 = .ok (.ifCond .le 11, 3) := by decide +kernel
theorem dX7_bringsBy_9 : decode cX7_bringsBy 9 = .ok (.aload_n 0, 1) := by decide +kernel
theorem dX7_bringsBy_10 : decode cX7_bringsBy 10 = .ok (.iconst 0, 1) := by decide +kernel
theorem dX7_bringsBy_11 : decode cX7_bringsBy 11 = .ok (.invokevirtual 184, 3) := by decide +kernel
theorem dX7_bringsBy_14 : decode cX7_bringsBy 14 = .ok (.goto 4, 3) := by decide +kernel
theorem dX7_bringsBy_17 : decode cX7_bringsBy 17 = .ok (.iconst 0, 1) := by decide +kernel
theorem dX7_bringsBy_18 : decode cX7_bringsBy 18 = .ok (.iastore, 1) := by decide +kernel
theorem dX7_bringsBy_19 : decode cX7_bringsBy 19 = .ok (.aload_n 0, 1) := by decide +kernel
theorem dX7_bringsBy_20 : decode cX7_bringsBy 20 = .ok (.getfield 35, 3) := by decide +kernel
theorem dX7_bringsBy_23 : decode cX7_bringsBy 23 = .ok (.iconst 0, 1) := by decide +kernel
theorem dX7_bringsBy_24 : decode cX7_bringsBy 24 = .ok (.iaload, 1) := by decide +kernel
theorem dX7_bringsBy_25 : decode cX7_bringsBy 25 = .ok (.ifCond .lt 200, 3) := by decide +kernel
theorem dX7_bringsBy_28 : decode cX7_bringsBy 28 = .ok (.aload_n 0, 1) := by decide +kernel
theorem dX7_bringsBy_29 : decode cX7_bringsBy 29 = .ok (.getfield 35, 3) := by decide +kernel
theorem dX7_bringsBy_32 : decode cX7_bringsBy 32 = .ok (.iconst 1, 1) := by decide +kernel
theorem dX7_bringsBy_33 : decode cX7_bringsBy 33 = .ok (.iload_n 3, 1) := by decide +kernel
theorem dX7_bringsBy_34 : decode cX7_bringsBy 34 = .ok (.iconst 1, 1) := by decide +kernel
theorem dX7_bringsBy_35 : decode cX7_bringsBy 35 = .ok (.if_icmp .le 16, 3) := by decide +kernel
theorem dX7_bringsBy_38 : decode cX7_bringsBy 38 = .ok (.aload_n 0, 1) := by decide +kernel
theorem dX7_bringsBy_39 : decode cX7_bringsBy 39 = .ok (.aload_n 0, 1) := by decide +kernel
theorem dX7_bringsBy_40 : decode cX7_bringsBy 40 = .ok (.getfield 35, 3) := by decide +kernel
theorem dX7_bringsBy_43 : decode cX7_bringsBy 43 = .ok (.iconst 0, 1) := by decide +kernel
theorem dX7_bringsBy_44 : decode cX7_bringsBy 44 = .ok (.iaload, 1) := by decide +kernel
theorem dX7_bringsBy_45 : decode cX7_bringsBy 45 = .ok (.invokevirtual 184, 3) := by decide +kernel
theorem dX7_bringsBy_48 : decode cX7_bringsBy 48 = .ok (.goto 4, 3) := by decide +kernel
theorem dX7_bringsBy_51 : decode cX7_bringsBy 51 = .ok (.iconst 0, 1) := by decide +kernel
theorem dX7_bringsBy_52 : decode cX7_bringsBy 52 = .ok (.iastore, 1) := by decide +kernel
theorem dX7_bringsBy_53 : decode cX7_bringsBy 53 = .ok (.aload_n 0, 1) := by decide +kernel
theorem dX7_bringsBy_54 : decode cX7_bringsBy 54 = .ok (.getfield 35, 3) := by decide +kernel
theorem dX7_bringsBy_57 : decode cX7_bringsBy 57 = .ok (.iconst 1, 1) := by decide +kernel
theorem dX7_bringsBy_58 : decode cX7_bringsBy 58 = .ok (.iaload, 1) := by decide +kernel
theorem dX7_bringsBy_59 : decode cX7_bringsBy 59 = .ok (.ifCond .lt 139, 3) := by decide +kernel
theorem dX7_bringsBy_62 : decode cX7_bringsBy 62 = .ok (.aload_n 0, 1) := by decide +kernel
theorem dX7_bringsBy_63 : decode cX7_bringsBy 63 = .ok (.getfield 35, 3) := by decide +kernel
theorem dX7_bringsBy_66 : decode cX7_bringsBy 66 = .ok (.iconst 2, 1) := by decide +kernel
theorem dX7_bringsBy_67 : decode cX7_bringsBy 67 = .ok (.iload_n 3, 1) := by decide +kernel
theorem dX7_bringsBy_68 : decode cX7_bringsBy 68 = .ok (.iconst 2, 1) := by decide +kernel
theorem dX7_bringsBy_69 : decode cX7_bringsBy 69 = .ok (.if_icmp .le 16, 3) := by decide +kernel
theorem dX7_bringsBy_72 : decode cX7_bringsBy 72 = .ok (.aload_n 0, 1) := by decide +kernel
theorem dX7_bringsBy_73 : decode cX7_bringsBy 73 = .ok (.aload_n 0, 1) := by decide +kernel
theorem dX7_bringsBy_74 : decode cX7_bringsBy 74 = .ok (.getfield 35, 3) := by decide +kernel
theorem dX7_bringsBy_77 : decode cX7_bringsBy 77 = .ok (.iconst 1, 1) := by decide +kernel
theorem dX7_bringsBy_78 : decode cX7_bringsBy 78 = .ok (.iaload, 1) := by decide +kernel
theorem dX7_bringsBy_79 : decode cX7_bringsBy 79 = .ok (.invokevirtual 184, 3) := by decide +kernel
theorem dX7_bringsBy_82 : decode cX7_bringsBy 82 = .ok (.goto 4, 3) := by decide +kernel
theorem dX7_bringsBy_85 : decode cX7_bringsBy 85 = .ok (.iconst 0, 1) := by decide +kernel
theorem dX7_bringsBy_86 : decode cX7_bringsBy 86 = .ok (.iastore, 1) := by decide +kernel
theorem dX7_bringsBy_87 : decode cX7_bringsBy 87 = .ok (.aload_n 0, 1) := by decide +kernel
theorem dX7_bringsBy_88 : decode cX7_bringsBy 88 = .ok (.getfield 35, 3) := by decide +kernel
theorem dX7_bringsBy_91 : decode cX7_bringsBy 91 = .ok (.iconst 2, 1) := by decide +kernel
theorem dX7_bringsBy_92 : decode cX7_bringsBy 92 = .ok (.iaload, 1) := by decide +kernel
theorem dX7_bringsBy_93 : decode cX7_bringsBy 93 = .ok (.ifCond .lt 77, 3) := by decide +kernel
theorem dX7_bringsBy_96 : decode cX7_bringsBy 96 = .ok (.iconst 0, 1) := by decide +kernel
theorem dX7_bringsBy_97 : decode cX7_bringsBy 97 = .ok (.istore 4, 2) := by decide +kernel
theorem dX7_bringsBy_99 : decode cX7_bringsBy 99 = .ok (.iload 4, 2) := by decide +kernel
theorem dX7_bringsBy_101 : decode cX7_bringsBy 101 = .ok (.iload_n 3, 1) := by decide +kernel
theorem dX7_bringsBy_102 : decode cX7_bringsBy 102 = .ok (.if_icmp .ge 20, 3) := by decide +kernel
theorem dX7_bringsBy_105 : decode cX7_bringsBy 105 = .ok (.aload_n 0, 1) := by decide +kernel
theorem dX7_bringsBy_106 : decode cX7_bringsBy 106 = .ok (.aload_n 0, 1) := by decide +kernel
theorem dX7_bringsBy_107 : decode cX7_bringsBy 107 = .ok (.getfield 35, 3) := by decide +kernel
theorem dX7_bringsBy_110 : decode cX7_bringsBy 110 = .ok (.iload 4, 2) := by decide +kernel
theorem dX7_bringsBy_112 : decode cX7_bringsBy 112 = .ok (.iaload, 1) := by decide +kernel
theorem dX7_bringsBy_113 : decode cX7_bringsBy 113 = .ok (.invokevirtual 187, 3) := by decide +kernel
theorem dX7_bringsBy_116 : decode cX7_bringsBy 116 = .ok (.iinc 4 1, 3) := by decide +kernel
theorem dX7_bringsBy_119 : decode cX7_bringsBy 119 = .ok (.goto (-20), 3) := by decide +kernel
theorem dX7_bringsBy_122 : decode cX7_bringsBy 122 = .ok (.aload_n 0, 1) := by decide +kernel
theorem dX7_bringsBy_123 : decode cX7_bringsBy 123 = .ok (.iload_n 1, 1) := by decide +kernel
theorem dX7_bringsBy_124 : decode cX7_bringsBy 124 = .ok (.iload_n 2, 1) := by decide +kernel
theorem dX7_bringsBy_125 : decode cX7_bringsBy 125 = .ok (.invokevirtual 190, 3) := by decide +kernel
theorem dX7_bringsBy_128 : decode cX7_bringsBy 128 = .ok (.istore 4, 2) := by decide +kernel
theorem dX7_bringsBy_130 : decode cX7_bringsBy 130 = .ok (.aload_n 0, 1) := by decide +kernel
theorem dX7_bringsBy_131 : decode cX7_bringsBy 131 = .ok (.iconst 0, 1) := by decide +kernel
theorem dX7_bringsBy_132 : decode cX7_bringsBy 132 = .ok (.invokevirtual 180, 3) := by decide +kernel
theorem dX7_bringsBy_135 : decode cX7_bringsBy 135 = .ok (.iload 4, 2) := by decide +kernel
theorem dX7_bringsBy_137 : decode cX7_bringsBy 137 = .ok (.ifCond .eq 5, 3) := by decide +kernel
theorem dX7_bringsBy_140 : decode cX7_bringsBy 140 = .ok (.iload_n 3, 1) := by decide +kernel
theorem dX7_bringsBy_141 : decode cX7_bringsBy 141 = .ok (.ireturn, 1) := by decide +kernel
theorem dX7_bringsBy_142 : decode cX7_bringsBy 142 = .ok (.aload_n 0, 1) := by decide +kernel
theorem dX7_bringsBy_143 : decode cX7_bringsBy 143 = .ok (.getfield 35, 3) := by decide +kernel
theorem dX7_bringsBy_146 : decode cX7_bringsBy 146 = .ok (.iconst 2, 1) := by decide +kernel
theorem dX7_bringsBy_147 : decode cX7_bringsBy 147 = .ok (.iload_n 3, 1) := by decide +kernel
theorem dX7_bringsBy_148 : decode cX7_bringsBy 148 = .ok (.iconst 2, 1) := by decide +kernel
theorem dX7_bringsBy_149 : decode cX7_bringsBy 149 = .ok (.if_icmp .le 16, 3) := by decide +kernel
theorem dX7_bringsBy_152 : decode cX7_bringsBy 152 = .ok (.aload_n 0, 1) := by decide +kernel
theorem dX7_bringsBy_153 : decode cX7_bringsBy 153 = .ok (.aload_n 0, 1) := by decide +kernel
theorem dX7_bringsBy_154 : decode cX7_bringsBy 154 = .ok (.getfield 35, 3) := by decide +kernel
theorem dX7_bringsBy_157 : decode cX7_bringsBy 157 = .ok (.iconst 2, 1) := by decide +kernel
theorem dX7_bringsBy_158 : decode cX7_bringsBy 158 = .ok (.iaload, 1) := by decide +kernel
theorem dX7_bringsBy_159 : decode cX7_bringsBy 159 = .ok (.invokevirtual 184, 3) := by decide +kernel
theorem dX7_bringsBy_162 : decode cX7_bringsBy 162 = .ok (.goto 4, 3) := by decide +kernel
theorem dX7_bringsBy_165 : decode cX7_bringsBy 165 = .ok (.iconst (-1), 1) := by decide +kernel
theorem dX7_bringsBy_166 : decode cX7_bringsBy 166 = .ok (.iastore, 1) := by decide +kernel
theorem dX7_bringsBy_167 : decode cX7_bringsBy 167 = .ok (.goto (-80), 3) := by decide +kernel
theorem dX7_bringsBy_170 : decode cX7_bringsBy 170 = .ok (.aload_n 0, 1) := by decide +kernel
theorem dX7_bringsBy_171 : decode cX7_bringsBy 171 = .ok (.getfield 35, 3) := by decide +kernel
theorem dX7_bringsBy_174 : decode cX7_bringsBy 174 = .ok (.iconst 1, 1) := by decide +kernel
theorem dX7_bringsBy_175 : decode cX7_bringsBy 175 = .ok (.iload_n 3, 1) := by decide +kernel
theorem dX7_bringsBy_176 : decode cX7_bringsBy 176 = .ok (.iconst 1, 1) := by decide +kernel
theorem dX7_bringsBy_177 : decode cX7_bringsBy 177 = .ok (.if_icmp .le 16, 3) := by decide +kernel
theorem dX7_bringsBy_180 : decode cX7_bringsBy 180 = .ok (.aload_n 0, 1) := by decide +kernel
theorem dX7_bringsBy_181 : decode cX7_bringsBy 181 = .ok (.aload_n 0, 1) := by decide +kernel
theorem dX7_bringsBy_182 : decode cX7_bringsBy 182 = .ok (.getfield 35, 3) := by decide +kernel
theorem dX7_bringsBy_185 : decode cX7_bringsBy 185 = .ok (.iconst 1, 1) := by decide +kernel
theorem dX7_bringsBy_186 : decode cX7_bringsBy 186 = .ok (.iaload, 1) := by decide +kernel
theorem dX7_bringsBy_187 : decode cX7_bringsBy 187 = .ok (.invokevirtual 184, 3) := by decide +kernel
theorem dX7_bringsBy_190 : decode cX7_bringsBy 190 = .ok (.goto 4, 3) := by decide +kernel
theorem dX7_bringsBy_193 : decode cX7_bringsBy 193 = .ok (.iconst (-1), 1) := by decide +kernel
theorem dX7_bringsBy_194 : decode cX7_bringsBy 194 = .ok (.iastore, 1) := by decide +kernel
theorem dX7_bringsBy_195 : decode cX7_bringsBy 195 = .ok (.goto (-142), 3) := by decide +kernel
theorem dX7_bringsBy_198 : decode cX7_bringsBy 198 = .ok (.aload_n 0, 1) := by decide +kernel
theorem dX7_bringsBy_199 : decode cX7_bringsBy 199 = .ok (.getfield 35, 3) := by decide +kernel
theorem dX7_bringsBy_202 : decode cX7_bringsBy 202 = .ok (.iconst 0, 1) := by decide +kernel
theorem dX7_bringsBy_203 : decode cX7_bringsBy 203 = .ok (.iload_n 3, 1) := by decide +kernel
theorem dX7_bringsBy_204 : decode cX7_bringsBy 204 = .ok (.ifCond .le 16, 3) := by decide +kernel
theorem dX7_bringsBy_207 : decode cX7_bringsBy 207 = .ok (.aload_n 0, 1) := by decide +kernel
theorem dX7_bringsBy_208 : decode cX7_bringsBy 208 = .ok (.aload_n 0, 1) := by decide +kernel
theorem dX7_bringsBy_209 : decode cX7_bringsBy 209 = .ok (.getfield 35, 3) := by decide +kernel
theorem dX7_bringsBy_212 : decode cX7_bringsBy 212 = .ok (.iconst 0, 1) := by decide +kernel
theorem dX7_bringsBy_213 : decode cX7_bringsBy 213 = .ok (.iaload, 1) := by decide +kernel
theorem dX7_bringsBy_214 : decode cX7_bringsBy 214 = .ok (.invokevirtual 184, 3) := by decide +kernel
theorem dX7_bringsBy_217 : decode cX7_bringsBy 217 = .ok (.goto 4, 3) := by decide +kernel
theorem dX7_bringsBy_220 : decode cX7_bringsBy 220 = .ok (.iconst (-1), 1) := by decide +kernel
theorem dX7_bringsBy_221 : decode cX7_bringsBy 221 = .ok (.iastore, 1) := by decide +kernel
theorem dX7_bringsBy_222 : decode cX7_bringsBy 222 = .ok (.goto (-203), 3) := by decide +kernel
theorem dX7_bringsBy_225 : decode cX7_bringsBy 225 = .ok (.bipush (-9), 2) := by decide +kernel
theorem dX7_bringsBy_227 : decode cX7_bringsBy 227 = .ok (.ireturn, 1) := by decide +kernel
theorem dX7_brings_0 : decode cX7_brings 0 = .ok (.aload_n 0, 1) := by decide +kernel
theorem dX7_brings_1 : decode cX7_brings 1 = .ok (.iconst 0, 1) := by decide +kernel
theorem dX7_brings_2 : decode cX7_brings 2 = .ok (.putfield 51, 3) := by decide +kernel
theorem dX7_brings_5 : decode cX7_brings 5 = .ok (.aload_n 0, 1) := by decide +kernel
theorem dX7_brings_6 : decode cX7_brings 6 = .ok (.iload_n 1, 1) := by decide +kernel
theorem dX7_brings_7 : decode cX7_brings 7 = .ok (.invokevirtual 146, 3) := by decide +kernel
theorem dX7_brings_10 : decode cX7_brings 10 = .ok (.ifCond .eq 21, 3) := by decide +kernel
theorem dX7_brings_13 : decode cX7_brings 13 = .ok (.iload_n 2, 1) := by decide +kernel
theorem dX7_brings_14 : decode cX7_brings 14 = .ok (.iconst 0, 1) := by decide +kernel
theorem dX7_brings_15 : decode cX7_brings 15 = .ok (.iconst 1, 1) := by decide +kernel
theorem dX7_brings_16 : decode cX7_brings 16 = .ok (.invokestatic 54, 3) := by decide +kernel
theorem dX7_brings_19 : decode cX7_brings 19 = .ok (.ifCond .eq 12, 3) := by decide +kernel
theorem dX7_brings_22 : decode cX7_brings 22 = .ok (.iload_n 3, 1) := by decide +kernel
theorem dX7_brings_23 : decode cX7_brings 23 = .ok (.iconst (-1), 1) := by decide +kernel
theorem dX7_brings_24 : decode cX7_brings 24 = .ok (.iconst 2, 1) := by decide +kernel
theorem dX7_brings_25 : decode cX7_brings 25 = .ok (.invokestatic 54, 3) := by decide +kernel
theorem dX7_brings_28 : decode cX7_brings 28 = .ok (.ifCond .ne 5, 3) := by decide +kernel
theorem dX7_brings_31 : decode cX7_brings 31 = .ok (.iconst (-1), 1) := by decide +kernel
theorem dX7_brings_32 : decode cX7_brings 32 = .ok (.ireturn, 1) := by decide +kernel
theorem dX7_brings_33 : decode cX7_brings 33 = .ok (.aload_n 0, 1) := by decide +kernel
theorem dX7_brings_34 : decode cX7_brings 34 = .ok (.iconst 1, 1) := by decide +kernel
theorem dX7_brings_35 : decode cX7_brings 35 = .ok (.invokevirtual 180, 3) := by decide +kernel
theorem dX7_brings_38 : decode cX7_brings 38 = .ok (.bipush (-9), 2) := by decide +kernel
theorem dX7_brings_40 : decode cX7_brings 40 = .ok (.istore 4, 2) := by decide +kernel
theorem dX7_brings_42 : decode cX7_brings 42 = .ok (.iconst 0, 1) := by decide +kernel
theorem dX7_brings_43 : decode cX7_brings 43 = .ok (.istore 5, 2) := by decide +kernel
theorem dX7_brings_45 : decode cX7_brings 45 = .ok (.iload 5, 2) := by decide +kernel
theorem dX7_brings_47 : decode cX7_brings 47 = .ok (.iconst 4, 1) := by decide +kernel
theorem dX7_brings_48 : decode cX7_brings 48 = .ok (.if_icmp .ge 26, 3) := by decide +kernel
theorem dX7_brings_51 : decode cX7_brings 51 = .ok (.iload 4, 2) := by decide +kernel
theorem dX7_brings_53 : decode cX7_brings 53 = .ok (.bipush (-9), 2) := by decide +kernel
theorem dX7_brings_55 : decode cX7_brings 55 = .ok (.if_icmp .ne 19, 3) := by decide +kernel
theorem dX7_brings_58 : decode cX7_brings 58 = .ok (.aload_n 0, 1) := by decide +kernel
theorem dX7_brings_59 : decode cX7_brings 59 = .ok (.iload_n 1, 1) := by decide +kernel
theorem dX7_brings_60 : decode cX7_brings 60 = .ok (.iload_n 2, 1) := by decide +kernel
theorem dX7_brings_61 : decode cX7_brings 61 = .ok (.iload 5, 2) := by decide +kernel
theorem dX7_brings_63 : decode cX7_brings 63 = .ok (.invokevirtual 193, 3) := by decide +kernel
theorem dX7_brings_66 : decode cX7_brings 66 = .ok (.istore 4, 2) := by decide +kernel
theorem dX7_brings_68 : decode cX7_brings 68 = .ok (.iinc 5 1, 3) := by decide +kernel
theorem dX7_brings_71 : decode cX7_brings 71 = .ok (.goto (-26), 3) := by decide +kernel
theorem dX7_brings_74 : decode cX7_brings 74 = .ok (.iload 4, 2) := by decide +kernel
theorem dX7_brings_76 : decode cX7_brings 76 = .ok (.bipush (-9), 2) := by decide +kernel
theorem dX7_brings_78 : decode cX7_brings 78 = .ok (.if_icmp .eq 7, 3) := by decide +kernel
theorem dX7_brings_81 : decode cX7_brings 81 = .ok (.iload_n 3, 1) := by decide +kernel
theorem dX7_brings_82 : decode cX7_brings 82 = .ok (.ifCond .ge 8, 3) := by decide +kernel
theorem dX7_brings_85 : decode cX7_brings 85 = .ok (.iload 4, 2) := by decide +kernel
theorem dX7_brings_87 : decode cX7_brings 87 = .ok (.goto 20, 3) := by decide +kernel
theorem dX7_brings_90 : decode cX7_brings 90 = .ok (.iload_n 3, 1) := by decide +kernel
theorem dX7_brings_91 : decode cX7_brings 91 = .ok (.iload 4, 2) := by decide +kernel
theorem dX7_brings_93 : decode cX7_brings 93 = .ok (.if_icmp .ge 12, 3) := by decide +kernel
theorem dX7_brings_96 : decode cX7_brings 96 = .ok (.aload_n 0, 1) := by decide +kernel
theorem dX7_brings_97 : decode cX7_brings 97 = .ok (.getfield 35, 3) := by decide +kernel
theorem dX7_brings_100 : decode cX7_brings 100 = .ok (.iload_n 3, 1) := by decide +kernel
theorem dX7_brings_101 : decode cX7_brings 101 = .ok (.iaload, 1) := by decide +kernel
theorem dX7_brings_102 : decode cX7_brings 102 = .ok (.goto 5, 3) := by decide +kernel
theorem dX7_brings_105 : decode cX7_brings 105 = .ok (.bipush (-5), 2) := by decide +kernel
theorem dX7_brings_107 : decode cX7_brings 107 = .ok (.ireturn, 1) := by decide +kernel
theorem dX7_whoOf_0 : decode cX7_whoOf 0 = .ok (.iload_n 1, 1) := by decide +kernel
theorem dX7_whoOf_1 : decode cX7_whoOf 1 = .ok (.iload_n 2, 1) := by decide +kernel
theorem dX7_whoOf_2 : decode cX7_whoOf 2 = .ok (.iadd, 1) := by decide +kernel
theorem dX7_whoOf_3 : decode cX7_whoOf 3 = .ok (.aload_n 0, 1) := by decide +kernel
theorem dX7_whoOf_4 : decode cX7_whoOf 4 = .ok (.getfield 137, 3) := by decide +kernel
theorem dX7_whoOf_7 : decode cX7_whoOf 7 = .ok (.irem, 1) := by decide +kernel
theorem dX7_whoOf_8 : decode cX7_whoOf 8 = .ok (.ireturn, 1) := by decide +kernel
theorem dX7_asideOf_0 : decode cX7_asideOf 0 = .ok (.iconst 0, 1) := by decide +kernel
theorem dX7_asideOf_1 : decode cX7_asideOf 1 = .ok (.istore_n 3, 1) := by decide +kernel
theorem dX7_asideOf_2 : decode cX7_asideOf 2 = .ok (.iload_n 3, 1) := by decide +kernel
theorem dX7_asideOf_3 : decode cX7_asideOf 3 = .ok (.bipush 8, 2) := by decide +kernel
theorem dX7_asideOf_5 : decode cX7_asideOf 5 = .ok (.if_icmp .ge 50, 3) := by decide +kernel
theorem dX7_asideOf_8 : decode cX7_asideOf 8 = .ok (.iload_n 2, 1) := by decide +kernel
theorem dX7_asideOf_9 : decode cX7_asideOf 9 = .ok (.ifCond .eq 23, 3) := by decide +kernel
theorem dX7_asideOf_12 : decode cX7_asideOf 12 = .ok (.aload_n 0, 1) := by decide +kernel
theorem dX7_asideOf_13 : decode cX7_asideOf 13 = .ok (.getfield 38, 3) := by decide +kernel
theorem dX7_asideOf_16 : decode cX7_asideOf 16 = .ok (.bipush 8, 2) := by decide +kernel
theorem dX7_asideOf_18 : decode cX7_asideOf 18 = .ok (.iload_n 1, 1) := by decide +kernel
theorem dX7_asideOf_19 : decode cX7_asideOf 19 = .ok (.imul, 1) := by decide +kernel
theorem dX7_asideOf_20 : decode cX7_asideOf 20 = .ok (.iload_n 3, 1) := by decide +kernel
theorem dX7_asideOf_21 : decode cX7_asideOf 21 = .ok (.iadd, 1) := by decide +kernel
theorem dX7_asideOf_22 : decode cX7_asideOf 22 = .ok (.aload_n 0, 1) := by decide +kernel
theorem dX7_asideOf_23 : decode cX7_asideOf 23 = .ok (.getfield 19, 3) := by decide +kernel
theorem dX7_asideOf_26 : decode cX7_asideOf 26 = .ok (.iload_n 3, 1) := by decide +kernel
theorem dX7_asideOf_27 : decode cX7_asideOf 27 = .ok (.iaload, 1) := by decide +kernel
theorem dX7_asideOf_28 : decode cX7_asideOf 28 = .ok (.iastore, 1) := by decide +kernel
theorem dX7_asideOf_29 : decode cX7_asideOf 29 = .ok (.goto 20, 3) := by decide +kernel
theorem dX7_asideOf_32 : decode cX7_asideOf 32 = .ok (.aload_n 0, 1) := by decide +kernel
theorem dX7_asideOf_33 : decode cX7_asideOf 33 = .ok (.getfield 19, 3) := by decide +kernel
theorem dX7_asideOf_36 : decode cX7_asideOf 36 = .ok (.iload_n 3, 1) := by decide +kernel
theorem dX7_asideOf_37 : decode cX7_asideOf 37 = .ok (.aload_n 0, 1) := by decide +kernel
theorem dX7_asideOf_38 : decode cX7_asideOf 38 = .ok (.getfield 38, 3) := by decide +kernel
theorem dX7_asideOf_41 : decode cX7_asideOf 41 = .ok (.bipush 8, 2) := by decide +kernel
theorem dX7_asideOf_43 : decode cX7_asideOf 43 = .ok (.iload_n 1, 1) := by decide +kernel
theorem dX7_asideOf_44 : decode cX7_asideOf 44 = .ok (.imul, 1) := by decide +kernel
theorem dX7_asideOf_45 : decode cX7_asideOf 45 = .ok (.iload_n 3, 1) := by decide +kernel
theorem dX7_asideOf_46 : decode cX7_asideOf 46 = .ok (.iadd, 1) := by decide +kernel
theorem dX7_asideOf_47 : decode cX7_asideOf 47 = .ok (.iaload, 1) := by decide +kernel
theorem dX7_asideOf_48 : decode cX7_asideOf 48 = .ok (.iastore, 1) := by decide +kernel
theorem dX7_asideOf_49 : decode cX7_asideOf 49 = .ok (.iinc 3 1, 3) := by decide +kernel
theorem dX7_asideOf_52 : decode cX7_asideOf 52 = .ok (.goto (-50), 3) := by decide +kernel
theorem dX7_asideOf_55 : decode cX7_asideOf 55 = .ok (.return_, 1) := by decide +kernel
theorem dX7_acts_0 : decode cX7_acts 0 = .ok (.aload_n 0, 1) := by decide +kernel
theorem dX7_acts_1 : decode cX7_acts 1 = .ok (.iload_n 1, 1) := by decide +kernel
theorem dX7_acts_2 : decode cX7_acts 2 = .ok (.iload_n 2, 1) := by decide +kernel
theorem dX7_acts_3 : decode cX7_acts 3 = .ok (.invokevirtual 197, 3) := by decide +kernel
theorem dX7_acts_6 : decode cX7_acts 6 = .ok (.istore 4, 2) := by decide +kernel
theorem dX7_acts_8 : decode cX7_acts 8 = .ok (.iload_n 3, 1) := by decide +kernel
theorem dX7_acts_9 : decode cX7_acts 9 = .ok (.iload 4, 2) := by decide +kernel
theorem dX7_acts_11 : decode cX7_acts 11 = .ok (.if_icmp .ne 5, 3) := by decide +kernel
theorem dX7_acts_14 : decode cX7_acts 14 = .ok (.iconst 0, 1) := by decide +kernel
theorem dX7_acts_15 : decode cX7_acts 15 = .ok (.ireturn, 1) := by decide +kernel
theorem dX7_acts_16 : decode cX7_acts 16 = .ok (.iload_n 3, 1) := by decide +kernel
theorem dX7_acts_17 : decode cX7_acts 17 = .ok (.ifCond .lt 29, 3) := by decide +kernel
theorem dX7_acts_20 : decode cX7_acts 20 = .ok (.aload_n 0, 1) := by decide +kernel
theorem dX7_acts_21 : decode cX7_acts 21 = .ok (.getfield 19, 3) := by decide +kernel
theorem dX7_acts_24 : decode cX7_acts 24 = .ok (.iload 4, 2) := by decide +kernel
theorem dX7_acts_26 : decode cX7_acts 26 = .ok (.dup2, 1) := by decide +kernel
theorem dX7_acts_27 : decode cX7_acts 27 = .ok (.iaload, 1) := by decide +kernel
theorem dX7_acts_28 : decode cX7_acts 28 = .ok (.iconst 1, 1) := by decide +kernel
theorem dX7_acts_29 : decode cX7_acts 29 = .ok (.iload_n 3, 1) := by decide +kernel
theorem dX7_acts_30 : decode cX7_acts 30 = .ok (.ishl, 1) := by decide +kernel
theorem dX7_acts_31 : decode cX7_acts 31 = .ok (.ior, 1) := by decide +kernel
theorem dX7_acts_32 : decode cX7_acts 32 = .ok (.iastore, 1) := by decide +kernel
theorem dX7_acts_33 : decode cX7_acts 33 = .ok (.aload_n 0, 1) := by decide +kernel
theorem dX7_acts_34 : decode cX7_acts 34 = .ok (.getfield 19, 3) := by decide +kernel
theorem dX7_acts_37 : decode cX7_acts 37 = .ok (.iload_n 3, 1) := by decide +kernel
theorem dX7_acts_38 : decode cX7_acts 38 = .ok (.dup2, 1) := by decide +kernel
theorem dX7_acts_39 : decode cX7_acts 39 = .ok (.iaload, 1) := by decide +kernel
theorem dX7_acts_40 : decode cX7_acts 40 = .ok (.iconst 1, 1) := by decide +kernel
theorem dX7_acts_41 : decode cX7_acts 41 = .ok (.iload 4, 2) := by decide +kernel
theorem dX7_acts_43 : decode cX7_acts 43 = .ok (.ishl, 1) := by decide +kernel
theorem dX7_acts_44 : decode cX7_acts 44 = .ok (.ior, 1) := by decide +kernel
theorem dX7_acts_45 : decode cX7_acts 45 = .ok (.iastore, 1) := by decide +kernel
theorem dX7_acts_46 : decode cX7_acts 46 = .ok (.iconst 1, 1) := by decide +kernel
theorem dX7_acts_47 : decode cX7_acts 47 = .ok (.ireturn, 1) := by decide +kernel
theorem dX7_lastDay_0 : decode cX7_lastDay 0 = .ok (.aload_n 0, 1) := by decide +kernel
theorem dX7_lastDay_1 : decode cX7_lastDay 1 = .ok (.iload_n 2, 1) := by decide +kernel
theorem dX7_lastDay_2 : decode cX7_lastDay 2 = .ok (.iconst 1, 1) := by decide +kernel
theorem dX7_lastDay_3 : decode cX7_lastDay 3 = .ok (.invokevirtual 200, 3) := by decide +kernel
theorem dX7_lastDay_6 : decode cX7_lastDay 6 = .ok (.aload_n 0, 1) := by decide +kernel
theorem dX7_lastDay_7 : decode cX7_lastDay 7 = .ok (.invokevirtual 167, 3) := by decide +kernel
theorem dX7_lastDay_10 : decode cX7_lastDay 10 = .ok (.istore 4, 2) := by decide +kernel
theorem dX7_lastDay_12 : decode cX7_lastDay 12 = .ok (.aload_n 0, 1) := by decide +kernel
theorem dX7_lastDay_13 : decode cX7_lastDay 13 = .ok (.getfield 41, 3) := by decide +kernel
theorem dX7_lastDay_16 : decode cX7_lastDay 16 = .ok (.iload_n 2, 1) := by decide +kernel
theorem dX7_lastDay_17 : decode cX7_lastDay 17 = .ok (.bipush (-9), 2) := by decide +kernel
theorem dX7_lastDay_19 : decode cX7_lastDay 19 = .ok (.iastore, 1) := by decide +kernel
theorem dX7_lastDay_20 : decode cX7_lastDay 20 = .ok (.iload 4, 2) := by decide +kernel
theorem dX7_lastDay_22 : decode cX7_lastDay 22 = .ok (.aload_n 0, 1) := by decide +kernel
theorem dX7_lastDay_23 : decode cX7_lastDay 23 = .ok (.iload_n 1, 1) := by decide +kernel
theorem dX7_lastDay_24 : decode cX7_lastDay 24 = .ok (.iload_n 2, 1) := by decide +kernel
theorem dX7_lastDay_25 : decode cX7_lastDay 25 = .ok (.invokevirtual 197, 3) := by decide +kernel
theorem dX7_lastDay_28 : decode cX7_lastDay 28 = .ok (.if_icmp .ne 7, 3) := by decide +kernel
theorem dX7_lastDay_31 : decode cX7_lastDay 31 = .ok (.iconst 1, 1) := by decide +kernel
theorem dX7_lastDay_32 : decode cX7_lastDay 32 = .ok (.goto 4, 3) := by decide +kernel
theorem dX7_lastDay_35 : decode cX7_lastDay 35 = .ok (.iconst 0, 1) := by decide +kernel
theorem dX7_lastDay_36 : decode cX7_lastDay 36 = .ok (.iload_n 3, 1) := by decide +kernel
theorem dX7_lastDay_37 : decode cX7_lastDay 37 = .ok (.if_icmp .ne 7, 3) := by decide +kernel
theorem dX7_lastDay_40 : decode cX7_lastDay 40 = .ok (.iconst 1, 1) := by decide +kernel
theorem dX7_lastDay_41 : decode cX7_lastDay 41 = .ok (.goto 4, 3) := by decide +kernel
theorem dX7_lastDay_44 : decode cX7_lastDay 44 = .ok (.iconst 0, 1) := by decide +kernel
theorem dX7_lastDay_45 : decode cX7_lastDay 45 = .ok (.istore 5, 2) := by decide +kernel
theorem dX7_lastDay_47 : decode cX7_lastDay 47 = .ok (.iconst 0, 1) := by decide +kernel
theorem dX7_lastDay_48 : decode cX7_lastDay 48 = .ok (.istore 6, 2) := by decide +kernel
theorem dX7_lastDay_50 : decode cX7_lastDay 50 = .ok (.iload 6, 2) := by decide +kernel
theorem dX7_lastDay_52 : decode cX7_lastDay 52 = .ok (.aload_n 0, 1) := by decide +kernel
theorem dX7_lastDay_53 : decode cX7_lastDay 53 = .ok (.getfield 137, 3) := by decide +kernel
theorem dX7_lastDay_56 : decode cX7_lastDay 56 = .ok (.if_icmp .ge 96, 3) := by decide +kernel
theorem dX7_lastDay_59 : decode cX7_lastDay 59 = .ok (.iload 5, 2) := by decide +kernel
theorem dX7_lastDay_61 : decode cX7_lastDay 61 = .ok (.ifCond .ne 91, 3) := by decide +kernel
theorem dX7_lastDay_64 : decode cX7_lastDay 64 = .ok (.aload_n 0, 1) := by decide +kernel
theorem dX7_lastDay_65 : decode cX7_lastDay 65 = .ok (.iload_n 1, 1) := by decide +kernel
theorem dX7_lastDay_66 : decode cX7_lastDay 66 = .ok (.iload_n 2, 1) := by decide +kernel
theorem dX7_lastDay_67 : decode cX7_lastDay 67 = .ok (.iload 6, 2) := by decide +kernel
theorem dX7_lastDay_69 : decode cX7_lastDay 69 = .ok (.invokevirtual 204, 3) := by decide +kernel
theorem dX7_lastDay_72 : decode cX7_lastDay 72 = .ok (.ifCond .eq 74, 3) := by decide +kernel
theorem dX7_lastDay_75 : decode cX7_lastDay 75 = .ok (.aload_n 0, 1) := by decide +kernel
theorem dX7_lastDay_76 : decode cX7_lastDay 76 = .ok (.invokevirtual 167, 3) := by decide +kernel
theorem dX7_lastDay_79 : decode cX7_lastDay 79 = .ok (.istore 7, 2) := by decide +kernel
theorem dX7_lastDay_81 : decode cX7_lastDay 81 = .ok (.aload_n 0, 1) := by decide +kernel
theorem dX7_lastDay_82 : decode cX7_lastDay 82 = .ok (.iload_n 2, 1) := by decide +kernel
theorem dX7_lastDay_83 : decode cX7_lastDay 83 = .ok (.iconst 0, 1) := by decide +kernel
theorem dX7_lastDay_84 : decode cX7_lastDay 84 = .ok (.invokevirtual 200, 3) := by decide +kernel
theorem dX7_lastDay_87 : decode cX7_lastDay 87 = .ok (.iload 7, 2) := by decide +kernel
theorem dX7_lastDay_89 : decode cX7_lastDay 89 = .ok (.aload_n 0, 1) := by decide +kernel
theorem dX7_lastDay_90 : decode cX7_lastDay 90 = .ok (.iload_n 1, 1) := by decide +kernel
theorem dX7_lastDay_91 : decode cX7_lastDay 91 = .ok (.iload_n 2, 1) := by decide +kernel
theorem dX7_lastDay_92 : decode cX7_lastDay 92 = .ok (.invokevirtual 197, 3) := by decide +kernel
theorem dX7_lastDay_95 : decode cX7_lastDay 95 = .ok (.if_icmp .ne 7, 3) := by decide +kernel
theorem dX7_lastDay_98 : decode cX7_lastDay 98 = .ok (.iconst 1, 1) := by decide +kernel
theorem dX7_lastDay_99 : decode cX7_lastDay 99 = .ok (.goto 4, 3) := by decide +kernel
theorem dX7_lastDay_102 : decode cX7_lastDay 102 = .ok (.iconst 0, 1) := by decide +kernel
theorem dX7_lastDay_103 : decode cX7_lastDay 103 = .ok (.iload_n 3, 1) := by decide +kernel
theorem dX7_lastDay_104 : decode cX7_lastDay 104 = .ok (.if_icmp .ne 7, 3) := by decide +kernel
theorem dX7_lastDay_107 : decode cX7_lastDay 107 = .ok (.iconst 1, 1) := by decide +kernel
theorem dX7_lastDay_108 : decode cX7_lastDay 108 = .ok (.goto 4, 3) := by decide +kernel
theorem dX7_lastDay_111 : decode cX7_lastDay 111 = .ok (.iconst 0, 1) := by decide +kernel
theorem dX7_lastDay_112 : decode cX7_lastDay 112 = .ok (.istore 5, 2) := by decide +kernel
theorem dX7_lastDay_114 : decode cX7_lastDay 114 = .ok (.aload_n 0, 1) := by decide +kernel
theorem dX7_lastDay_115 : decode cX7_lastDay 115 = .ok (.getfield 41, 3) := by decide +kernel
theorem dX7_lastDay_118 : decode cX7_lastDay 118 = .ok (.iload_n 2, 1) := by decide +kernel
theorem dX7_lastDay_119 : decode cX7_lastDay 119 = .ok (.iload 5, 2) := by decide +kernel
theorem dX7_lastDay_121 : decode cX7_lastDay 121 = .ok (.ifCond .eq 8, 3) := by decide +kernel
theorem dX7_lastDay_124 : decode cX7_lastDay 124 = .ok (.iload 6, 2) := by decide +kernel
theorem dX7_lastDay_126 : decode cX7_lastDay 126 = .ok (.goto 5, 3) := by decide +kernel
theorem dX7_lastDay_129 : decode cX7_lastDay 129 = .ok (.bipush (-9), 2) := by decide +kernel
theorem dX7_lastDay_131 : decode cX7_lastDay 131 = .ok (.iastore, 1) := by decide +kernel
theorem dX7_lastDay_132 : decode cX7_lastDay 132 = .ok (.iload 5, 2) := by decide +kernel
theorem dX7_lastDay_134 : decode cX7_lastDay 134 = .ok (.ifCond .eq 8, 3) := by decide +kernel
theorem dX7_lastDay_137 : decode cX7_lastDay 137 = .ok (.iload 7, 2) := by decide +kernel
theorem dX7_lastDay_139 : decode cX7_lastDay 139 = .ok (.goto 5, 3) := by decide +kernel
theorem dX7_lastDay_142 : decode cX7_lastDay 142 = .ok (.iload 4, 2) := by decide +kernel
theorem dX7_lastDay_144 : decode cX7_lastDay 144 = .ok (.istore 4, 2) := by decide +kernel
theorem dX7_lastDay_146 : decode cX7_lastDay 146 = .ok (.iinc 6 1, 3) := by decide +kernel
theorem dX7_lastDay_149 : decode cX7_lastDay 149 = .ok (.goto (-99), 3) := by decide +kernel
theorem dX7_lastDay_152 : decode cX7_lastDay 152 = .ok (.iload 4, 2) := by decide +kernel
theorem dX7_lastDay_154 : decode cX7_lastDay 154 = .ok (.ireturn, 1) := by decide +kernel
theorem dX7_lastButOne_0 : decode cX7_lastButOne 0 = .ok (.iload_n 2, 1) := by decide +kernel
theorem dX7_lastButOne_1 : decode cX7_lastButOne 1 = .ok (.iload_n 3, 1) := by decide +kernel
theorem dX7_lastButOne_2 : decode cX7_lastButOne 2 = .ok (.iconst 1, 1) := by decide +kernel
theorem dX7_lastButOne_3 : decode cX7_lastButOne 3 = .ok (.isub, 1) := by decide +kernel
theorem dX7_lastButOne_4 : decode cX7_lastButOne 4 = .ok (.if_icmp .ne 12, 3) := by decide +kernel
theorem dX7_lastButOne_7 : decode cX7_lastButOne 7 = .ok (.aload_n 0, 1) := by decide +kernel
theorem dX7_lastButOne_8 : decode cX7_lastButOne 8 = .ok (.iload_n 1, 1) := by decide +kernel
theorem dX7_lastButOne_9 : decode cX7_lastButOne 9 = .ok (.iload_n 2, 1) := by decide +kernel
theorem dX7_lastButOne_10 : decode cX7_lastButOne 10 = .ok (.iload 4, 2) := by decide +kernel
theorem dX7_lastButOne_12 : decode cX7_lastButOne 12 = .ok (.invokevirtual 207, 3) := by decide +kernel
theorem dX7_lastButOne_15 : decode cX7_lastButOne 15 = .ok (.ireturn, 1) := by decide +kernel
theorem dX7_lastButOne_16 : decode cX7_lastButOne 16 = .ok (.aload_n 0, 1) := by decide +kernel
theorem dX7_lastButOne_17 : decode cX7_lastButOne 17 = .ok (.iload_n 2, 1) := by decide +kernel
theorem dX7_lastButOne_18 : decode cX7_lastButOne 18 = .ok (.iconst 1, 1) := by decide +kernel
theorem dX7_lastButOne_19 : decode cX7_lastButOne 19 = .ok (.invokevirtual 200, 3) := by decide +kernel
theorem dX7_lastButOne_22 : decode cX7_lastButOne 22 = .ok (.aload_n 0, 1) := by decide +kernel
theorem dX7_lastButOne_23 : decode cX7_lastButOne 23 = .ok (.iload_n 1, 1) := by decide +kernel
theorem dX7_lastButOne_24 : decode cX7_lastButOne 24 = .ok (.iload_n 2, 1) := by decide +kernel
theorem dX7_lastButOne_25 : decode cX7_lastButOne 25 = .ok (.iconst 1, 1) := by decide +kernel
theorem dX7_lastButOne_26 : decode cX7_lastButOne 26 = .ok (.iadd, 1) := by decide +kernel
theorem dX7_lastButOne_27 : decode cX7_lastButOne 27 = .ok (.iload 4, 2) := by decide +kernel
theorem dX7_lastButOne_29 : decode cX7_lastButOne 29 = .ok (.invokevirtual 207, 3) := by decide +kernel
theorem dX7_lastButOne_32 : decode cX7_lastButOne 32 = .ok (.istore 5, 2) := by decide +kernel
theorem dX7_lastButOne_34 : decode cX7_lastButOne 34 = .ok (.aload_n 0, 1) := by decide +kernel
theorem dX7_lastButOne_35 : decode cX7_lastButOne 35 = .ok (.iload_n 2, 1) := by decide +kernel
theorem dX7_lastButOne_36 : decode cX7_lastButOne 36 = .ok (.iconst 0, 1) := by decide +kernel
theorem dX7_lastButOne_37 : decode cX7_lastButOne 37 = .ok (.invokevirtual 200, 3) := by decide +kernel
theorem dX7_lastButOne_40 : decode cX7_lastButOne 40 = .ok (.aload_n 0, 1) := by decide +kernel
theorem dX7_lastButOne_41 : decode cX7_lastButOne 41 = .ok (.getfield 41, 3) := by decide +kernel
theorem dX7_lastButOne_44 : decode cX7_lastButOne 44 = .ok (.iload_n 2, 1) := by decide +kernel
theorem dX7_lastButOne_45 : decode cX7_lastButOne 45 = .ok (.bipush (-9), 2) := by decide +kernel
theorem dX7_lastButOne_47 : decode cX7_lastButOne 47 = .ok (.iastore, 1) := by decide +kernel
theorem dX7_lastButOne_48 : decode cX7_lastButOne 48 = .ok (.iload 5, 2) := by decide +kernel
theorem dX7_lastButOne_50 : decode cX7_lastButOne 50 = .ok (.aload_n 0, 1) := by decide +kernel
theorem dX7_lastButOne_51 : decode cX7_lastButOne 51 = .ok (.iload_n 1, 1) := by decide +kernel
theorem dX7_lastButOne_52 : decode cX7_lastButOne 52 = .ok (.iload_n 2, 1) := by decide +kernel
theorem dX7_lastButOne_53 : decode cX7_lastButOne 53 = .ok (.invokevirtual 197, 3) := by decide +kernel
theorem dX7_lastButOne_56 : decode cX7_lastButOne 56 = .ok (.if_icmp .ne 7, 3) := by decide +kernel
theorem dX7_lastButOne_59 : decode cX7_lastButOne 59 = .ok (.iconst 1, 1) := by decide +kernel
theorem dX7_lastButOne_60 : decode cX7_lastButOne 60 = .ok (.goto 4, 3) := by decide +kernel
theorem dX7_lastButOne_63 : decode cX7_lastButOne 63 = .ok (.iconst 0, 1) := by decide +kernel
theorem dX7_lastButOne_64 : decode cX7_lastButOne 64 = .ok (.iload 4, 2) := by decide +kernel
theorem dX7_lastButOne_66 : decode cX7_lastButOne 66 = .ok (.if_icmp .ne 7, 3) := by decide +kernel
theorem dX7_lastButOne_69 : decode cX7_lastButOne 69 = .ok (.iconst 1, 1) := by decide +kernel
theorem dX7_lastButOne_70 : decode cX7_lastButOne 70 = .ok (.goto 4, 3) := by decide +kernel
theorem dX7_lastButOne_73 : decode cX7_lastButOne 73 = .ok (.iconst 0, 1) := by decide +kernel
theorem dX7_lastButOne_74 : decode cX7_lastButOne 74 = .ok (.istore 6, 2) := by decide +kernel
theorem dX7_lastButOne_76 : decode cX7_lastButOne 76 = .ok (.iconst 0, 1) := by decide +kernel
theorem dX7_lastButOne_77 : decode cX7_lastButOne 77 = .ok (.istore 7, 2) := by decide +kernel
theorem dX7_lastButOne_79 : decode cX7_lastButOne 79 = .ok (.iload 7, 2) := by decide +kernel
theorem dX7_lastButOne_81 : decode cX7_lastButOne 81 = .ok (.aload_n 0, 1) := by decide +kernel
theorem dX7_lastButOne_82 : decode cX7_lastButOne 82 = .ok (.getfield 137, 3) := by decide +kernel
theorem dX7_lastButOne_85 : decode cX7_lastButOne 85 = .ok (.if_icmp .ge 103, 3) := by decide +kernel
theorem dX7_lastButOne_88 : decode cX7_lastButOne 88 = .ok (.iload 6, 2) := by decide +kernel
theorem dX7_lastButOne_90 : decode cX7_lastButOne 90 = .ok (.ifCond .ne 98, 3) := by decide +kernel
theorem dX7_lastButOne_93 : decode cX7_lastButOne 93 = .ok (.aload_n 0, 1) := by decide +kernel
theorem dX7_lastButOne_94 : decode cX7_lastButOne 94 = .ok (.iload_n 1, 1) := by decide +kernel
theorem dX7_lastButOne_95 : decode cX7_lastButOne 95 = .ok (.iload_n 2, 1) := by decide +kernel
theorem dX7_lastButOne_96 : decode cX7_lastButOne 96 = .ok (.iload 7, 2) := by decide +kernel
theorem dX7_lastButOne_98 : decode cX7_lastButOne 98 = .ok (.invokevirtual 204, 3) := by decide +kernel
theorem dX7_lastButOne_101 : decode cX7_lastButOne 101 = .ok (.ifCond .eq 81, 3) := by decide +kernel
theorem dX7_lastButOne_104 : decode cX7_lastButOne 104 = .ok (.aload_n 0, 1) := by decide +kernel
theorem dX7_lastButOne_105 : decode cX7_lastButOne 105 = .ok (.iload_n 1, 1) := by decide +kernel
theorem dX7_lastButOne_106 : decode cX7_lastButOne 106 = .ok (.iload_n 2, 1) := by decide +kernel
theorem dX7_lastButOne_107 : decode cX7_lastButOne 107 = .ok (.iconst 1, 1) := by decide +kernel
theorem dX7_lastButOne_108 : decode cX7_lastButOne 108 = .ok (.iadd, 1) := by decide +kernel
theorem dX7_lastButOne_109 : decode cX7_lastButOne 109 = .ok (.iload 4, 2) := by decide +kernel
theorem dX7_lastButOne_111 : decode cX7_lastButOne 111 = .ok (.invokevirtual 207, 3) := by decide +kernel
theorem dX7_lastButOne_114 : decode cX7_lastButOne 114 = .ok (.istore 8, 2) := by decide +kernel
theorem dX7_lastButOne_116 : decode cX7_lastButOne 116 = .ok (.aload_n 0, 1) := by decide +kernel
theorem dX7_lastButOne_117 : decode cX7_lastButOne 117 = .ok (.iload_n 2, 1) := by decide +kernel
theorem dX7_lastButOne_118 : decode cX7_lastButOne 118 = .ok (.iconst 0, 1) := by decide +kernel
theorem dX7_lastButOne_119 : decode cX7_lastButOne 119 = .ok (.invokevirtual 200, 3) := by decide +kernel
theorem dX7_lastButOne_122 : decode cX7_lastButOne 122 = .ok (.iload 8, 2) := by decide +kernel
theorem dX7_lastButOne_124 : decode cX7_lastButOne 124 = .ok (.aload_n 0, 1) := by decide +kernel
theorem dX7_lastButOne_125 : decode cX7_lastButOne 125 = .ok (.iload_n 1, 1) := by decide +kernel
theorem dX7_lastButOne_126 : decode cX7_lastButOne 126 = .ok (.iload_n 2, 1) := by decide +kernel
theorem dX7_lastButOne_127 : decode cX7_lastButOne 127 = .ok (.invokevirtual 197, 3) := by decide +kernel
theorem dX7_lastButOne_130 : decode cX7_lastButOne 130 = .ok (.if_icmp .ne 7, 3) := by decide +kernel
theorem dX7_lastButOne_133 : decode cX7_lastButOne 133 = .ok (.iconst 1, 1) := by decide +kernel
theorem dX7_lastButOne_134 : decode cX7_lastButOne 134 = .ok (.goto 4, 3) := by decide +kernel
theorem dX7_lastButOne_137 : decode cX7_lastButOne 137 = .ok (.iconst 0, 1) := by decide +kernel
theorem dX7_lastButOne_138 : decode cX7_lastButOne 138 = .ok (.iload 4, 2) := by decide +kernel
theorem dX7_lastButOne_140 : decode cX7_lastButOne 140 = .ok (.if_icmp .ne 7, 3) := by decide +kernel
theorem dX7_lastButOne_143 : decode cX7_lastButOne 143 = .ok (.iconst 1, 1) := by decide +kernel
theorem dX7_lastButOne_144 : decode cX7_lastButOne 144 = .ok (.goto 4, 3) := by decide +kernel
theorem dX7_lastButOne_147 : decode cX7_lastButOne 147 = .ok (.iconst 0, 1) := by decide +kernel
theorem dX7_lastButOne_148 : decode cX7_lastButOne 148 = .ok (.istore 6, 2) := by decide +kernel
theorem dX7_lastButOne_150 : decode cX7_lastButOne 150 = .ok (.aload_n 0, 1) := by decide +kernel
theorem dX7_lastButOne_151 : decode cX7_lastButOne 151 = .ok (.getfield 41, 3) := by decide +kernel
theorem dX7_lastButOne_154 : decode cX7_lastButOne 154 = .ok (.iload_n 2, 1) := by decide +kernel
theorem dX7_lastButOne_155 : decode cX7_lastButOne 155 = .ok (.iload 6, 2) := by decide +kernel
theorem dX7_lastButOne_157 : decode cX7_lastButOne 157 = .ok (.ifCond .eq 8, 3) := by decide +kernel
theorem dX7_lastButOne_160 : decode cX7_lastButOne 160 = .ok (.iload 7, 2) := by decide +kernel
theorem dX7_lastButOne_162 : decode cX7_lastButOne 162 = .ok (.goto 5, 3) := by decide +kernel
theorem dX7_lastButOne_165 : decode cX7_lastButOne 165 = .ok (.bipush (-9), 2) := by decide +kernel
theorem dX7_lastButOne_167 : decode cX7_lastButOne 167 = .ok (.iastore, 1) := by decide +kernel
theorem dX7_lastButOne_168 : decode cX7_lastButOne 168 = .ok (.iload 6, 2) := by decide +kernel
theorem dX7_lastButOne_170 : decode cX7_lastButOne 170 = .ok (.ifCond .eq 8, 3) := by decide +kernel
theorem dX7_lastButOne_173 : decode cX7_lastButOne 173 = .ok (.iload 8, 2) := by decide +kernel
theorem dX7_lastButOne_175 : decode cX7_lastButOne 175 = .ok (.goto 5, 3) := by decide +kernel
theorem dX7_lastButOne_178 : decode cX7_lastButOne 178 = .ok (.iload 5, 2) := by decide +kernel
theorem dX7_lastButOne_180 : decode cX7_lastButOne 180 = .ok (.istore 5, 2) := by decide +kernel
theorem dX7_lastButOne_182 : decode cX7_lastButOne 182 = .ok (.iinc 7 1, 3) := by decide +kernel
theorem dX7_lastButOne_185 : decode cX7_lastButOne 185 = .ok (.goto (-106), 3) := by decide +kernel
theorem dX7_lastButOne_188 : decode cX7_lastButOne 188 = .ok (.iload 5, 2) := by decide +kernel
theorem dX7_lastButOne_190 : decode cX7_lastButOne 190 = .ok (.ireturn, 1) := by decide +kernel
theorem dX7_firstDay_0 : decode cX7_firstDay 0 = .ok (.iload_n 2, 1) := by decide +kernel
theorem dX7_firstDay_1 : decode cX7_firstDay 1 = .ok (.iconst 3, 1) := by decide +kernel
theorem dX7_firstDay_2 : decode cX7_firstDay 2 = .ok (.if_icmp .ge 12, 3) := by decide +kernel
theorem dX7_firstDay_5 : decode cX7_firstDay 5 = .ok (.aload_n 0, 1) := by decide +kernel
theorem dX7_firstDay_6 : decode cX7_firstDay 6 = .ok (.iload_n 1, 1) := by decide +kernel
theorem dX7_firstDay_7 : decode cX7_firstDay 7 = .ok (.iconst 0, 1) := by decide +kernel
theorem dX7_firstDay_8 : decode cX7_firstDay 8 = .ok (.iload_n 2, 1) := by decide +kernel
theorem dX7_firstDay_9 : decode cX7_firstDay 9 = .ok (.iload_n 3, 1) := by decide +kernel
theorem dX7_firstDay_10 : decode cX7_firstDay 10 = .ok (.invokevirtual 210, 3) := by decide +kernel
theorem dX7_firstDay_13 : decode cX7_firstDay 13 = .ok (.ireturn, 1) := by decide +kernel
theorem dX7_firstDay_14 : decode cX7_firstDay 14 = .ok (.aload_n 0, 1) := by decide +kernel
theorem dX7_firstDay_15 : decode cX7_firstDay 15 = .ok (.iconst 0, 1) := by decide +kernel
theorem dX7_firstDay_16 : decode cX7_firstDay 16 = .ok (.iconst 1, 1) := by decide +kernel
theorem dX7_firstDay_17 : decode cX7_firstDay 17 = .ok (.invokevirtual 200, 3) := by decide +kernel
theorem dX7_firstDay_20 : decode cX7_firstDay 20 = .ok (.aload_n 0, 1) := by decide +kernel
theorem dX7_firstDay_21 : decode cX7_firstDay 21 = .ok (.iload_n 1, 1) := by decide +kernel
theorem dX7_firstDay_22 : decode cX7_firstDay 22 = .ok (.iconst 1, 1) := by decide +kernel
theorem dX7_firstDay_23 : decode cX7_firstDay 23 = .ok (.iconst 3, 1) := by decide +kernel
theorem dX7_firstDay_24 : decode cX7_firstDay 24 = .ok (.iload_n 3, 1) := by decide +kernel
theorem dX7_firstDay_25 : decode cX7_firstDay 25 = .ok (.invokevirtual 210, 3) := by decide +kernel
theorem dX7_firstDay_28 : decode cX7_firstDay 28 = .ok (.istore 4, 2) := by decide +kernel
theorem dX7_firstDay_30 : decode cX7_firstDay 30 = .ok (.aload_n 0, 1) := by decide +kernel
theorem dX7_firstDay_31 : decode cX7_firstDay 31 = .ok (.iconst 0, 1) := by decide +kernel
theorem dX7_firstDay_32 : decode cX7_firstDay 32 = .ok (.iconst 0, 1) := by decide +kernel
theorem dX7_firstDay_33 : decode cX7_firstDay 33 = .ok (.invokevirtual 200, 3) := by decide +kernel
theorem dX7_firstDay_36 : decode cX7_firstDay 36 = .ok (.aload_n 0, 1) := by decide +kernel
theorem dX7_firstDay_37 : decode cX7_firstDay 37 = .ok (.getfield 41, 3) := by decide +kernel
theorem dX7_firstDay_40 : decode cX7_firstDay 40 = .ok (.iconst 0, 1) := by decide +kernel
theorem dX7_firstDay_41 : decode cX7_firstDay 41 = .ok (.bipush (-9), 2) := by decide +kernel
theorem dX7_firstDay_43 : decode cX7_firstDay 43 = .ok (.iastore, 1) := by decide +kernel
theorem dX7_firstDay_44 : decode cX7_firstDay 44 = .ok (.iload 4, 2) := by decide +kernel
theorem dX7_firstDay_46 : decode cX7_firstDay 46 = .ok (.iload_n 1, 1) := by decide +kernel
theorem dX7_firstDay_47 : decode cX7_firstDay 47 = .ok (.if_icmp .ne 7, 3) := by decide +kernel
theorem dX7_firstDay_50 : decode cX7_firstDay 50 = .ok (.iconst 1, 1) := by decide +kernel
theorem dX7_firstDay_51 : decode cX7_firstDay 51 = .ok (.goto 4, 3) := by decide +kernel
theorem dX7_firstDay_54 : decode cX7_firstDay 54 = .ok (.iconst 0, 1) := by decide +kernel
theorem dX7_firstDay_55 : decode cX7_firstDay 55 = .ok (.iload_n 3, 1) := by decide +kernel
theorem dX7_firstDay_56 : decode cX7_firstDay 56 = .ok (.if_icmp .ne 7, 3) := by decide +kernel
theorem dX7_firstDay_59 : decode cX7_firstDay 59 = .ok (.iconst 1, 1) := by decide +kernel
theorem dX7_firstDay_60 : decode cX7_firstDay 60 = .ok (.goto 4, 3) := by decide +kernel
theorem dX7_firstDay_63 : decode cX7_firstDay 63 = .ok (.iconst 0, 1) := by decide +kernel
theorem dX7_firstDay_64 : decode cX7_firstDay 64 = .ok (.istore 5, 2) := by decide +kernel
theorem dX7_firstDay_66 : decode cX7_firstDay 66 = .ok (.iconst 0, 1) := by decide +kernel
theorem dX7_firstDay_67 : decode cX7_firstDay 67 = .ok (.istore 6, 2) := by decide +kernel
theorem dX7_firstDay_69 : decode cX7_firstDay 69 = .ok (.iload 6, 2) := by decide +kernel
theorem dX7_firstDay_71 : decode cX7_firstDay 71 = .ok (.aload_n 0, 1) := by decide +kernel
theorem dX7_firstDay_72 : decode cX7_firstDay 72 = .ok (.getfield 137, 3) := by decide +kernel
theorem dX7_firstDay_75 : decode cX7_firstDay 75 = .ok (.if_icmp .ge 95, 3) := by decide +kernel
theorem dX7_firstDay_78 : decode cX7_firstDay 78 = .ok (.iload 5, 2) := by decide +kernel
theorem dX7_firstDay_80 : decode cX7_firstDay 80 = .ok (.ifCond .ne 90, 3) := by decide +kernel
theorem dX7_firstDay_83 : decode cX7_firstDay 83 = .ok (.aload_n 0, 1) := by decide +kernel
theorem dX7_firstDay_84 : decode cX7_firstDay 84 = .ok (.iload_n 1, 1) := by decide +kernel
theorem dX7_firstDay_85 : decode cX7_firstDay 85 = .ok (.iconst 0, 1) := by decide +kernel
theorem dX7_firstDay_86 : decode cX7_firstDay 86 = .ok (.iload 6, 2) := by decide +kernel
theorem dX7_firstDay_88 : decode cX7_firstDay 88 = .ok (.invokevirtual 204, 3) := by decide +kernel
theorem dX7_firstDay_91 : decode cX7_firstDay 91 = .ok (.ifCond .eq 73, 3) := by decide +kernel
theorem dX7_firstDay_94 : decode cX7_firstDay 94 = .ok (.aload_n 0, 1) := by decide +kernel
theorem dX7_firstDay_95 : decode cX7_firstDay 95 = .ok (.iload_n 1, 1) := by decide +kernel
theorem dX7_firstDay_96 : decode cX7_firstDay 96 = .ok (.iconst 1, 1) := by decide +kernel
theorem dX7_firstDay_97 : decode cX7_firstDay 97 = .ok (.iconst 3, 1) := by decide +kernel
theorem dX7_firstDay_98 : decode cX7_firstDay 98 = .ok (.iload_n 3, 1) := by decide +kernel
theorem dX7_firstDay_99 : decode cX7_firstDay 99 = .ok (.invokevirtual 210, 3) := by decide +kernel
theorem dX7_firstDay_102 : decode cX7_firstDay 102 = .ok (.istore 7, 2) := by decide +kernel
theorem dX7_firstDay_104 : decode cX7_firstDay 104 = .ok (.aload_n 0, 1) := by decide +kernel
theorem dX7_firstDay_105 : decode cX7_firstDay 105 = .ok (.iconst 0, 1) := by decide +kernel
theorem dX7_firstDay_106 : decode cX7_firstDay 106 = .ok (.iconst 0, 1) := by decide +kernel
theorem dX7_firstDay_107 : decode cX7_firstDay 107 = .ok (.invokevirtual 200, 3) := by decide +kernel
theorem dX7_firstDay_110 : decode cX7_firstDay 110 = .ok (.iload 7, 2) := by decide +kernel
theorem dX7_firstDay_112 : decode cX7_firstDay 112 = .ok (.iload_n 1, 1) := by decide +kernel
theorem dX7_firstDay_113 : decode cX7_firstDay 113 = .ok (.if_icmp .ne 7, 3) := by decide +kernel
theorem dX7_firstDay_116 : decode cX7_firstDay 116 = .ok (.iconst 1, 1) := by decide +kernel
theorem dX7_firstDay_117 : decode cX7_firstDay 117 = .ok (.goto 4, 3) := by decide +kernel
theorem dX7_firstDay_120 : decode cX7_firstDay 120 = .ok (.iconst 0, 1) := by decide +kernel
theorem dX7_firstDay_121 : decode cX7_firstDay 121 = .ok (.iload_n 3, 1) := by decide +kernel
theorem dX7_firstDay_122 : decode cX7_firstDay 122 = .ok (.if_icmp .ne 7, 3) := by decide +kernel
theorem dX7_firstDay_125 : decode cX7_firstDay 125 = .ok (.iconst 1, 1) := by decide +kernel
theorem dX7_firstDay_126 : decode cX7_firstDay 126 = .ok (.goto 4, 3) := by decide +kernel
theorem dX7_firstDay_129 : decode cX7_firstDay 129 = .ok (.iconst 0, 1) := by decide +kernel
theorem dX7_firstDay_130 : decode cX7_firstDay 130 = .ok (.istore 5, 2) := by decide +kernel
theorem dX7_firstDay_132 : decode cX7_firstDay 132 = .ok (.aload_n 0, 1) := by decide +kernel
theorem dX7_firstDay_133 : decode cX7_firstDay 133 = .ok (.getfield 41, 3) := by decide +kernel
theorem dX7_firstDay_136 : decode cX7_firstDay 136 = .ok (.iconst 0, 1) := by decide +kernel
theorem dX7_firstDay_137 : decode cX7_firstDay 137 = .ok (.iload 5, 2) := by decide +kernel
theorem dX7_firstDay_139 : decode cX7_firstDay 139 = .ok (.ifCond .eq 8, 3) := by decide +kernel
theorem dX7_firstDay_142 : decode cX7_firstDay 142 = .ok (.iload 6, 2) := by decide +kernel
theorem dX7_firstDay_144 : decode cX7_firstDay 144 = .ok (.goto 5, 3) := by decide +kernel
theorem dX7_firstDay_147 : decode cX7_firstDay 147 = .ok (.bipush (-9), 2) := by decide +kernel
theorem dX7_firstDay_149 : decode cX7_firstDay 149 = .ok (.iastore, 1) := by decide +kernel
theorem dX7_firstDay_150 : decode cX7_firstDay 150 = .ok (.iload 5, 2) := by decide +kernel
theorem dX7_firstDay_152 : decode cX7_firstDay 152 = .ok (.ifCond .eq 8, 3) := by decide +kernel
theorem dX7_firstDay_155 : decode cX7_firstDay 155 = .ok (.iload 7, 2) := by decide +kernel
theorem dX7_firstDay_157 : decode cX7_firstDay 157 = .ok (.goto 5, 3) := by decide +kernel
theorem dX7_firstDay_160 : decode cX7_firstDay 160 = .ok (.iload 4, 2) := by decide +kernel
theorem dX7_firstDay_162 : decode cX7_firstDay 162 = .ok (.istore 4, 2) := by decide +kernel
theorem dX7_firstDay_164 : decode cX7_firstDay 164 = .ok (.iinc 6 1, 3) := by decide +kernel
theorem dX7_firstDay_167 : decode cX7_firstDay 167 = .ok (.goto (-98), 3) := by decide +kernel
theorem dX7_firstDay_170 : decode cX7_firstDay 170 = .ok (.iload 4, 2) := by decide +kernel
theorem dX7_firstDay_172 : decode cX7_firstDay 172 = .ok (.ireturn, 1) := by decide +kernel
theorem dX7_days_0 : decode cX7_days 0 = .ok (.aload_n 0, 1) := by decide +kernel
theorem dX7_days_1 : decode cX7_days 1 = .ok (.iconst 0, 1) := by decide +kernel
theorem dX7_days_2 : decode cX7_days 2 = .ok (.putfield 51, 3) := by decide +kernel
theorem dX7_days_5 : decode cX7_days 5 = .ok (.iload_n 1, 1) := by decide +kernel
theorem dX7_days_6 : decode cX7_days 6 = .ok (.iconst 1, 1) := by decide +kernel
theorem dX7_days_7 : decode cX7_days 7 = .ok (.iconst 3, 1) := by decide +kernel
theorem dX7_days_8 : decode cX7_days 8 = .ok (.invokestatic 54, 3) := by decide +kernel
theorem dX7_days_11 : decode cX7_days 11 = .ok (.ifCond .eq 30, 3) := by decide +kernel
theorem dX7_days_14 : decode cX7_days 14 = .ok (.aload_n 0, 1) := by decide +kernel
theorem dX7_days_15 : decode cX7_days 15 = .ok (.iload_n 2, 1) := by decide +kernel
theorem dX7_days_16 : decode cX7_days 16 = .ok (.invokevirtual 146, 3) := by decide +kernel
theorem dX7_days_19 : decode cX7_days 19 = .ok (.ifCond .eq 22, 3) := by decide +kernel
theorem dX7_days_22 : decode cX7_days 22 = .ok (.iload_n 3, 1) := by decide +kernel
theorem dX7_days_23 : decode cX7_days 23 = .ok (.iconst 0, 1) := by decide +kernel
theorem dX7_days_24 : decode cX7_days 24 = .ok (.iconst 1, 1) := by decide +kernel
theorem dX7_days_25 : decode cX7_days 25 = .ok (.invokestatic 54, 3) := by decide +kernel
theorem dX7_days_28 : decode cX7_days 28 = .ok (.ifCond .eq 13, 3) := by decide +kernel
theorem dX7_days_31 : decode cX7_days 31 = .ok (.iload 4, 2) := by decide +kernel
theorem dX7_days_33 : decode cX7_days 33 = .ok (.iconst 0, 1) := by decide +kernel
theorem dX7_days_34 : decode cX7_days 34 = .ok (.iconst 1, 1) := by decide +kernel
theorem dX7_days_35 : decode cX7_days 35 = .ok (.invokestatic 54, 3) := by decide +kernel
theorem dX7_days_38 : decode cX7_days 38 = .ok (.ifCond .ne 5, 3) := by decide +kernel
theorem dX7_days_41 : decode cX7_days 41 = .ok (.iconst (-1), 1) := by decide +kernel
theorem dX7_days_42 : decode cX7_days 42 = .ok (.ireturn, 1) := by decide +kernel
theorem dX7_days_43 : decode cX7_days 43 = .ok (.aload_n 0, 1) := by decide +kernel
theorem dX7_days_44 : decode cX7_days 44 = .ok (.iconst 1, 1) := by decide +kernel
theorem dX7_days_45 : decode cX7_days 45 = .ok (.invokevirtual 180, 3) := by decide +kernel
theorem dX7_days_48 : decode cX7_days 48 = .ok (.aload_n 0, 1) := by decide +kernel
theorem dX7_days_49 : decode cX7_days 49 = .ok (.iload_n 2, 1) := by decide +kernel
theorem dX7_days_50 : decode cX7_days 50 = .ok (.iload_n 1, 1) := by decide +kernel
theorem dX7_days_51 : decode cX7_days 51 = .ok (.iload_n 3, 1) := by decide +kernel
theorem dX7_days_52 : decode cX7_days 52 = .ok (.invokevirtual 214, 3) := by decide +kernel
theorem dX7_days_55 : decode cX7_days 55 = .ok (.istore 5, 2) := by decide +kernel
theorem dX7_days_57 : decode cX7_days 57 = .ok (.aload_n 0, 1) := by decide +kernel
theorem dX7_days_58 : decode cX7_days 58 = .ok (.iconst 0, 1) := by decide +kernel
theorem dX7_days_59 : decode cX7_days 59 = .ok (.invokevirtual 180, 3) := by decide +kernel
theorem dX7_days_62 : decode cX7_days 62 = .ok (.iload 4, 2) := by decide +kernel
theorem dX7_days_64 : decode cX7_days 64 = .ok (.ifCond .ne 12, 3) := by decide +kernel
theorem dX7_days_67 : decode cX7_days 67 = .ok (.aload_n 0, 1) := by decide +kernel
theorem dX7_days_68 : decode cX7_days 68 = .ok (.getfield 41, 3) := by decide +kernel
theorem dX7_days_71 : decode cX7_days 71 = .ok (.iconst 0, 1) := by decide +kernel
theorem dX7_days_72 : decode cX7_days 72 = .ok (.iaload, 1) := by decide +kernel
theorem dX7_days_73 : decode cX7_days 73 = .ok (.goto 5, 3) := by decide +kernel
theorem dX7_days_76 : decode cX7_days 76 = .ok (.iload 5, 2) := by decide +kernel
theorem dX7_days_78 : decode cX7_days 78 = .ok (.ireturn, 1) := by decide +kernel
theorem dX7_asks_0 : decode cX7_asks 0 = .ok (.aload_n 0, 1) := by decide +kernel
theorem dX7_asks_1 : decode cX7_asks 1 = .ok (.iconst 0, 1) := by decide +kernel
theorem dX7_asks_2 : decode cX7_asks 2 = .ok (.putfield 51, 3) := by decide +kernel
theorem dX7_asks_5 : decode cX7_asks 5 = .ok (.aload_n 0, 1) := by decide +kernel
theorem dX7_asks_6 : decode cX7_asks 6 = .ok (.iload_n 1, 1) := by decide +kernel
theorem dX7_asks_7 : decode cX7_asks 7 = .ok (.invokevirtual 146, 3) := by decide +kernel
theorem dX7_asks_10 : decode cX7_asks 10 = .ok (.ifCond .eq 13, 3) := by decide +kernel
theorem dX7_asks_13 : decode cX7_asks 13 = .ok (.iload_n 2, 1) := by decide +kernel
theorem dX7_asks_14 : decode cX7_asks 14 = .ok (.iconst 0, 1) := by decide +kernel
theorem dX7_asks_15 : decode cX7_asks 15 = .ok (.bipush 8, 2) := by decide +kernel
theorem dX7_asks_17 : decode cX7_asks 17 = .ok (.invokestatic 54, 3) := by decide +kernel
theorem dX7_asks_20 : decode cX7_asks 20 = .ok (.ifCond .ne 5, 3) := by decide +kernel
theorem dX7_asks_23 : decode cX7_asks 23 = .ok (.iconst (-1), 1) := by decide +kernel
theorem dX7_asks_24 : decode cX7_asks 24 = .ok (.ireturn, 1) := by decide +kernel
theorem dX7_asks_25 : decode cX7_asks 25 = .ok (.iconst 0, 1) := by decide +kernel
theorem dX7_asks_26 : decode cX7_asks 26 = .ok (.istore_n 3, 1) := by decide +kernel
theorem dX7_asks_27 : decode cX7_asks 27 = .ok (.aload_n 0, 1) := by decide +kernel
theorem dX7_asks_28 : decode cX7_asks 28 = .ok (.getfield 137, 3) := by decide +kernel
theorem dX7_asks_31 : decode cX7_asks 31 = .ok (.iconst 1, 1) := by decide +kernel
theorem dX7_asks_32 : decode cX7_asks 32 = .ok (.isub, 1) := by decide +kernel
theorem dX7_asks_33 : decode cX7_asks 33 = .ok (.istore 4, 2) := by decide +kernel
theorem dX7_asks_35 : decode cX7_asks 35 = .ok (.iconst 0, 1) := by decide +kernel
theorem dX7_asks_36 : decode cX7_asks 36 = .ok (.istore 5, 2) := by decide +kernel
theorem dX7_asks_38 : decode cX7_asks 38 = .ok (.iconst 0, 1) := by decide +kernel
theorem dX7_asks_39 : decode cX7_asks 39 = .ok (.istore 6, 2) := by decide +kernel
theorem dX7_asks_41 : decode cX7_asks 41 = .ok (.iload 6, 2) := by decide +kernel
theorem dX7_asks_43 : decode cX7_asks 43 = .ok (.aload_n 0, 1) := by decide +kernel
theorem dX7_asks_44 : decode cX7_asks 44 = .ok (.getfield 137, 3) := by decide +kernel
theorem dX7_asks_47 : decode cX7_asks 47 = .ok (.if_icmp .ge 48, 3) := by decide +kernel
theorem dX7_asks_50 : decode cX7_asks 50 = .ok (.iload 6, 2) := by decide +kernel
theorem dX7_asks_52 : decode cX7_asks 52 = .ok (.iload_n 1, 1) := by decide +kernel
theorem dX7_asks_53 : decode cX7_asks 53 = .ok (.if_icmp .eq 36, 3) := by decide +kernel
theorem dX7_asks_56 : decode cX7_asks 56 = .ok (.iload_n 3, 1) := by decide +kernel
theorem dX7_asks_57 : decode cX7_asks 57 = .ok (.iload_n 2, 1) := by decide +kernel
theorem dX7_asks_58 : decode cX7_asks 58 = .ok (.if_icmp .ge 31, 3) := by decide +kernel
theorem dX7_asks_61 : decode cX7_asks 61 = .ok (.iload_n 3, 1) := by decide +kernel
theorem dX7_asks_62 : decode cX7_asks 62 = .ok (.iload 4, 2) := by decide +kernel
theorem dX7_asks_64 : decode cX7_asks 64 = .ok (.iadd, 1) := by decide +kernel
theorem dX7_asks_65 : decode cX7_asks 65 = .ok (.iload_n 2, 1) := by decide +kernel
theorem dX7_asks_66 : decode cX7_asks 66 = .ok (.if_icmp .lt 23, 3) := by decide +kernel
theorem dX7_asks_69 : decode cX7_asks 69 = .ok (.iload_n 3, 1) := by decide +kernel
theorem dX7_asks_70 : decode cX7_asks 70 = .ok (.aload_n 0, 1) := by decide +kernel
theorem dX7_asks_71 : decode cX7_asks 71 = .ok (.getfield 19, 3) := by decide +kernel
theorem dX7_asks_74 : decode cX7_asks 74 = .ok (.iload 6, 2) := by decide +kernel
theorem dX7_asks_76 : decode cX7_asks 76 = .ok (.iaload, 1) := by decide +kernel
theorem dX7_asks_77 : decode cX7_asks 77 = .ok (.iload_n 1, 1) := by decide +kernel
theorem dX7_asks_78 : decode cX7_asks 78 = .ok (.ishr, 1) := by decide +kernel
theorem dX7_asks_79 : decode cX7_asks 79 = .ok (.iconst 1, 1) := by decide +kernel
theorem dX7_asks_80 : decode cX7_asks 80 = .ok (.iand, 1) := by decide +kernel
theorem dX7_asks_81 : decode cX7_asks 81 = .ok (.iadd, 1) := by decide +kernel
theorem dX7_asks_82 : decode cX7_asks 82 = .ok (.istore_n 3, 1) := by decide +kernel
theorem dX7_asks_83 : decode cX7_asks 83 = .ok (.iinc 4 (-1), 3) := by decide +kernel
theorem dX7_asks_86 : decode cX7_asks 86 = .ok (.iinc 5 1, 3) := by decide +kernel
theorem dX7_asks_89 : decode cX7_asks 89 = .ok (.iinc 6 1, 3) := by decide +kernel
theorem dX7_asks_92 : decode cX7_asks 92 = .ok (.goto (-51), 3) := by decide +kernel
theorem dX7_asks_95 : decode cX7_asks 95 = .ok (.iload 5, 2) := by decide +kernel
theorem dX7_asks_97 : decode cX7_asks 97 = .ok (.ireturn, 1) := by decide +kernel
theorem dX7_isParty_0 : decode cX7_isParty 0 = .ok (.iconst 1, 1) := by decide +kernel
theorem dX7_isParty_1 : decode cX7_isParty 1 = .ok (.istore_n 2, 1) := by decide +kernel
theorem dX7_isParty_2 : decode cX7_isParty 2 = .ok (.iconst 0, 1) := by decide +kernel
theorem dX7_isParty_3 : decode cX7_isParty 3 = .ok (.istore_n 3, 1) := by decide +kernel
theorem dX7_isParty_4 : decode cX7_isParty 4 = .ok (.iload_n 3, 1) := by decide +kernel
theorem dX7_isParty_5 : decode cX7_isParty 5 = .ok (.aload_n 0, 1) := by decide +kernel
theorem dX7_isParty_6 : decode cX7_isParty 6 = .ok (.getfield 137, 3) := by decide +kernel
theorem dX7_isParty_9 : decode cX7_isParty 9 = .ok (.if_icmp .ge 70, 3) := by decide +kernel
theorem dX7_isParty_12 : decode cX7_isParty 12 = .ok (.iconst 0, 1) := by decide +kernel
theorem dX7_isParty_13 : decode cX7_isParty 13 = .ok (.istore 4, 2) := by decide +kernel
theorem dX7_isParty_15 : decode cX7_isParty 15 = .ok (.iload 4, 2) := by decide +kernel
theorem dX7_isParty_17 : decode cX7_isParty 17 = .ok (.aload_n 0, 1) := by decide +kernel
theorem dX7_isParty_18 : decode cX7_isParty 18 = .ok (.getfield 137, 3) := by decide +kernel
theorem dX7_isParty_21 : decode cX7_isParty 21 = .ok (.if_icmp .ge 52, 3) := by decide +kernel
theorem dX7_isParty_24 : decode cX7_isParty 24 = .ok (.iload_n 2, 1) := by decide +kernel
theorem dX7_isParty_25 : decode cX7_isParty 25 = .ok (.ifCond .eq 40, 3) := by decide +kernel
theorem dX7_isParty_28 : decode cX7_isParty 28 = .ok (.iload_n 1, 1) := by decide +kernel
theorem dX7_isParty_29 : decode cX7_isParty 29 = .ok (.iload_n 3, 1) := by decide +kernel
theorem dX7_isParty_30 : decode cX7_isParty 30 = .ok (.ishr, 1) := by decide +kernel
theorem dX7_isParty_31 : decode cX7_isParty 31 = .ok (.iconst 1, 1) := by decide +kernel
theorem dX7_isParty_32 : decode cX7_isParty 32 = .ok (.iand, 1) := by decide +kernel
theorem dX7_isParty_33 : decode cX7_isParty 33 = .ok (.ifCond .eq 28, 3) := by decide +kernel
theorem dX7_isParty_36 : decode cX7_isParty 36 = .ok (.iload_n 1, 1) := by decide +kernel
theorem dX7_isParty_37 : decode cX7_isParty 37 = .ok (.iload 4, 2) := by decide +kernel
theorem dX7_isParty_39 : decode cX7_isParty 39 = .ok (.ishr, 1) := by decide +kernel
theorem dX7_isParty_40 : decode cX7_isParty 40 = .ok (.iconst 1, 1) := by decide +kernel
theorem dX7_isParty_41 : decode cX7_isParty 41 = .ok (.iand, 1) := by decide +kernel
theorem dX7_isParty_42 : decode cX7_isParty 42 = .ok (.ifCond .eq 19, 3) := by decide +kernel
theorem dX7_isParty_45 : decode cX7_isParty 45 = .ok (.iload_n 3, 1) := by decide +kernel
theorem dX7_isParty_46 : decode cX7_isParty 46 = .ok (.iload 4, 2) := by decide +kernel
theorem dX7_isParty_48 : decode cX7_isParty 48 = .ok (.if_icmp .eq 13, 3) := by decide +kernel
theorem dX7_isParty_51 : decode cX7_isParty 51 = .ok (.aload_n 0, 1) := by decide +kernel
theorem dX7_isParty_52 : decode cX7_isParty 52 = .ok (.iload_n 3, 1) := by decide +kernel
theorem dX7_isParty_53 : decode cX7_isParty 53 = .ok (.iload 4, 2) := by decide +kernel
theorem dX7_isParty_55 : decode cX7_isParty 55 = .ok (.invokevirtual 154, 3) := by decide +kernel
theorem dX7_isParty_58 : decode cX7_isParty 58 = .ok (.ifCond .eq 7, 3) := by decide +kernel
theorem dX7_isParty_61 : decode cX7_isParty 61 = .ok (.iconst 1, 1) := by decide +kernel
theorem dX7_isParty_62 : decode cX7_isParty 62 = .ok (.goto 4, 3) := by decide +kernel
theorem dX7_isParty_65 : decode cX7_isParty 65 = .ok (.iconst 0, 1) := by decide +kernel
theorem dX7_isParty_66 : decode cX7_isParty 66 = .ok (.istore_n 2, 1) := by decide +kernel
theorem dX7_isParty_67 : decode cX7_isParty 67 = .ok (.iinc 4 1, 3) := by decide +kernel
theorem dX7_isParty_70 : decode cX7_isParty 70 = .ok (.goto (-55), 3) := by decide +kernel
theorem dX7_isParty_73 : decode cX7_isParty 73 = .ok (.iinc 3 1, 3) := by decide +kernel
theorem dX7_isParty_76 : decode cX7_isParty 76 = .ok (.goto (-72), 3) := by decide +kernel
theorem dX7_isParty_79 : decode cX7_isParty 79 = .ok (.iload_n 2, 1) := by decide +kernel
theorem dX7_isParty_80 : decode cX7_isParty 80 = .ok (.ireturn, 1) := by decide +kernel
theorem dX7_party_0 : decode cX7_party 0 = .ok (.aload_n 0, 1) := by decide +kernel
theorem dX7_party_1 : decode cX7_party 1 = .ok (.iconst 0, 1) := by decide +kernel
theorem dX7_party_2 : decode cX7_party 2 = .ok (.putfield 51, 3) := by decide +kernel
theorem dX7_party_5 : decode cX7_party 5 = .ok (.aload_n 0, 1) := by decide +kernel
theorem dX7_party_6 : decode cX7_party 6 = .ok (.iload_n 1, 1) := by decide +kernel
theorem dX7_party_7 : decode cX7_party 7 = .ok (.invokevirtual 217, 3) := by decide +kernel
theorem dX7_party_10 : decode cX7_party 10 = .ok (.ifCond .eq 7, 3) := by decide +kernel
theorem dX7_party_13 : decode cX7_party 13 = .ok (.iconst 1, 1) := by decide +kernel
theorem dX7_party_14 : decode cX7_party 14 = .ok (.goto 4, 3) := by decide +kernel
theorem dX7_party_17 : decode cX7_party 17 = .ok (.iconst 0, 1) := by decide +kernel
theorem dX7_party_18 : decode cX7_party 18 = .ok (.ireturn, 1) := by decide +kernel
theorem dX7_parties_0 : decode cX7_parties 0 = .ok (.aload_n 0, 1) := by decide +kernel
theorem dX7_parties_1 : decode cX7_parties 1 = .ok (.iconst 0, 1) := by decide +kernel
theorem dX7_parties_2 : decode cX7_parties 2 = .ok (.putfield 51, 3) := by decide +kernel
theorem dX7_parties_5 : decode cX7_parties 5 = .ok (.iload_n 1, 1) := by decide +kernel
theorem dX7_parties_6 : decode cX7_parties 6 = .ok (.iconst 0, 1) := by decide +kernel
theorem dX7_parties_7 : decode cX7_parties 7 = .ok (.iconst 1, 1) := by decide +kernel
theorem dX7_parties_8 : decode cX7_parties 8 = .ok (.invokestatic 54, 3) := by decide +kernel
theorem dX7_parties_11 : decode cX7_parties 11 = .ok (.ifCond .ne 5, 3) := by decide +kernel
theorem dX7_parties_14 : decode cX7_parties 14 = .ok (.iconst (-1), 1) := by decide +kernel
theorem dX7_parties_15 : decode cX7_parties 15 = .ok (.ireturn, 1) := by decide +kernel
theorem dX7_parties_16 : decode cX7_parties 16 = .ok (.iconst 0, 1) := by decide +kernel
theorem dX7_parties_17 : decode cX7_parties 17 = .ok (.istore_n 2, 1) := by decide +kernel
theorem dX7_parties_18 : decode cX7_parties 18 = .ok (.iconst 0, 1) := by decide +kernel
theorem dX7_parties_19 : decode cX7_parties 19 = .ok (.istore_n 3, 1) := by decide +kernel
theorem dX7_parties_20 : decode cX7_parties 20 = .ok (.iconst 0, 1) := by decide +kernel
theorem dX7_parties_21 : decode cX7_parties 21 = .ok (.istore 4, 2) := by decide +kernel
theorem dX7_parties_23 : decode cX7_parties 23 = .ok (.iload 4, 2) := by decide +kernel
theorem dX7_parties_25 : decode cX7_parties 25 = .ok (.iconst 1, 1) := by decide +kernel
theorem dX7_parties_26 : decode cX7_parties 26 = .ok (.aload_n 0, 1) := by decide +kernel
theorem dX7_parties_27 : decode cX7_parties 27 = .ok (.getfield 137, 3) := by decide +kernel
theorem dX7_parties_30 : decode cX7_parties 30 = .ok (.ishl, 1) := by decide +kernel
theorem dX7_parties_31 : decode cX7_parties 31 = .ok (.if_icmp .ge 49, 3) := by decide +kernel
theorem dX7_parties_34 : decode cX7_parties 34 = .ok (.iload 4, 2) := by decide +kernel
theorem dX7_parties_36 : decode cX7_parties 36 = .ok (.invokestatic 161, 3) := by decide +kernel
theorem dX7_parties_39 : decode cX7_parties 39 = .ok (.iconst 1, 1) := by decide +kernel
theorem dX7_parties_40 : decode cX7_parties 40 = .ok (.if_icmp .le 34, 3) := by decide +kernel
theorem dX7_parties_43 : decode cX7_parties 43 = .ok (.aload_n 0, 1) := by decide +kernel
theorem dX7_parties_44 : decode cX7_parties 44 = .ok (.iload 4, 2) := by decide +kernel
theorem dX7_parties_46 : decode cX7_parties 46 = .ok (.invokevirtual 217, 3) := by decide +kernel
theorem dX7_parties_49 : decode cX7_parties 49 = .ok (.ifCond .eq 25, 3) := by decide +kernel
theorem dX7_parties_52 : decode cX7_parties 52 = .ok (.iinc 2 1, 3) := by decide +kernel
theorem dX7_parties_55 : decode cX7_parties 55 = .ok (.iload 4, 2) := by decide +kernel
theorem dX7_parties_57 : decode cX7_parties 57 = .ok (.invokestatic 161, 3) := by decide +kernel
theorem dX7_parties_60 : decode cX7_parties 60 = .ok (.iload_n 3, 1) := by decide +kernel
theorem dX7_parties_61 : decode cX7_parties 61 = .ok (.invokestatic 161, 3) := by decide +kernel
theorem dX7_parties_64 : decode cX7_parties 64 = .ok (.if_icmp .le 8, 3) := by decide +kernel
theorem dX7_parties_67 : decode cX7_parties 67 = .ok (.iload 4, 2) := by decide +kernel
theorem dX7_parties_69 : decode cX7_parties 69 = .ok (.goto 4, 3) := by decide +kernel
theorem dX7_parties_72 : decode cX7_parties 72 = .ok (.iload_n 3, 1) := by decide +kernel
theorem dX7_parties_73 : decode cX7_parties 73 = .ok (.istore_n 3, 1) := by decide +kernel
theorem dX7_parties_74 : decode cX7_parties 74 = .ok (.iinc 4 1, 3) := by decide +kernel
theorem dX7_parties_77 : decode cX7_parties 77 = .ok (.goto (-54), 3) := by decide +kernel
theorem dX7_parties_80 : decode cX7_parties 80 = .ok (.iload_n 1, 1) := by decide +kernel
theorem dX7_parties_81 : decode cX7_parties 81 = .ok (.ifCond .ne 7, 3) := by decide +kernel
theorem dX7_parties_84 : decode cX7_parties 84 = .ok (.iload_n 2, 1) := by decide +kernel
theorem dX7_parties_85 : decode cX7_parties 85 = .ok (.goto 4, 3) := by decide +kernel
theorem dX7_parties_88 : decode cX7_parties 88 = .ok (.iload_n 3, 1) := by decide +kernel
theorem dX7_parties_89 : decode cX7_parties 89 = .ok (.ireturn, 1) := by decide +kernel
theorem dX7_rate_0 : decode cX7_rate 0 = .ok (.aload_n 0, 1) := by decide +kernel
theorem dX7_rate_1 : decode cX7_rate 1 = .ok (.iconst 0, 1) := by decide +kernel
theorem dX7_rate_2 : decode cX7_rate 2 = .ok (.putfield 51, 3) := by decide +kernel
theorem dX7_rate_5 : decode cX7_rate 5 = .ok (.iload_n 1, 1) := by decide +kernel
theorem dX7_rate_6 : decode cX7_rate 6 = .ok (.iconst 0, 1) := by decide +kernel
theorem dX7_rate_7 : decode cX7_rate 7 = .ok (.iconst 5, 1) := by decide +kernel
theorem dX7_rate_8 : decode cX7_rate 8 = .ok (.invokestatic 54, 3) := by decide +kernel
theorem dX7_rate_11 : decode cX7_rate 11 = .ok (.ifCond .eq 11, 3) := by decide +kernel
theorem dX7_rate_14 : decode cX7_rate 14 = .ok (.aload_n 0, 1) := by decide +kernel
theorem dX7_rate_15 : decode cX7_rate 15 = .ok (.iload_n 2, 1) := by decide +kernel
theorem dX7_rate_16 : decode cX7_rate 16 = .ok (.invokevirtual 146, 3) := by decide +kernel
theorem dX7_rate_19 : decode cX7_rate 19 = .ok (.ifCond .ne 6, 3) := by decide +kernel
theorem dX7_rate_22 : decode cX7_rate 22 = .ok (.ldc 157, 2) := by decide +kernel
theorem dX7_rate_24 : decode cX7_rate 24 = .ok (.ireturn, 1) := by decide +kernel
theorem dX7_rate_25 : decode cX7_rate 25 = .ok (.aload_n 0, 1) := by decide +kernel
theorem dX7_rate_26 : decode cX7_rate 26 = .ok (.iload_n 2, 1) := by decide +kernel
theorem dX7_rate_27 : decode cX7_rate 27 = .ok (.invokevirtual 158, 3) := by decide +kernel
theorem dX7_rate_30 : decode cX7_rate 30 = .ok (.istore_n 3, 1) := by decide +kernel
theorem dX7_rate_31 : decode cX7_rate 31 = .ok (.iload_n 3, 1) := by decide +kernel
theorem dX7_rate_32 : decode cX7_rate 32 = .ok (.aload_n 0, 1) := by decide +kernel
theorem dX7_rate_33 : decode cX7_rate 33 = .ok (.getfield 19, 3) := by decide +kernel
theorem dX7_rate_36 : decode cX7_rate 36 = .ok (.iload_n 2, 1) := by decide +kernel
theorem dX7_rate_37 : decode cX7_rate 37 = .ok (.iaload, 1) := by decide +kernel
theorem dX7_rate_38 : decode cX7_rate 38 = .ok (.invokestatic 161, 3) := by decide +kernel
theorem dX7_rate_41 : decode cX7_rate 41 = .ok (.isub, 1) := by decide +kernel
theorem dX7_rate_42 : decode cX7_rate 42 = .ok (.istore 4, 2) := by decide +kernel
theorem dX7_rate_44 : decode cX7_rate 44 = .ok (.iload_n 3, 1) := by decide +kernel
theorem dX7_rate_45 : decode cX7_rate 45 = .ok (.aload_n 0, 1) := by decide +kernel
theorem dX7_rate_46 : decode cX7_rate 46 = .ok (.getfield 19, 3) := by decide +kernel
theorem dX7_rate_49 : decode cX7_rate 49 = .ok (.bipush 73, 2) := by decide +kernel
theorem dX7_rate_51 : decode cX7_rate 51 = .ok (.iload_n 2, 1) := by decide +kernel
theorem dX7_rate_52 : decode cX7_rate 52 = .ok (.iadd, 1) := by decide +kernel
theorem dX7_rate_53 : decode cX7_rate 53 = .ok (.iaload, 1) := by decide +kernel
theorem dX7_rate_54 : decode cX7_rate 54 = .ok (.iadd, 1) := by decide +kernel
theorem dX7_rate_55 : decode cX7_rate 55 = .ok (.istore 5, 2) := by decide +kernel
theorem dX7_rate_57 : decode cX7_rate 57 = .ok (.aload_n 0, 1) := by decide +kernel
theorem dX7_rate_58 : decode cX7_rate 58 = .ok (.dup, 1) := by decide +kernel
theorem dX7_rate_59 : decode cX7_rate 59 = .ok (.getfield 220, 3) := by decide +kernel
theorem dX7_rate_62 : decode cX7_rate 62 = .ok (.iload_n 1, 1) := by decide +kernel
theorem dX7_rate_63 : decode cX7_rate 63 = .ok (.ifCond .ne 7, 3) := by decide +kernel
theorem dX7_rate_66 : decode cX7_rate 66 = .ok (.lconst 1, 1) := by decide +kernel
theorem dX7_rate_67 : decode cX7_rate 67 = .ok (.goto 50, 3) := by decide +kernel
theorem dX7_rate_70 : decode cX7_rate 70 = .ok (.iload_n 1, 1) := by decide +kernel
theorem dX7_rate_71 : decode cX7_rate 71 = .ok (.iconst 1, 1) := by decide +kernel
theorem dX7_rate_72 : decode cX7_rate 72 = .ok (.if_icmp .ne 9, 3) := by decide +kernel
theorem dX7_rate_75 : decode cX7_rate 75 = .ok (.ldc2_w 224, 3) := by decide +kernel
theorem dX7_rate_78 : decode cX7_rate 78 = .ok (.goto 39, 3) := by decide +kernel
theorem dX7_rate_81 : decode cX7_rate 81 = .ok (.iload_n 1, 1) := by decide +kernel
theorem dX7_rate_82 : decode cX7_rate 82 = .ok (.iconst 2, 1) := by decide +kernel
theorem dX7_rate_83 : decode cX7_rate 83 = .ok (.if_icmp .ne 9, 3) := by decide +kernel
theorem dX7_rate_86 : decode cX7_rate 86 = .ok (.ldc2_w 226, 3) := by decide +kernel
theorem dX7_rate_89 : decode cX7_rate 89 = .ok (.goto 28, 3) := by decide +kernel
theorem dX7_rate_92 : decode cX7_rate 92 = .ok (.iload_n 1, 1) := by decide +kernel
theorem dX7_rate_93 : decode cX7_rate 93 = .ok (.iconst 3, 1) := by decide +kernel
theorem dX7_rate_94 : decode cX7_rate 94 = .ok (.if_icmp .ne 9, 3) := by decide +kernel
theorem dX7_rate_97 : decode cX7_rate 97 = .ok (.ldc2_w 228, 3) := by decide +kernel
theorem dX7_rate_100 : decode cX7_rate 100 = .ok (.goto 17, 3) := by decide +kernel
theorem dX7_rate_103 : decode cX7_rate 103 = .ok (.iload_n 1, 1) := by decide +kernel
theorem dX7_rate_104 : decode cX7_rate 104 = .ok (.iconst 4, 1) := by decide +kernel
theorem dX7_rate_105 : decode cX7_rate 105 = .ok (.if_icmp .ne 9, 3) := by decide +kernel
theorem dX7_rate_108 : decode cX7_rate 108 = .ok (.ldc2_w 230, 3) := by decide +kernel
theorem dX7_rate_111 : decode cX7_rate 111 = .ok (.goto 6, 3) := by decide +kernel
theorem dX7_rate_114 : decode cX7_rate 114 = .ok (.ldc2_w 232, 3) := by decide +kernel
theorem dX7_rate_117 : decode cX7_rate 117 = .ok (.ladd, 1) := by decide +kernel
theorem dX7_rate_118 : decode cX7_rate 118 = .ok (.putfield 220, 3) := by decide +kernel
theorem dX7_rate_121 : decode cX7_rate 121 = .ok (.iload_n 1, 1) := by decide +kernel
theorem dX7_rate_122 : decode cX7_rate 122 = .ok (.ifCond .ne 7, 3) := by decide +kernel
theorem dX7_rate_125 : decode cX7_rate 125 = .ok (.iload_n 3, 1) := by decide +kernel
theorem dX7_rate_126 : decode cX7_rate 126 = .ok (.goto 56, 3) := by decide +kernel
theorem dX7_rate_129 : decode cX7_rate 129 = .ok (.iload_n 1, 1) := by decide +kernel
theorem dX7_rate_130 : decode cX7_rate 130 = .ok (.iconst 1, 1) := by decide +kernel
theorem dX7_rate_131 : decode cX7_rate 131 = .ok (.if_icmp .ne 8, 3) := by decide +kernel
theorem dX7_rate_134 : decode cX7_rate 134 = .ok (.iload 4, 2) := by decide +kernel
theorem dX7_rate_136 : decode cX7_rate 136 = .ok (.goto 46, 3) := by decide +kernel
theorem dX7_rate_139 : decode cX7_rate 139 = .ok (.iload_n 1, 1) := by decide +kernel
theorem dX7_rate_140 : decode cX7_rate 140 = .ok (.iconst 2, 1) := by decide +kernel
theorem dX7_rate_141 : decode cX7_rate 141 = .ok (.if_icmp .ne 8, 3) := by decide +kernel
theorem dX7_rate_144 : decode cX7_rate 144 = .ok (.iload 5, 2) := by decide +kernel
theorem dX7_rate_146 : decode cX7_rate 146 = .ok (.goto 36, 3) := by decide +kernel
theorem dX7_rate_149 : decode cX7_rate 149 = .ok (.iload_n 1, 1) := by decide +kernel
theorem dX7_rate_150 : decode cX7_rate 150 = .ok (.iconst 3, 1) := by decide +kernel
theorem dX7_rate_151 : decode cX7_rate 151 = .ok (.if_icmp .ne 10, 3) := by decide +kernel
theorem dX7_rate_154 : decode cX7_rate 154 = .ok (.iconst 2, 1) := by decide +kernel
theorem dX7_rate_155 : decode cX7_rate 155 = .ok (.iload 5, 2) := by decide +kernel
theorem dX7_rate_157 : decode cX7_rate 157 = .ok (.imul, 1) := by decide +kernel
theorem dX7_rate_158 : decode cX7_rate 158 = .ok (.goto 24, 3) := by decide +kernel
theorem dX7_rate_161 : decode cX7_rate 161 = .ok (.iload_n 1, 1) := by decide +kernel
theorem dX7_rate_162 : decode cX7_rate 162 = .ok (.iconst 4, 1) := by decide +kernel
theorem dX7_rate_163 : decode cX7_rate 163 = .ok (.if_icmp .ne 10, 3) := by decide +kernel
theorem dX7_rate_166 : decode cX7_rate 166 = .ok (.iload 4, 2) := by decide +kernel
theorem dX7_rate_168 : decode cX7_rate 168 = .ok (.iload_n 2, 1) := by decide +kernel
theorem dX7_rate_169 : decode cX7_rate 169 = .ok (.iadd, 1) := by decide +kernel
theorem dX7_rate_170 : decode cX7_rate 170 = .ok (.goto 12, 3) := by decide +kernel
theorem dX7_rate_173 : decode cX7_rate 173 = .ok (.iload_n 3, 1) := by decide +kernel
theorem dX7_rate_174 : decode cX7_rate 174 = .ok (.aload_n 0, 1) := by decide +kernel
theorem dX7_rate_175 : decode cX7_rate 175 = .ok (.getfield 19, 3) := by decide +kernel
theorem dX7_rate_178 : decode cX7_rate 178 = .ok (.bipush 72, 2) := by decide +kernel
theorem dX7_rate_180 : decode cX7_rate 180 = .ok (.iaload, 1) := by decide +kernel
theorem dX7_rate_181 : decode cX7_rate 181 = .ok (.isub, 1) := by decide +kernel
theorem dX7_rate_182 : decode cX7_rate 182 = .ok (.ireturn, 1) := by decide +kernel
theorem dX7_keep_0 : decode cX7_keep 0 = .ok (.aload_n 0, 1) := by decide +kernel
theorem dX7_keep_1 : decode cX7_keep 1 = .ok (.iconst 0, 1) := by decide +kernel
theorem dX7_keep_2 : decode cX7_keep 2 = .ok (.putfield 51, 3) := by decide +kernel
theorem dX7_keep_5 : decode cX7_keep 5 = .ok (.iload_n 1, 1) := by decide +kernel
theorem dX7_keep_6 : decode cX7_keep 6 = .ok (.iconst 0, 1) := by decide +kernel
theorem dX7_keep_7 : decode cX7_keep 7 = .ok (.iconst 1, 1) := by decide +kernel
theorem dX7_keep_8 : decode cX7_keep 8 = .ok (.invokestatic 54, 3) := by decide +kernel
theorem dX7_keep_11 : decode cX7_keep 11 = .ok (.ifCond .ne 5, 3) := by decide +kernel
theorem dX7_keep_14 : decode cX7_keep 14 = .ok (.iconst (-1), 1) := by decide +kernel
theorem dX7_keep_15 : decode cX7_keep 15 = .ok (.ireturn, 1) := by decide +kernel
theorem dX7_keep_16 : decode cX7_keep 16 = .ok (.iconst 0, 1) := by decide +kernel
theorem dX7_keep_17 : decode cX7_keep 17 = .ok (.istore_n 2, 1) := by decide +kernel
theorem dX7_keep_18 : decode cX7_keep 18 = .ok (.iload_n 2, 1) := by decide +kernel
theorem dX7_keep_19 : decode cX7_keep 19 = .ok (.bipush 82, 2) := by decide +kernel
theorem dX7_keep_21 : decode cX7_keep 21 = .ok (.if_icmp .ge 26, 3) := by decide +kernel
theorem dX7_keep_24 : decode cX7_keep 24 = .ok (.aload_n 0, 1) := by decide +kernel
theorem dX7_keep_25 : decode cX7_keep 25 = .ok (.getfield 25, 3) := by decide +kernel
theorem dX7_keep_28 : decode cX7_keep 28 = .ok (.bipush 82, 2) := by decide +kernel
theorem dX7_keep_30 : decode cX7_keep 30 = .ok (.iload_n 1, 1) := by decide +kernel
theorem dX7_keep_31 : decode cX7_keep 31 = .ok (.imul, 1) := by decide +kernel
theorem dX7_keep_32 : decode cX7_keep 32 = .ok (.iload_n 2, 1) := by decide +kernel
theorem dX7_keep_33 : decode cX7_keep 33 = .ok (.iadd, 1) := by decide +kernel
theorem dX7_keep_34 : decode cX7_keep 34 = .ok (.aload_n 0, 1) := by decide +kernel
theorem dX7_keep_35 : decode cX7_keep 35 = .ok (.getfield 19, 3) := by decide +kernel
theorem dX7_keep_38 : decode cX7_keep 38 = .ok (.iload_n 2, 1) := by decide +kernel
theorem dX7_keep_39 : decode cX7_keep 39 = .ok (.iaload, 1) := by decide +kernel
theorem dX7_keep_40 : decode cX7_keep 40 = .ok (.iastore, 1) := by decide +kernel
theorem dX7_keep_41 : decode cX7_keep 41 = .ok (.iinc 2 1, 3) := by decide +kernel
theorem dX7_keep_44 : decode cX7_keep 44 = .ok (.goto (-26), 3) := by decide +kernel
theorem dX7_keep_47 : decode cX7_keep 47 = .ok (.aload_n 0, 1) := by decide +kernel
theorem dX7_keep_48 : decode cX7_keep 48 = .ok (.getfield 28, 3) := by decide +kernel
theorem dX7_keep_51 : decode cX7_keep 51 = .ok (.iload_n 1, 1) := by decide +kernel
theorem dX7_keep_52 : decode cX7_keep 52 = .ok (.iconst 1, 1) := by decide +kernel
theorem dX7_keep_53 : decode cX7_keep 53 = .ok (.bastore, 1) := by decide +kernel
theorem dX7_keep_54 : decode cX7_keep 54 = .ok (.aload_n 0, 1) := by decide +kernel
theorem dX7_keep_55 : decode cX7_keep 55 = .ok (.getfield 19, 3) := by decide +kernel
theorem dX7_keep_58 : decode cX7_keep 58 = .ok (.bipush 72, 2) := by decide +kernel
theorem dX7_keep_60 : decode cX7_keep 60 = .ok (.iaload, 1) := by decide +kernel
theorem dX7_keep_61 : decode cX7_keep 61 = .ok (.ireturn, 1) := by decide +kernel
theorem dX7_back_0 : decode cX7_back 0 = .ok (.aload_n 0, 1) := by decide +kernel
theorem dX7_back_1 : decode cX7_back 1 = .ok (.iconst 0, 1) := by decide +kernel
theorem dX7_back_2 : decode cX7_back 2 = .ok (.putfield 51, 3) := by decide +kernel
theorem dX7_back_5 : decode cX7_back 5 = .ok (.iload_n 1, 1) := by decide +kernel
theorem dX7_back_6 : decode cX7_back 6 = .ok (.iconst 0, 1) := by decide +kernel
theorem dX7_back_7 : decode cX7_back 7 = .ok (.iconst 1, 1) := by decide +kernel
theorem dX7_back_8 : decode cX7_back 8 = .ok (.invokestatic 54, 3) := by decide +kernel
theorem dX7_back_11 : decode cX7_back 11 = .ok (.ifCond .ne 5, 3) := by decide +kernel
theorem dX7_back_14 : decode cX7_back 14 = .ok (.iconst (-1), 1) := by decide +kernel
theorem dX7_back_15 : decode cX7_back 15 = .ok (.ireturn, 1) := by decide +kernel
theorem dX7_back_16 : decode cX7_back 16 = .ok (.aload_n 0, 1) := by decide +kernel
theorem dX7_back_17 : decode cX7_back 17 = .ok (.getfield 28, 3) := by decide +kernel
theorem dX7_back_20 : decode cX7_back 20 = .ok (.iload_n 1, 1) := by decide +kernel
theorem dX7_back_21 : decode cX7_back 21 = .ok (.baload, 1) := by decide +kernel
theorem dX7_back_22 : decode cX7_back 22 = .ok (.ifCond .ne 6, 3) := by decide +kernel
theorem dX7_back_25 : decode cX7_back 25 = .ok (.bipush (-2), 2) := by decide +kernel
theorem dX7_back_27 : decode cX7_back 27 = .ok (.ireturn, 1) := by decide +kernel
theorem dX7_back_28 : decode cX7_back 28 = .ok (.iconst 0, 1) := by decide +kernel
theorem dX7_back_29 : decode cX7_back 29 = .ok (.istore_n 2, 1) := by decide +kernel
theorem dX7_back_30 : decode cX7_back 30 = .ok (.iload_n 2, 1) := by decide +kernel
theorem dX7_back_31 : decode cX7_back 31 = .ok (.bipush 82, 2) := by decide +kernel
theorem dX7_back_33 : decode cX7_back 33 = .ok (.if_icmp .ge 26, 3) := by decide +kernel
theorem dX7_back_36 : decode cX7_back 36 = .ok (.aload_n 0, 1) := by decide +kernel
theorem dX7_back_37 : decode cX7_back 37 = .ok (.getfield 19, 3) := by decide +kernel
theorem dX7_back_40 : decode cX7_back 40 = .ok (.iload_n 2, 1) := by decide +kernel
theorem dX7_back_41 : decode cX7_back 41 = .ok (.aload_n 0, 1) := by decide +kernel
theorem dX7_back_42 : decode cX7_back 42 = .ok (.getfield 25, 3) := by decide +kernel
theorem dX7_back_45 : decode cX7_back 45 = .ok (.bipush 82, 2) := by decide +kernel
theorem dX7_back_47 : decode cX7_back 47 = .ok (.iload_n 1, 1) := by decide +kernel
theorem dX7_back_48 : decode cX7_back 48 = .ok (.imul, 1) := by decide +kernel
theorem dX7_back_49 : decode cX7_back 49 = .ok (.iload_n 2, 1) := by decide +kernel
theorem dX7_back_50 : decode cX7_back 50 = .ok (.iadd, 1) := by decide +kernel
theorem dX7_back_51 : decode cX7_back 51 = .ok (.iaload, 1) := by decide +kernel
theorem dX7_back_52 : decode cX7_back 52 = .ok (.iastore, 1) := by decide +kernel
theorem dX7_back_53 : decode cX7_back 53 = .ok (.iinc 2 1, 3) := by decide +kernel
theorem dX7_back_56 : decode cX7_back 56 = .ok (.goto (-26), 3) := by decide +kernel
theorem dX7_back_59 : decode cX7_back 59 = .ok (.aload_n 0, 1) := by decide +kernel
theorem dX7_back_60 : decode cX7_back 60 = .ok (.getfield 19, 3) := by decide +kernel
theorem dX7_back_63 : decode cX7_back 63 = .ok (.bipush 72, 2) := by decide +kernel
theorem dX7_back_65 : decode cX7_back 65 = .ok (.iaload, 1) := by decide +kernel
theorem dX7_back_66 : decode cX7_back 66 = .ok (.ireturn, 1) := by decide +kernel
theorem dX7_count_0 : decode cX7_count 0 = .ok (.aload_n 0, 1) := by decide +kernel
theorem dX7_count_1 : decode cX7_count 1 = .ok (.iconst 0, 1) := by decide +kernel
theorem dX7_count_2 : decode cX7_count 2 = .ok (.putfield 51, 3) := by decide +kernel
theorem dX7_count_5 : decode cX7_count 5 = .ok (.iconst 0, 1) := by decide +kernel
theorem dX7_count_6 : decode cX7_count 6 = .ok (.istore_n 2, 1) := by decide +kernel
theorem dX7_count_7 : decode cX7_count 7 = .ok (.iconst 0, 1) := by decide +kernel
theorem dX7_count_8 : decode cX7_count 8 = .ok (.istore_n 3, 1) := by decide +kernel
theorem dX7_count_9 : decode cX7_count 9 = .ok (.iload_n 3, 1) := by decide +kernel
theorem dX7_count_10 : decode cX7_count 10 = .ok (.aload_n 0, 1) := by decide +kernel
theorem dX7_count_11 : decode cX7_count 11 = .ok (.getfield 137, 3) := by decide +kernel
theorem dX7_count_14 : decode cX7_count 14 = .ok (.if_icmp .ge 28, 3) := by decide +kernel
theorem dX7_count_17 : decode cX7_count 17 = .ok (.iload_n 2, 1) := by decide +kernel
theorem dX7_count_18 : decode cX7_count 18 = .ok (.aload_n 0, 1) := by decide +kernel
theorem dX7_count_19 : decode cX7_count 19 = .ok (.getfield 16, 3) := by decide +kernel
theorem dX7_count_22 : decode cX7_count 22 = .ok (.iload_n 3, 1) := by decide +kernel
theorem dX7_count_23 : decode cX7_count 23 = .ok (.iaload, 1) := by decide +kernel
theorem dX7_count_24 : decode cX7_count 24 = .ok (.bipush (-9), 2) := by decide +kernel
theorem dX7_count_26 : decode cX7_count 26 = .ok (.if_icmp .eq 7, 3) := by decide +kernel
theorem dX7_count_29 : decode cX7_count 29 = .ok (.iconst 1, 1) := by decide +kernel
theorem dX7_count_30 : decode cX7_count 30 = .ok (.goto 4, 3) := by decide +kernel
theorem dX7_count_33 : decode cX7_count 33 = .ok (.iconst 0, 1) := by decide +kernel
theorem dX7_count_34 : decode cX7_count 34 = .ok (.iadd, 1) := by decide +kernel
theorem dX7_count_35 : decode cX7_count 35 = .ok (.istore_n 2, 1) := by decide +kernel
theorem dX7_count_36 : decode cX7_count 36 = .ok (.iinc 3 1, 3) := by decide +kernel
theorem dX7_count_39 : decode cX7_count 39 = .ok (.goto (-30), 3) := by decide +kernel
theorem dX7_count_42 : decode cX7_count 42 = .ok (.iload_n 1, 1) := by decide +kernel
theorem dX7_count_43 : decode cX7_count 43 = .ok (.ifCond .ne 10, 3) := by decide +kernel
theorem dX7_count_46 : decode cX7_count 46 = .ok (.aload_n 0, 1) := by decide +kernel
theorem dX7_count_47 : decode cX7_count 47 = .ok (.getfield 137, 3) := by decide +kernel
theorem dX7_count_50 : decode cX7_count 50 = .ok (.goto 37, 3) := by decide +kernel
theorem dX7_count_53 : decode cX7_count 53 = .ok (.iload_n 1, 1) := by decide +kernel
theorem dX7_count_54 : decode cX7_count 54 = .ok (.iconst 1, 1) := by decide +kernel
theorem dX7_count_55 : decode cX7_count 55 = .ok (.if_icmp .ne 10, 3) := by decide +kernel
theorem dX7_count_58 : decode cX7_count 58 = .ok (.aload_n 0, 1) := by decide +kernel
theorem dX7_count_59 : decode cX7_count 59 = .ok (.invokevirtual 177, 3) := by decide +kernel
theorem dX7_count_62 : decode cX7_count 62 = .ok (.goto 25, 3) := by decide +kernel
theorem dX7_count_65 : decode cX7_count 65 = .ok (.iload_n 1, 1) := by decide +kernel
theorem dX7_count_66 : decode cX7_count 66 = .ok (.iconst 2, 1) := by decide +kernel
theorem dX7_count_67 : decode cX7_count 67 = .ok (.if_icmp .ne 7, 3) := by decide +kernel
theorem dX7_count_70 : decode cX7_count 70 = .ok (.iload_n 2, 1) := by decide +kernel
theorem dX7_count_71 : decode cX7_count 71 = .ok (.goto 16, 3) := by decide +kernel
theorem dX7_count_74 : decode cX7_count 74 = .ok (.iload_n 1, 1) := by decide +kernel
theorem dX7_count_75 : decode cX7_count 75 = .ok (.iconst 3, 1) := by decide +kernel
theorem dX7_count_76 : decode cX7_count 76 = .ok (.if_icmp .ne 10, 3) := by decide +kernel
theorem dX7_count_79 : decode cX7_count 79 = .ok (.aload_n 0, 1) := by decide +kernel
theorem dX7_count_80 : decode cX7_count 80 = .ok (.getfield 58, 3) := by decide +kernel
theorem dX7_count_83 : decode cX7_count 83 = .ok (.goto 4, 3) := by decide +kernel
theorem dX7_count_86 : decode cX7_count 86 = .ok (.iconst (-1), 1) := by decide +kernel
theorem dX7_count_87 : decode cX7_count 87 = .ok (.ireturn, 1) := by decide +kernel
theorem dX7_trace_0 : decode cX7_trace 0 = .ok (.aload_n 0, 1) := by decide +kernel
theorem dX7_trace_1 : decode cX7_trace 1 = .ok (.iconst 0, 1) := by decide +kernel
theorem dX7_trace_2 : decode cX7_trace 2 = .ok (.putfield 51, 3) := by decide +kernel
theorem dX7_trace_5 : decode cX7_trace 5 = .ok (.aload_n 0, 1) := by decide +kernel
theorem dX7_trace_6 : decode cX7_trace 6 = .ok (.getfield 220, 3) := by decide +kernel
theorem dX7_trace_9 : decode cX7_trace 9 = .ok (.lreturn, 1) := by decide +kernel
