theorem d300_0 : decode (cdN 300) 0 = .ok (.aload_n 0, 1) := by decide +kernel
theorem d300_1 : decode (cdN 300) 1 = .ok (.arraylength, 1) := by decide +kernel
theorem d300_2 : decode (cdN 300) 2 = .ok (.ifCond .ne 7, 3) := by decide +kernel
theorem d300_5 : decode (cdN 300) 5 = .ok (.iconst 0, 1) := by decide +kernel
theorem d300_6 : decode (cdN 300) 6 = .ok (.goto 15, 3) := by decide +kernel
theorem d300_9 : decode (cdN 300) 9 = .ok (.aload_n 0, 1) := by decide +kernel
theorem d300_10 : decode (cdN 300) 10 = .ok (.iload_n 1, 1) := by decide +kernel
theorem d300_11 : decode (cdN 300) 11 = .ok (.aload_n 0, 1) := by decide +kernel
theorem d300_12 : decode (cdN 300) 12 = .ok (.arraylength, 1) := by decide +kernel
theorem d300_13 : decode (cdN 300) 13 = .ok (.irem, 1) := by decide +kernel
theorem d300_14 : decode (cdN 300) 14 = .ok (.iaload, 1) := by decide +kernel
theorem d300_15 : decode (cdN 300) 15 = .ok (.ldc 7, 2) := by decide +kernel
theorem k300_7 : kiN (owN 300) 7 = some (100000, 609) := by decide +kernel
theorem d300_17 : decode (cdN 300) 17 = .ok (.irem, 1) := by decide +kernel
theorem d300_18 : decode (cdN 300) 18 = .ok (.invokestatic 8, 3) := by decide +kernel
theorem c300_8 : ctN (owN 300) 8 = some (7, 0, [610, 611, 17, 612]) := by decide +kernel
theorem d300_21 : decode (cdN 300) 21 = .ok (.ireturn, 1) := by decide +kernel
theorem d301_0 : decode (cdN 301) 0 = .ok (.aload_n 0, 1) := by decide +kernel
theorem d301_1 : decode (cdN 301) 1 = .ok (.invokevirtual 14, 3) := by decide +kernel
theorem c301_14 : ctN (owN 301) 14 = some (0, 78, [686, 687, 688, 23]) := by decide +kernel
theorem d301_4 : decode (cdN 301) 4 = .ok (.ireturn, 1) := by decide +kernel
theorem d301_5 : decode (cdN 301) 5 = .ok (.astore_n 1, 1) := by decide +kernel
theorem d301_6 : decode (cdN 301) 6 = .ok (.iconst (-1), 1) := by decide +kernel
theorem d301_7 : decode (cdN 301) 7 = .ok (.ireturn, 1) := by decide +kernel
theorem d302_0 : decode (cdN 302) 0 = .ok (.iconst 0, 1) := by decide +kernel
theorem d302_1 : decode (cdN 302) 1 = .ok (.istore_n 2, 1) := by decide +kernel
theorem d302_2 : decode (cdN 302) 2 = .ok (.iload_n 2, 1) := by decide +kernel
theorem d302_3 : decode (cdN 302) 3 = .ok (.aload_n 1, 1) := by decide +kernel
theorem d302_4 : decode (cdN 302) 4 = .ok (.invokevirtual 25, 3) := by decide +kernel
theorem c302_25 : ctN (owN 302) 25 = some (0, 167, [619, 620, 621, 14]) := by decide +kernel
theorem d302_7 : decode (cdN 302) 7 = .ok (.if_icmp .ge 89, 3) := by decide +kernel
theorem d302_10 : decode (cdN 302) 10 = .ok (.iconst 5, 1) := by decide +kernel
theorem d302_11 : decode (cdN 302) 11 = .ok (.newarray .int, 2) := by decide +kernel
theorem d302_13 : decode (cdN 302) 13 = .ok (.astore_n 3, 1) := by decide +kernel
theorem d302_14 : decode (cdN 302) 14 = .ok (.iconst 0, 1) := by decide +kernel
theorem d302_15 : decode (cdN 302) 15 = .ok (.istore 4, 2) := by decide +kernel
theorem d302_17 : decode (cdN 302) 17 = .ok (.iload 4, 2) := by decide +kernel
theorem d302_19 : decode (cdN 302) 19 = .ok (.bipush 20, 2) := by decide +kernel
theorem d302_21 : decode (cdN 302) 21 = .ok (.if_icmp .ge 48, 3) := by decide +kernel
theorem d302_24 : decode (cdN 302) 24 = .ok (.aload_n 3, 1) := by decide +kernel
theorem d302_25 : decode (cdN 302) 25 = .ok (.iload 4, 2) := by decide +kernel
theorem d302_27 : decode (cdN 302) 27 = .ok (.iconst 4, 1) := by decide +kernel
theorem d302_28 : decode (cdN 302) 28 = .ok (.idiv, 1) := by decide +kernel
theorem d302_29 : decode (cdN 302) 29 = .ok (.aload_n 3, 1) := by decide +kernel
theorem d302_30 : decode (cdN 302) 30 = .ok (.iload 4, 2) := by decide +kernel
theorem d302_32 : decode (cdN 302) 32 = .ok (.iconst 4, 1) := by decide +kernel
theorem d302_33 : decode (cdN 302) 33 = .ok (.idiv, 1) := by decide +kernel
theorem d302_34 : decode (cdN 302) 34 = .ok (.iaload, 1) := by decide +kernel
theorem d302_35 : decode (cdN 302) 35 = .ok (.bipush 8, 2) := by decide +kernel
theorem d302_37 : decode (cdN 302) 37 = .ok (.ishl, 1) := by decide +kernel
theorem d302_38 : decode (cdN 302) 38 = .ok (.iload_n 2, 1) := by decide +kernel
theorem d302_39 : decode (cdN 302) 39 = .ok (.iload 4, 2) := by decide +kernel
theorem d302_41 : decode (cdN 302) 41 = .ok (.iadd, 1) := by decide +kernel
theorem d302_42 : decode (cdN 302) 42 = .ok (.aload_n 1, 1) := by decide +kernel
theorem d302_43 : decode (cdN 302) 43 = .ok (.invokevirtual 25, 3) := by decide +kernel
theorem d302_46 : decode (cdN 302) 46 = .ok (.if_icmp .ge 14, 3) := by decide +kernel
theorem d302_49 : decode (cdN 302) 49 = .ok (.aload_n 1, 1) := by decide +kernel
theorem d302_50 : decode (cdN 302) 50 = .ok (.iload_n 2, 1) := by decide +kernel
theorem d302_51 : decode (cdN 302) 51 = .ok (.iload 4, 2) := by decide +kernel
theorem d302_53 : decode (cdN 302) 53 = .ok (.iadd, 1) := by decide +kernel
theorem d302_54 : decode (cdN 302) 54 = .ok (.invokevirtual 30, 3) := by decide +kernel
theorem c302_30 : ctN (owN 302) 30 = some (0, 168, [629, 630, 631, 14]) := by decide +kernel
theorem d302_57 : decode (cdN 302) 57 = .ok (.goto 4, 3) := by decide +kernel
theorem d302_60 : decode (cdN 302) 60 = .ok (.iconst 0, 1) := by decide +kernel
theorem d302_61 : decode (cdN 302) 61 = .ok (.ior, 1) := by decide +kernel
theorem d302_62 : decode (cdN 302) 62 = .ok (.iastore, 1) := by decide +kernel
theorem d302_63 : decode (cdN 302) 63 = .ok (.iinc 4 1, 3) := by decide +kernel
theorem d302_66 : decode (cdN 302) 66 = .ok (.goto (-49), 3) := by decide +kernel
theorem d302_69 : decode (cdN 302) 69 = .ok (.aload_n 0, 1) := by decide +kernel
theorem d302_70 : decode (cdN 302) 70 = .ok (.aload_n 3, 1) := by decide +kernel
theorem d302_71 : decode (cdN 302) 71 = .ok (.iconst 0, 1) := by decide +kernel
theorem d302_72 : decode (cdN 302) 72 = .ok (.iaload, 1) := by decide +kernel
theorem d302_73 : decode (cdN 302) 73 = .ok (.aload_n 3, 1) := by decide +kernel
theorem d302_74 : decode (cdN 302) 74 = .ok (.iconst 1, 1) := by decide +kernel
theorem d302_75 : decode (cdN 302) 75 = .ok (.iaload, 1) := by decide +kernel
theorem d302_76 : decode (cdN 302) 76 = .ok (.aload_n 3, 1) := by decide +kernel
theorem d302_77 : decode (cdN 302) 77 = .ok (.iconst 2, 1) := by decide +kernel
theorem d302_78 : decode (cdN 302) 78 = .ok (.iaload, 1) := by decide +kernel
theorem d302_79 : decode (cdN 302) 79 = .ok (.aload_n 3, 1) := by decide +kernel
theorem d302_80 : decode (cdN 302) 80 = .ok (.iconst 3, 1) := by decide +kernel
theorem d302_81 : decode (cdN 302) 81 = .ok (.iaload, 1) := by decide +kernel
theorem d302_82 : decode (cdN 302) 82 = .ok (.aload_n 3, 1) := by decide +kernel
theorem d302_83 : decode (cdN 302) 83 = .ok (.iconst 4, 1) := by decide +kernel
theorem d302_84 : decode (cdN 302) 84 = .ok (.iaload, 1) := by decide +kernel
theorem d302_85 : decode (cdN 302) 85 = .ok (.invokevirtual 34, 3) := by decide +kernel
theorem c302_34 : ctN (owN 302) 34 = some (0, 76, [667, 668, 669, 23]) := by decide +kernel
theorem d302_88 : decode (cdN 302) 88 = .ok (.istore 4, 2) := by decide +kernel
theorem d302_90 : decode (cdN 302) 90 = .ok (.iinc 2 20, 3) := by decide +kernel
theorem d302_93 : decode (cdN 302) 93 = .ok (.goto (-91), 3) := by decide +kernel
theorem d302_96 : decode (cdN 302) 96 = .ok (.aload_n 0, 1) := by decide +kernel
theorem d302_97 : decode (cdN 302) 97 = .ok (.aload_n 1, 1) := by decide +kernel
theorem d302_98 : decode (cdN 302) 98 = .ok (.invokevirtual 25, 3) := by decide +kernel
theorem d302_101 : decode (cdN 302) 101 = .ok (.invokevirtual 38, 3) := by decide +kernel
theorem c302_38 : ctN (owN 302) 38 = some (0, 77, [677, 678, 679, 23]) := by decide +kernel
theorem d302_104 : decode (cdN 302) 104 = .ok (.istore_n 2, 1) := by decide +kernel
theorem d302_105 : decode (cdN 302) 105 = .ok (.return_, 1) := by decide +kernel
theorem d303_0 : decode (cdN 303) 0 = .ok (.aload_n 0, 1) := by decide +kernel
theorem d303_1 : decode (cdN 303) 1 = .ok (.aload_n 1, 1) := by decide +kernel
theorem d303_2 : decode (cdN 303) 2 = .ok (.invokestatic 41, 3) := by decide +kernel
theorem c303_41 : ctN (owN 303) 41 = some (1, 302, [616, 617, 11]) := by decide +kernel
theorem d303_5 : decode (cdN 303) 5 = .ok (.aload_n 0, 1) := by decide +kernel
theorem d303_6 : decode (cdN 303) 6 = .ok (.invokestatic 47, 3) := by decide +kernel
theorem c303_47 : ctN (owN 303) 47 = some (12, 301, [682, 683, 11]) := by decide +kernel
theorem d303_9 : decode (cdN 303) 9 = .ok (.ireturn, 1) := by decide +kernel
theorem d304_0 : decode (cdN 304) 0 = .ok (.iload_n 1, 1) := by decide +kernel
theorem d304_1 : decode (cdN 304) 1 = .ok (.tableswitch 118 0 8 #[51, 56, 62, 68, 74, 80, 86, 95, 101], 51) := by decide +kernel
theorem d304_52 : decode (cdN 304) 52 = .ok (.aload_n 0, 1) := by decide +kernel
theorem d304_53 : decode (cdN 304) 53 = .ok (.invokevirtual 54, 3) := by decide +kernel
theorem c304_54 : ctN (owN 304) 54 = some (0, 127, [752, 753, 754, 23]) := by decide +kernel
theorem d304_56 : decode (cdN 304) 56 = .ok (.ireturn, 1) := by decide +kernel
theorem d304_57 : decode (cdN 304) 57 = .ok (.aload_n 0, 1) := by decide +kernel
theorem d304_58 : decode (cdN 304) 58 = .ok (.iload_n 2, 1) := by decide +kernel
theorem d304_59 : decode (cdN 304) 59 = .ok (.invokevirtual 57, 3) := by decide +kernel
theorem c304_57 : ctN (owN 304) 57 = some (0, 128, [765, 766, 767, 23]) := by decide +kernel
theorem d304_62 : decode (cdN 304) 62 = .ok (.ireturn, 1) := by decide +kernel
theorem d304_63 : decode (cdN 304) 63 = .ok (.aload_n 0, 1) := by decide +kernel
theorem d304_64 : decode (cdN 304) 64 = .ok (.iload_n 2, 1) := by decide +kernel
theorem d304_65 : decode (cdN 304) 65 = .ok (.invokevirtual 60, 3) := by decide +kernel
theorem c304_60 : ctN (owN 304) 60 = some (0, 129, [805, 806, 807, 23]) := by decide +kernel
theorem d304_68 : decode (cdN 304) 68 = .ok (.ireturn, 1) := by decide +kernel
theorem d304_69 : decode (cdN 304) 69 = .ok (.aload_n 0, 1) := by decide +kernel
theorem d304_70 : decode (cdN 304) 70 = .ok (.iload_n 2, 1) := by decide +kernel
theorem d304_71 : decode (cdN 304) 71 = .ok (.invokevirtual 63, 3) := by decide +kernel
theorem c304_63 : ctN (owN 304) 63 = some (0, 130, [837, 838, 839, 23]) := by decide +kernel
theorem d304_74 : decode (cdN 304) 74 = .ok (.ireturn, 1) := by decide +kernel
theorem d304_75 : decode (cdN 304) 75 = .ok (.aload_n 0, 1) := by decide +kernel
theorem d304_76 : decode (cdN 304) 76 = .ok (.iload_n 2, 1) := by decide +kernel
theorem d304_77 : decode (cdN 304) 77 = .ok (.invokevirtual 66, 3) := by decide +kernel
theorem c304_66 : ctN (owN 304) 66 = some (0, 131, [851, 852, 853, 23]) := by decide +kernel
theorem d304_80 : decode (cdN 304) 80 = .ok (.ireturn, 1) := by decide +kernel
theorem d304_81 : decode (cdN 304) 81 = .ok (.aload_n 0, 1) := by decide +kernel
theorem d304_82 : decode (cdN 304) 82 = .ok (.iload_n 2, 1) := by decide +kernel
theorem d304_83 : decode (cdN 304) 83 = .ok (.invokevirtual 69, 3) := by decide +kernel
theorem c304_69 : ctN (owN 304) 69 = some (0, 132, [866, 867, 868, 23]) := by decide +kernel
theorem d304_86 : decode (cdN 304) 86 = .ok (.ireturn, 1) := by decide +kernel
theorem d304_87 : decode (cdN 304) 87 = .ok (.aload_n 0, 1) := by decide +kernel
theorem d304_88 : decode (cdN 304) 88 = .ok (.iload_n 2, 1) := by decide +kernel
theorem d304_89 : decode (cdN 304) 89 = .ok (.iload_n 3, 1) := by decide +kernel
theorem d304_90 : decode (cdN 304) 90 = .ok (.iload 4, 2) := by decide +kernel
theorem d304_92 : decode (cdN 304) 92 = .ok (.invokevirtual 72, 3) := by decide +kernel
theorem c304_72 : ctN (owN 304) 72 = some (0, 133, [871, 872, 873, 23]) := by decide +kernel
theorem d304_95 : decode (cdN 304) 95 = .ok (.ireturn, 1) := by decide +kernel
theorem d304_96 : decode (cdN 304) 96 = .ok (.aload_n 0, 1) := by decide +kernel
theorem d304_97 : decode (cdN 304) 97 = .ok (.iload_n 2, 1) := by decide +kernel
theorem d304_98 : decode (cdN 304) 98 = .ok (.invokevirtual 76, 3) := by decide +kernel
theorem c304_76 : ctN (owN 304) 76 = some (0, 134, [877, 878, 879, 23]) := by decide +kernel
theorem d304_101 : decode (cdN 304) 101 = .ok (.ireturn, 1) := by decide +kernel
theorem d304_102 : decode (cdN 304) 102 = .ok (.aload_n 0, 1) := by decide +kernel
theorem d304_103 : decode (cdN 304) 103 = .ok (.iload_n 2, 1) := by decide +kernel
theorem d304_104 : decode (cdN 304) 104 = .ok (.iload_n 3, 1) := by decide +kernel
theorem d304_105 : decode (cdN 304) 105 = .ok (.iload 4, 2) := by decide +kernel
theorem d304_107 : decode (cdN 304) 107 = .ok (.invokevirtual 79, 3) := by decide +kernel
theorem c304_79 : ctN (owN 304) 79 = some (0, 110, [886, 887, 888, 23]) := by decide +kernel
theorem d304_110 : decode (cdN 304) 110 = .ok (.ifCond .eq 7, 3) := by decide +kernel
theorem d304_113 : decode (cdN 304) 113 = .ok (.iconst 1, 1) := by decide +kernel
theorem d304_114 : decode (cdN 304) 114 = .ok (.goto 4, 3) := by decide +kernel
theorem d304_117 : decode (cdN 304) 117 = .ok (.iconst 0, 1) := by decide +kernel
theorem d304_118 : decode (cdN 304) 118 = .ok (.ireturn, 1) := by decide +kernel
theorem d304_119 : decode (cdN 304) 119 = .ok (.aload_n 0, 1) := by decide +kernel
theorem d304_120 : decode (cdN 304) 120 = .ok (.invokevirtual 83, 3) := by decide +kernel
theorem c304_83 : ctN (owN 304) 83 = some (0, 135, [901, 902, 903, 23]) := by decide +kernel
theorem d304_123 : decode (cdN 304) 123 = .ok (.ireturn, 1) := by decide +kernel
theorem d304_124 : decode (cdN 304) 124 = .ok (.astore 5, 2) := by decide +kernel
theorem d304_126 : decode (cdN 304) 126 = .ok (.sipush (-1001), 3) := by decide +kernel
theorem d304_129 : decode (cdN 304) 129 = .ok (.ireturn, 1) := by decide +kernel
theorem d304_130 : decode (cdN 304) 130 = .ok (.astore 5, 2) := by decide +kernel
theorem d304_132 : decode (cdN 304) 132 = .ok (.sipush (-1002), 3) := by decide +kernel
theorem d304_135 : decode (cdN 304) 135 = .ok (.ireturn, 1) := by decide +kernel
theorem d304_136 : decode (cdN 304) 136 = .ok (.astore 5, 2) := by decide +kernel
theorem d304_138 : decode (cdN 304) 138 = .ok (.sipush (-1003), 3) := by decide +kernel
theorem d304_141 : decode (cdN 304) 141 = .ok (.ireturn, 1) := by decide +kernel
theorem d305_0 : decode (cdN 305) 0 = .ok (.ldc2_w 90, 3) := by decide +kernel
theorem k305_90 : klN (owN 305) 90 = some (31, 913) := by decide +kernel
theorem d305_3 : decode (cdN 305) 3 = .ok (.aload_n 0, 1) := by decide +kernel
theorem d305_4 : decode (cdN 305) 4 = .ok (.invokevirtual 92, 3) := by decide +kernel
theorem c305_92 : ctN (owN 305) 92 = some (0, 82, [414, 415, 416, 23]) := by decide +kernel
theorem d305_7 : decode (cdN 305) 7 = .ok (.i2l, 1) := by decide +kernel
theorem d305_8 : decode (cdN 305) 8 = .ok (.lmul, 1) := by decide +kernel
theorem d305_9 : decode (cdN 305) 9 = .ok (.aload_n 0, 1) := by decide +kernel
theorem d305_10 : decode (cdN 305) 10 = .ok (.invokevirtual 95, 3) := by decide +kernel
theorem c305_95 : ctN (owN 305) 95 = some (0, 114, [914, 915, 916, 23]) := by decide +kernel
theorem d305_13 : decode (cdN 305) 13 = .ok (.i2l, 1) := by decide +kernel
theorem d305_14 : decode (cdN 305) 14 = .ok (.ladd, 1) := by decide +kernel
theorem d305_15 : decode (cdN 305) 15 = .ok (.lstore_n 1, 1) := by decide +kernel
theorem d305_16 : decode (cdN 305) 16 = .ok (.ldc2_w 90, 3) := by decide +kernel
theorem d305_19 : decode (cdN 305) 19 = .ok (.lload_n 1, 1) := by decide +kernel
theorem d305_20 : decode (cdN 305) 20 = .ok (.lmul, 1) := by decide +kernel
theorem d305_21 : decode (cdN 305) 21 = .ok (.aload_n 0, 1) := by decide +kernel
theorem d305_22 : decode (cdN 305) 22 = .ok (.invokevirtual 98, 3) := by decide +kernel
theorem c305_98 : ctN (owN 305) 98 = some (0, 84, [918, 919, 920, 23]) := by decide +kernel
theorem d305_25 : decode (cdN 305) 25 = .ok (.i2l, 1) := by decide +kernel
theorem d305_26 : decode (cdN 305) 26 = .ok (.ladd, 1) := by decide +kernel
theorem d305_27 : decode (cdN 305) 27 = .ok (.ldc2_w 101, 3) := by decide +kernel
theorem k305_101 : klN (owN 305) 101 = some (7, 922) := by decide +kernel
theorem d305_30 : decode (cdN 305) 30 = .ok (.aload_n 0, 1) := by decide +kernel
theorem d305_31 : decode (cdN 305) 31 = .ok (.invokevirtual 103, 3) := by decide +kernel
theorem c305_103 : ctN (owN 305) 103 = some (0, 85, [923, 924, 925, 23]) := by decide +kernel
theorem d305_34 : decode (cdN 305) 34 = .ok (.i2l, 1) := by decide +kernel
theorem d305_35 : decode (cdN 305) 35 = .ok (.lmul, 1) := by decide +kernel
theorem d305_36 : decode (cdN 305) 36 = .ok (.ladd, 1) := by decide +kernel
theorem d305_37 : decode (cdN 305) 37 = .ok (.ldc2_w 106, 3) := by decide +kernel
theorem k305_106 : klN (owN 305) 106 = some (11, 927) := by decide +kernel
theorem d305_40 : decode (cdN 305) 40 = .ok (.aload_n 0, 1) := by decide +kernel
theorem d305_41 : decode (cdN 305) 41 = .ok (.invokevirtual 108, 3) := by decide +kernel
theorem c305_108 : ctN (owN 305) 108 = some (0, 117, [928, 929, 930, 23]) := by decide +kernel
theorem d305_44 : decode (cdN 305) 44 = .ok (.i2l, 1) := by decide +kernel
theorem d305_45 : decode (cdN 305) 45 = .ok (.lmul, 1) := by decide +kernel
theorem d305_46 : decode (cdN 305) 46 = .ok (.ladd, 1) := by decide +kernel
theorem d305_47 : decode (cdN 305) 47 = .ok (.ldc2_w 111, 3) := by decide +kernel
theorem k305_111 : klN (owN 305) 111 = some (13, 932) := by decide +kernel
theorem d305_50 : decode (cdN 305) 50 = .ok (.aload_n 0, 1) := by decide +kernel
theorem d305_51 : decode (cdN 305) 51 = .ok (.invokevirtual 113, 3) := by decide +kernel
theorem c305_113 : ctN (owN 305) 113 = some (0, 118, [933, 934, 935, 23]) := by decide +kernel
theorem d305_54 : decode (cdN 305) 54 = .ok (.i2l, 1) := by decide +kernel
theorem d305_55 : decode (cdN 305) 55 = .ok (.lmul, 1) := by decide +kernel
theorem d305_56 : decode (cdN 305) 56 = .ok (.ladd, 1) := by decide +kernel
theorem d305_57 : decode (cdN 305) 57 = .ok (.ldc2_w 116, 3) := by decide +kernel
theorem k305_116 : klN (owN 305) 116 = some (17, 937) := by decide +kernel
theorem d305_60 : decode (cdN 305) 60 = .ok (.aload_n 0, 1) := by decide +kernel
theorem d305_61 : decode (cdN 305) 61 = .ok (.invokevirtual 118, 3) := by decide +kernel
theorem c305_118 : ctN (owN 305) 118 = some (0, 119, [938, 939, 940, 23]) := by decide +kernel
theorem d305_64 : decode (cdN 305) 64 = .ok (.i2l, 1) := by decide +kernel
theorem d305_65 : decode (cdN 305) 65 = .ok (.lmul, 1) := by decide +kernel
theorem d305_66 : decode (cdN 305) 66 = .ok (.ladd, 1) := by decide +kernel
theorem d305_67 : decode (cdN 305) 67 = .ok (.ldc2_w 121, 3) := by decide +kernel
theorem k305_121 : klN (owN 305) 121 = some (19, 942) := by decide +kernel
theorem d305_70 : decode (cdN 305) 70 = .ok (.aload_n 0, 1) := by decide +kernel
theorem d305_71 : decode (cdN 305) 71 = .ok (.invokevirtual 123, 3) := by decide +kernel
theorem c305_123 : ctN (owN 305) 123 = some (0, 120, [943, 944, 945, 23]) := by decide +kernel
theorem d305_74 : decode (cdN 305) 74 = .ok (.i2l, 1) := by decide +kernel
theorem d305_75 : decode (cdN 305) 75 = .ok (.lmul, 1) := by decide +kernel
theorem d305_76 : decode (cdN 305) 76 = .ok (.ladd, 1) := by decide +kernel
theorem d305_77 : decode (cdN 305) 77 = .ok (.ldc2_w 126, 3) := by decide +kernel
theorem k305_126 : klN (owN 305) 126 = some (23, 947) := by decide +kernel
theorem d305_80 : decode (cdN 305) 80 = .ok (.aload_n 0, 1) := by decide +kernel
theorem d305_81 : decode (cdN 305) 81 = .ok (.invokevirtual 128, 3) := by decide +kernel
theorem c305_128 : ctN (owN 305) 128 = some (0, 121, [948, 949, 950, 23]) := by decide +kernel
theorem d305_84 : decode (cdN 305) 84 = .ok (.i2l, 1) := by decide +kernel
theorem d305_85 : decode (cdN 305) 85 = .ok (.lmul, 1) := by decide +kernel
theorem d305_86 : decode (cdN 305) 86 = .ok (.ladd, 1) := by decide +kernel
theorem d305_87 : decode (cdN 305) 87 = .ok (.ldc2_w 131, 3) := by decide +kernel
theorem k305_131 : klN (owN 305) 131 = some (29, 952) := by decide +kernel
theorem d305_90 : decode (cdN 305) 90 = .ok (.aload_n 0, 1) := by decide +kernel
theorem d305_91 : decode (cdN 305) 91 = .ok (.invokevirtual 133, 3) := by decide +kernel
theorem c305_133 : ctN (owN 305) 133 = some (0, 122, [953, 954, 955, 23]) := by decide +kernel
theorem d305_94 : decode (cdN 305) 94 = .ok (.i2l, 1) := by decide +kernel
theorem d305_95 : decode (cdN 305) 95 = .ok (.lmul, 1) := by decide +kernel
theorem d305_96 : decode (cdN 305) 96 = .ok (.ladd, 1) := by decide +kernel
theorem d305_97 : decode (cdN 305) 97 = .ok (.lstore_n 1, 1) := by decide +kernel
theorem d305_98 : decode (cdN 305) 98 = .ok (.iconst 0, 1) := by decide +kernel
theorem d305_99 : decode (cdN 305) 99 = .ok (.istore_n 3, 1) := by decide +kernel
theorem d305_100 : decode (cdN 305) 100 = .ok (.iload_n 3, 1) := by decide +kernel
theorem d305_101 : decode (cdN 305) 101 = .ok (.aload_n 0, 1) := by decide +kernel
theorem d305_102 : decode (cdN 305) 102 = .ok (.invokevirtual 136, 3) := by decide +kernel
theorem c305_136 : ctN (owN 305) 136 = some (0, 90, [957, 958, 959, 23]) := by decide +kernel
theorem d305_105 : decode (cdN 305) 105 = .ok (.if_icmp .ge 33, 3) := by decide +kernel
theorem d305_108 : decode (cdN 305) 108 = .ok (.ldc2_w 90, 3) := by decide +kernel
theorem d305_111 : decode (cdN 305) 111 = .ok (.lload_n 1, 1) := by decide +kernel
theorem d305_112 : decode (cdN 305) 112 = .ok (.lmul, 1) := by decide +kernel
theorem d305_113 : decode (cdN 305) 113 = .ok (.aload_n 0, 1) := by decide +kernel
theorem d305_114 : decode (cdN 305) 114 = .ok (.iload_n 3, 1) := by decide +kernel
theorem d305_115 : decode (cdN 305) 115 = .ok (.invokevirtual 139, 3) := by decide +kernel
theorem c305_139 : ctN (owN 305) 139 = some (0, 91, [961, 962, 963, 23]) := by decide +kernel
theorem d305_118 : decode (cdN 305) 118 = .ok (.i2l, 1) := by decide +kernel
theorem d305_119 : decode (cdN 305) 119 = .ok (.ladd, 1) := by decide +kernel
theorem d305_120 : decode (cdN 305) 120 = .ok (.ldc2_w 101, 3) := by decide +kernel
theorem d305_123 : decode (cdN 305) 123 = .ok (.aload_n 0, 1) := by decide +kernel
theorem d305_124 : decode (cdN 305) 124 = .ok (.iload_n 3, 1) := by decide +kernel
theorem d305_125 : decode (cdN 305) 125 = .ok (.invokevirtual 142, 3) := by decide +kernel
theorem c305_142 : ctN (owN 305) 142 = some (0, 92, [965, 966, 967, 23]) := by decide +kernel
theorem d305_128 : decode (cdN 305) 128 = .ok (.i2l, 1) := by decide +kernel
theorem d305_129 : decode (cdN 305) 129 = .ok (.lmul, 1) := by decide +kernel
theorem d305_130 : decode (cdN 305) 130 = .ok (.ladd, 1) := by decide +kernel
theorem d305_131 : decode (cdN 305) 131 = .ok (.lstore_n 1, 1) := by decide +kernel
theorem d305_132 : decode (cdN 305) 132 = .ok (.iinc 3 1, 3) := by decide +kernel
theorem d305_135 : decode (cdN 305) 135 = .ok (.goto (-35), 3) := by decide +kernel
theorem d305_138 : decode (cdN 305) 138 = .ok (.iconst 0, 1) := by decide +kernel
theorem d305_139 : decode (cdN 305) 139 = .ok (.istore_n 3, 1) := by decide +kernel
theorem d305_140 : decode (cdN 305) 140 = .ok (.iload_n 3, 1) := by decide +kernel
theorem d305_141 : decode (cdN 305) 141 = .ok (.aload_n 0, 1) := by decide +kernel
theorem d305_142 : decode (cdN 305) 142 = .ok (.invokevirtual 145, 3) := by decide +kernel
theorem c305_145 : ctN (owN 305) 145 = some (0, 94, [418, 419, 420, 23]) := by decide +kernel
theorem d305_145 : decode (cdN 305) 145 = .ok (.if_icmp .ge 80, 3) := by decide +kernel
theorem d305_148 : decode (cdN 305) 148 = .ok (.ldc2_w 90, 3) := by decide +kernel
theorem d305_151 : decode (cdN 305) 151 = .ok (.lload_n 1, 1) := by decide +kernel
theorem d305_152 : decode (cdN 305) 152 = .ok (.lmul, 1) := by decide +kernel
theorem d305_153 : decode (cdN 305) 153 = .ok (.aload_n 0, 1) := by decide +kernel
theorem d305_154 : decode (cdN 305) 154 = .ok (.iload_n 3, 1) := by decide +kernel
theorem d305_155 : decode (cdN 305) 155 = .ok (.invokevirtual 148, 3) := by decide +kernel
theorem c305_148 : ctN (owN 305) 148 = some (0, 98, [970, 971, 972, 23]) := by decide +kernel
theorem d305_158 : decode (cdN 305) 158 = .ok (.i2l, 1) := by decide +kernel
theorem d305_159 : decode (cdN 305) 159 = .ok (.ladd, 1) := by decide +kernel
theorem d305_160 : decode (cdN 305) 160 = .ok (.ldc2_w 101, 3) := by decide +kernel
theorem d305_163 : decode (cdN 305) 163 = .ok (.aload_n 0, 1) := by decide +kernel
theorem d305_164 : decode (cdN 305) 164 = .ok (.iload_n 3, 1) := by decide +kernel
theorem d305_165 : decode (cdN 305) 165 = .ok (.invokevirtual 151, 3) := by decide +kernel
theorem c305_151 : ctN (owN 305) 151 = some (0, 99, [974, 975, 976, 23]) := by decide +kernel
theorem d305_168 : decode (cdN 305) 168 = .ok (.i2l, 1) := by decide +kernel
theorem d305_169 : decode (cdN 305) 169 = .ok (.lmul, 1) := by decide +kernel
theorem d305_170 : decode (cdN 305) 170 = .ok (.ladd, 1) := by decide +kernel
theorem d305_171 : decode (cdN 305) 171 = .ok (.lstore_n 1, 1) := by decide +kernel
theorem d305_172 : decode (cdN 305) 172 = .ok (.iconst 0, 1) := by decide +kernel
theorem d305_173 : decode (cdN 305) 173 = .ok (.istore 4, 2) := by decide +kernel
theorem d305_175 : decode (cdN 305) 175 = .ok (.iload 4, 2) := by decide +kernel
theorem d305_177 : decode (cdN 305) 177 = .ok (.aload_n 0, 1) := by decide +kernel
theorem d305_178 : decode (cdN 305) 178 = .ok (.iload_n 3, 1) := by decide +kernel
theorem d305_179 : decode (cdN 305) 179 = .ok (.invokevirtual 154, 3) := by decide +kernel
theorem c305_154 : ctN (owN 305) 154 = some (0, 95, [978, 979, 980, 23]) := by decide +kernel
theorem d305_182 : decode (cdN 305) 182 = .ok (.if_icmp .ge 37, 3) := by decide +kernel
theorem d305_185 : decode (cdN 305) 185 = .ok (.ldc2_w 90, 3) := by decide +kernel
theorem d305_188 : decode (cdN 305) 188 = .ok (.lload_n 1, 1) := by decide +kernel
theorem d305_189 : decode (cdN 305) 189 = .ok (.lmul, 1) := by decide +kernel
theorem d305_190 : decode (cdN 305) 190 = .ok (.aload_n 0, 1) := by decide +kernel
theorem d305_191 : decode (cdN 305) 191 = .ok (.iload_n 3, 1) := by decide +kernel
theorem d305_192 : decode (cdN 305) 192 = .ok (.iload 4, 2) := by decide +kernel
theorem d305_194 : decode (cdN 305) 194 = .ok (.invokevirtual 157, 3) := by decide +kernel
theorem c305_157 : ctN (owN 305) 157 = some (0, 96, [982, 983, 984, 23]) := by decide +kernel
theorem d305_197 : decode (cdN 305) 197 = .ok (.i2l, 1) := by decide +kernel
theorem d305_198 : decode (cdN 305) 198 = .ok (.ladd, 1) := by decide +kernel
theorem d305_199 : decode (cdN 305) 199 = .ok (.ldc2_w 161, 3) := by decide +kernel
theorem k305_161 : klN (owN 305) 161 = some (257, 986) := by decide +kernel
theorem d305_202 : decode (cdN 305) 202 = .ok (.aload_n 0, 1) := by decide +kernel
theorem d305_203 : decode (cdN 305) 203 = .ok (.iload_n 3, 1) := by decide +kernel
theorem d305_204 : decode (cdN 305) 204 = .ok (.iload 4, 2) := by decide +kernel
theorem d305_206 : decode (cdN 305) 206 = .ok (.invokevirtual 163, 3) := by decide +kernel
theorem c305_163 : ctN (owN 305) 163 = some (0, 101, [987, 988, 989, 23]) := by decide +kernel
theorem d305_209 : decode (cdN 305) 209 = .ok (.i2l, 1) := by decide +kernel
theorem d305_210 : decode (cdN 305) 210 = .ok (.lmul, 1) := by decide +kernel
theorem d305_211 : decode (cdN 305) 211 = .ok (.ladd, 1) := by decide +kernel
theorem d305_212 : decode (cdN 305) 212 = .ok (.lstore_n 1, 1) := by decide +kernel
theorem d305_213 : decode (cdN 305) 213 = .ok (.iinc 4 1, 3) := by decide +kernel
theorem d305_216 : decode (cdN 305) 216 = .ok (.goto (-41), 3) := by decide +kernel
theorem d305_219 : decode (cdN 305) 219 = .ok (.iinc 3 1, 3) := by decide +kernel
theorem d305_222 : decode (cdN 305) 222 = .ok (.goto (-82), 3) := by decide +kernel
theorem d305_225 : decode (cdN 305) 225 = .ok (.iconst 0, 1) := by decide +kernel
theorem d305_226 : decode (cdN 305) 226 = .ok (.istore_n 3, 1) := by decide +kernel
theorem d305_227 : decode (cdN 305) 227 = .ok (.iload_n 3, 1) := by decide +kernel
theorem d305_228 : decode (cdN 305) 228 = .ok (.bipush 60, 2) := by decide +kernel
theorem d305_230 : decode (cdN 305) 230 = .ok (.if_icmp .ge 33, 3) := by decide +kernel
theorem d305_233 : decode (cdN 305) 233 = .ok (.ldc2_w 90, 3) := by decide +kernel
theorem d305_236 : decode (cdN 305) 236 = .ok (.lload_n 1, 1) := by decide +kernel
theorem d305_237 : decode (cdN 305) 237 = .ok (.lmul, 1) := by decide +kernel
theorem d305_238 : decode (cdN 305) 238 = .ok (.aload_n 0, 1) := by decide +kernel
theorem d305_239 : decode (cdN 305) 239 = .ok (.bipush 7, 2) := by decide +kernel
theorem d305_241 : decode (cdN 305) 241 = .ok (.iload_n 3, 1) := by decide +kernel
theorem d305_242 : decode (cdN 305) 242 = .ok (.imul, 1) := by decide +kernel
theorem d305_243 : decode (cdN 305) 243 = .ok (.invokevirtual 166, 3) := by decide +kernel
theorem c305_166 : ctN (owN 305) 166 = some (0, 86, [991, 992, 993, 23]) := by decide +kernel
theorem d305_246 : decode (cdN 305) 246 = .ok (.ifCond .eq 7, 3) := by decide +kernel
theorem d305_249 : decode (cdN 305) 249 = .ok (.iconst 1, 1) := by decide +kernel
theorem d305_250 : decode (cdN 305) 250 = .ok (.goto 4, 3) := by decide +kernel
theorem d305_253 : decode (cdN 305) 253 = .ok (.iconst 0, 1) := by decide +kernel
theorem d305_254 : decode (cdN 305) 254 = .ok (.i2l, 1) := by decide +kernel
theorem d305_255 : decode (cdN 305) 255 = .ok (.ladd, 1) := by decide +kernel
theorem d305_256 : decode (cdN 305) 256 = .ok (.lstore_n 1, 1) := by decide +kernel
theorem d305_257 : decode (cdN 305) 257 = .ok (.iinc 3 1, 3) := by decide +kernel
theorem d305_260 : decode (cdN 305) 260 = .ok (.goto (-33), 3) := by decide +kernel
theorem d305_263 : decode (cdN 305) 263 = .ok (.lload_n 1, 1) := by decide +kernel
theorem d305_264 : decode (cdN 305) 264 = .ok (.lreturn, 1) := by decide +kernel
theorem d306_0 : decode (cdN 306) 0 = .ok (.iload_n 0, 1) := by decide +kernel
theorem d306_1 : decode (cdN 306) 1 = .ok (.istore_n 2, 1) := by decide +kernel
theorem d306_2 : decode (cdN 306) 2 = .ok (.bipush 7, 2) := by decide +kernel
theorem d306_4 : decode (cdN 306) 4 = .ok (.istore_n 3, 1) := by decide +kernel
theorem d306_5 : decode (cdN 306) 5 = .ok (.iload_n 3, 1) := by decide +kernel
theorem d306_6 : decode (cdN 306) 6 = .ok (.ifCond .lt 42, 3) := by decide +kernel
theorem d306_9 : decode (cdN 306) 9 = .ok (.iload_n 2, 1) := by decide +kernel
theorem d306_10 : decode (cdN 306) 10 = .ok (.bipush 7, 2) := by decide +kernel
theorem d306_12 : decode (cdN 306) 12 = .ok (.ishr, 1) := by decide +kernel
theorem d306_13 : decode (cdN 306) 13 = .ok (.iload_n 1, 1) := by decide +kernel
theorem d306_14 : decode (cdN 306) 14 = .ok (.iload_n 3, 1) := by decide +kernel
theorem d306_15 : decode (cdN 306) 15 = .ok (.ishr, 1) := by decide +kernel
theorem d306_16 : decode (cdN 306) 16 = .ok (.iconst 1, 1) := by decide +kernel
theorem d306_17 : decode (cdN 306) 17 = .ok (.iand, 1) := by decide +kernel
theorem d306_18 : decode (cdN 306) 18 = .ok (.ixor, 1) := by decide +kernel
theorem d306_19 : decode (cdN 306) 19 = .ok (.istore 4, 2) := by decide +kernel
theorem d306_21 : decode (cdN 306) 21 = .ok (.iload_n 2, 1) := by decide +kernel
theorem d306_22 : decode (cdN 306) 22 = .ok (.iconst 1, 1) := by decide +kernel
theorem d306_23 : decode (cdN 306) 23 = .ok (.ishl, 1) := by decide +kernel
theorem d306_24 : decode (cdN 306) 24 = .ok (.sipush 255, 3) := by decide +kernel
theorem d306_27 : decode (cdN 306) 27 = .ok (.iand, 1) := by decide +kernel
theorem d306_28 : decode (cdN 306) 28 = .ok (.iload 4, 2) := by decide +kernel
theorem d306_30 : decode (cdN 306) 30 = .ok (.iconst 1, 1) := by decide +kernel
theorem d306_31 : decode (cdN 306) 31 = .ok (.if_icmp .ne 8, 3) := by decide +kernel
theorem d306_34 : decode (cdN 306) 34 = .ok (.bipush 7, 2) := by decide +kernel
theorem d306_36 : decode (cdN 306) 36 = .ok (.goto 4, 3) := by decide +kernel
theorem d306_39 : decode (cdN 306) 39 = .ok (.iconst 0, 1) := by decide +kernel
theorem d306_40 : decode (cdN 306) 40 = .ok (.ixor, 1) := by decide +kernel
theorem d306_41 : decode (cdN 306) 41 = .ok (.istore_n 2, 1) := by decide +kernel
theorem d306_42 : decode (cdN 306) 42 = .ok (.iinc 3 (-1), 3) := by decide +kernel
theorem d306_45 : decode (cdN 306) 45 = .ok (.goto (-40), 3) := by decide +kernel
theorem d306_48 : decode (cdN 306) 48 = .ok (.iload_n 2, 1) := by decide +kernel
theorem d306_49 : decode (cdN 306) 49 = .ok (.ireturn, 1) := by decide +kernel
theorem d307_0 : decode (cdN 307) 0 = .ok (.aload_n 0, 1) := by decide +kernel
theorem d307_1 : decode (cdN 307) 1 = .ok (.iload_n 1, 1) := by decide +kernel
theorem d307_2 : decode (cdN 307) 2 = .ok (.invokevirtual 154, 3) := by decide +kernel
theorem c307_154 : ctN (owN 307) 154 = some (0, 95, [978, 979, 980, 23]) := by decide +kernel
theorem d307_5 : decode (cdN 307) 5 = .ok (.istore_n 2, 1) := by decide +kernel
theorem d307_6 : decode (cdN 307) 6 = .ok (.iconst 0, 1) := by decide +kernel
theorem d307_7 : decode (cdN 307) 7 = .ok (.istore_n 3, 1) := by decide +kernel
theorem d307_8 : decode (cdN 307) 8 = .ok (.aload_n 0, 1) := by decide +kernel
theorem d307_9 : decode (cdN 307) 9 = .ok (.iload_n 1, 1) := by decide +kernel
theorem d307_10 : decode (cdN 307) 10 = .ok (.invokevirtual 170, 3) := by decide +kernel
theorem c307_170 : ctN (owN 307) 170 = some (0, 100, [1006, 1007, 1008, 23]) := by decide +kernel
theorem d307_13 : decode (cdN 307) 13 = .ok (.istore 4, 2) := by decide +kernel
theorem d307_15 : decode (cdN 307) 15 = .ok (.iconst 0, 1) := by decide +kernel
theorem d307_16 : decode (cdN 307) 16 = .ok (.istore 5, 2) := by decide +kernel
theorem d307_18 : decode (cdN 307) 18 = .ok (.iload 5, 2) := by decide +kernel
theorem d307_20 : decode (cdN 307) 20 = .ok (.iload_n 2, 1) := by decide +kernel
theorem d307_21 : decode (cdN 307) 21 = .ok (.if_icmp .ge 93, 3) := by decide +kernel
theorem d307_24 : decode (cdN 307) 24 = .ok (.aload_n 0, 1) := by decide +kernel
theorem d307_25 : decode (cdN 307) 25 = .ok (.iload_n 1, 1) := by decide +kernel
theorem d307_26 : decode (cdN 307) 26 = .ok (.iload 5, 2) := by decide +kernel
theorem d307_28 : decode (cdN 307) 28 = .ok (.invokevirtual 157, 3) := by decide +kernel
theorem c307_157 : ctN (owN 307) 157 = some (0, 96, [982, 983, 984, 23]) := by decide +kernel
theorem d307_31 : decode (cdN 307) 31 = .ok (.istore 6, 2) := by decide +kernel
theorem d307_33 : decode (cdN 307) 33 = .ok (.iload_n 3, 1) := by decide +kernel
theorem d307_34 : decode (cdN 307) 34 = .ok (.iload 6, 2) := by decide +kernel
theorem d307_36 : decode (cdN 307) 36 = .ok (.invokestatic 173, 3) := by decide +kernel
theorem c307_173 : ctN (owN 307) 173 = some (1, 306, [1010, 1011, 11]) := by decide +kernel
theorem d307_39 : decode (cdN 307) 39 = .ok (.istore_n 3, 1) := by decide +kernel
theorem d307_40 : decode (cdN 307) 40 = .ok (.iload 4, 2) := by decide +kernel
theorem d307_42 : decode (cdN 307) 42 = .ok (.ifCond .eq 19, 3) := by decide +kernel
theorem d307_45 : decode (cdN 307) 45 = .ok (.aload_n 0, 1) := by decide +kernel
theorem d307_46 : decode (cdN 307) 46 = .ok (.iload_n 1, 1) := by decide +kernel
theorem d307_47 : decode (cdN 307) 47 = .ok (.iload 5, 2) := by decide +kernel
theorem d307_49 : decode (cdN 307) 49 = .ok (.invokevirtual 163, 3) := by decide +kernel
theorem c307_163 : ctN (owN 307) 163 = some (0, 101, [987, 988, 989, 23]) := by decide +kernel
theorem d307_52 : decode (cdN 307) 52 = .ok (.iload 6, 2) := by decide +kernel
theorem d307_54 : decode (cdN 307) 54 = .ok (.if_icmp .ne 7, 3) := by decide +kernel
theorem d307_57 : decode (cdN 307) 57 = .ok (.iconst 1, 1) := by decide +kernel
theorem d307_58 : decode (cdN 307) 58 = .ok (.goto 4, 3) := by decide +kernel
theorem d307_61 : decode (cdN 307) 61 = .ok (.iconst 0, 1) := by decide +kernel
theorem d307_62 : decode (cdN 307) 62 = .ok (.istore 4, 2) := by decide +kernel
theorem d307_64 : decode (cdN 307) 64 = .ok (.iconst 0, 1) := by decide +kernel
theorem d307_65 : decode (cdN 307) 65 = .ok (.istore 7, 2) := by decide +kernel
theorem d307_67 : decode (cdN 307) 67 = .ok (.iload 7, 2) := by decide +kernel
theorem d307_69 : decode (cdN 307) 69 = .ok (.bipush 8, 2) := by decide +kernel
theorem d307_71 : decode (cdN 307) 71 = .ok (.if_icmp .ge 37, 3) := by decide +kernel
theorem d307_74 : decode (cdN 307) 74 = .ok (.aload_n 0, 1) := by decide +kernel
theorem d307_75 : decode (cdN 307) 75 = .ok (.iload_n 1, 1) := by decide +kernel
theorem d307_76 : decode (cdN 307) 76 = .ok (.bipush 8, 2) := by decide +kernel
theorem d307_78 : decode (cdN 307) 78 = .ok (.iload 5, 2) := by decide +kernel
theorem d307_80 : decode (cdN 307) 80 = .ok (.imul, 1) := by decide +kernel
theorem d307_81 : decode (cdN 307) 81 = .ok (.iload 7, 2) := by decide +kernel
theorem d307_83 : decode (cdN 307) 83 = .ok (.iadd, 1) := by decide +kernel
theorem d307_84 : decode (cdN 307) 84 = .ok (.invokevirtual 176, 3) := by decide +kernel
theorem c307_176 : ctN (owN 307) 176 = some (0, 97, [1013, 1014, 1015, 23]) := by decide +kernel
theorem d307_87 : decode (cdN 307) 87 = .ok (.iload 6, 2) := by decide +kernel
theorem d307_89 : decode (cdN 307) 89 = .ok (.bipush 7, 2) := by decide +kernel
theorem d307_91 : decode (cdN 307) 91 = .ok (.iload 7, 2) := by decide +kernel
theorem d307_93 : decode (cdN 307) 93 = .ok (.isub, 1) := by decide +kernel
theorem d307_94 : decode (cdN 307) 94 = .ok (.ishr, 1) := by decide +kernel
theorem d307_95 : decode (cdN 307) 95 = .ok (.iconst 1, 1) := by decide +kernel
theorem d307_96 : decode (cdN 307) 96 = .ok (.iand, 1) := by decide +kernel
theorem d307_97 : decode (cdN 307) 97 = .ok (.if_icmp .eq 5, 3) := by decide +kernel
theorem d307_100 : decode (cdN 307) 100 = .ok (.iconst 0, 1) := by decide +kernel
theorem d307_101 : decode (cdN 307) 101 = .ok (.ireturn, 1) := by decide +kernel
theorem d307_102 : decode (cdN 307) 102 = .ok (.iinc 7 1, 3) := by decide +kernel
theorem d307_105 : decode (cdN 307) 105 = .ok (.goto (-38), 3) := by decide +kernel
theorem d307_108 : decode (cdN 307) 108 = .ok (.iinc 5 1, 3) := by decide +kernel
theorem d307_111 : decode (cdN 307) 111 = .ok (.goto (-93), 3) := by decide +kernel
theorem d307_114 : decode (cdN 307) 114 = .ok (.aload_n 0, 1) := by decide +kernel
theorem d307_115 : decode (cdN 307) 115 = .ok (.iload_n 1, 1) := by decide +kernel
theorem d307_116 : decode (cdN 307) 116 = .ok (.invokevirtual 151, 3) := by decide +kernel
theorem c307_151 : ctN (owN 307) 151 = some (0, 99, [974, 975, 976, 23]) := by decide +kernel
theorem d307_119 : decode (cdN 307) 119 = .ok (.ifCond .le 7, 3) := by decide +kernel
theorem d307_122 : decode (cdN 307) 122 = .ok (.iconst 1, 1) := by decide +kernel
theorem d307_123 : decode (cdN 307) 123 = .ok (.goto 4, 3) := by decide +kernel
theorem d307_126 : decode (cdN 307) 126 = .ok (.iconst 0, 1) := by decide +kernel
theorem d307_127 : decode (cdN 307) 127 = .ok (.istore 5, 2) := by decide +kernel
theorem d307_129 : decode (cdN 307) 129 = .ok (.aload_n 0, 1) := by decide +kernel
theorem d307_130 : decode (cdN 307) 130 = .ok (.iload_n 1, 1) := by decide +kernel
theorem d307_131 : decode (cdN 307) 131 = .ok (.iconst 0, 1) := by decide +kernel
theorem d307_132 : decode (cdN 307) 132 = .ok (.invokevirtual 157, 3) := by decide +kernel
theorem d307_135 : decode (cdN 307) 135 = .ok (.bipush 16, 2) := by decide +kernel
theorem d307_137 : decode (cdN 307) 137 = .ok (.iload_n 1, 1) := by decide +kernel
theorem d307_138 : decode (cdN 307) 138 = .ok (.bipush 16, 2) := by decide +kernel
theorem d307_140 : decode (cdN 307) 140 = .ok (.irem, 1) := by decide +kernel
theorem d307_141 : decode (cdN 307) 141 = .ok (.imul, 1) := by decide +kernel
theorem d307_142 : decode (cdN 307) 142 = .ok (.iload_n 2, 1) := by decide +kernel
theorem d307_143 : decode (cdN 307) 143 = .ok (.iadd, 1) := by decide +kernel
theorem d307_144 : decode (cdN 307) 144 = .ok (.iconst 2, 1) := by decide +kernel
theorem d307_145 : decode (cdN 307) 145 = .ok (.isub, 1) := by decide +kernel
theorem d307_146 : decode (cdN 307) 146 = .ok (.if_icmp .ne 82, 3) := by decide +kernel
theorem d307_149 : decode (cdN 307) 149 = .ok (.iload_n 3, 1) := by decide +kernel
theorem d307_150 : decode (cdN 307) 150 = .ok (.ifCond .ne 78, 3) := by decide +kernel
theorem d307_153 : decode (cdN 307) 153 = .ok (.aload_n 0, 1) := by decide +kernel
theorem d307_154 : decode (cdN 307) 154 = .ok (.iload_n 1, 1) := by decide +kernel
theorem d307_155 : decode (cdN 307) 155 = .ok (.iload_n 2, 1) := by decide +kernel
theorem d307_156 : decode (cdN 307) 156 = .ok (.invokevirtual 157, 3) := by decide +kernel
theorem d307_159 : decode (cdN 307) 159 = .ok (.iconst (-1), 1) := by decide +kernel
theorem d307_160 : decode (cdN 307) 160 = .ok (.if_icmp .ne 68, 3) := by decide +kernel
theorem d307_163 : decode (cdN 307) 163 = .ok (.aload_n 0, 1) := by decide +kernel
theorem d307_164 : decode (cdN 307) 164 = .ok (.iload_n 1, 1) := by decide +kernel
theorem d307_165 : decode (cdN 307) 165 = .ok (.bipush 8, 2) := by decide +kernel
theorem d307_167 : decode (cdN 307) 167 = .ok (.iload_n 2, 1) := by decide +kernel
theorem d307_168 : decode (cdN 307) 168 = .ok (.imul, 1) := by decide +kernel
theorem d307_169 : decode (cdN 307) 169 = .ok (.invokevirtual 176, 3) := by decide +kernel
theorem d307_172 : decode (cdN 307) 172 = .ok (.iconst (-1), 1) := by decide +kernel
theorem d307_173 : decode (cdN 307) 173 = .ok (.if_icmp .ne 55, 3) := by decide +kernel
theorem d307_176 : decode (cdN 307) 176 = .ok (.aload_n 0, 1) := by decide +kernel
theorem d307_177 : decode (cdN 307) 177 = .ok (.iload_n 1, 1) := by decide +kernel
theorem d307_178 : decode (cdN 307) 178 = .ok (.invokevirtual 179, 3) := by decide +kernel
theorem c307_179 : ctN (owN 307) 179 = some (0, 102, [1018, 1019, 1020, 23]) := by decide +kernel
theorem d307_181 : decode (cdN 307) 181 = .ok (.iload 4, 2) := by decide +kernel
theorem d307_183 : decode (cdN 307) 183 = .ok (.if_icmp .ne 45, 3) := by decide +kernel
theorem d307_186 : decode (cdN 307) 186 = .ok (.aload_n 0, 1) := by decide +kernel
theorem d307_187 : decode (cdN 307) 187 = .ok (.iload_n 1, 1) := by decide +kernel
theorem d307_188 : decode (cdN 307) 188 = .ok (.invokevirtual 148, 3) := by decide +kernel
theorem c307_148 : ctN (owN 307) 148 = some (0, 98, [970, 971, 972, 23]) := by decide +kernel
theorem d307_191 : decode (cdN 307) 191 = .ok (.iconst 1, 1) := by decide +kernel
theorem d307_192 : decode (cdN 307) 192 = .ok (.if_icmp .ne 8, 3) := by decide +kernel
theorem d307_195 : decode (cdN 307) 195 = .ok (.iload 5, 2) := by decide +kernel
theorem d307_197 : decode (cdN 307) 197 = .ok (.ifCond .eq 31, 3) := by decide +kernel
theorem d307_200 : decode (cdN 307) 200 = .ok (.iload 5, 2) := by decide +kernel
theorem d307_202 : decode (cdN 307) 202 = .ok (.ifCond .ne 11, 3) := by decide +kernel
theorem d307_205 : decode (cdN 307) 205 = .ok (.aload_n 0, 1) := by decide +kernel
theorem d307_206 : decode (cdN 307) 206 = .ok (.iload_n 1, 1) := by decide +kernel
theorem d307_207 : decode (cdN 307) 207 = .ok (.invokevirtual 170, 3) := by decide +kernel
theorem d307_210 : decode (cdN 307) 210 = .ok (.ifCond .ne 18, 3) := by decide +kernel
theorem d307_213 : decode (cdN 307) 213 = .ok (.iload_n 2, 1) := by decide +kernel
theorem d307_214 : decode (cdN 307) 214 = .ok (.iconst 3, 1) := by decide +kernel
theorem d307_215 : decode (cdN 307) 215 = .ok (.if_icmp .lt 13, 3) := by decide +kernel
theorem d307_218 : decode (cdN 307) 218 = .ok (.iload_n 2, 1) := by decide +kernel
theorem d307_219 : decode (cdN 307) 219 = .ok (.bipush 6, 2) := by decide +kernel
theorem d307_221 : decode (cdN 307) 221 = .ok (.if_icmp .gt 7, 3) := by decide +kernel
theorem d307_224 : decode (cdN 307) 224 = .ok (.iconst 1, 1) := by decide +kernel
theorem d307_225 : decode (cdN 307) 225 = .ok (.goto 4, 3) := by decide +kernel
theorem d307_228 : decode (cdN 307) 228 = .ok (.iconst 0, 1) := by decide +kernel
theorem d307_229 : decode (cdN 307) 229 = .ok (.ireturn, 1) := by decide +kernel
theorem d308_0 : decode (cdN 308) 0 = .ok (.bipush 8, 2) := by decide +kernel
theorem d308_2 : decode (cdN 308) 2 = .ok (.aload_n 0, 1) := by decide +kernel
theorem d308_3 : decode (cdN 308) 3 = .ok (.iload_n 1, 1) := by decide +kernel
theorem d308_4 : decode (cdN 308) 4 = .ok (.invokevirtual 154, 3) := by decide +kernel
theorem c308_154 : ctN (owN 308) 154 = some (0, 95, [978, 979, 980, 23]) := by decide +kernel
theorem d308_7 : decode (cdN 308) 7 = .ok (.imul, 1) := by decide +kernel
theorem d308_8 : decode (cdN 308) 8 = .ok (.istore_n 3, 1) := by decide +kernel
theorem d308_9 : decode (cdN 308) 9 = .ok (.iconst 0, 1) := by decide +kernel
theorem d308_10 : decode (cdN 308) 10 = .ok (.istore 4, 2) := by decide +kernel
theorem d308_12 : decode (cdN 308) 12 = .ok (.iconst 0, 1) := by decide +kernel
theorem d308_13 : decode (cdN 308) 13 = .ok (.istore 5, 2) := by decide +kernel
theorem d308_15 : decode (cdN 308) 15 = .ok (.iconst 0, 1) := by decide +kernel
theorem d308_16 : decode (cdN 308) 16 = .ok (.istore 6, 2) := by decide +kernel
theorem d308_18 : decode (cdN 308) 18 = .ok (.iconst 0, 1) := by decide +kernel
theorem d308_19 : decode (cdN 308) 19 = .ok (.istore 7, 2) := by decide +kernel
theorem d308_21 : decode (cdN 308) 21 = .ok (.iconst 0, 1) := by decide +kernel
theorem d308_22 : decode (cdN 308) 22 = .ok (.istore 8, 2) := by decide +kernel
theorem d308_24 : decode (cdN 308) 24 = .ok (.iconst 0, 1) := by decide +kernel
theorem d308_25 : decode (cdN 308) 25 = .ok (.istore 9, 2) := by decide +kernel
theorem d308_27 : decode (cdN 308) 27 = .ok (.iconst 0, 1) := by decide +kernel
theorem d308_28 : decode (cdN 308) 28 = .ok (.istore 10, 2) := by decide +kernel
theorem d308_30 : decode (cdN 308) 30 = .ok (.iconst 0, 1) := by decide +kernel
theorem d308_31 : decode (cdN 308) 31 = .ok (.istore 11, 2) := by decide +kernel
theorem d308_33 : decode (cdN 308) 33 = .ok (.iload 11, 2) := by decide +kernel
theorem d308_35 : decode (cdN 308) 35 = .ok (.iload_n 3, 1) := by decide +kernel
theorem d308_36 : decode (cdN 308) 36 = .ok (.if_icmp .ge 199, 3) := by decide +kernel
theorem d308_39 : decode (cdN 308) 39 = .ok (.aload_n 0, 1) := by decide +kernel
theorem d308_40 : decode (cdN 308) 40 = .ok (.iload_n 2, 1) := by decide +kernel
theorem d308_41 : decode (cdN 308) 41 = .ok (.iload 11, 2) := by decide +kernel
theorem d308_43 : decode (cdN 308) 43 = .ok (.aload_n 0, 1) := by decide +kernel
theorem d308_44 : decode (cdN 308) 44 = .ok (.invokevirtual 182, 3) := by decide +kernel
theorem c308_182 : ctN (owN 308) 182 = some (0, 83, [1038, 1039, 1040, 23]) := by decide +kernel
theorem d308_47 : decode (cdN 308) 47 = .ok (.imul, 1) := by decide +kernel
theorem d308_48 : decode (cdN 308) 48 = .ok (.iadd, 1) := by decide +kernel
theorem d308_49 : decode (cdN 308) 49 = .ok (.invokevirtual 166, 3) := by decide +kernel
theorem c308_166 : ctN (owN 308) 166 = some (0, 86, [991, 992, 993, 23]) := by decide +kernel
theorem d308_52 : decode (cdN 308) 52 = .ok (.istore 12, 2) := by decide +kernel
theorem d308_54 : decode (cdN 308) 54 = .ok (.iload 7, 2) := by decide +kernel
theorem d308_56 : decode (cdN 308) 56 = .ok (.iload 12, 2) := by decide +kernel
theorem d308_58 : decode (cdN 308) 58 = .ok (.ifCond .eq 7, 3) := by decide +kernel
theorem d308_61 : decode (cdN 308) 61 = .ok (.iconst 1, 1) := by decide +kernel
theorem d308_62 : decode (cdN 308) 62 = .ok (.goto 4, 3) := by decide +kernel
theorem d308_65 : decode (cdN 308) 65 = .ok (.iconst 0, 1) := by decide +kernel
theorem d308_66 : decode (cdN 308) 66 = .ok (.iadd, 1) := by decide +kernel
theorem d308_67 : decode (cdN 308) 67 = .ok (.istore 7, 2) := by decide +kernel
theorem d308_69 : decode (cdN 308) 69 = .ok (.iload 12, 2) := by decide +kernel
theorem d308_71 : decode (cdN 308) 71 = .ok (.ifCond .eq 10, 3) := by decide +kernel
theorem d308_74 : decode (cdN 308) 74 = .ok (.iload 9, 2) := by decide +kernel
theorem d308_76 : decode (cdN 308) 76 = .ok (.iconst 1, 1) := by decide +kernel
theorem d308_77 : decode (cdN 308) 77 = .ok (.iadd, 1) := by decide +kernel
theorem d308_78 : decode (cdN 308) 78 = .ok (.goto 4, 3) := by decide +kernel
theorem d308_81 : decode (cdN 308) 81 = .ok (.iconst 0, 1) := by decide +kernel
theorem d308_82 : decode (cdN 308) 82 = .ok (.istore 9, 2) := by decide +kernel
theorem d308_84 : decode (cdN 308) 84 = .ok (.iload 10, 2) := by decide +kernel
theorem d308_86 : decode (cdN 308) 86 = .ok (.iload 9, 2) := by decide +kernel
theorem d308_88 : decode (cdN 308) 88 = .ok (.invokestatic 185, 3) := by decide +kernel
theorem c308_185 : ctN (owN 308) 185 = some (5, 0, [1042, 54, 17, 55]) := by decide +kernel
theorem d308_91 : decode (cdN 308) 91 = .ok (.istore 10, 2) := by decide +kernel
theorem d308_93 : decode (cdN 308) 93 = .ok (.aload_n 0, 1) := by decide +kernel
theorem d308_94 : decode (cdN 308) 94 = .ok (.iload 11, 2) := by decide +kernel
theorem d308_96 : decode (cdN 308) 96 = .ok (.invokevirtual 188, 3) := by decide +kernel
theorem c308_188 : ctN (owN 308) 188 = some (0, 103, [1043, 1044, 1045, 23]) := by decide +kernel
theorem d308_99 : decode (cdN 308) 99 = .ok (.istore 13, 2) := by decide +kernel
theorem d308_101 : decode (cdN 308) 101 = .ok (.iload 13, 2) := by decide +kernel
theorem d308_103 : decode (cdN 308) 103 = .ok (.iload_n 3, 1) := by decide +kernel
theorem d308_104 : decode (cdN 308) 104 = .ok (.if_icmp .lt 7, 3) := by decide +kernel
theorem d308_107 : decode (cdN 308) 107 = .ok (.iconst 0, 1) := by decide +kernel
theorem d308_108 : decode (cdN 308) 108 = .ok (.goto 32, 3) := by decide +kernel
theorem d308_111 : decode (cdN 308) 111 = .ok (.aload_n 0, 1) := by decide +kernel
theorem d308_112 : decode (cdN 308) 112 = .ok (.iload_n 1, 1) := by decide +kernel
theorem d308_113 : decode (cdN 308) 113 = .ok (.iload 13, 2) := by decide +kernel
theorem d308_115 : decode (cdN 308) 115 = .ok (.invokevirtual 176, 3) := by decide +kernel
theorem c308_176 : ctN (owN 308) 176 = some (0, 97, [1013, 1014, 1015, 23]) := by decide +kernel
theorem d308_118 : decode (cdN 308) 118 = .ok (.aload_n 0, 1) := by decide +kernel
theorem d308_119 : decode (cdN 308) 119 = .ok (.iload_n 2, 1) := by decide +kernel
theorem d308_120 : decode (cdN 308) 120 = .ok (.iload 13, 2) := by decide +kernel
theorem d308_122 : decode (cdN 308) 122 = .ok (.aload_n 0, 1) := by decide +kernel
theorem d308_123 : decode (cdN 308) 123 = .ok (.invokevirtual 182, 3) := by decide +kernel
theorem d308_126 : decode (cdN 308) 126 = .ok (.imul, 1) := by decide +kernel
theorem d308_127 : decode (cdN 308) 127 = .ok (.iadd, 1) := by decide +kernel
theorem d308_128 : decode (cdN 308) 128 = .ok (.invokevirtual 166, 3) := by decide +kernel
theorem d308_131 : decode (cdN 308) 131 = .ok (.ifCond .eq 7, 3) := by decide +kernel
theorem d308_134 : decode (cdN 308) 134 = .ok (.iconst 1, 1) := by decide +kernel
theorem d308_135 : decode (cdN 308) 135 = .ok (.goto 4, 3) := by decide +kernel
theorem d308_138 : decode (cdN 308) 138 = .ok (.iconst 0, 1) := by decide +kernel
theorem d308_139 : decode (cdN 308) 139 = .ok (.ixor, 1) := by decide +kernel
theorem d308_140 : decode (cdN 308) 140 = .ok (.istore 14, 2) := by decide +kernel
theorem d308_142 : decode (cdN 308) 142 = .ok (.aload_n 0, 1) := by decide +kernel
theorem d308_143 : decode (cdN 308) 143 = .ok (.iload_n 1, 1) := by decide +kernel
theorem d308_144 : decode (cdN 308) 144 = .ok (.iload 11, 2) := by decide +kernel
theorem d308_146 : decode (cdN 308) 146 = .ok (.iload_n 2, 1) := by decide +kernel
theorem d308_147 : decode (cdN 308) 147 = .ok (.invokevirtual 191, 3) := by decide +kernel
theorem c308_191 : ctN (owN 308) 191 = some (0, 105, [1049, 1050, 1051, 23]) := by decide +kernel
theorem d308_150 : decode (cdN 308) 150 = .ok (.iload 14, 2) := by decide +kernel
theorem d308_152 : decode (cdN 308) 152 = .ok (.if_icmp .eq 5, 3) := by decide +kernel
theorem d308_155 : decode (cdN 308) 155 = .ok (.iconst 0, 1) := by decide +kernel
theorem d308_156 : decode (cdN 308) 156 = .ok (.ireturn, 1) := by decide +kernel
theorem d308_157 : decode (cdN 308) 157 = .ok (.iload 8, 2) := by decide +kernel
theorem d308_159 : decode (cdN 308) 159 = .ok (.iload 14, 2) := by decide +kernel
theorem d308_161 : decode (cdN 308) 161 = .ok (.aload_n 0, 1) := by decide +kernel
theorem d308_162 : decode (cdN 308) 162 = .ok (.iload_n 1, 1) := by decide +kernel
theorem d308_163 : decode (cdN 308) 163 = .ok (.iload 11, 2) := by decide +kernel
theorem d308_165 : decode (cdN 308) 165 = .ok (.invokevirtual 176, 3) := by decide +kernel
theorem d308_168 : decode (cdN 308) 168 = .ok (.if_icmp .eq 7, 3) := by decide +kernel
theorem d308_171 : decode (cdN 308) 171 = .ok (.iconst 1, 1) := by decide +kernel
theorem d308_172 : decode (cdN 308) 172 = .ok (.goto 4, 3) := by decide +kernel
theorem d308_175 : decode (cdN 308) 175 = .ok (.iconst 0, 1) := by decide +kernel
theorem d308_176 : decode (cdN 308) 176 = .ok (.iadd, 1) := by decide +kernel
theorem d308_177 : decode (cdN 308) 177 = .ok (.istore 8, 2) := by decide +kernel
theorem d308_179 : decode (cdN 308) 179 = .ok (.iconst 2, 1) := by decide +kernel
theorem d308_180 : decode (cdN 308) 180 = .ok (.iload 5, 2) := by decide +kernel
theorem d308_182 : decode (cdN 308) 182 = .ok (.imul, 1) := by decide +kernel
theorem d308_183 : decode (cdN 308) 183 = .ok (.iload 14, 2) := by decide +kernel
theorem d308_185 : decode (cdN 308) 185 = .ok (.iadd, 1) := by decide +kernel
theorem d308_186 : decode (cdN 308) 186 = .ok (.istore 5, 2) := by decide +kernel
theorem d308_188 : decode (cdN 308) 188 = .ok (.iload 11, 2) := by decide +kernel
theorem d308_190 : decode (cdN 308) 190 = .ok (.bipush 8, 2) := by decide +kernel
theorem d308_192 : decode (cdN 308) 192 = .ok (.irem, 1) := by decide +kernel
theorem d308_193 : decode (cdN 308) 193 = .ok (.bipush 7, 2) := by decide +kernel
theorem d308_195 : decode (cdN 308) 195 = .ok (.if_icmp .ge 6, 3) := by decide +kernel
theorem d308_198 : decode (cdN 308) 198 = .ok (.goto 31, 3) := by decide +kernel
theorem d308_201 : decode (cdN 308) 201 = .ok (.iload 11, 2) := by decide +kernel
theorem d308_203 : decode (cdN 308) 203 = .ok (.bipush 7, 2) := by decide +kernel
theorem d308_205 : decode (cdN 308) 205 = .ok (.if_icmp .ne 8, 3) := by decide +kernel
theorem d308_208 : decode (cdN 308) 208 = .ok (.iload 5, 2) := by decide +kernel
theorem d308_210 : decode (cdN 308) 210 = .ok (.goto 5, 3) := by decide +kernel
theorem d308_213 : decode (cdN 308) 213 = .ok (.iload 6, 2) := by decide +kernel
theorem d308_215 : decode (cdN 308) 215 = .ok (.istore 6, 2) := by decide +kernel
theorem d308_217 : decode (cdN 308) 217 = .ok (.iload 4, 2) := by decide +kernel
theorem d308_219 : decode (cdN 308) 219 = .ok (.iload 5, 2) := by decide +kernel
theorem d308_221 : decode (cdN 308) 221 = .ok (.invokestatic 173, 3) := by decide +kernel
theorem c308_173 : ctN (owN 308) 173 = some (1, 306, [1010, 1011, 11]) := by decide +kernel
theorem d308_224 : decode (cdN 308) 224 = .ok (.istore 4, 2) := by decide +kernel
theorem d308_226 : decode (cdN 308) 226 = .ok (.iconst 0, 1) := by decide +kernel
theorem d308_227 : decode (cdN 308) 227 = .ok (.istore 5, 2) := by decide +kernel
theorem d308_229 : decode (cdN 308) 229 = .ok (.iinc 11 1, 3) := by decide +kernel
theorem d308_232 : decode (cdN 308) 232 = .ok (.goto (-199), 3) := by decide +kernel
theorem d308_235 : decode (cdN 308) 235 = .ok (.iconst 1, 1) := by decide +kernel
theorem d308_236 : decode (cdN 308) 236 = .ok (.istore 11, 2) := by decide +kernel
theorem d308_238 : decode (cdN 308) 238 = .ok (.iconst 0, 1) := by decide +kernel
theorem d308_239 : decode (cdN 308) 239 = .ok (.istore 12, 2) := by decide +kernel
theorem d308_241 : decode (cdN 308) 241 = .ok (.iload 12, 2) := by decide +kernel
theorem d308_243 : decode (cdN 308) 243 = .ok (.bipush 8, 2) := by decide +kernel
theorem d308_245 : decode (cdN 308) 245 = .ok (.if_icmp .ge 39, 3) := by decide +kernel
theorem d308_248 : decode (cdN 308) 248 = .ok (.iload 11, 2) := by decide +kernel
theorem d308_250 : decode (cdN 308) 250 = .ok (.ifCond .eq 25, 3) := by decide +kernel
theorem d308_253 : decode (cdN 308) 253 = .ok (.aload_n 0, 1) := by decide +kernel
theorem d308_254 : decode (cdN 308) 254 = .ok (.iload_n 2, 1) := by decide +kernel
theorem d308_255 : decode (cdN 308) 255 = .ok (.iload_n 3, 1) := by decide +kernel
theorem d308_256 : decode (cdN 308) 256 = .ok (.iload 12, 2) := by decide +kernel
theorem d308_258 : decode (cdN 308) 258 = .ok (.iadd, 1) := by decide +kernel
theorem d308_259 : decode (cdN 308) 259 = .ok (.aload_n 0, 1) := by decide +kernel
theorem d308_260 : decode (cdN 308) 260 = .ok (.invokevirtual 182, 3) := by decide +kernel
theorem d308_263 : decode (cdN 308) 263 = .ok (.imul, 1) := by decide +kernel
theorem d308_264 : decode (cdN 308) 264 = .ok (.iadd, 1) := by decide +kernel
theorem d308_265 : decode (cdN 308) 265 = .ok (.invokevirtual 166, 3) := by decide +kernel
theorem d308_268 : decode (cdN 308) 268 = .ok (.ifCond .ne 7, 3) := by decide +kernel
theorem d308_271 : decode (cdN 308) 271 = .ok (.iconst 1, 1) := by decide +kernel
theorem d308_272 : decode (cdN 308) 272 = .ok (.goto 4, 3) := by decide +kernel
theorem d308_275 : decode (cdN 308) 275 = .ok (.iconst 0, 1) := by decide +kernel
theorem d308_276 : decode (cdN 308) 276 = .ok (.istore 11, 2) := by decide +kernel
theorem d308_278 : decode (cdN 308) 278 = .ok (.iinc 12 1, 3) := by decide +kernel
theorem d308_281 : decode (cdN 308) 281 = .ok (.goto (-40), 3) := by decide +kernel
theorem d308_284 : decode (cdN 308) 284 = .ok (.iload 4, 2) := by decide +kernel
theorem d308_286 : decode (cdN 308) 286 = .ok (.ifCond .ne 18, 3) := by decide +kernel
theorem d308_289 : decode (cdN 308) 289 = .ok (.iload 6, 2) := by decide +kernel
theorem d308_291 : decode (cdN 308) 291 = .ok (.bipush 16, 2) := by decide +kernel
theorem d308_293 : decode (cdN 308) 293 = .ok (.irem, 1) := by decide +kernel
theorem d308_294 : decode (cdN 308) 294 = .ok (.aload_n 0, 1) := by decide +kernel
theorem d308_295 : decode (cdN 308) 295 = .ok (.iload_n 1, 1) := by decide +kernel
theorem d308_296 : decode (cdN 308) 296 = .ok (.invokevirtual 154, 3) := by decide +kernel
theorem d308_299 : decode (cdN 308) 299 = .ok (.iconst 2, 1) := by decide +kernel
theorem d308_300 : decode (cdN 308) 300 = .ok (.isub, 1) := by decide +kernel
theorem d308_301 : decode (cdN 308) 301 = .ok (.if_icmp .eq 7, 3) := by decide +kernel
theorem d308_304 : decode (cdN 308) 304 = .ok (.iconst 1, 1) := by decide +kernel
theorem d308_305 : decode (cdN 308) 305 = .ok (.goto 13, 3) := by decide +kernel
theorem d308_308 : decode (cdN 308) 308 = .ok (.iload 11, 2) := by decide +kernel
theorem d308_310 : decode (cdN 308) 310 = .ok (.ifCond .eq 7, 3) := by decide +kernel
theorem d308_313 : decode (cdN 308) 313 = .ok (.iconst 0, 1) := by decide +kernel
theorem d308_314 : decode (cdN 308) 314 = .ok (.goto 4, 3) := by decide +kernel
theorem d308_317 : decode (cdN 308) 317 = .ok (.iconst 2, 1) := by decide +kernel
theorem d308_318 : decode (cdN 308) 318 = .ok (.istore 12, 2) := by decide +kernel
theorem d308_320 : decode (cdN 308) 320 = .ok (.aload_n 0, 1) := by decide +kernel
theorem d308_321 : decode (cdN 308) 321 = .ok (.iload_n 1, 1) := by decide +kernel
theorem d308_322 : decode (cdN 308) 322 = .ok (.iload_n 2, 1) := by decide +kernel
theorem d308_323 : decode (cdN 308) 323 = .ok (.invokevirtual 194, 3) := by decide +kernel
theorem c308_194 : ctN (owN 308) 194 = some (0, 109, [422, 423, 424, 23]) := by decide +kernel
theorem d308_326 : decode (cdN 308) 326 = .ok (.iload 12, 2) := by decide +kernel
theorem d308_328 : decode (cdN 308) 328 = .ok (.if_icmp .ne 51, 3) := by decide +kernel
theorem d308_331 : decode (cdN 308) 331 = .ok (.aload_n 0, 1) := by decide +kernel
theorem d308_332 : decode (cdN 308) 332 = .ok (.iload_n 1, 1) := by decide +kernel
theorem d308_333 : decode (cdN 308) 333 = .ok (.iload_n 2, 1) := by decide +kernel
theorem d308_334 : decode (cdN 308) 334 = .ok (.invokevirtual 197, 3) := by decide +kernel
theorem c308_197 : ctN (owN 308) 197 = some (0, 106, [1055, 1056, 1057, 23]) := by decide +kernel
theorem d308_337 : decode (cdN 308) 337 = .ok (.iload 7, 2) := by decide +kernel
theorem d308_339 : decode (cdN 308) 339 = .ok (.if_icmp .ne 40, 3) := by decide +kernel
theorem d308_342 : decode (cdN 308) 342 = .ok (.aload_n 0, 1) := by decide +kernel
theorem d308_343 : decode (cdN 308) 343 = .ok (.iload_n 1, 1) := by decide +kernel
theorem d308_344 : decode (cdN 308) 344 = .ok (.iload_n 2, 1) := by decide +kernel
theorem d308_345 : decode (cdN 308) 345 = .ok (.invokevirtual 200, 3) := by decide +kernel
theorem c308_200 : ctN (owN 308) 200 = some (0, 108, [1059, 1060, 1061, 23]) := by decide +kernel
theorem d308_348 : decode (cdN 308) 348 = .ok (.iload 8, 2) := by decide +kernel
theorem d308_350 : decode (cdN 308) 350 = .ok (.if_icmp .ne 29, 3) := by decide +kernel
theorem d308_353 : decode (cdN 308) 353 = .ok (.aload_n 0, 1) := by decide +kernel
theorem d308_354 : decode (cdN 308) 354 = .ok (.iload_n 1, 1) := by decide +kernel
theorem d308_355 : decode (cdN 308) 355 = .ok (.iload_n 2, 1) := by decide +kernel
theorem d308_356 : decode (cdN 308) 356 = .ok (.invokevirtual 203, 3) := by decide +kernel
theorem c308_203 : ctN (owN 308) 203 = some (0, 107, [1063, 1064, 1065, 23]) := by decide +kernel
theorem d308_359 : decode (cdN 308) 359 = .ok (.iload 10, 2) := by decide +kernel
theorem d308_361 : decode (cdN 308) 361 = .ok (.if_icmp .ne 18, 3) := by decide +kernel
theorem d308_364 : decode (cdN 308) 364 = .ok (.iload 8, 2) := by decide +kernel
theorem d308_366 : decode (cdN 308) 366 = .ok (.ifCond .gt 9, 3) := by decide +kernel
theorem d308_369 : decode (cdN 308) 369 = .ok (.iload 12, 2) := by decide +kernel
theorem d308_371 : decode (cdN 308) 371 = .ok (.iconst 1, 1) := by decide +kernel
theorem d308_372 : decode (cdN 308) 372 = .ok (.if_icmp .eq 7, 3) := by decide +kernel
theorem d308_375 : decode (cdN 308) 375 = .ok (.iconst 1, 1) := by decide +kernel
theorem d308_376 : decode (cdN 308) 376 = .ok (.goto 4, 3) := by decide +kernel
theorem d308_379 : decode (cdN 308) 379 = .ok (.iconst 0, 1) := by decide +kernel
theorem d308_380 : decode (cdN 308) 380 = .ok (.ireturn, 1) := by decide +kernel
theorem d309_0 : decode (cdN 309) 0 = .ok (.iconst 0, 1) := by decide +kernel
theorem d309_1 : decode (cdN 309) 1 = .ok (.istore_n 2, 1) := by decide +kernel
theorem d309_2 : decode (cdN 309) 2 = .ok (.iconst 0, 1) := by decide +kernel
theorem d309_3 : decode (cdN 309) 3 = .ok (.istore_n 3, 1) := by decide +kernel
theorem d309_4 : decode (cdN 309) 4 = .ok (.iconst (-1), 1) := by decide +kernel
theorem d309_5 : decode (cdN 309) 5 = .ok (.istore 4, 2) := by decide +kernel
theorem d309_7 : decode (cdN 309) 7 = .ok (.iconst 0, 1) := by decide +kernel
theorem d309_8 : decode (cdN 309) 8 = .ok (.istore 5, 2) := by decide +kernel
theorem d309_10 : decode (cdN 309) 10 = .ok (.iconst 0, 1) := by decide +kernel
theorem d309_11 : decode (cdN 309) 11 = .ok (.istore 6, 2) := by decide +kernel
theorem d309_13 : decode (cdN 309) 13 = .ok (.iload 6, 2) := by decide +kernel
theorem d309_15 : decode (cdN 309) 15 = .ok (.aload_n 0, 1) := by decide +kernel
theorem d309_16 : decode (cdN 309) 16 = .ok (.invokevirtual 136, 3) := by decide +kernel
theorem c309_136 : ctN (owN 309) 136 = some (0, 90, [957, 958, 959, 23]) := by decide +kernel
theorem d309_19 : decode (cdN 309) 19 = .ok (.if_icmp .ge 197, 3) := by decide +kernel
theorem d309_22 : decode (cdN 309) 22 = .ok (.aload_n 0, 1) := by decide +kernel
theorem d309_23 : decode (cdN 309) 23 = .ok (.iload 6, 2) := by decide +kernel
theorem d309_25 : decode (cdN 309) 25 = .ok (.invokevirtual 139, 3) := by decide +kernel
theorem c309_139 : ctN (owN 309) 139 = some (0, 91, [961, 962, 963, 23]) := by decide +kernel
theorem d309_28 : decode (cdN 309) 28 = .ok (.iconst 3, 1) := by decide +kernel
theorem d309_29 : decode (cdN 309) 29 = .ok (.iadd, 1) := by decide +kernel
theorem d309_30 : decode (cdN 309) 30 = .ok (.iconst 4, 1) := by decide +kernel
theorem d309_31 : decode (cdN 309) 31 = .ok (.idiv, 1) := by decide +kernel
theorem d309_32 : decode (cdN 309) 32 = .ok (.istore 7, 2) := by decide +kernel
theorem d309_34 : decode (cdN 309) 34 = .ok (.iconst 0, 1) := by decide +kernel
theorem d309_35 : decode (cdN 309) 35 = .ok (.istore 8, 2) := by decide +kernel
theorem d309_37 : decode (cdN 309) 37 = .ok (.iconst 0, 1) := by decide +kernel
theorem d309_38 : decode (cdN 309) 38 = .ok (.istore 9, 2) := by decide +kernel
theorem d309_40 : decode (cdN 309) 40 = .ok (.aload_n 0, 1) := by decide +kernel
theorem d309_41 : decode (cdN 309) 41 = .ok (.iload 6, 2) := by decide +kernel
theorem d309_43 : decode (cdN 309) 43 = .ok (.invokevirtual 206, 3) := by decide +kernel
theorem c309_206 : ctN (owN 309) 206 = some (0, 93, [999, 1000, 1001, 23]) := by decide +kernel
theorem d309_46 : decode (cdN 309) 46 = .ok (.iload_n 2, 1) := by decide +kernel
theorem d309_47 : decode (cdN 309) 47 = .ok (.if_icmp .eq 5, 3) := by decide +kernel
theorem d309_50 : decode (cdN 309) 50 = .ok (.iconst 0, 1) := by decide +kernel
theorem d309_51 : decode (cdN 309) 51 = .ok (.ireturn, 1) := by decide +kernel
theorem d309_52 : decode (cdN 309) 52 = .ok (.iload_n 2, 1) := by decide +kernel
theorem d309_53 : decode (cdN 309) 53 = .ok (.istore 10, 2) := by decide +kernel
theorem d309_55 : decode (cdN 309) 55 = .ok (.iload 10, 2) := by decide +kernel
theorem d309_57 : decode (cdN 309) 57 = .ok (.iload_n 2, 1) := by decide +kernel
theorem d309_58 : decode (cdN 309) 58 = .ok (.iload 7, 2) := by decide +kernel
theorem d309_60 : decode (cdN 309) 60 = .ok (.iadd, 1) := by decide +kernel
theorem d309_61 : decode (cdN 309) 61 = .ok (.if_icmp .ge 114, 3) := by decide +kernel
theorem d309_64 : decode (cdN 309) 64 = .ok (.aload_n 0, 1) := by decide +kernel
theorem d309_65 : decode (cdN 309) 65 = .ok (.iload 10, 2) := by decide +kernel
theorem d309_67 : decode (cdN 309) 67 = .ok (.invokestatic 209, 3) := by decide +kernel
theorem c309_209 : ctN (owN 309) 209 = some (1, 307, [1003, 1004, 11]) := by decide +kernel
theorem d309_70 : decode (cdN 309) 70 = .ok (.ifCond .ne 5, 3) := by decide +kernel
theorem d309_73 : decode (cdN 309) 73 = .ok (.iconst 0, 1) := by decide +kernel
theorem d309_74 : decode (cdN 309) 74 = .ok (.ireturn, 1) := by decide +kernel
theorem d309_75 : decode (cdN 309) 75 = .ok (.aload_n 0, 1) := by decide +kernel
theorem d309_76 : decode (cdN 309) 76 = .ok (.iload 10, 2) := by decide +kernel
theorem d309_78 : decode (cdN 309) 78 = .ok (.invokevirtual 148, 3) := by decide +kernel
theorem c309_148 : ctN (owN 309) 148 = some (0, 98, [970, 971, 972, 23]) := by decide +kernel
theorem d309_81 : decode (cdN 309) 81 = .ok (.istore 11, 2) := by decide +kernel
theorem d309_83 : decode (cdN 309) 83 = .ok (.iload 8, 2) := by decide +kernel
theorem d309_85 : decode (cdN 309) 85 = .ok (.ifCond .ne 8, 3) := by decide +kernel
theorem d309_88 : decode (cdN 309) 88 = .ok (.iload 11, 2) := by decide +kernel
theorem d309_90 : decode (cdN 309) 90 = .ok (.ifCond .ne 7, 3) := by decide +kernel
theorem d309_93 : decode (cdN 309) 93 = .ok (.iconst 1, 1) := by decide +kernel
theorem d309_94 : decode (cdN 309) 94 = .ok (.goto 4, 3) := by decide +kernel
theorem d309_97 : decode (cdN 309) 97 = .ok (.iconst 0, 1) := by decide +kernel
theorem d309_98 : decode (cdN 309) 98 = .ok (.istore 8, 2) := by decide +kernel
theorem d309_100 : decode (cdN 309) 100 = .ok (.iload 9, 2) := by decide +kernel
theorem d309_102 : decode (cdN 309) 102 = .ok (.ifCond .ne 9, 3) := by decide +kernel
theorem d309_105 : decode (cdN 309) 105 = .ok (.iload 11, 2) := by decide +kernel
theorem d309_107 : decode (cdN 309) 107 = .ok (.iconst 2, 1) := by decide +kernel
theorem d309_108 : decode (cdN 309) 108 = .ok (.if_icmp .ne 7, 3) := by decide +kernel
theorem d309_111 : decode (cdN 309) 111 = .ok (.iconst 1, 1) := by decide +kernel
theorem d309_112 : decode (cdN 309) 112 = .ok (.goto 4, 3) := by decide +kernel
theorem d309_115 : decode (cdN 309) 115 = .ok (.iconst 0, 1) := by decide +kernel
theorem d309_116 : decode (cdN 309) 116 = .ok (.istore 9, 2) := by decide +kernel
theorem d309_118 : decode (cdN 309) 118 = .ok (.iload 11, 2) := by decide +kernel
theorem d309_120 : decode (cdN 309) 120 = .ok (.ifCond .ne 13, 3) := by decide +kernel
theorem d309_123 : decode (cdN 309) 123 = .ok (.iload 4, 2) := by decide +kernel
theorem d309_125 : decode (cdN 309) 125 = .ok (.ifCond .ge 8, 3) := by decide +kernel
theorem d309_128 : decode (cdN 309) 128 = .ok (.iload 10, 2) := by decide +kernel
theorem d309_130 : decode (cdN 309) 130 = .ok (.goto 5, 3) := by decide +kernel
theorem d309_133 : decode (cdN 309) 133 = .ok (.iload 4, 2) := by decide +kernel
theorem d309_135 : decode (cdN 309) 135 = .ok (.istore 4, 2) := by decide +kernel
theorem d309_137 : decode (cdN 309) 137 = .ok (.iload_n 3, 1) := by decide +kernel
theorem d309_138 : decode (cdN 309) 138 = .ok (.aload_n 0, 1) := by decide +kernel
theorem d309_139 : decode (cdN 309) 139 = .ok (.iload 10, 2) := by decide +kernel
theorem d309_141 : decode (cdN 309) 141 = .ok (.invokevirtual 151, 3) := by decide +kernel
theorem c309_151 : ctN (owN 309) 151 = some (0, 99, [974, 975, 976, 23]) := by decide +kernel
theorem d309_144 : decode (cdN 309) 144 = .ok (.iadd, 1) := by decide +kernel
theorem d309_145 : decode (cdN 309) 145 = .ok (.istore_n 3, 1) := by decide +kernel
theorem d309_146 : decode (cdN 309) 146 = .ok (.iload 5, 2) := by decide +kernel
theorem d309_148 : decode (cdN 309) 148 = .ok (.iload 11, 2) := by decide +kernel
theorem d309_150 : decode (cdN 309) 150 = .ok (.iconst 1, 1) := by decide +kernel
theorem d309_151 : decode (cdN 309) 151 = .ok (.if_icmp .ne 14, 3) := by decide +kernel
theorem d309_154 : decode (cdN 309) 154 = .ok (.aload_n 0, 1) := by decide +kernel
theorem d309_155 : decode (cdN 309) 155 = .ok (.iload 10, 2) := by decide +kernel
theorem d309_157 : decode (cdN 309) 157 = .ok (.invokevirtual 154, 3) := by decide +kernel
theorem c309_154 : ctN (owN 309) 154 = some (0, 95, [978, 979, 980, 23]) := by decide +kernel
theorem d309_160 : decode (cdN 309) 160 = .ok (.iconst 2, 1) := by decide +kernel
theorem d309_161 : decode (cdN 309) 161 = .ok (.isub, 1) := by decide +kernel
theorem d309_162 : decode (cdN 309) 162 = .ok (.goto 4, 3) := by decide +kernel
theorem d309_165 : decode (cdN 309) 165 = .ok (.iconst 0, 1) := by decide +kernel
theorem d309_166 : decode (cdN 309) 166 = .ok (.iadd, 1) := by decide +kernel
theorem d309_167 : decode (cdN 309) 167 = .ok (.istore 5, 2) := by decide +kernel
theorem d309_169 : decode (cdN 309) 169 = .ok (.iinc 10 1, 3) := by decide +kernel
theorem d309_172 : decode (cdN 309) 172 = .ok (.goto (-117), 3) := by decide +kernel
theorem d309_175 : decode (cdN 309) 175 = .ok (.aload_n 0, 1) := by decide +kernel
theorem d309_176 : decode (cdN 309) 176 = .ok (.iload 6, 2) := by decide +kernel
theorem d309_178 : decode (cdN 309) 178 = .ok (.invokevirtual 142, 3) := by decide +kernel
theorem c309_142 : ctN (owN 309) 142 = some (0, 92, [965, 966, 967, 23]) := by decide +kernel
theorem d309_181 : decode (cdN 309) 181 = .ok (.iload 8, 2) := by decide +kernel
theorem d309_183 : decode (cdN 309) 183 = .ok (.ifCond .eq 7, 3) := by decide +kernel
theorem d309_186 : decode (cdN 309) 186 = .ok (.iconst 0, 1) := by decide +kernel
theorem d309_187 : decode (cdN 309) 187 = .ok (.goto 13, 3) := by decide +kernel
theorem d309_190 : decode (cdN 309) 190 = .ok (.iload 9, 2) := by decide +kernel
theorem d309_192 : decode (cdN 309) 192 = .ok (.ifCond .eq 7, 3) := by decide +kernel
theorem d309_195 : decode (cdN 309) 195 = .ok (.iconst 2, 1) := by decide +kernel
theorem d309_196 : decode (cdN 309) 196 = .ok (.goto 4, 3) := by decide +kernel
theorem d309_199 : decode (cdN 309) 199 = .ok (.iconst 1, 1) := by decide +kernel
theorem d309_200 : decode (cdN 309) 200 = .ok (.if_icmp .eq 5, 3) := by decide +kernel
theorem d309_203 : decode (cdN 309) 203 = .ok (.iconst 0, 1) := by decide +kernel
theorem d309_204 : decode (cdN 309) 204 = .ok (.ireturn, 1) := by decide +kernel
theorem d309_205 : decode (cdN 309) 205 = .ok (.iload_n 2, 1) := by decide +kernel
theorem d309_206 : decode (cdN 309) 206 = .ok (.iload 7, 2) := by decide +kernel
theorem d309_208 : decode (cdN 309) 208 = .ok (.iadd, 1) := by decide +kernel
theorem d309_209 : decode (cdN 309) 209 = .ok (.istore_n 2, 1) := by decide +kernel
theorem d309_210 : decode (cdN 309) 210 = .ok (.iinc 6 1, 3) := by decide +kernel
theorem d309_213 : decode (cdN 309) 213 = .ok (.goto (-200), 3) := by decide +kernel
theorem d309_216 : decode (cdN 309) 216 = .ok (.aload_n 0, 1) := by decide +kernel
theorem d309_217 : decode (cdN 309) 217 = .ok (.aload_n 0, 1) := by decide +kernel
theorem d309_218 : decode (cdN 309) 218 = .ok (.invokevirtual 92, 3) := by decide +kernel
theorem c309_92 : ctN (owN 309) 92 = some (0, 82, [414, 415, 416, 23]) := by decide +kernel
theorem d309_221 : decode (cdN 309) 221 = .ok (.invokevirtual 213, 3) := by decide +kernel
theorem c309_213 : ctN (owN 309) 213 = some (0, 87, [1026, 1027, 1028, 23]) := by decide +kernel
theorem d309_224 : decode (cdN 309) 224 = .ok (.istore 6, 2) := by decide +kernel
theorem d309_226 : decode (cdN 309) 226 = .ok (.aload_n 0, 1) := by decide +kernel
theorem d309_227 : decode (cdN 309) 227 = .ok (.iconst 1, 1) := by decide +kernel
theorem d309_228 : decode (cdN 309) 228 = .ok (.iload_n 1, 1) := by decide +kernel
theorem d309_229 : decode (cdN 309) 229 = .ok (.bipush 40, 2) := by decide +kernel
theorem d309_231 : decode (cdN 309) 231 = .ok (.irem, 1) := by decide +kernel
theorem d309_232 : decode (cdN 309) 232 = .ok (.iadd, 1) := by decide +kernel
theorem d309_233 : decode (cdN 309) 233 = .ok (.invokevirtual 216, 3) := by decide +kernel
theorem c309_216 : ctN (owN 309) 216 = some (0, 88, [1030, 1031, 1032, 23]) := by decide +kernel
theorem d309_236 : decode (cdN 309) 236 = .ok (.istore 7, 2) := by decide +kernel
theorem d309_238 : decode (cdN 309) 238 = .ok (.iload 6, 2) := by decide +kernel
theorem d309_240 : decode (cdN 309) 240 = .ok (.ifCond .lt 32, 3) := by decide +kernel
theorem d309_243 : decode (cdN 309) 243 = .ok (.aload_n 0, 1) := by decide +kernel
theorem d309_244 : decode (cdN 309) 244 = .ok (.iload 6, 2) := by decide +kernel
theorem d309_246 : decode (cdN 309) 246 = .ok (.invokevirtual 166, 3) := by decide +kernel
theorem c309_166 : ctN (owN 309) 166 = some (0, 86, [991, 992, 993, 23]) := by decide +kernel
theorem d309_249 : decode (cdN 309) 249 = .ok (.ifCond .eq 51, 3) := by decide +kernel
theorem d309_252 : decode (cdN 309) 252 = .ok (.iload 6, 2) := by decide +kernel
theorem d309_254 : decode (cdN 309) 254 = .ok (.aload_n 0, 1) := by decide +kernel
theorem d309_255 : decode (cdN 309) 255 = .ok (.invokevirtual 92, 3) := by decide +kernel
theorem d309_258 : decode (cdN 309) 258 = .ok (.if_icmp .le 14, 3) := by decide +kernel
theorem d309_261 : decode (cdN 309) 261 = .ok (.aload_n 0, 1) := by decide +kernel
theorem d309_262 : decode (cdN 309) 262 = .ok (.iload 6, 2) := by decide +kernel
theorem d309_264 : decode (cdN 309) 264 = .ok (.iconst 1, 1) := by decide +kernel
theorem d309_265 : decode (cdN 309) 265 = .ok (.isub, 1) := by decide +kernel
theorem d309_266 : decode (cdN 309) 266 = .ok (.invokevirtual 166, 3) := by decide +kernel
theorem d309_269 : decode (cdN 309) 269 = .ok (.ifCond .ne 31, 3) := by decide +kernel
theorem d309_272 : decode (cdN 309) 272 = .ok (.iload 7, 2) := by decide +kernel
theorem d309_274 : decode (cdN 309) 274 = .ok (.ifCond .lt 28, 3) := by decide +kernel
theorem d309_277 : decode (cdN 309) 277 = .ok (.aload_n 0, 1) := by decide +kernel
theorem d309_278 : decode (cdN 309) 278 = .ok (.iload 7, 2) := by decide +kernel
theorem d309_280 : decode (cdN 309) 280 = .ok (.invokevirtual 166, 3) := by decide +kernel
theorem d309_283 : decode (cdN 309) 283 = .ok (.ifCond .ne 17, 3) := by decide +kernel
theorem d309_286 : decode (cdN 309) 286 = .ok (.aload_n 0, 1) := by decide +kernel
theorem d309_287 : decode (cdN 309) 287 = .ok (.iload 7, 2) := by decide +kernel
theorem d309_289 : decode (cdN 309) 289 = .ok (.iload_n 1, 1) := by decide +kernel
theorem d309_290 : decode (cdN 309) 290 = .ok (.bipush 40, 2) := by decide +kernel
theorem d309_292 : decode (cdN 309) 292 = .ok (.irem, 1) := by decide +kernel
theorem d309_293 : decode (cdN 309) 293 = .ok (.iadd, 1) := by decide +kernel
theorem d309_294 : decode (cdN 309) 294 = .ok (.invokevirtual 166, 3) := by decide +kernel
theorem d309_297 : decode (cdN 309) 297 = .ok (.ifCond .eq 5, 3) := by decide +kernel
theorem d309_300 : decode (cdN 309) 300 = .ok (.iconst 0, 1) := by decide +kernel
theorem d309_301 : decode (cdN 309) 301 = .ok (.ireturn, 1) := by decide +kernel
theorem d309_302 : decode (cdN 309) 302 = .ok (.iload_n 2, 1) := by decide +kernel
theorem d309_303 : decode (cdN 309) 303 = .ok (.ifCond .le 25, 3) := by decide +kernel
theorem d309_306 : decode (cdN 309) 306 = .ok (.aload_n 0, 1) := by decide +kernel
theorem d309_307 : decode (cdN 309) 307 = .ok (.iload_n 1, 1) := by decide +kernel
theorem d309_308 : decode (cdN 309) 308 = .ok (.iload_n 2, 1) := by decide +kernel
theorem d309_309 : decode (cdN 309) 309 = .ok (.irem, 1) := by decide +kernel
theorem d309_310 : decode (cdN 309) 310 = .ok (.aload_n 0, 1) := by decide +kernel
theorem d309_311 : decode (cdN 309) 311 = .ok (.invokevirtual 92, 3) := by decide +kernel
theorem d309_314 : decode (cdN 309) 314 = .ok (.iload_n 1, 1) := by decide +kernel
theorem d309_315 : decode (cdN 309) 315 = .ok (.sipush 300, 3) := by decide +kernel
theorem d309_318 : decode (cdN 309) 318 = .ok (.irem, 1) := by decide +kernel
theorem d309_319 : decode (cdN 309) 319 = .ok (.iadd, 1) := by decide +kernel
theorem d309_320 : decode (cdN 309) 320 = .ok (.invokestatic 219, 3) := by decide +kernel
theorem c309_219 : ctN (owN 309) 219 = some (1, 308, [1035, 1036, 11]) := by decide +kernel
theorem d309_323 : decode (cdN 309) 323 = .ok (.ifCond .ne 5, 3) := by decide +kernel
theorem d309_326 : decode (cdN 309) 326 = .ok (.iconst 0, 1) := by decide +kernel
theorem d309_327 : decode (cdN 309) 327 = .ok (.ireturn, 1) := by decide +kernel
theorem d309_328 : decode (cdN 309) 328 = .ok (.iload_n 2, 1) := by decide +kernel
theorem d309_329 : decode (cdN 309) 329 = .ok (.aload_n 0, 1) := by decide +kernel
theorem d309_330 : decode (cdN 309) 330 = .ok (.invokevirtual 145, 3) := by decide +kernel
theorem c309_145 : ctN (owN 309) 145 = some (0, 94, [418, 419, 420, 23]) := by decide +kernel
theorem d309_333 : decode (cdN 309) 333 = .ok (.if_icmp .ne 121, 3) := by decide +kernel
theorem d309_336 : decode (cdN 309) 336 = .ok (.iload_n 3, 1) := by decide +kernel
theorem d309_337 : decode (cdN 309) 337 = .ok (.aload_n 0, 1) := by decide +kernel
theorem d309_338 : decode (cdN 309) 338 = .ok (.invokevirtual 108, 3) := by decide +kernel
theorem c309_108 : ctN (owN 309) 108 = some (0, 117, [928, 929, 930, 23]) := by decide +kernel
theorem d309_341 : decode (cdN 309) 341 = .ok (.if_icmp .ne 113, 3) := by decide +kernel
theorem d309_344 : decode (cdN 309) 344 = .ok (.iload 4, 2) := by decide +kernel
theorem d309_346 : decode (cdN 309) 346 = .ok (.aload_n 0, 1) := by decide +kernel
theorem d309_347 : decode (cdN 309) 347 = .ok (.invokevirtual 223, 3) := by decide +kernel
theorem c309_223 : ctN (owN 309) 223 = some (0, 113, [1067, 1068, 1069, 23]) := by decide +kernel
theorem d309_350 : decode (cdN 309) 350 = .ok (.if_icmp .ne 104, 3) := by decide +kernel
theorem d309_353 : decode (cdN 309) 353 = .ok (.aload_n 0, 1) := by decide +kernel
theorem d309_354 : decode (cdN 309) 354 = .ok (.invokevirtual 226, 3) := by decide +kernel
theorem c309_226 : ctN (owN 309) 226 = some (0, 126, [1072, 1073, 1074, 23]) := by decide +kernel
theorem d309_357 : decode (cdN 309) 357 = .ok (.aload_n 0, 1) := by decide +kernel
theorem d309_358 : decode (cdN 309) 358 = .ok (.invokevirtual 92, 3) := by decide +kernel
theorem d309_361 : decode (cdN 309) 361 = .ok (.ifCond .ne 7, 3) := by decide +kernel
theorem d309_364 : decode (cdN 309) 364 = .ok (.dconst 0, 1) := by decide +kernel
theorem d309_365 : decode (cdN 309) 365 = .ok (.goto 12, 3) := by decide +kernel
theorem d309_368 : decode (cdN 309) 368 = .ok (.iload 5, 2) := by decide +kernel
theorem d309_370 : decode (cdN 309) 370 = .ok (.i2d, 1) := by decide +kernel
theorem d309_371 : decode (cdN 309) 371 = .ok (.aload_n 0, 1) := by decide +kernel
theorem d309_372 : decode (cdN 309) 372 = .ok (.invokevirtual 92, 3) := by decide +kernel
theorem d309_375 : decode (cdN 309) 375 = .ok (.i2d, 1) := by decide +kernel
theorem d309_376 : decode (cdN 309) 376 = .ok (.ddiv, 1) := by decide +kernel
theorem d309_377 : decode (cdN 309) 377 = .ok (.dcmp .l, 1) := by decide +kernel
theorem d309_378 : decode (cdN 309) 378 = .ok (.ifCond .ne 76, 3) := by decide +kernel
theorem d309_381 : decode (cdN 309) 381 = .ok (.aload_n 0, 1) := by decide +kernel
theorem d309_382 : decode (cdN 309) 382 = .ok (.invokevirtual 230, 3) := by decide +kernel
theorem c309_230 : ctN (owN 309) 230 = some (0, 125, [1080, 1081, 1082, 23]) := by decide +kernel
theorem d309_385 : decode (cdN 309) 385 = .ok (.iload_n 3, 1) := by decide +kernel
theorem d309_386 : decode (cdN 309) 386 = .ok (.ifCond .ne 7, 3) := by decide +kernel
theorem d309_389 : decode (cdN 309) 389 = .ok (.fconst 0, 1) := by decide +kernel
theorem d309_390 : decode (cdN 309) 390 = .ok (.goto 16, 3) := by decide +kernel
theorem d309_393 : decode (cdN 309) 393 = .ok (.aload_n 0, 1) := by decide +kernel
theorem d309_394 : decode (cdN 309) 394 = .ok (.invokevirtual 113, 3) := by decide +kernel
theorem c309_113 : ctN (owN 309) 113 = some (0, 118, [933, 934, 935, 23]) := by decide +kernel
theorem d309_397 : decode (cdN 309) 397 = .ok (.aload_n 0, 1) := by decide +kernel
theorem d309_398 : decode (cdN 309) 398 = .ok (.invokevirtual 123, 3) := by decide +kernel
theorem c309_123 : ctN (owN 309) 123 = some (0, 120, [943, 944, 945, 23]) := by decide +kernel
theorem d309_401 : decode (cdN 309) 401 = .ok (.iadd, 1) := by decide +kernel
theorem d309_402 : decode (cdN 309) 402 = .ok (.i2f, 1) := by decide +kernel
theorem d309_403 : decode (cdN 309) 403 = .ok (.iload_n 3, 1) := by decide +kernel
theorem d309_404 : decode (cdN 309) 404 = .ok (.i2f, 1) := by decide +kernel
theorem d309_405 : decode (cdN 309) 405 = .ok (.fdiv, 1) := by decide +kernel
theorem d309_406 : decode (cdN 309) 406 = .ok (.fcmp .l, 1) := by decide +kernel
theorem d309_407 : decode (cdN 309) 407 = .ok (.ifCond .ne 47, 3) := by decide +kernel
theorem d309_410 : decode (cdN 309) 410 = .ok (.aload_n 0, 1) := by decide +kernel
theorem d309_411 : decode (cdN 309) 411 = .ok (.invokevirtual 92, 3) := by decide +kernel
theorem d309_414 : decode (cdN 309) 414 = .ok (.aload_n 0, 1) := by decide +kernel
theorem d309_415 : decode (cdN 309) 415 = .ok (.invokevirtual 128, 3) := by decide +kernel
theorem c309_128 : ctN (owN 309) 128 = some (0, 121, [948, 949, 950, 23]) := by decide +kernel
theorem d309_418 : decode (cdN 309) 418 = .ok (.aload_n 0, 1) := by decide +kernel
theorem d309_419 : decode (cdN 309) 419 = .ok (.invokevirtual 182, 3) := by decide +kernel
theorem c309_182 : ctN (owN 309) 182 = some (0, 83, [1038, 1039, 1040, 23]) := by decide +kernel
theorem d309_422 : decode (cdN 309) 422 = .ok (.aload_n 0, 1) := by decide +kernel
theorem d309_423 : decode (cdN 309) 423 = .ok (.invokevirtual 133, 3) := by decide +kernel
theorem c309_133 : ctN (owN 309) 133 = some (0, 122, [953, 954, 955, 23]) := by decide +kernel
theorem d309_426 : decode (cdN 309) 426 = .ok (.bipush 8, 2) := by decide +kernel
theorem d309_428 : decode (cdN 309) 428 = .ok (.iload_n 3, 1) := by decide +kernel
theorem d309_429 : decode (cdN 309) 429 = .ok (.imul, 1) := by decide +kernel
theorem d309_430 : decode (cdN 309) 430 = .ok (.iadd, 1) := by decide +kernel
theorem d309_431 : decode (cdN 309) 431 = .ok (.imul, 1) := by decide +kernel
theorem d309_432 : decode (cdN 309) 432 = .ok (.iadd, 1) := by decide +kernel
theorem d309_433 : decode (cdN 309) 433 = .ok (.if_icmp .lt 21, 3) := by decide +kernel
theorem d309_436 : decode (cdN 309) 436 = .ok (.aload_n 0, 1) := by decide +kernel
theorem d309_437 : decode (cdN 309) 437 = .ok (.invokevirtual 234, 3) := by decide +kernel
theorem c309_234 : ctN (owN 309) 234 = some (0, 123, [1084, 1085, 1086, 23]) := by decide +kernel
theorem d309_440 : decode (cdN 309) 440 = .ok (.ifCond .ne 14, 3) := by decide +kernel
theorem d309_443 : decode (cdN 309) 443 = .ok (.aload_n 0, 1) := by decide +kernel
theorem d309_444 : decode (cdN 309) 444 = .ok (.invokevirtual 237, 3) := by decide +kernel
theorem c309_237 : ctN (owN 309) 237 = some (0, 124, [1097, 1098, 1099, 23]) := by decide +kernel
theorem d309_447 : decode (cdN 309) 447 = .ok (.ifCond .ne 7, 3) := by decide +kernel
theorem d309_450 : decode (cdN 309) 450 = .ok (.iconst 1, 1) := by decide +kernel
theorem d309_451 : decode (cdN 309) 451 = .ok (.goto 4, 3) := by decide +kernel
theorem d309_454 : decode (cdN 309) 454 = .ok (.iconst 0, 1) := by decide +kernel
theorem d309_455 : decode (cdN 309) 455 = .ok (.ireturn, 1) := by decide +kernel
theorem d310_0 : decode (cdN 310) 0 = .ok (.aload_n 0, 1) := by decide +kernel
theorem d310_1 : decode (cdN 310) 1 = .ok (.invokevirtual 223, 3) := by decide +kernel
theorem c310_223 : ctN (owN 310) 223 = some (0, 113, [1067, 1068, 1069, 23]) := by decide +kernel
theorem d310_4 : decode (cdN 310) 4 = .ok (.istore_n 1, 1) := by decide +kernel
theorem d310_5 : decode (cdN 310) 5 = .ok (.iload_n 1, 1) := by decide +kernel
theorem d310_6 : decode (cdN 310) 6 = .ok (.ifCond .ge 20, 3) := by decide +kernel
theorem d310_9 : decode (cdN 310) 9 = .ok (.aload_n 0, 1) := by decide +kernel
theorem d310_10 : decode (cdN 310) 10 = .ok (.iconst 1, 1) := by decide +kernel
theorem d310_11 : decode (cdN 310) 11 = .ok (.iconst 1, 1) := by decide +kernel
theorem d310_12 : decode (cdN 310) 12 = .ok (.iconst 0, 1) := by decide +kernel
theorem d310_13 : decode (cdN 310) 13 = .ok (.iconst 0, 1) := by decide +kernel
theorem d310_14 : decode (cdN 310) 14 = .ok (.invokestatic 240, 3) := by decide +kernel
theorem c310_240 : ctN (owN 310) 240 = some (12, 304, [747, 748, 11]) := by decide +kernel
theorem d310_17 : decode (cdN 310) 17 = .ok (.ifCond .ne 7, 3) := by decide +kernel
theorem d310_20 : decode (cdN 310) 20 = .ok (.iconst 1, 1) := by decide +kernel
theorem d310_21 : decode (cdN 310) 21 = .ok (.goto 4, 3) := by decide +kernel
theorem d310_24 : decode (cdN 310) 24 = .ok (.iconst 0, 1) := by decide +kernel
theorem d310_25 : decode (cdN 310) 25 = .ok (.ireturn, 1) := by decide +kernel
theorem d310_26 : decode (cdN 310) 26 = .ok (.aload_n 0, 1) := by decide +kernel
theorem d310_27 : decode (cdN 310) 27 = .ok (.invokevirtual 92, 3) := by decide +kernel
theorem c310_92 : ctN (owN 310) 92 = some (0, 82, [414, 415, 416, 23]) := by decide +kernel
theorem d310_30 : decode (cdN 310) 30 = .ok (.aload_n 0, 1) := by decide +kernel
theorem d310_31 : decode (cdN 310) 31 = .ok (.invokevirtual 95, 3) := by decide +kernel
theorem c310_95 : ctN (owN 310) 95 = some (0, 114, [914, 915, 916, 23]) := by decide +kernel
theorem d310_34 : decode (cdN 310) 34 = .ok (.invokestatic 185, 3) := by decide +kernel
theorem c310_185 : ctN (owN 310) 185 = some (5, 0, [1042, 54, 17, 55]) := by decide +kernel
theorem d310_37 : decode (cdN 310) 37 = .ok (.istore_n 2, 1) := by decide +kernel
theorem d310_38 : decode (cdN 310) 38 = .ok (.aload_n 0, 1) := by decide +kernel
theorem d310_39 : decode (cdN 310) 39 = .ok (.iload_n 1, 1) := by decide +kernel
theorem d310_40 : decode (cdN 310) 40 = .ok (.iload_n 2, 1) := by decide +kernel
theorem d310_41 : decode (cdN 310) 41 = .ok (.invokevirtual 194, 3) := by decide +kernel
theorem c310_194 : ctN (owN 310) 194 = some (0, 109, [422, 423, 424, 23]) := by decide +kernel
theorem d310_44 : decode (cdN 310) 44 = .ok (.istore_n 3, 1) := by decide +kernel
theorem d310_45 : decode (cdN 310) 45 = .ok (.aload_n 0, 1) := by decide +kernel
theorem d310_46 : decode (cdN 310) 46 = .ok (.iload_n 1, 1) := by decide +kernel
theorem d310_47 : decode (cdN 310) 47 = .ok (.invokevirtual 151, 3) := by decide +kernel
theorem c310_151 : ctN (owN 310) 151 = some (0, 99, [974, 975, 976, 23]) := by decide +kernel
theorem d310_50 : decode (cdN 310) 50 = .ok (.istore 4, 2) := by decide +kernel
theorem d310_52 : decode (cdN 310) 52 = .ok (.aload_n 0, 1) := by decide +kernel
theorem d310_53 : decode (cdN 310) 53 = .ok (.invokevirtual 113, 3) := by decide +kernel
theorem c310_113 : ctN (owN 310) 113 = some (0, 118, [933, 934, 935, 23]) := by decide +kernel
theorem d310_56 : decode (cdN 310) 56 = .ok (.istore 5, 2) := by decide +kernel
theorem d310_58 : decode (cdN 310) 58 = .ok (.aload_n 0, 1) := by decide +kernel
theorem d310_59 : decode (cdN 310) 59 = .ok (.invokevirtual 123, 3) := by decide +kernel
theorem c310_123 : ctN (owN 310) 123 = some (0, 120, [943, 944, 945, 23]) := by decide +kernel
theorem d310_62 : decode (cdN 310) 62 = .ok (.istore 6, 2) := by decide +kernel
theorem d310_64 : decode (cdN 310) 64 = .ok (.aload_n 0, 1) := by decide +kernel
theorem d310_65 : decode (cdN 310) 65 = .ok (.invokevirtual 133, 3) := by decide +kernel
theorem c310_133 : ctN (owN 310) 133 = some (0, 122, [953, 954, 955, 23]) := by decide +kernel
theorem d310_68 : decode (cdN 310) 68 = .ok (.istore 7, 2) := by decide +kernel
theorem d310_70 : decode (cdN 310) 70 = .ok (.aload_n 0, 1) := by decide +kernel
theorem d310_71 : decode (cdN 310) 71 = .ok (.iconst 1, 1) := by decide +kernel
theorem d310_72 : decode (cdN 310) 72 = .ok (.iconst 1, 1) := by decide +kernel
theorem d310_73 : decode (cdN 310) 73 = .ok (.iconst 0, 1) := by decide +kernel
theorem d310_74 : decode (cdN 310) 74 = .ok (.iconst 0, 1) := by decide +kernel
theorem d310_75 : decode (cdN 310) 75 = .ok (.invokestatic 240, 3) := by decide +kernel
theorem d310_78 : decode (cdN 310) 78 = .ok (.iconst 1, 1) := by decide +kernel
theorem d310_79 : decode (cdN 310) 79 = .ok (.if_icmp .ne 58, 3) := by decide +kernel
theorem d310_82 : decode (cdN 310) 82 = .ok (.aload_n 0, 1) := by decide +kernel
theorem d310_83 : decode (cdN 310) 83 = .ok (.iload_n 1, 1) := by decide +kernel
theorem d310_84 : decode (cdN 310) 84 = .ok (.invokevirtual 151, 3) := by decide +kernel
theorem d310_87 : decode (cdN 310) 87 = .ok (.iload 4, 2) := by decide +kernel
theorem d310_89 : decode (cdN 310) 89 = .ok (.iconst 1, 1) := by decide +kernel
theorem d310_90 : decode (cdN 310) 90 = .ok (.iadd, 1) := by decide +kernel
theorem d310_91 : decode (cdN 310) 91 = .ok (.if_icmp .ne 46, 3) := by decide +kernel
theorem d310_94 : decode (cdN 310) 94 = .ok (.aload_n 0, 1) := by decide +kernel
theorem d310_95 : decode (cdN 310) 95 = .ok (.invokevirtual 92, 3) := by decide +kernel
theorem d310_98 : decode (cdN 310) 98 = .ok (.iload_n 2, 1) := by decide +kernel
theorem d310_99 : decode (cdN 310) 99 = .ok (.aload_n 0, 1) := by decide +kernel
theorem d310_100 : decode (cdN 310) 100 = .ok (.invokevirtual 182, 3) := by decide +kernel
theorem c310_182 : ctN (owN 310) 182 = some (0, 83, [1038, 1039, 1040, 23]) := by decide +kernel
theorem d310_103 : decode (cdN 310) 103 = .ok (.bipush 8, 2) := by decide +kernel
theorem d310_105 : decode (cdN 310) 105 = .ok (.aload_n 0, 1) := by decide +kernel
theorem d310_106 : decode (cdN 310) 106 = .ok (.iload_n 1, 1) := by decide +kernel
theorem d310_107 : decode (cdN 310) 107 = .ok (.invokevirtual 154, 3) := by decide +kernel
theorem c310_154 : ctN (owN 310) 154 = some (0, 95, [978, 979, 980, 23]) := by decide +kernel
theorem d310_110 : decode (cdN 310) 110 = .ok (.imul, 1) := by decide +kernel
theorem d310_111 : decode (cdN 310) 111 = .ok (.bipush 8, 2) := by decide +kernel
theorem d310_113 : decode (cdN 310) 113 = .ok (.iadd, 1) := by decide +kernel
theorem d310_114 : decode (cdN 310) 114 = .ok (.imul, 1) := by decide +kernel
theorem d310_115 : decode (cdN 310) 115 = .ok (.iadd, 1) := by decide +kernel
theorem d310_116 : decode (cdN 310) 116 = .ok (.if_icmp .ne 21, 3) := by decide +kernel
theorem d310_119 : decode (cdN 310) 119 = .ok (.aload_n 0, 1) := by decide +kernel
theorem d310_120 : decode (cdN 310) 120 = .ok (.invokevirtual 133, 3) := by decide +kernel
theorem d310_123 : decode (cdN 310) 123 = .ok (.iload 7, 2) := by decide +kernel
theorem d310_125 : decode (cdN 310) 125 = .ok (.bipush 8, 2) := by decide +kernel
theorem d310_127 : decode (cdN 310) 127 = .ok (.aload_n 0, 1) := by decide +kernel
theorem d310_128 : decode (cdN 310) 128 = .ok (.iload_n 1, 1) := by decide +kernel
theorem d310_129 : decode (cdN 310) 129 = .ok (.invokevirtual 154, 3) := by decide +kernel
theorem d310_132 : decode (cdN 310) 132 = .ok (.imul, 1) := by decide +kernel
theorem d310_133 : decode (cdN 310) 133 = .ok (.iadd, 1) := by decide +kernel
theorem d310_134 : decode (cdN 310) 134 = .ok (.if_icmp .eq 5, 3) := by decide +kernel
theorem d310_137 : decode (cdN 310) 137 = .ok (.iconst 0, 1) := by decide +kernel
theorem d310_138 : decode (cdN 310) 138 = .ok (.ireturn, 1) := by decide +kernel
theorem d310_139 : decode (cdN 310) 139 = .ok (.aload_n 0, 1) := by decide +kernel
theorem d310_140 : decode (cdN 310) 140 = .ok (.invokevirtual 113, 3) := by decide +kernel
theorem d310_143 : decode (cdN 310) 143 = .ok (.iload 5, 2) := by decide +kernel
theorem d310_145 : decode (cdN 310) 145 = .ok (.iload_n 3, 1) := by decide +kernel
theorem d310_146 : decode (cdN 310) 146 = .ok (.iconst 1, 1) := by decide +kernel
theorem d310_147 : decode (cdN 310) 147 = .ok (.if_icmp .ne 7, 3) := by decide +kernel
theorem d310_150 : decode (cdN 310) 150 = .ok (.iconst 1, 1) := by decide +kernel
theorem d310_151 : decode (cdN 310) 151 = .ok (.goto 4, 3) := by decide +kernel
theorem d310_154 : decode (cdN 310) 154 = .ok (.iconst 0, 1) := by decide +kernel
theorem d310_155 : decode (cdN 310) 155 = .ok (.iadd, 1) := by decide +kernel
theorem d310_156 : decode (cdN 310) 156 = .ok (.if_icmp .ne 72, 3) := by decide +kernel
theorem d310_159 : decode (cdN 310) 159 = .ok (.aload_n 0, 1) := by decide +kernel
theorem d310_160 : decode (cdN 310) 160 = .ok (.invokevirtual 123, 3) := by decide +kernel
theorem d310_163 : decode (cdN 310) 163 = .ok (.iload 6, 2) := by decide +kernel
theorem d310_165 : decode (cdN 310) 165 = .ok (.iload_n 3, 1) := by decide +kernel
theorem d310_166 : decode (cdN 310) 166 = .ok (.iconst 2, 1) := by decide +kernel
theorem d310_167 : decode (cdN 310) 167 = .ok (.if_icmp .ne 7, 3) := by decide +kernel
theorem d310_170 : decode (cdN 310) 170 = .ok (.iconst 1, 1) := by decide +kernel
theorem d310_171 : decode (cdN 310) 171 = .ok (.goto 4, 3) := by decide +kernel
theorem d310_174 : decode (cdN 310) 174 = .ok (.iconst 0, 1) := by decide +kernel
theorem d310_175 : decode (cdN 310) 175 = .ok (.iadd, 1) := by decide +kernel
theorem d310_176 : decode (cdN 310) 176 = .ok (.if_icmp .ne 52, 3) := by decide +kernel
theorem d310_179 : decode (cdN 310) 179 = .ok (.aload_n 0, 1) := by decide +kernel
theorem d310_180 : decode (cdN 310) 180 = .ok (.iload_n 1, 1) := by decide +kernel
theorem d310_181 : decode (cdN 310) 181 = .ok (.invokevirtual 148, 3) := by decide +kernel
theorem c310_148 : ctN (owN 310) 148 = some (0, 98, [970, 971, 972, 23]) := by decide +kernel
theorem d310_184 : decode (cdN 310) 184 = .ok (.iconst 1, 1) := by decide +kernel
theorem d310_185 : decode (cdN 310) 185 = .ok (.if_icmp .ne 7, 3) := by decide +kernel
theorem d310_188 : decode (cdN 310) 188 = .ok (.iconst 1, 1) := by decide +kernel
theorem d310_189 : decode (cdN 310) 189 = .ok (.goto 4, 3) := by decide +kernel
theorem d310_192 : decode (cdN 310) 192 = .ok (.iconst 0, 1) := by decide +kernel
theorem d310_193 : decode (cdN 310) 193 = .ok (.iload_n 3, 1) := by decide +kernel
theorem d310_194 : decode (cdN 310) 194 = .ok (.ifCond .ne 7, 3) := by decide +kernel
theorem d310_197 : decode (cdN 310) 197 = .ok (.iconst 1, 1) := by decide +kernel
theorem d310_198 : decode (cdN 310) 198 = .ok (.goto 4, 3) := by decide +kernel
theorem d310_201 : decode (cdN 310) 201 = .ok (.iconst 0, 1) := by decide +kernel
theorem d310_202 : decode (cdN 310) 202 = .ok (.if_icmp .ne 26, 3) := by decide +kernel
theorem d310_205 : decode (cdN 310) 205 = .ok (.aload_n 0, 1) := by decide +kernel
theorem d310_206 : decode (cdN 310) 206 = .ok (.iload_n 1, 1) := by decide +kernel
theorem d310_207 : decode (cdN 310) 207 = .ok (.invokevirtual 148, 3) := by decide +kernel
theorem d310_210 : decode (cdN 310) 210 = .ok (.ifCond .ne 14, 3) := by decide +kernel
theorem d310_213 : decode (cdN 310) 213 = .ok (.aload_n 0, 1) := by decide +kernel
theorem d310_214 : decode (cdN 310) 214 = .ok (.invokevirtual 95, 3) := by decide +kernel
theorem d310_217 : decode (cdN 310) 217 = .ok (.aload_n 0, 1) := by decide +kernel
theorem d310_218 : decode (cdN 310) 218 = .ok (.invokevirtual 92, 3) := by decide +kernel
theorem d310_221 : decode (cdN 310) 221 = .ok (.if_icmp .le 7, 3) := by decide +kernel
theorem d310_224 : decode (cdN 310) 224 = .ok (.iconst 1, 1) := by decide +kernel
theorem d310_225 : decode (cdN 310) 225 = .ok (.goto 4, 3) := by decide +kernel
theorem d310_228 : decode (cdN 310) 228 = .ok (.iconst 0, 1) := by decide +kernel
theorem d310_229 : decode (cdN 310) 229 = .ok (.ireturn, 1) := by decide +kernel
theorem d311_0 : decode (cdN 311) 0 = .ok (.aload_n 0, 1) := by decide +kernel
theorem d311_1 : decode (cdN 311) 1 = .ok (.invokevirtual 136, 3) := by decide +kernel
theorem c311_136 : ctN (owN 311) 136 = some (0, 90, [957, 958, 959, 23]) := by decide +kernel
theorem d311_4 : decode (cdN 311) 4 = .ok (.istore 5, 2) := by decide +kernel
theorem d311_6 : decode (cdN 311) 6 = .ok (.iload 5, 2) := by decide +kernel
theorem d311_8 : decode (cdN 311) 8 = .ok (.ifCond .ne 7, 3) := by decide +kernel
theorem d311_11 : decode (cdN 311) 11 = .ok (.iconst 0, 1) := by decide +kernel
theorem d311_12 : decode (cdN 311) 12 = .ok (.goto 7, 3) := by decide +kernel
theorem d311_15 : decode (cdN 311) 15 = .ok (.iload_n 2, 1) := by decide +kernel
theorem d311_16 : decode (cdN 311) 16 = .ok (.iload 5, 2) := by decide +kernel
theorem d311_18 : decode (cdN 311) 18 = .ok (.irem, 1) := by decide +kernel
theorem d311_19 : decode (cdN 311) 19 = .ok (.istore 6, 2) := by decide +kernel
theorem d311_21 : decode (cdN 311) 21 = .ok (.iload_n 1, 1) := by decide +kernel
theorem d311_22 : decode (cdN 311) 22 = .ok (.tableswitch 624 0 8 #[50, 50, 184, 184, 184, 189, 254, 443, 499], 50) := by decide +kernel
theorem d311_72 : decode (cdN 311) 72 = .ok (.new 244, 3) := by decide +kernel
theorem n311_244 : clN (owN 311) 244 = some (15, 1104, 1105, 13) := by decide +kernel
theorem d311_75 : decode (cdN 311) 75 = .ok (.dup, 1) := by decide +kernel
theorem d311_76 : decode (cdN 311) 76 = .ok (.invokespecial 246, 3) := by decide +kernel
theorem c311_246 : ctN (owN 311) 246 = some (2, 146, [1106, 1107, 13]) := by decide +kernel
theorem d311_79 : decode (cdN 311) 79 = .ok (.astore 7, 2) := by decide +kernel
theorem d311_81 : decode (cdN 311) 81 = .ok (.iconst 0, 1) := by decide +kernel
theorem d311_82 : decode (cdN 311) 82 = .ok (.istore 8, 2) := by decide +kernel
theorem d311_84 : decode (cdN 311) 84 = .ok (.iload 8, 2) := by decide +kernel
theorem d311_86 : decode (cdN 311) 86 = .ok (.iconst 1, 1) := by decide +kernel
theorem d311_87 : decode (cdN 311) 87 = .ok (.iload_n 2, 1) := by decide +kernel
theorem d311_88 : decode (cdN 311) 88 = .ok (.bipush 10, 2) := by decide +kernel
theorem d311_90 : decode (cdN 311) 90 = .ok (.irem, 1) := by decide +kernel
theorem d311_91 : decode (cdN 311) 91 = .ok (.iadd, 1) := by decide +kernel
theorem d311_92 : decode (cdN 311) 92 = .ok (.if_icmp .ge 29, 3) := by decide +kernel
theorem d311_95 : decode (cdN 311) 95 = .ok (.aload 7, 2) := by decide +kernel
theorem d311_97 : decode (cdN 311) 97 = .ok (.bipush 97, 2) := by decide +kernel
theorem d311_99 : decode (cdN 311) 99 = .ok (.iload_n 3, 1) := by decide +kernel
theorem d311_100 : decode (cdN 311) 100 = .ok (.iload 8, 2) := by decide +kernel
theorem d311_102 : decode (cdN 311) 102 = .ok (.iload 4, 2) := by decide +kernel
theorem d311_104 : decode (cdN 311) 104 = .ok (.imul, 1) := by decide +kernel
theorem d311_105 : decode (cdN 311) 105 = .ok (.iadd, 1) := by decide +kernel
theorem d311_106 : decode (cdN 311) 106 = .ok (.bipush 26, 2) := by decide +kernel
theorem d311_108 : decode (cdN 311) 108 = .ok (.irem, 1) := by decide +kernel
theorem d311_109 : decode (cdN 311) 109 = .ok (.iadd, 1) := by decide +kernel
theorem d311_110 : decode (cdN 311) 110 = .ok (.i2c, 1) := by decide +kernel
theorem d311_111 : decode (cdN 311) 111 = .ok (.invokevirtual 247, 3) := by decide +kernel
theorem c311_247 : ctN (owN 311) 247 = some (0, 149, [1134, 1135, 1136, 13]) := by decide +kernel
theorem d311_114 : decode (cdN 311) 114 = .ok (.pop, 1) := by decide +kernel
theorem d311_115 : decode (cdN 311) 115 = .ok (.iinc 8 1, 3) := by decide +kernel
theorem d311_118 : decode (cdN 311) 118 = .ok (.goto (-34), 3) := by decide +kernel
theorem d311_121 : decode (cdN 311) 121 = .ok (.aload_n 0, 1) := by decide +kernel
theorem d311_122 : decode (cdN 311) 122 = .ok (.aload 7, 2) := by decide +kernel
theorem d311_124 : decode (cdN 311) 124 = .ok (.invokevirtual 250, 3) := by decide +kernel
theorem c311_250 : ctN (owN 311) 250 = some (0, 151, [1203, 1204, 1205, 13]) := by decide +kernel
theorem d311_127 : decode (cdN 311) 127 = .ok (.invokestatic 41, 3) := by decide +kernel
theorem c311_41 : ctN (owN 311) 41 = some (1, 302, [616, 617, 11]) := by decide +kernel
theorem d311_130 : decode (cdN 311) 130 = .ok (.aload_n 0, 1) := by decide +kernel
theorem d311_131 : decode (cdN 311) 131 = .ok (.iconst 0, 1) := by decide +kernel
theorem d311_132 : decode (cdN 311) 132 = .ok (.iconst 0, 1) := by decide +kernel
theorem d311_133 : decode (cdN 311) 133 = .ok (.iconst 0, 1) := by decide +kernel
theorem d311_134 : decode (cdN 311) 134 = .ok (.iconst 0, 1) := by decide +kernel
theorem d311_135 : decode (cdN 311) 135 = .ok (.invokestatic 240, 3) := by decide +kernel
theorem c311_240 : ctN (owN 311) 240 = some (12, 304, [747, 748, 11]) := by decide +kernel
theorem d311_138 : decode (cdN 311) 138 = .ok (.istore 8, 2) := by decide +kernel
theorem d311_140 : decode (cdN 311) 140 = .ok (.iload 5, 2) := by decide +kernel
theorem d311_142 : decode (cdN 311) 142 = .ok (.bipush 12, 2) := by decide +kernel
theorem d311_144 : decode (cdN 311) 144 = .ok (.if_icmp .ne 25, 3) := by decide +kernel
theorem d311_147 : decode (cdN 311) 147 = .ok (.iload 8, 2) := by decide +kernel
theorem d311_149 : decode (cdN 311) 149 = .ok (.sipush (-1003), 3) := by decide +kernel
theorem d311_152 : decode (cdN 311) 152 = .ok (.if_icmp .ne 15, 3) := by decide +kernel
theorem d311_155 : decode (cdN 311) 155 = .ok (.aload_n 0, 1) := by decide +kernel
theorem d311_156 : decode (cdN 311) 156 = .ok (.iconst 0, 1) := by decide +kernel
theorem d311_157 : decode (cdN 311) 157 = .ok (.invokevirtual 38, 3) := by decide +kernel
theorem c311_38 : ctN (owN 311) 38 = some (0, 77, [677, 678, 679, 23]) := by decide +kernel
theorem d311_160 : decode (cdN 311) 160 = .ok (.ifCond .ne 7, 3) := by decide +kernel
theorem d311_163 : decode (cdN 311) 163 = .ok (.iconst 1, 1) := by decide +kernel
theorem d311_164 : decode (cdN 311) 164 = .ok (.goto 4, 3) := by decide +kernel
theorem d311_167 : decode (cdN 311) 167 = .ok (.iconst 0, 1) := by decide +kernel
theorem d311_168 : decode (cdN 311) 168 = .ok (.ireturn, 1) := by decide +kernel
theorem d311_169 : decode (cdN 311) 169 = .ok (.iload 8, 2) := by decide +kernel
theorem d311_171 : decode (cdN 311) 171 = .ok (.iload 5, 2) := by decide +kernel
theorem d311_173 : decode (cdN 311) 173 = .ok (.if_icmp .ne 31, 3) := by decide +kernel
theorem d311_176 : decode (cdN 311) 176 = .ok (.aload_n 0, 1) := by decide +kernel
theorem d311_177 : decode (cdN 311) 177 = .ok (.iload 5, 2) := by decide +kernel
theorem d311_179 : decode (cdN 311) 179 = .ok (.invokevirtual 139, 3) := by decide +kernel
theorem c311_139 : ctN (owN 311) 139 = some (0, 91, [961, 962, 963, 23]) := by decide +kernel
theorem d311_182 : decode (cdN 311) 182 = .ok (.iconst 1, 1) := by decide +kernel
theorem d311_183 : decode (cdN 311) 183 = .ok (.iload_n 2, 1) := by decide +kernel
theorem d311_184 : decode (cdN 311) 184 = .ok (.bipush 10, 2) := by decide +kernel
theorem d311_186 : decode (cdN 311) 186 = .ok (.irem, 1) := by decide +kernel
theorem d311_187 : decode (cdN 311) 187 = .ok (.iadd, 1) := by decide +kernel
theorem d311_188 : decode (cdN 311) 188 = .ok (.if_icmp .ne 16, 3) := by decide +kernel
theorem d311_191 : decode (cdN 311) 191 = .ok (.aload_n 0, 1) := by decide +kernel
theorem d311_192 : decode (cdN 311) 192 = .ok (.iload 5, 2) := by decide +kernel
theorem d311_194 : decode (cdN 311) 194 = .ok (.invokevirtual 142, 3) := by decide +kernel
theorem c311_142 : ctN (owN 311) 142 = some (0, 92, [965, 966, 967, 23]) := by decide +kernel
theorem d311_197 : decode (cdN 311) 197 = .ok (.ifCond .ne 7, 3) := by decide +kernel
theorem d311_200 : decode (cdN 311) 200 = .ok (.iconst 1, 1) := by decide +kernel
theorem d311_201 : decode (cdN 311) 201 = .ok (.goto 4, 3) := by decide +kernel
theorem d311_204 : decode (cdN 311) 204 = .ok (.iconst 0, 1) := by decide +kernel
theorem d311_205 : decode (cdN 311) 205 = .ok (.ireturn, 1) := by decide +kernel
theorem d311_206 : decode (cdN 311) 206 = .ok (.aload_n 0, 1) := by decide +kernel
theorem d311_207 : decode (cdN 311) 207 = .ok (.invokestatic 254, 3) := by decide +kernel
theorem c311_254 : ctN (owN 311) 254 = some (1, 310, [1330, 1331, 11]) := by decide +kernel
theorem d311_210 : decode (cdN 311) 210 = .ok (.ireturn, 1) := by decide +kernel
theorem d311_211 : decode (cdN 311) 211 = .ok (.aload_n 0, 1) := by decide +kernel
theorem d311_212 : decode (cdN 311) 212 = .ok (.invokevirtual 258, 3) := by decide +kernel
theorem c311_258 : ctN (owN 311) 258 = some (0, 115, [1333, 1334, 1335, 23]) := by decide +kernel
theorem d311_215 : decode (cdN 311) 215 = .ok (.istore 7, 2) := by decide +kernel
theorem d311_217 : decode (cdN 311) 217 = .ok (.aload_n 0, 1) := by decide +kernel
theorem d311_218 : decode (cdN 311) 218 = .ok (.invokevirtual 261, 3) := by decide +kernel
theorem c311_261 : ctN (owN 311) 261 = some (0, 116, [1337, 1338, 1339, 23]) := by decide +kernel
theorem d311_221 : decode (cdN 311) 221 = .ok (.istore 8, 2) := by decide +kernel
theorem d311_223 : decode (cdN 311) 223 = .ok (.aload_n 0, 1) := by decide +kernel
theorem d311_224 : decode (cdN 311) 224 = .ok (.iconst 1, 1) := by decide +kernel
theorem d311_225 : decode (cdN 311) 225 = .ok (.bipush 60, 2) := by decide +kernel
theorem d311_227 : decode (cdN 311) 227 = .ok (.iconst 0, 1) := by decide +kernel
theorem d311_228 : decode (cdN 311) 228 = .ok (.iconst 0, 1) := by decide +kernel
theorem d311_229 : decode (cdN 311) 229 = .ok (.invokestatic 240, 3) := by decide +kernel
theorem d311_232 : decode (cdN 311) 232 = .ok (.istore 9, 2) := by decide +kernel
theorem d311_234 : decode (cdN 311) 234 = .ok (.iload 9, 2) := by decide +kernel
theorem d311_236 : decode (cdN 311) 236 = .ok (.bipush 60, 2) := by decide +kernel
theorem d311_238 : decode (cdN 311) 238 = .ok (.iload 7, 2) := by decide +kernel
theorem d311_240 : decode (cdN 311) 240 = .ok (.invokestatic 264, 3) := by decide +kernel
theorem c311_264 : ctN (owN 311) 264 = some (6, 0, [1341, 370, 17, 371]) := by decide +kernel
theorem d311_243 : decode (cdN 311) 243 = .ok (.if_icmp .ne 31, 3) := by decide +kernel
theorem d311_246 : decode (cdN 311) 246 = .ok (.iload 7, 2) := by decide +kernel
theorem d311_248 : decode (cdN 311) 248 = .ok (.bipush 60, 2) := by decide +kernel
theorem d311_250 : decode (cdN 311) 250 = .ok (.if_icmp .gt 20, 3) := by decide +kernel
theorem d311_253 : decode (cdN 311) 253 = .ok (.aload_n 0, 1) := by decide +kernel
theorem d311_254 : decode (cdN 311) 254 = .ok (.invokevirtual 92, 3) := by decide +kernel
theorem c311_92 : ctN (owN 311) 92 = some (0, 82, [414, 415, 416, 23]) := by decide +kernel
theorem d311_257 : decode (cdN 311) 257 = .ok (.iload 8, 2) := by decide +kernel
theorem d311_259 : decode (cdN 311) 259 = .ok (.if_icmp .ne 15, 3) := by decide +kernel
theorem d311_262 : decode (cdN 311) 262 = .ok (.aload_n 0, 1) := by decide +kernel
theorem d311_263 : decode (cdN 311) 263 = .ok (.invokevirtual 223, 3) := by decide +kernel
theorem c311_223 : ctN (owN 311) 223 = some (0, 113, [1067, 1068, 1069, 23]) := by decide +kernel
theorem d311_266 : decode (cdN 311) 266 = .ok (.iconst (-1), 1) := by decide +kernel
theorem d311_267 : decode (cdN 311) 267 = .ok (.if_icmp .ne 7, 3) := by decide +kernel
theorem d311_270 : decode (cdN 311) 270 = .ok (.iconst 1, 1) := by decide +kernel
theorem d311_271 : decode (cdN 311) 271 = .ok (.goto 4, 3) := by decide +kernel
theorem d311_274 : decode (cdN 311) 274 = .ok (.iconst 0, 1) := by decide +kernel
theorem d311_275 : decode (cdN 311) 275 = .ok (.ireturn, 1) := by decide +kernel
theorem d311_276 : decode (cdN 311) 276 = .ok (.iload 5, 2) := by decide +kernel
theorem d311_278 : decode (cdN 311) 278 = .ok (.ifCond .ne 27, 3) := by decide +kernel
theorem d311_281 : decode (cdN 311) 281 = .ok (.aload_n 0, 1) := by decide +kernel
theorem d311_282 : decode (cdN 311) 282 = .ok (.iconst 2, 1) := by decide +kernel
theorem d311_283 : decode (cdN 311) 283 = .ok (.iload_n 3, 1) := by decide +kernel
theorem d311_284 : decode (cdN 311) 284 = .ok (.iconst 2, 1) := by decide +kernel
theorem d311_285 : decode (cdN 311) 285 = .ok (.irem, 1) := by decide +kernel
theorem d311_286 : decode (cdN 311) 286 = .ok (.iadd, 1) := by decide +kernel
theorem d311_287 : decode (cdN 311) 287 = .ok (.iconst 0, 1) := by decide +kernel
theorem d311_288 : decode (cdN 311) 288 = .ok (.iconst 0, 1) := by decide +kernel
theorem d311_289 : decode (cdN 311) 289 = .ok (.iconst 0, 1) := by decide +kernel
theorem d311_290 : decode (cdN 311) 290 = .ok (.invokestatic 240, 3) := by decide +kernel
theorem d311_293 : decode (cdN 311) 293 = .ok (.sipush (-1001), 3) := by decide +kernel
theorem d311_296 : decode (cdN 311) 296 = .ok (.if_icmp .ne 7, 3) := by decide +kernel
theorem d311_299 : decode (cdN 311) 299 = .ok (.iconst 1, 1) := by decide +kernel
theorem d311_300 : decode (cdN 311) 300 = .ok (.goto 4, 3) := by decide +kernel
theorem d311_303 : decode (cdN 311) 303 = .ok (.iconst 0, 1) := by decide +kernel
theorem d311_304 : decode (cdN 311) 304 = .ok (.ireturn, 1) := by decide +kernel
theorem d311_305 : decode (cdN 311) 305 = .ok (.aload_n 0, 1) := by decide +kernel
theorem d311_306 : decode (cdN 311) 306 = .ok (.iload 6, 2) := by decide +kernel
theorem d311_308 : decode (cdN 311) 308 = .ok (.invokevirtual 142, 3) := by decide +kernel
theorem d311_311 : decode (cdN 311) 311 = .ok (.istore 7, 2) := by decide +kernel
theorem d311_313 : decode (cdN 311) 313 = .ok (.iload_n 3, 1) := by decide +kernel
theorem d311_314 : decode (cdN 311) 314 = .ok (.iconst 2, 1) := by decide +kernel
theorem d311_315 : decode (cdN 311) 315 = .ok (.irem, 1) := by decide +kernel
theorem d311_316 : decode (cdN 311) 316 = .ok (.ifCond .ne 56, 3) := by decide +kernel
theorem d311_319 : decode (cdN 311) 319 = .ok (.aload_n 0, 1) := by decide +kernel
theorem d311_320 : decode (cdN 311) 320 = .ok (.iconst 2, 1) := by decide +kernel
theorem d311_321 : decode (cdN 311) 321 = .ok (.iload 6, 2) := by decide +kernel
theorem d311_323 : decode (cdN 311) 323 = .ok (.iconst 0, 1) := by decide +kernel
theorem d311_324 : decode (cdN 311) 324 = .ok (.iconst 0, 1) := by decide +kernel
theorem d311_325 : decode (cdN 311) 325 = .ok (.invokestatic 240, 3) := by decide +kernel
theorem d311_328 : decode (cdN 311) 328 = .ok (.istore 8, 2) := by decide +kernel
theorem d311_330 : decode (cdN 311) 330 = .ok (.iload 7, 2) := by decide +kernel
theorem d311_332 : decode (cdN 311) 332 = .ok (.ifCond .eq 19, 3) := by decide +kernel
theorem d311_335 : decode (cdN 311) 335 = .ok (.iload 8, 2) := by decide +kernel
theorem d311_337 : decode (cdN 311) 337 = .ok (.sipush (-1003), 3) := by decide +kernel
theorem d311_340 : decode (cdN 311) 340 = .ok (.if_icmp .ne 7, 3) := by decide +kernel
theorem d311_343 : decode (cdN 311) 343 = .ok (.iconst 1, 1) := by decide +kernel
theorem d311_344 : decode (cdN 311) 344 = .ok (.goto 27, 3) := by decide +kernel
theorem d311_347 : decode (cdN 311) 347 = .ok (.iconst 0, 1) := by decide +kernel
theorem d311_348 : decode (cdN 311) 348 = .ok (.goto 23, 3) := by decide +kernel
theorem d311_351 : decode (cdN 311) 351 = .ok (.iload 8, 2) := by decide +kernel
theorem d311_353 : decode (cdN 311) 353 = .ok (.ifCond .le 17, 3) := by decide +kernel
theorem d311_356 : decode (cdN 311) 356 = .ok (.aload_n 0, 1) := by decide +kernel
theorem d311_357 : decode (cdN 311) 357 = .ok (.iload 6, 2) := by decide +kernel
theorem d311_359 : decode (cdN 311) 359 = .ok (.invokevirtual 142, 3) := by decide +kernel
theorem d311_362 : decode (cdN 311) 362 = .ok (.iconst 2, 1) := by decide +kernel
theorem d311_363 : decode (cdN 311) 363 = .ok (.if_icmp .ne 7, 3) := by decide +kernel
theorem d311_366 : decode (cdN 311) 366 = .ok (.iconst 1, 1) := by decide +kernel
theorem d311_367 : decode (cdN 311) 367 = .ok (.goto 4, 3) := by decide +kernel
theorem d311_370 : decode (cdN 311) 370 = .ok (.iconst 0, 1) := by decide +kernel
theorem d311_371 : decode (cdN 311) 371 = .ok (.ireturn, 1) := by decide +kernel
theorem d311_372 : decode (cdN 311) 372 = .ok (.aload_n 0, 1) := by decide +kernel
theorem d311_373 : decode (cdN 311) 373 = .ok (.iconst 3, 1) := by decide +kernel
theorem d311_374 : decode (cdN 311) 374 = .ok (.iload 6, 2) := by decide +kernel
theorem d311_376 : decode (cdN 311) 376 = .ok (.iconst 0, 1) := by decide +kernel
theorem d311_377 : decode (cdN 311) 377 = .ok (.iconst 0, 1) := by decide +kernel
theorem d311_378 : decode (cdN 311) 378 = .ok (.invokestatic 240, 3) := by decide +kernel
theorem d311_381 : decode (cdN 311) 381 = .ok (.istore 8, 2) := by decide +kernel
theorem d311_383 : decode (cdN 311) 383 = .ok (.iload 7, 2) := by decide +kernel
theorem d311_385 : decode (cdN 311) 385 = .ok (.iconst 2, 1) := by decide +kernel
theorem d311_386 : decode (cdN 311) 386 = .ok (.if_icmp .ne 10, 3) := by decide +kernel
theorem d311_389 : decode (cdN 311) 389 = .ok (.iload 5, 2) := by decide +kernel
theorem d311_391 : decode (cdN 311) 391 = .ok (.bipush 12, 2) := by decide +kernel
theorem d311_393 : decode (cdN 311) 393 = .ok (.if_icmp .ne 19, 3) := by decide +kernel
theorem d311_396 : decode (cdN 311) 396 = .ok (.iload 8, 2) := by decide +kernel
theorem d311_398 : decode (cdN 311) 398 = .ok (.sipush (-1003), 3) := by decide +kernel
theorem d311_401 : decode (cdN 311) 401 = .ok (.if_icmp .ne 7, 3) := by decide +kernel
theorem d311_404 : decode (cdN 311) 404 = .ok (.iconst 1, 1) := by decide +kernel
theorem d311_405 : decode (cdN 311) 405 = .ok (.goto 59, 3) := by decide +kernel
theorem d311_408 : decode (cdN 311) 408 = .ok (.iconst 0, 1) := by decide +kernel
theorem d311_409 : decode (cdN 311) 409 = .ok (.goto 55, 3) := by decide +kernel
theorem d311_412 : decode (cdN 311) 412 = .ok (.iload 8, 2) := by decide +kernel
theorem d311_414 : decode (cdN 311) 414 = .ok (.iload 5, 2) := by decide +kernel
theorem d311_416 : decode (cdN 311) 416 = .ok (.if_icmp .ne 47, 3) := by decide +kernel
theorem d311_419 : decode (cdN 311) 419 = .ok (.aload_n 0, 1) := by decide +kernel
theorem d311_420 : decode (cdN 311) 420 = .ok (.iload 5, 2) := by decide +kernel
theorem d311_422 : decode (cdN 311) 422 = .ok (.invokevirtual 139, 3) := by decide +kernel
theorem d311_425 : decode (cdN 311) 425 = .ok (.aload_n 0, 1) := by decide +kernel
theorem d311_426 : decode (cdN 311) 426 = .ok (.iload 6, 2) := by decide +kernel
theorem d311_428 : decode (cdN 311) 428 = .ok (.invokevirtual 139, 3) := by decide +kernel
theorem d311_431 : decode (cdN 311) 431 = .ok (.if_icmp .ne 32, 3) := by decide +kernel
theorem d311_434 : decode (cdN 311) 434 = .ok (.aload_n 0, 1) := by decide +kernel
theorem d311_435 : decode (cdN 311) 435 = .ok (.aload_n 0, 1) := by decide +kernel
theorem d311_436 : decode (cdN 311) 436 = .ok (.iload 5, 2) := by decide +kernel
theorem d311_438 : decode (cdN 311) 438 = .ok (.invokevirtual 206, 3) := by decide +kernel
theorem c311_206 : ctN (owN 311) 206 = some (0, 93, [999, 1000, 1001, 23]) := by decide +kernel
theorem d311_441 : decode (cdN 311) 441 = .ok (.iconst 1, 1) := by decide +kernel
theorem d311_442 : decode (cdN 311) 442 = .ok (.invokevirtual 157, 3) := by decide +kernel
theorem c311_157 : ctN (owN 311) 157 = some (0, 96, [982, 983, 984, 23]) := by decide +kernel
theorem d311_445 : decode (cdN 311) 445 = .ok (.aload_n 0, 1) := by decide +kernel
theorem d311_446 : decode (cdN 311) 446 = .ok (.aload_n 0, 1) := by decide +kernel
theorem d311_447 : decode (cdN 311) 447 = .ok (.iload 6, 2) := by decide +kernel
theorem d311_449 : decode (cdN 311) 449 = .ok (.invokevirtual 206, 3) := by decide +kernel
theorem d311_452 : decode (cdN 311) 452 = .ok (.iconst 1, 1) := by decide +kernel
theorem d311_453 : decode (cdN 311) 453 = .ok (.invokevirtual 157, 3) := by decide +kernel
theorem d311_456 : decode (cdN 311) 456 = .ok (.if_icmp .ne 7, 3) := by decide +kernel
theorem d311_459 : decode (cdN 311) 459 = .ok (.iconst 1, 1) := by decide +kernel
theorem d311_460 : decode (cdN 311) 460 = .ok (.goto 4, 3) := by decide +kernel
theorem d311_463 : decode (cdN 311) 463 = .ok (.iconst 0, 1) := by decide +kernel
theorem d311_464 : decode (cdN 311) 464 = .ok (.ireturn, 1) := by decide +kernel
theorem d311_465 : decode (cdN 311) 465 = .ok (.aload_n 0, 1) := by decide +kernel
theorem d311_466 : decode (cdN 311) 466 = .ok (.invokevirtual 92, 3) := by decide +kernel
theorem d311_469 : decode (cdN 311) 469 = .ok (.istore 7, 2) := by decide +kernel
theorem d311_471 : decode (cdN 311) 471 = .ok (.aload_n 0, 1) := by decide +kernel
theorem d311_472 : decode (cdN 311) 472 = .ok (.iconst 4, 1) := by decide +kernel
theorem d311_473 : decode (cdN 311) 473 = .ok (.iconst 1, 1) := by decide +kernel
theorem d311_474 : decode (cdN 311) 474 = .ok (.iload 4, 2) := by decide +kernel
theorem d311_476 : decode (cdN 311) 476 = .ok (.bipush 90, 2) := by decide +kernel
theorem d311_478 : decode (cdN 311) 478 = .ok (.irem, 1) := by decide +kernel
theorem d311_479 : decode (cdN 311) 479 = .ok (.iadd, 1) := by decide +kernel
theorem d311_480 : decode (cdN 311) 480 = .ok (.iconst 0, 1) := by decide +kernel
theorem d311_481 : decode (cdN 311) 481 = .ok (.iconst 0, 1) := by decide +kernel
theorem d311_482 : decode (cdN 311) 482 = .ok (.invokestatic 240, 3) := by decide +kernel
theorem d311_485 : decode (cdN 311) 485 = .ok (.iload 7, 2) := by decide +kernel
theorem d311_487 : decode (cdN 311) 487 = .ok (.iconst 1, 1) := by decide +kernel
theorem d311_488 : decode (cdN 311) 488 = .ok (.iadd, 1) := by decide +kernel
theorem d311_489 : decode (cdN 311) 489 = .ok (.iload 4, 2) := by decide +kernel
theorem d311_491 : decode (cdN 311) 491 = .ok (.bipush 90, 2) := by decide +kernel
theorem d311_493 : decode (cdN 311) 493 = .ok (.irem, 1) := by decide +kernel
theorem d311_494 : decode (cdN 311) 494 = .ok (.iadd, 1) := by decide +kernel
theorem d311_495 : decode (cdN 311) 495 = .ok (.if_icmp .ne 24, 3) := by decide +kernel
theorem d311_498 : decode (cdN 311) 498 = .ok (.aload_n 0, 1) := by decide +kernel
theorem d311_499 : decode (cdN 311) 499 = .ok (.invokevirtual 92, 3) := by decide +kernel
theorem d311_502 : decode (cdN 311) 502 = .ok (.iload 7, 2) := by decide +kernel
theorem d311_504 : decode (cdN 311) 504 = .ok (.iconst 1, 1) := by decide +kernel
theorem d311_505 : decode (cdN 311) 505 = .ok (.iadd, 1) := by decide +kernel
theorem d311_506 : decode (cdN 311) 506 = .ok (.iload 4, 2) := by decide +kernel
theorem d311_508 : decode (cdN 311) 508 = .ok (.bipush 90, 2) := by decide +kernel
theorem d311_510 : decode (cdN 311) 510 = .ok (.irem, 1) := by decide +kernel
theorem d311_511 : decode (cdN 311) 511 = .ok (.iadd, 1) := by decide +kernel
theorem d311_512 : decode (cdN 311) 512 = .ok (.if_icmp .ne 7, 3) := by decide +kernel
theorem d311_515 : decode (cdN 311) 515 = .ok (.iconst 1, 1) := by decide +kernel
theorem d311_516 : decode (cdN 311) 516 = .ok (.goto 4, 3) := by decide +kernel
theorem d311_519 : decode (cdN 311) 519 = .ok (.iconst 0, 1) := by decide +kernel
theorem d311_520 : decode (cdN 311) 520 = .ok (.ireturn, 1) := by decide +kernel
theorem d311_521 : decode (cdN 311) 521 = .ok (.aload_n 0, 1) := by decide +kernel
theorem d311_522 : decode (cdN 311) 522 = .ok (.invokevirtual 98, 3) := by decide +kernel
theorem c311_98 : ctN (owN 311) 98 = some (0, 84, [918, 919, 920, 23]) := by decide +kernel
theorem d311_525 : decode (cdN 311) 525 = .ok (.istore 7, 2) := by decide +kernel
theorem d311_527 : decode (cdN 311) 527 = .ok (.iload 4, 2) := by decide +kernel
theorem d311_529 : decode (cdN 311) 529 = .ok (.iconst 5, 1) := by decide +kernel
theorem d311_530 : decode (cdN 311) 530 = .ok (.irem, 1) := by decide +kernel
theorem d311_531 : decode (cdN 311) 531 = .ok (.ifCond .le 14, 3) := by decide +kernel
theorem d311_534 : decode (cdN 311) 534 = .ok (.iload 4, 2) := by decide +kernel
theorem d311_536 : decode (cdN 311) 536 = .ok (.bipush 17, 2) := by decide +kernel
theorem d311_538 : decode (cdN 311) 538 = .ok (.irem, 1) := by decide +kernel
theorem d311_539 : decode (cdN 311) 539 = .ok (.bipush 8, 2) := by decide +kernel
theorem d311_541 : decode (cdN 311) 541 = .ok (.isub, 1) := by decide +kernel
theorem d311_542 : decode (cdN 311) 542 = .ok (.goto 12, 3) := by decide +kernel
theorem d311_545 : decode (cdN 311) 545 = .ok (.iload 4, 2) := by decide +kernel
theorem d311_547 : decode (cdN 311) 547 = .ok (.sipush 199, 3) := by decide +kernel
theorem d311_550 : decode (cdN 311) 550 = .ok (.irem, 1) := by decide +kernel
theorem d311_551 : decode (cdN 311) 551 = .ok (.bipush 99, 2) := by decide +kernel
theorem d311_553 : decode (cdN 311) 553 = .ok (.isub, 1) := by decide +kernel
theorem d311_554 : decode (cdN 311) 554 = .ok (.istore 8, 2) := by decide +kernel
theorem d311_556 : decode (cdN 311) 556 = .ok (.aload_n 0, 1) := by decide +kernel
theorem d311_557 : decode (cdN 311) 557 = .ok (.iconst 5, 1) := by decide +kernel
theorem d311_558 : decode (cdN 311) 558 = .ok (.iload 8, 2) := by decide +kernel
theorem d311_560 : decode (cdN 311) 560 = .ok (.iconst 0, 1) := by decide +kernel
theorem d311_561 : decode (cdN 311) 561 = .ok (.iconst 0, 1) := by decide +kernel
theorem d311_562 : decode (cdN 311) 562 = .ok (.invokestatic 240, 3) := by decide +kernel
theorem d311_565 : decode (cdN 311) 565 = .ok (.iload 7, 2) := by decide +kernel
theorem d311_567 : decode (cdN 311) 567 = .ok (.if_icmp .ne 18, 3) := by decide +kernel
theorem d311_570 : decode (cdN 311) 570 = .ok (.aload_n 0, 1) := by decide +kernel
theorem d311_571 : decode (cdN 311) 571 = .ok (.iconst 5, 1) := by decide +kernel
theorem d311_572 : decode (cdN 311) 572 = .ok (.bipush 100, 2) := by decide +kernel
theorem d311_574 : decode (cdN 311) 574 = .ok (.iconst 0, 1) := by decide +kernel
theorem d311_575 : decode (cdN 311) 575 = .ok (.iconst 0, 1) := by decide +kernel
theorem d311_576 : decode (cdN 311) 576 = .ok (.invokestatic 240, 3) := by decide +kernel
theorem d311_579 : decode (cdN 311) 579 = .ok (.sipush (-1002), 3) := by decide +kernel
theorem d311_582 : decode (cdN 311) 582 = .ok (.if_icmp .eq 5, 3) := by decide +kernel
theorem d311_585 : decode (cdN 311) 585 = .ok (.iconst 0, 1) := by decide +kernel
theorem d311_586 : decode (cdN 311) 586 = .ok (.ireturn, 1) := by decide +kernel
theorem d311_587 : decode (cdN 311) 587 = .ok (.aload_n 0, 1) := by decide +kernel
theorem d311_588 : decode (cdN 311) 588 = .ok (.invokevirtual 267, 3) := by decide +kernel
theorem c311_267 : ctN (owN 311) 267 = some (0, 104, [1342, 1343, 1344, 23]) := by decide +kernel
theorem d311_591 : decode (cdN 311) 591 = .ok (.istore 9, 2) := by decide +kernel
theorem d311_593 : decode (cdN 311) 593 = .ok (.aload_n 0, 1) := by decide +kernel
theorem d311_594 : decode (cdN 311) 594 = .ok (.invokevirtual 98, 3) := by decide +kernel
theorem d311_597 : decode (cdN 311) 597 = .ok (.iload 8, 2) := by decide +kernel
theorem d311_599 : decode (cdN 311) 599 = .ok (.if_icmp .ne 45, 3) := by decide +kernel
theorem d311_602 : decode (cdN 311) 602 = .ok (.iload 9, 2) := by decide +kernel
theorem d311_604 : decode (cdN 311) 604 = .ok (.bipush 100, 2) := by decide +kernel
theorem d311_606 : decode (cdN 311) 606 = .ok (.if_icmp .eq 14, 3) := by decide +kernel
theorem d311_609 : decode (cdN 311) 609 = .ok (.aload_n 0, 1) := by decide +kernel
theorem d311_610 : decode (cdN 311) 610 = .ok (.iload 9, 2) := by decide +kernel
theorem d311_612 : decode (cdN 311) 612 = .ok (.invokevirtual 188, 3) := by decide +kernel
theorem c311_188 : ctN (owN 311) 188 = some (0, 103, [1043, 1044, 1045, 23]) := by decide +kernel
theorem d311_615 : decode (cdN 311) 615 = .ok (.iload 9, 2) := by decide +kernel
theorem d311_617 : decode (cdN 311) 617 = .ok (.if_icmp .eq 27, 3) := by decide +kernel
theorem d311_620 : decode (cdN 311) 620 = .ok (.iload 9, 2) := by decide +kernel
theorem d311_622 : decode (cdN 311) 622 = .ok (.ifCond .eq 18, 3) := by decide +kernel
theorem d311_625 : decode (cdN 311) 625 = .ok (.aload_n 0, 1) := by decide +kernel
theorem d311_626 : decode (cdN 311) 626 = .ok (.iload 9, 2) := by decide +kernel
theorem d311_628 : decode (cdN 311) 628 = .ok (.iconst 1, 1) := by decide +kernel
theorem d311_629 : decode (cdN 311) 629 = .ok (.isub, 1) := by decide +kernel
theorem d311_630 : decode (cdN 311) 630 = .ok (.invokevirtual 188, 3) := by decide +kernel
theorem d311_633 : decode (cdN 311) 633 = .ok (.iload 9, 2) := by decide +kernel
theorem d311_635 : decode (cdN 311) 635 = .ok (.iconst 1, 1) := by decide +kernel
theorem d311_636 : decode (cdN 311) 636 = .ok (.isub, 1) := by decide +kernel
theorem d311_637 : decode (cdN 311) 637 = .ok (.if_icmp .ne 7, 3) := by decide +kernel
theorem d311_640 : decode (cdN 311) 640 = .ok (.iconst 1, 1) := by decide +kernel
theorem d311_641 : decode (cdN 311) 641 = .ok (.goto 4, 3) := by decide +kernel
theorem d311_644 : decode (cdN 311) 644 = .ok (.iconst 0, 1) := by decide +kernel
theorem d311_645 : decode (cdN 311) 645 = .ok (.ireturn, 1) := by decide +kernel
theorem d311_646 : decode (cdN 311) 646 = .ok (.aload_n 0, 1) := by decide +kernel
theorem d311_647 : decode (cdN 311) 647 = .ok (.invokevirtual 103, 3) := by decide +kernel
theorem c311_103 : ctN (owN 311) 103 = some (0, 85, [923, 924, 925, 23]) := by decide +kernel
theorem d311_650 : decode (cdN 311) 650 = .ok (.istore 7, 2) := by decide +kernel
theorem d311_652 : decode (cdN 311) 652 = .ok (.iload_n 3, 1) := by decide +kernel
theorem d311_653 : decode (cdN 311) 653 = .ok (.iconst 2, 1) := by decide +kernel
theorem d311_654 : decode (cdN 311) 654 = .ok (.irem, 1) := by decide +kernel
theorem d311_655 : decode (cdN 311) 655 = .ok (.ifCond .ne 102, 3) := by decide +kernel
theorem d311_658 : decode (cdN 311) 658 = .ok (.iconst 2, 1) := by decide +kernel
theorem d311_659 : decode (cdN 311) 659 = .ok (.iload_n 2, 1) := by decide +kernel
theorem d311_660 : decode (cdN 311) 660 = .ok (.sipush 300, 3) := by decide +kernel
theorem d311_663 : decode (cdN 311) 663 = .ok (.irem, 1) := by decide +kernel
theorem d311_664 : decode (cdN 311) 664 = .ok (.iadd, 1) := by decide +kernel
theorem d311_665 : decode (cdN 311) 665 = .ok (.istore 8, 2) := by decide +kernel
theorem d311_667 : decode (cdN 311) 667 = .ok (.aload_n 0, 1) := by decide +kernel
theorem d311_668 : decode (cdN 311) 668 = .ok (.bipush 6, 2) := by decide +kernel
theorem d311_670 : decode (cdN 311) 670 = .ok (.iload 8, 2) := by decide +kernel
theorem d311_672 : decode (cdN 311) 672 = .ok (.iconst 1, 1) := by decide +kernel
theorem d311_673 : decode (cdN 311) 673 = .ok (.iload 4, 2) := by decide +kernel
theorem d311_675 : decode (cdN 311) 675 = .ok (.iload 8, 2) := by decide +kernel
theorem d311_677 : decode (cdN 311) 677 = .ok (.iconst 1, 1) := by decide +kernel
theorem d311_678 : decode (cdN 311) 678 = .ok (.isub, 1) := by decide +kernel
theorem d311_679 : decode (cdN 311) 679 = .ok (.bipush 20, 2) := by decide +kernel
theorem d311_681 : decode (cdN 311) 681 = .ok (.invokestatic 264, 3) := by decide +kernel
theorem d311_684 : decode (cdN 311) 684 = .ok (.irem, 1) := by decide +kernel
theorem d311_685 : decode (cdN 311) 685 = .ok (.iadd, 1) := by decide +kernel
theorem d311_686 : decode (cdN 311) 686 = .ok (.iload_n 2, 1) := by decide +kernel
theorem d311_687 : decode (cdN 311) 687 = .ok (.bipush 50, 2) := by decide +kernel
theorem d311_689 : decode (cdN 311) 689 = .ok (.irem, 1) := by decide +kernel
theorem d311_690 : decode (cdN 311) 690 = .ok (.invokestatic 240, 3) := by decide +kernel
theorem d311_693 : decode (cdN 311) 693 = .ok (.istore 9, 2) := by decide +kernel
theorem d311_695 : decode (cdN 311) 695 = .ok (.iload 7, 2) := by decide +kernel
theorem d311_697 : decode (cdN 311) 697 = .ok (.iconst 3, 1) := by decide +kernel
theorem d311_698 : decode (cdN 311) 698 = .ok (.if_icmp .ne 19, 3) := by decide +kernel
theorem d311_701 : decode (cdN 311) 701 = .ok (.iload 9, 2) := by decide +kernel
theorem d311_703 : decode (cdN 311) 703 = .ok (.sipush (-1003), 3) := by decide +kernel
theorem d311_706 : decode (cdN 311) 706 = .ok (.if_icmp .ne 7, 3) := by decide +kernel
theorem d311_709 : decode (cdN 311) 709 = .ok (.iconst 1, 1) := by decide +kernel
theorem d311_710 : decode (cdN 311) 710 = .ok (.goto 46, 3) := by decide +kernel
theorem d311_713 : decode (cdN 311) 713 = .ok (.iconst 0, 1) := by decide +kernel
theorem d311_714 : decode (cdN 311) 714 = .ok (.goto 42, 3) := by decide +kernel
theorem d311_717 : decode (cdN 311) 717 = .ok (.iload 9, 2) := by decide +kernel
theorem d311_719 : decode (cdN 311) 719 = .ok (.iload 7, 2) := by decide +kernel
theorem d311_721 : decode (cdN 311) 721 = .ok (.if_icmp .ne 34, 3) := by decide +kernel
theorem d311_724 : decode (cdN 311) 724 = .ok (.aload_n 0, 1) := by decide +kernel
theorem d311_725 : decode (cdN 311) 725 = .ok (.iload_n 2, 1) := by decide +kernel
theorem d311_726 : decode (cdN 311) 726 = .ok (.bipush 50, 2) := by decide +kernel
theorem d311_728 : decode (cdN 311) 728 = .ok (.irem, 1) := by decide +kernel
theorem d311_729 : decode (cdN 311) 729 = .ok (.invokevirtual 166, 3) := by decide +kernel
theorem c311_166 : ctN (owN 311) 166 = some (0, 86, [991, 992, 993, 23]) := by decide +kernel
theorem d311_732 : decode (cdN 311) 732 = .ok (.ifCond .eq 23, 3) := by decide +kernel
theorem d311_735 : decode (cdN 311) 735 = .ok (.aload_n 0, 1) := by decide +kernel
theorem d311_736 : decode (cdN 311) 736 = .ok (.iload_n 2, 1) := by decide +kernel
theorem d311_737 : decode (cdN 311) 737 = .ok (.bipush 50, 2) := by decide +kernel
theorem d311_739 : decode (cdN 311) 739 = .ok (.irem, 1) := by decide +kernel
theorem d311_740 : decode (cdN 311) 740 = .ok (.iconst 3, 1) := by decide +kernel
theorem d311_741 : decode (cdN 311) 741 = .ok (.iload 8, 2) := by decide +kernel
theorem d311_743 : decode (cdN 311) 743 = .ok (.imul, 1) := by decide +kernel
theorem d311_744 : decode (cdN 311) 744 = .ok (.iadd, 1) := by decide +kernel
theorem d311_745 : decode (cdN 311) 745 = .ok (.invokevirtual 166, 3) := by decide +kernel
theorem d311_748 : decode (cdN 311) 748 = .ok (.ifCond .eq 7, 3) := by decide +kernel
theorem d311_751 : decode (cdN 311) 751 = .ok (.iconst 1, 1) := by decide +kernel
theorem d311_752 : decode (cdN 311) 752 = .ok (.goto 4, 3) := by decide +kernel
theorem d311_755 : decode (cdN 311) 755 = .ok (.iconst 0, 1) := by decide +kernel
theorem d311_756 : decode (cdN 311) 756 = .ok (.ireturn, 1) := by decide +kernel
theorem d311_757 : decode (cdN 311) 757 = .ok (.aload_n 0, 1) := by decide +kernel
theorem d311_758 : decode (cdN 311) 758 = .ok (.bipush 7, 2) := by decide +kernel
theorem d311_760 : decode (cdN 311) 760 = .ok (.iload_n 2, 1) := by decide +kernel
theorem d311_761 : decode (cdN 311) 761 = .ok (.iconst 3, 1) := by decide +kernel
theorem d311_762 : decode (cdN 311) 762 = .ok (.irem, 1) := by decide +kernel
theorem d311_763 : decode (cdN 311) 763 = .ok (.iconst 0, 1) := by decide +kernel
theorem d311_764 : decode (cdN 311) 764 = .ok (.iconst 0, 1) := by decide +kernel
theorem d311_765 : decode (cdN 311) 765 = .ok (.invokestatic 240, 3) := by decide +kernel
theorem d311_768 : decode (cdN 311) 768 = .ok (.istore 8, 2) := by decide +kernel
theorem d311_770 : decode (cdN 311) 770 = .ok (.iload_n 2, 1) := by decide +kernel
theorem d311_771 : decode (cdN 311) 771 = .ok (.iconst 3, 1) := by decide +kernel
theorem d311_772 : decode (cdN 311) 772 = .ok (.irem, 1) := by decide +kernel
theorem d311_773 : decode (cdN 311) 773 = .ok (.iload 7, 2) := by decide +kernel
theorem d311_775 : decode (cdN 311) 775 = .ok (.if_icmp .lt 19, 3) := by decide +kernel
theorem d311_778 : decode (cdN 311) 778 = .ok (.iload 8, 2) := by decide +kernel
theorem d311_780 : decode (cdN 311) 780 = .ok (.sipush (-1001), 3) := by decide +kernel
theorem d311_783 : decode (cdN 311) 783 = .ok (.if_icmp .ne 7, 3) := by decide +kernel
theorem d311_786 : decode (cdN 311) 786 = .ok (.iconst 1, 1) := by decide +kernel
theorem d311_787 : decode (cdN 311) 787 = .ok (.goto 21, 3) := by decide +kernel
theorem d311_790 : decode (cdN 311) 790 = .ok (.iconst 0, 1) := by decide +kernel
theorem d311_791 : decode (cdN 311) 791 = .ok (.goto 17, 3) := by decide +kernel
theorem d311_794 : decode (cdN 311) 794 = .ok (.iload 8, 2) := by decide +kernel
theorem d311_796 : decode (cdN 311) 796 = .ok (.iload 7, 2) := by decide +kernel
theorem d311_798 : decode (cdN 311) 798 = .ok (.iconst 1, 1) := by decide +kernel
theorem d311_799 : decode (cdN 311) 799 = .ok (.isub, 1) := by decide +kernel
theorem d311_800 : decode (cdN 311) 800 = .ok (.if_icmp .ne 7, 3) := by decide +kernel
theorem d311_803 : decode (cdN 311) 803 = .ok (.iconst 1, 1) := by decide +kernel
theorem d311_804 : decode (cdN 311) 804 = .ok (.goto 4, 3) := by decide +kernel
theorem d311_807 : decode (cdN 311) 807 = .ok (.iconst 0, 1) := by decide +kernel
theorem d311_808 : decode (cdN 311) 808 = .ok (.ireturn, 1) := by decide +kernel
theorem d332_0 : decode (cdN 332) 0 = .ok (.new 244, 3) := by decide +kernel
theorem n332_244 : clN (owN 332) 244 = some (15, 1104, 1105, 13) := by decide +kernel
theorem d332_3 : decode (cdN 332) 3 = .ok (.dup, 1) := by decide +kernel
theorem d332_4 : decode (cdN 332) 4 = .ok (.ldc_w 270, 3) := by decide +kernel
theorem k332_270 : ksN (owN 332) 270 = some 2 := by decide +kernel
theorem d332_7 : decode (cdN 332) 7 = .ok (.invokespecial 272, 3) := by decide +kernel
theorem c332_272 : ctN (owN 332) 272 = some (2, 147, [1346, 1347, 13]) := by decide +kernel
theorem d332_10 : decode (cdN 332) 10 = .ok (.iconst 1, 1) := by decide +kernel
theorem d332_11 : decode (cdN 332) 11 = .ok (.aload_n 0, 1) := by decide +kernel
theorem d332_12 : decode (cdN 332) 12 = .ok (.iconst 0, 1) := by decide +kernel
theorem d332_13 : decode (cdN 332) 13 = .ok (.invokestatic 275, 3) := by decide +kernel
theorem c332_275 : ctN (owN 332) 275 = some (1, 300, [606, 607, 11]) := by decide +kernel
theorem d332_16 : decode (cdN 332) 16 = .ok (.iconst 5, 1) := by decide +kernel
theorem d332_17 : decode (cdN 332) 17 = .ok (.irem, 1) := by decide +kernel
theorem d332_18 : decode (cdN 332) 18 = .ok (.iadd, 1) := by decide +kernel
theorem d332_19 : decode (cdN 332) 19 = .ok (.invokevirtual 279, 3) := by decide +kernel
theorem c332_279 : ctN (owN 332) 279 = some (0, 150, [1358, 1243, 1244, 13]) := by decide +kernel
theorem d332_22 : decode (cdN 332) 22 = .ok (.bipush 32, 2) := by decide +kernel
theorem d332_24 : decode (cdN 332) 24 = .ok (.invokevirtual 247, 3) := by decide +kernel
theorem c332_247 : ctN (owN 332) 247 = some (0, 149, [1134, 1135, 1136, 13]) := by decide +kernel
theorem d332_27 : decode (cdN 332) 27 = .ok (.aload_n 0, 1) := by decide +kernel
theorem d332_28 : decode (cdN 332) 28 = .ok (.iconst 1, 1) := by decide +kernel
theorem d332_29 : decode (cdN 332) 29 = .ok (.invokestatic 275, 3) := by decide +kernel
theorem d332_32 : decode (cdN 332) 32 = .ok (.iconst 3, 1) := by decide +kernel
theorem d332_33 : decode (cdN 332) 33 = .ok (.irem, 1) := by decide +kernel
theorem d332_34 : decode (cdN 332) 34 = .ok (.ifCond .ne 17, 3) := by decide +kernel
theorem d332_37 : decode (cdN 332) 37 = .ok (.bipush 80, 2) := by decide +kernel
theorem d332_39 : decode (cdN 332) 39 = .ok (.aload_n 0, 1) := by decide +kernel
theorem d332_40 : decode (cdN 332) 40 = .ok (.iconst 2, 1) := by decide +kernel
theorem d332_41 : decode (cdN 332) 41 = .ok (.invokestatic 275, 3) := by decide +kernel
theorem d332_44 : decode (cdN 332) 44 = .ok (.bipush 41, 2) := by decide +kernel
theorem d332_46 : decode (cdN 332) 46 = .ok (.irem, 1) := by decide +kernel
theorem d332_47 : decode (cdN 332) 47 = .ok (.iadd, 1) := by decide +kernel
theorem d332_48 : decode (cdN 332) 48 = .ok (.goto 5, 3) := by decide +kernel
theorem d332_51 : decode (cdN 332) 51 = .ok (.bipush 100, 2) := by decide +kernel
theorem d332_53 : decode (cdN 332) 53 = .ok (.invokevirtual 279, 3) := by decide +kernel
theorem d332_56 : decode (cdN 332) 56 = .ok (.bipush 32, 2) := by decide +kernel
theorem d332_58 : decode (cdN 332) 58 = .ok (.invokevirtual 247, 3) := by decide +kernel
theorem d332_61 : decode (cdN 332) 61 = .ok (.iconst 1, 1) := by decide +kernel
theorem d332_62 : decode (cdN 332) 62 = .ok (.aload_n 0, 1) := by decide +kernel
theorem d332_63 : decode (cdN 332) 63 = .ok (.iconst 3, 1) := by decide +kernel
theorem d332_64 : decode (cdN 332) 64 = .ok (.invokestatic 275, 3) := by decide +kernel
theorem d332_67 : decode (cdN 332) 67 = .ok (.bipush 40, 2) := by decide +kernel
theorem d332_69 : decode (cdN 332) 69 = .ok (.irem, 1) := by decide +kernel
theorem d332_70 : decode (cdN 332) 70 = .ok (.iadd, 1) := by decide +kernel
theorem d332_71 : decode (cdN 332) 71 = .ok (.invokevirtual 279, 3) := by decide +kernel
theorem d332_74 : decode (cdN 332) 74 = .ok (.bipush 32, 2) := by decide +kernel
theorem d332_76 : decode (cdN 332) 76 = .ok (.invokevirtual 247, 3) := by decide +kernel
theorem d332_79 : decode (cdN 332) 79 = .ok (.iconst 1, 1) := by decide +kernel
theorem d332_80 : decode (cdN 332) 80 = .ok (.aload_n 0, 1) := by decide +kernel
theorem d332_81 : decode (cdN 332) 81 = .ok (.iconst 4, 1) := by decide +kernel
theorem d332_82 : decode (cdN 332) 82 = .ok (.invokestatic 275, 3) := by decide +kernel
theorem d332_85 : decode (cdN 332) 85 = .ok (.iconst 5, 1) := by decide +kernel
theorem d332_86 : decode (cdN 332) 86 = .ok (.irem, 1) := by decide +kernel
theorem d332_87 : decode (cdN 332) 87 = .ok (.iadd, 1) := by decide +kernel
theorem d332_88 : decode (cdN 332) 88 = .ok (.invokevirtual 279, 3) := by decide +kernel
theorem d332_91 : decode (cdN 332) 91 = .ok (.bipush 59, 2) := by decide +kernel
theorem d332_93 : decode (cdN 332) 93 = .ok (.invokevirtual 247, 3) := by decide +kernel
theorem d332_96 : decode (cdN 332) 96 = .ok (.astore_n 1, 1) := by decide +kernel
theorem d332_97 : decode (cdN 332) 97 = .ok (.aload_n 0, 1) := by decide +kernel
theorem d332_98 : decode (cdN 332) 98 = .ok (.iconst 5, 1) := by decide +kernel
theorem d332_99 : decode (cdN 332) 99 = .ok (.invokestatic 275, 3) := by decide +kernel
theorem d332_102 : decode (cdN 332) 102 = .ok (.iconst 4, 1) := by decide +kernel
theorem d332_103 : decode (cdN 332) 103 = .ok (.irem, 1) := by decide +kernel
theorem d332_104 : decode (cdN 332) 104 = .ok (.istore_n 2, 1) := by decide +kernel
theorem d332_105 : decode (cdN 332) 105 = .ok (.iconst 0, 1) := by decide +kernel
theorem d332_106 : decode (cdN 332) 106 = .ok (.istore_n 3, 1) := by decide +kernel
theorem d332_107 : decode (cdN 332) 107 = .ok (.iload_n 3, 1) := by decide +kernel
theorem d332_108 : decode (cdN 332) 108 = .ok (.iload_n 2, 1) := by decide +kernel
theorem d332_109 : decode (cdN 332) 109 = .ok (.if_icmp .ge 80, 3) := by decide +kernel
theorem d332_112 : decode (cdN 332) 112 = .ok (.aload_n 1, 1) := by decide +kernel
theorem d332_113 : decode (cdN 332) 113 = .ok (.ldc_w 282, 3) := by decide +kernel
theorem k332_282 : ksN (owN 332) 282 = some 3 := by decide +kernel
theorem d332_116 : decode (cdN 332) 116 = .ok (.invokevirtual 284, 3) := by decide +kernel
theorem c332_284 : ctN (owN 332) 284 = some (0, 148, [1357, 1278, 1279, 13]) := by decide +kernel
theorem d332_119 : decode (cdN 332) 119 = .ok (.bipush 30, 2) := by decide +kernel
theorem d332_121 : decode (cdN 332) 121 = .ok (.aload_n 0, 1) := by decide +kernel
theorem d332_122 : decode (cdN 332) 122 = .ok (.bipush 6, 2) := by decide +kernel
theorem d332_124 : decode (cdN 332) 124 = .ok (.iload_n 3, 1) := by decide +kernel
theorem d332_125 : decode (cdN 332) 125 = .ok (.iadd, 1) := by decide +kernel
theorem d332_126 : decode (cdN 332) 126 = .ok (.invokestatic 275, 3) := by decide +kernel
theorem d332_129 : decode (cdN 332) 129 = .ok (.sipush 300, 3) := by decide +kernel
theorem d332_132 : decode (cdN 332) 132 = .ok (.irem, 1) := by decide +kernel
theorem d332_133 : decode (cdN 332) 133 = .ok (.iadd, 1) := by decide +kernel
theorem d332_134 : decode (cdN 332) 134 = .ok (.invokevirtual 279, 3) := by decide +kernel
theorem d332_137 : decode (cdN 332) 137 = .ok (.bipush 32, 2) := by decide +kernel
theorem d332_139 : decode (cdN 332) 139 = .ok (.invokevirtual 247, 3) := by decide +kernel
theorem d332_142 : decode (cdN 332) 142 = .ok (.iconst 1, 1) := by decide +kernel
theorem d332_143 : decode (cdN 332) 143 = .ok (.aload_n 0, 1) := by decide +kernel
theorem d332_144 : decode (cdN 332) 144 = .ok (.bipush 9, 2) := by decide +kernel
theorem d332_146 : decode (cdN 332) 146 = .ok (.iload_n 3, 1) := by decide +kernel
theorem d332_147 : decode (cdN 332) 147 = .ok (.iadd, 1) := by decide +kernel
theorem d332_148 : decode (cdN 332) 148 = .ok (.invokestatic 275, 3) := by decide +kernel
theorem d332_151 : decode (cdN 332) 151 = .ok (.bipush 25, 2) := by decide +kernel
theorem d332_153 : decode (cdN 332) 153 = .ok (.irem, 1) := by decide +kernel
theorem d332_154 : decode (cdN 332) 154 = .ok (.iadd, 1) := by decide +kernel
theorem d332_155 : decode (cdN 332) 155 = .ok (.invokevirtual 279, 3) := by decide +kernel
theorem d332_158 : decode (cdN 332) 158 = .ok (.bipush 32, 2) := by decide +kernel
theorem d332_160 : decode (cdN 332) 160 = .ok (.invokevirtual 247, 3) := by decide +kernel
theorem d332_163 : decode (cdN 332) 163 = .ok (.aload_n 0, 1) := by decide +kernel
theorem d332_164 : decode (cdN 332) 164 = .ok (.bipush 12, 2) := by decide +kernel
theorem d332_166 : decode (cdN 332) 166 = .ok (.iload_n 3, 1) := by decide +kernel
theorem d332_167 : decode (cdN 332) 167 = .ok (.iadd, 1) := by decide +kernel
theorem d332_168 : decode (cdN 332) 168 = .ok (.invokestatic 275, 3) := by decide +kernel
theorem d332_171 : decode (cdN 332) 171 = .ok (.bipush 80, 2) := by decide +kernel
theorem d332_173 : decode (cdN 332) 173 = .ok (.irem, 1) := by decide +kernel
theorem d332_174 : decode (cdN 332) 174 = .ok (.invokevirtual 279, 3) := by decide +kernel
theorem d332_177 : decode (cdN 332) 177 = .ok (.bipush 59, 2) := by decide +kernel
theorem d332_179 : decode (cdN 332) 179 = .ok (.invokevirtual 247, 3) := by decide +kernel
theorem d332_182 : decode (cdN 332) 182 = .ok (.pop, 1) := by decide +kernel
theorem d332_183 : decode (cdN 332) 183 = .ok (.iinc 3 1, 3) := by decide +kernel
theorem d332_186 : decode (cdN 332) 186 = .ok (.goto (-79), 3) := by decide +kernel
theorem d332_189 : decode (cdN 332) 189 = .ok (.new 15, 3) := by decide +kernel
theorem n332_15 : clN (owN 332) 15 = some (9, 39, 40, 23) := by decide +kernel
theorem d332_192 : decode (cdN 332) 192 = .ok (.dup, 1) := by decide +kernel
theorem d332_193 : decode (cdN 332) 193 = .ok (.invokespecial 287, 3) := by decide +kernel
theorem c332_287 : ctN (owN 332) 287 = some (2, 75, [41, 42, 23]) := by decide +kernel
theorem d332_196 : decode (cdN 332) 196 = .ok (.astore_n 3, 1) := by decide +kernel
theorem d332_197 : decode (cdN 332) 197 = .ok (.aload_n 3, 1) := by decide +kernel
theorem d332_198 : decode (cdN 332) 198 = .ok (.aload_n 1, 1) := by decide +kernel
theorem d332_199 : decode (cdN 332) 199 = .ok (.invokevirtual 250, 3) := by decide +kernel
theorem c332_250 : ctN (owN 332) 250 = some (0, 151, [1203, 1204, 1205, 13]) := by decide +kernel
theorem d332_202 : decode (cdN 332) 202 = .ok (.invokestatic 288, 3) := by decide +kernel
theorem c332_288 : ctN (owN 332) 288 = some (1, 303, [613, 614, 11]) := by decide +kernel
theorem d332_205 : decode (cdN 332) 205 = .ok (.iload_n 2, 1) := by decide +kernel
theorem d332_206 : decode (cdN 332) 206 = .ok (.if_icmp .ne 42, 3) := by decide +kernel
theorem d332_209 : decode (cdN 332) 209 = .ok (.aload_n 3, 1) := by decide +kernel
theorem d332_210 : decode (cdN 332) 210 = .ok (.aload_n 0, 1) := by decide +kernel
theorem d332_211 : decode (cdN 332) 211 = .ok (.bipush 16, 2) := by decide +kernel
theorem d332_213 : decode (cdN 332) 213 = .ok (.invokestatic 275, 3) := by decide +kernel
theorem d332_216 : decode (cdN 332) 216 = .ok (.invokestatic 291, 3) := by decide +kernel
theorem c332_291 : ctN (owN 332) 291 = some (1, 309, [996, 997, 11]) := by decide +kernel
theorem d332_219 : decode (cdN 332) 219 = .ok (.ifCond .eq 29, 3) := by decide +kernel
theorem d332_222 : decode (cdN 332) 222 = .ok (.aload_n 3, 1) := by decide +kernel
theorem d332_223 : decode (cdN 332) 223 = .ok (.iconst 0, 1) := by decide +kernel
theorem d332_224 : decode (cdN 332) 224 = .ok (.aload_n 0, 1) := by decide +kernel
theorem d332_225 : decode (cdN 332) 225 = .ok (.bipush 17, 2) := by decide +kernel
theorem d332_227 : decode (cdN 332) 227 = .ok (.invokestatic 275, 3) := by decide +kernel
theorem d332_230 : decode (cdN 332) 230 = .ok (.aload_n 0, 1) := by decide +kernel
theorem d332_231 : decode (cdN 332) 231 = .ok (.bipush 18, 2) := by decide +kernel
theorem d332_233 : decode (cdN 332) 233 = .ok (.invokestatic 275, 3) := by decide +kernel
theorem d332_236 : decode (cdN 332) 236 = .ok (.aload_n 0, 1) := by decide +kernel
theorem d332_237 : decode (cdN 332) 237 = .ok (.bipush 19, 2) := by decide +kernel
theorem d332_239 : decode (cdN 332) 239 = .ok (.invokestatic 275, 3) := by decide +kernel
theorem d332_242 : decode (cdN 332) 242 = .ok (.invokestatic 294, 3) := by decide +kernel
theorem c332_294 : ctN (owN 332) 294 = some (1, 311, [1101, 1102, 11]) := by decide +kernel
theorem d332_245 : decode (cdN 332) 245 = .ok (.ifCond .ne 5, 3) := by decide +kernel
theorem d332_248 : decode (cdN 332) 248 = .ok (.iconst 0, 1) := by decide +kernel
theorem d332_249 : decode (cdN 332) 249 = .ok (.ireturn, 1) := by decide +kernel
theorem d332_250 : decode (cdN 332) 250 = .ok (.iconst 0, 1) := by decide +kernel
theorem d332_251 : decode (cdN 332) 251 = .ok (.istore 4, 2) := by decide +kernel
theorem d332_253 : decode (cdN 332) 253 = .ok (.iload 4, 2) := by decide +kernel
theorem d332_255 : decode (cdN 332) 255 = .ok (.bipush 12, 2) := by decide +kernel
theorem d332_257 : decode (cdN 332) 257 = .ok (.if_icmp .ge 162, 3) := by decide +kernel
theorem d332_260 : decode (cdN 332) 260 = .ok (.aload_n 0, 1) := by decide +kernel
theorem d332_261 : decode (cdN 332) 261 = .ok (.bipush 20, 2) := by decide +kernel
theorem d332_263 : decode (cdN 332) 263 = .ok (.iconst 4, 1) := by decide +kernel
theorem d332_264 : decode (cdN 332) 264 = .ok (.iload 4, 2) := by decide +kernel
theorem d332_266 : decode (cdN 332) 266 = .ok (.imul, 1) := by decide +kernel
theorem d332_267 : decode (cdN 332) 267 = .ok (.iadd, 1) := by decide +kernel
theorem d332_268 : decode (cdN 332) 268 = .ok (.invokestatic 275, 3) := by decide +kernel
theorem d332_271 : decode (cdN 332) 271 = .ok (.bipush 10, 2) := by decide +kernel
theorem d332_273 : decode (cdN 332) 273 = .ok (.irem, 1) := by decide +kernel
theorem d332_274 : decode (cdN 332) 274 = .ok (.istore 5, 2) := by decide +kernel
theorem d332_276 : decode (cdN 332) 276 = .ok (.aload_n 0, 1) := by decide +kernel
theorem d332_277 : decode (cdN 332) 277 = .ok (.bipush 21, 2) := by decide +kernel
theorem d332_279 : decode (cdN 332) 279 = .ok (.iconst 4, 1) := by decide +kernel
theorem d332_280 : decode (cdN 332) 280 = .ok (.iload 4, 2) := by decide +kernel
theorem d332_282 : decode (cdN 332) 282 = .ok (.imul, 1) := by decide +kernel
theorem d332_283 : decode (cdN 332) 283 = .ok (.iadd, 1) := by decide +kernel
theorem d332_284 : decode (cdN 332) 284 = .ok (.invokestatic 275, 3) := by decide +kernel
theorem d332_287 : decode (cdN 332) 287 = .ok (.istore 6, 2) := by decide +kernel
theorem d332_289 : decode (cdN 332) 289 = .ok (.aload_n 0, 1) := by decide +kernel
theorem d332_290 : decode (cdN 332) 290 = .ok (.bipush 22, 2) := by decide +kernel
theorem d332_292 : decode (cdN 332) 292 = .ok (.iconst 4, 1) := by decide +kernel
theorem d332_293 : decode (cdN 332) 293 = .ok (.iload 4, 2) := by decide +kernel
theorem d332_295 : decode (cdN 332) 295 = .ok (.imul, 1) := by decide +kernel
theorem d332_296 : decode (cdN 332) 296 = .ok (.iadd, 1) := by decide +kernel
theorem d332_297 : decode (cdN 332) 297 = .ok (.invokestatic 275, 3) := by decide +kernel
theorem d332_300 : decode (cdN 332) 300 = .ok (.istore 7, 2) := by decide +kernel
theorem d332_302 : decode (cdN 332) 302 = .ok (.aload_n 0, 1) := by decide +kernel
theorem d332_303 : decode (cdN 332) 303 = .ok (.bipush 23, 2) := by decide +kernel
theorem d332_305 : decode (cdN 332) 305 = .ok (.iconst 4, 1) := by decide +kernel
theorem d332_306 : decode (cdN 332) 306 = .ok (.iload 4, 2) := by decide +kernel
theorem d332_308 : decode (cdN 332) 308 = .ok (.imul, 1) := by decide +kernel
theorem d332_309 : decode (cdN 332) 309 = .ok (.iadd, 1) := by decide +kernel
theorem d332_310 : decode (cdN 332) 310 = .ok (.invokestatic 275, 3) := by decide +kernel
theorem d332_313 : decode (cdN 332) 313 = .ok (.istore 8, 2) := by decide +kernel
theorem d332_315 : decode (cdN 332) 315 = .ok (.aload_n 3, 1) := by decide +kernel
theorem d332_316 : decode (cdN 332) 316 = .ok (.invokestatic 298, 3) := by decide +kernel
theorem c332_298 : ctN (owN 332) 298 = some (1, 305, [910, 911, 11]) := by decide +kernel
theorem d332_319 : decode (cdN 332) 319 = .ok (.lstore 9, 2) := by decide +kernel
theorem d332_321 : decode (cdN 332) 321 = .ok (.aload_n 3, 1) := by decide +kernel
theorem d332_322 : decode (cdN 332) 322 = .ok (.iload 5, 2) := by decide +kernel
theorem d332_324 : decode (cdN 332) 324 = .ok (.iload 6, 2) := by decide +kernel
theorem d332_326 : decode (cdN 332) 326 = .ok (.iload 7, 2) := by decide +kernel
theorem d332_328 : decode (cdN 332) 328 = .ok (.iload 8, 2) := by decide +kernel
theorem d332_330 : decode (cdN 332) 330 = .ok (.invokestatic 294, 3) := by decide +kernel
theorem d332_333 : decode (cdN 332) 333 = .ok (.ifCond .eq 12, 3) := by decide +kernel
theorem d332_336 : decode (cdN 332) 336 = .ok (.aload_n 3, 1) := by decide +kernel
theorem d332_337 : decode (cdN 332) 337 = .ok (.iload 8, 2) := by decide +kernel
theorem d332_339 : decode (cdN 332) 339 = .ok (.invokestatic 291, 3) := by decide +kernel
theorem d332_342 : decode (cdN 332) 342 = .ok (.ifCond .ne 5, 3) := by decide +kernel
theorem d332_345 : decode (cdN 332) 345 = .ok (.iconst 0, 1) := by decide +kernel
theorem d332_346 : decode (cdN 332) 346 = .ok (.ireturn, 1) := by decide +kernel
theorem d332_347 : decode (cdN 332) 347 = .ok (.aload_n 3, 1) := by decide +kernel
theorem d332_348 : decode (cdN 332) 348 = .ok (.invokestatic 298, 3) := by decide +kernel
theorem d332_351 : decode (cdN 332) 351 = .ok (.lstore 11, 2) := by decide +kernel
theorem d332_353 : decode (cdN 332) 353 = .ok (.lload 11, 2) := by decide +kernel
theorem d332_355 : decode (cdN 332) 355 = .ok (.lload 9, 2) := by decide +kernel
theorem d332_357 : decode (cdN 332) 357 = .ok (.lcmp, 1) := by decide +kernel
theorem d332_358 : decode (cdN 332) 358 = .ok (.ifCond .ne 6, 3) := by decide +kernel
theorem d332_361 : decode (cdN 332) 361 = .ok (.goto 52, 3) := by decide +kernel
theorem d332_364 : decode (cdN 332) 364 = .ok (.aload_n 3, 1) := by decide +kernel
theorem d332_365 : decode (cdN 332) 365 = .ok (.bipush 9, 2) := by decide +kernel
theorem d332_367 : decode (cdN 332) 367 = .ok (.iconst 0, 1) := by decide +kernel
theorem d332_368 : decode (cdN 332) 368 = .ok (.iconst 0, 1) := by decide +kernel
theorem d332_369 : decode (cdN 332) 369 = .ok (.iconst 0, 1) := by decide +kernel
theorem d332_370 : decode (cdN 332) 370 = .ok (.invokestatic 240, 3) := by decide +kernel
theorem c332_240 : ctN (owN 332) 240 = some (12, 304, [747, 748, 11]) := by decide +kernel
theorem d332_373 : decode (cdN 332) 373 = .ok (.ifCond .lt 38, 3) := by decide +kernel
theorem d332_376 : decode (cdN 332) 376 = .ok (.aload_n 3, 1) := by decide +kernel
theorem d332_377 : decode (cdN 332) 377 = .ok (.invokestatic 298, 3) := by decide +kernel
theorem d332_380 : decode (cdN 332) 380 = .ok (.lload 9, 2) := by decide +kernel
theorem d332_382 : decode (cdN 332) 382 = .ok (.lcmp, 1) := by decide +kernel
theorem d332_383 : decode (cdN 332) 383 = .ok (.ifCond .ne 28, 3) := by decide +kernel
theorem d332_386 : decode (cdN 332) 386 = .ok (.aload_n 3, 1) := by decide +kernel
theorem d332_387 : decode (cdN 332) 387 = .ok (.iload 5, 2) := by decide +kernel
theorem d332_389 : decode (cdN 332) 389 = .ok (.iload 6, 2) := by decide +kernel
theorem d332_391 : decode (cdN 332) 391 = .ok (.iload 7, 2) := by decide +kernel
theorem d332_393 : decode (cdN 332) 393 = .ok (.iload 8, 2) := by decide +kernel
theorem d332_395 : decode (cdN 332) 395 = .ok (.invokestatic 294, 3) := by decide +kernel
theorem d332_398 : decode (cdN 332) 398 = .ok (.ifCond .eq 13, 3) := by decide +kernel
theorem d332_401 : decode (cdN 332) 401 = .ok (.aload_n 3, 1) := by decide +kernel
theorem d332_402 : decode (cdN 332) 402 = .ok (.invokestatic 298, 3) := by decide +kernel
theorem d332_405 : decode (cdN 332) 405 = .ok (.lload 11, 2) := by decide +kernel
theorem d332_407 : decode (cdN 332) 407 = .ok (.lcmp, 1) := by decide +kernel
theorem d332_408 : decode (cdN 332) 408 = .ok (.ifCond .eq 5, 3) := by decide +kernel
theorem d332_411 : decode (cdN 332) 411 = .ok (.iconst 0, 1) := by decide +kernel
theorem d332_412 : decode (cdN 332) 412 = .ok (.ireturn, 1) := by decide +kernel
theorem d332_413 : decode (cdN 332) 413 = .ok (.iinc 4 1, 3) := by decide +kernel
theorem d332_416 : decode (cdN 332) 416 = .ok (.goto (-163), 3) := by decide +kernel
theorem d332_419 : decode (cdN 332) 419 = .ok (.aload_n 3, 1) := by decide +kernel
theorem d332_420 : decode (cdN 332) 420 = .ok (.invokevirtual 145, 3) := by decide +kernel
theorem c332_145 : ctN (owN 332) 145 = some (0, 94, [418, 419, 420, 23]) := by decide +kernel
theorem d332_423 : decode (cdN 332) 423 = .ok (.ifCond .ne 7, 3) := by decide +kernel
theorem d332_426 : decode (cdN 332) 426 = .ok (.iconst (-1), 1) := by decide +kernel
theorem d332_427 : decode (cdN 332) 427 = .ok (.goto 14, 3) := by decide +kernel
theorem d332_430 : decode (cdN 332) 430 = .ok (.aload_n 0, 1) := by decide +kernel
theorem d332_431 : decode (cdN 332) 431 = .ok (.bipush 69, 2) := by decide +kernel
theorem d332_433 : decode (cdN 332) 433 = .ok (.invokestatic 275, 3) := by decide +kernel
theorem d332_436 : decode (cdN 332) 436 = .ok (.aload_n 3, 1) := by decide +kernel
theorem d332_437 : decode (cdN 332) 437 = .ok (.invokevirtual 145, 3) := by decide +kernel
theorem d332_440 : decode (cdN 332) 440 = .ok (.irem, 1) := by decide +kernel
theorem d332_441 : decode (cdN 332) 441 = .ok (.istore 4, 2) := by decide +kernel
theorem d332_443 : decode (cdN 332) 443 = .ok (.iload 4, 2) := by decide +kernel
theorem d332_445 : decode (cdN 332) 445 = .ok (.ifCond .lt 100, 3) := by decide +kernel
theorem d332_448 : decode (cdN 332) 448 = .ok (.aload_n 3, 1) := by decide +kernel
theorem d332_449 : decode (cdN 332) 449 = .ok (.iload 4, 2) := by decide +kernel
theorem d332_451 : decode (cdN 332) 451 = .ok (.invokevirtual 302, 3) := by decide +kernel
theorem c332_302 : ctN (owN 332) 302 = some (0, 111, [556, 557, 558, 23]) := by decide +kernel
theorem d332_454 : decode (cdN 332) 454 = .ok (.istore 5, 2) := by decide +kernel
theorem d332_456 : decode (cdN 332) 456 = .ok (.iload 5, 2) := by decide +kernel
theorem d332_458 : decode (cdN 332) 458 = .ok (.ifCond .lt 44, 3) := by decide +kernel
theorem d332_461 : decode (cdN 332) 461 = .ok (.aload_n 3, 1) := by decide +kernel
theorem d332_462 : decode (cdN 332) 462 = .ok (.iload 4, 2) := by decide +kernel
theorem d332_464 : decode (cdN 332) 464 = .ok (.aload_n 3, 1) := by decide +kernel
theorem d332_465 : decode (cdN 332) 465 = .ok (.invokevirtual 92, 3) := by decide +kernel
theorem c332_92 : ctN (owN 332) 92 = some (0, 82, [414, 415, 416, 23]) := by decide +kernel
theorem d332_468 : decode (cdN 332) 468 = .ok (.iload 5, 2) := by decide +kernel
theorem d332_470 : decode (cdN 332) 470 = .ok (.iadd, 1) := by decide +kernel
theorem d332_471 : decode (cdN 332) 471 = .ok (.invokevirtual 194, 3) := by decide +kernel
theorem c332_194 : ctN (owN 332) 194 = some (0, 109, [422, 423, 424, 23]) := by decide +kernel
theorem d332_474 : decode (cdN 332) 474 = .ok (.ifCond .ne 26, 3) := by decide +kernel
theorem d332_477 : decode (cdN 332) 477 = .ok (.iload 5, 2) := by decide +kernel
theorem d332_479 : decode (cdN 332) 479 = .ok (.ifCond .le 23, 3) := by decide +kernel
theorem d332_482 : decode (cdN 332) 482 = .ok (.aload_n 3, 1) := by decide +kernel
theorem d332_483 : decode (cdN 332) 483 = .ok (.iload 4, 2) := by decide +kernel
theorem d332_485 : decode (cdN 332) 485 = .ok (.aload_n 3, 1) := by decide +kernel
theorem d332_486 : decode (cdN 332) 486 = .ok (.invokevirtual 92, 3) := by decide +kernel
theorem d332_489 : decode (cdN 332) 489 = .ok (.iload 5, 2) := by decide +kernel
theorem d332_491 : decode (cdN 332) 491 = .ok (.iadd, 1) := by decide +kernel
theorem d332_492 : decode (cdN 332) 492 = .ok (.iconst 1, 1) := by decide +kernel
theorem d332_493 : decode (cdN 332) 493 = .ok (.isub, 1) := by decide +kernel
theorem d332_494 : decode (cdN 332) 494 = .ok (.invokevirtual 194, 3) := by decide +kernel
theorem d332_497 : decode (cdN 332) 497 = .ok (.ifCond .ne 5, 3) := by decide +kernel
theorem d332_500 : decode (cdN 332) 500 = .ok (.iconst 0, 1) := by decide +kernel
theorem d332_501 : decode (cdN 332) 501 = .ok (.ireturn, 1) := by decide +kernel
theorem d332_502 : decode (cdN 332) 502 = .ok (.aload_n 3, 1) := by decide +kernel
theorem d332_503 : decode (cdN 332) 503 = .ok (.bipush 8, 2) := by decide +kernel
theorem d332_505 : decode (cdN 332) 505 = .ok (.iload 4, 2) := by decide +kernel
theorem d332_507 : decode (cdN 332) 507 = .ok (.sipush 263, 3) := by decide +kernel
theorem d332_510 : decode (cdN 332) 510 = .ok (.bipush 8, 2) := by decide +kernel
theorem d332_512 : decode (cdN 332) 512 = .ok (.invokestatic 240, 3) := by decide +kernel
theorem d332_515 : decode (cdN 332) 515 = .ok (.iconst 1, 1) := by decide +kernel
theorem d332_516 : decode (cdN 332) 516 = .ok (.if_icmp .ne 27, 3) := by decide +kernel
theorem d332_519 : decode (cdN 332) 519 = .ok (.aload_n 3, 1) := by decide +kernel
theorem d332_520 : decode (cdN 332) 520 = .ok (.bipush 8, 2) := by decide +kernel
theorem d332_522 : decode (cdN 332) 522 = .ok (.iload 4, 2) := by decide +kernel
theorem d332_524 : decode (cdN 332) 524 = .ok (.iconst 1, 1) := by decide +kernel
theorem d332_525 : decode (cdN 332) 525 = .ok (.aload_n 0, 1) := by decide +kernel
theorem d332_526 : decode (cdN 332) 526 = .ok (.bipush 70, 2) := by decide +kernel
theorem d332_528 : decode (cdN 332) 528 = .ok (.invokestatic 275, 3) := by decide +kernel
theorem d332_531 : decode (cdN 332) 531 = .ok (.bipush 127, 2) := by decide +kernel
theorem d332_533 : decode (cdN 332) 533 = .ok (.irem, 1) := by decide +kernel
theorem d332_534 : decode (cdN 332) 534 = .ok (.iadd, 1) := by decide +kernel
theorem d332_535 : decode (cdN 332) 535 = .ok (.bipush 8, 2) := by decide +kernel
theorem d332_537 : decode (cdN 332) 537 = .ok (.invokestatic 240, 3) := by decide +kernel
theorem d332_540 : decode (cdN 332) 540 = .ok (.ifCond .eq 5, 3) := by decide +kernel
theorem d332_543 : decode (cdN 332) 543 = .ok (.iconst 0, 1) := by decide +kernel
theorem d332_544 : decode (cdN 332) 544 = .ok (.ireturn, 1) := by decide +kernel
theorem d332_545 : decode (cdN 332) 545 = .ok (.aload_n 3, 1) := by decide +kernel
theorem d332_546 : decode (cdN 332) 546 = .ok (.invokestatic 298, 3) := by decide +kernel
theorem d332_549 : decode (cdN 332) 549 = .ok (.lstore 5, 2) := by decide +kernel
theorem d332_551 : decode (cdN 332) 551 = .ok (.aload_n 3, 1) := by decide +kernel
theorem d332_552 : decode (cdN 332) 552 = .ok (.invokevirtual 92, 3) := by decide +kernel
theorem d332_555 : decode (cdN 332) 555 = .ok (.istore 7, 2) := by decide +kernel
theorem d332_557 : decode (cdN 332) 557 = .ok (.aload_n 3, 1) := by decide +kernel
theorem d332_558 : decode (cdN 332) 558 = .ok (.invokevirtual 305, 3) := by decide +kernel
theorem c332_305 : ctN (owN 332) 305 = some (0, 136, [560, 561, 562, 23]) := by decide +kernel
theorem d332_561 : decode (cdN 332) 561 = .ok (.iload 7, 2) := by decide +kernel
theorem d332_563 : decode (cdN 332) 563 = .ok (.if_icmp .ne 56, 3) := by decide +kernel
theorem d332_566 : decode (cdN 332) 566 = .ok (.aload_n 3, 1) := by decide +kernel
theorem d332_567 : decode (cdN 332) 567 = .ok (.iconst 4, 1) := by decide +kernel
theorem d332_568 : decode (cdN 332) 568 = .ok (.iconst 5, 1) := by decide +kernel
theorem d332_569 : decode (cdN 332) 569 = .ok (.iconst 0, 1) := by decide +kernel
theorem d332_570 : decode (cdN 332) 570 = .ok (.iconst 0, 1) := by decide +kernel
theorem d332_571 : decode (cdN 332) 571 = .ok (.invokestatic 240, 3) := by decide +kernel
theorem d332_574 : decode (cdN 332) 574 = .ok (.iload 7, 2) := by decide +kernel
theorem d332_576 : decode (cdN 332) 576 = .ok (.iconst 5, 1) := by decide +kernel
theorem d332_577 : decode (cdN 332) 577 = .ok (.iadd, 1) := by decide +kernel
theorem d332_578 : decode (cdN 332) 578 = .ok (.if_icmp .ne 41, 3) := by decide +kernel
theorem d332_581 : decode (cdN 332) 581 = .ok (.aload_n 3, 1) := by decide +kernel
theorem d332_582 : decode (cdN 332) 582 = .ok (.invokevirtual 308, 3) := by decide +kernel
theorem c332_308 : ctN (owN 332) 308 = some (0, 137, [582, 583, 584, 23]) := by decide +kernel
theorem d332_585 : decode (cdN 332) 585 = .ok (.iload 7, 2) := by decide +kernel
theorem d332_587 : decode (cdN 332) 587 = .ok (.if_icmp .ne 32, 3) := by decide +kernel
theorem d332_590 : decode (cdN 332) 590 = .ok (.aload_n 3, 1) := by decide +kernel
theorem d332_591 : decode (cdN 332) 591 = .ok (.invokestatic 298, 3) := by decide +kernel
theorem d332_594 : decode (cdN 332) 594 = .ok (.lload 5, 2) := by decide +kernel
theorem d332_596 : decode (cdN 332) 596 = .ok (.lcmp, 1) := by decide +kernel
theorem d332_597 : decode (cdN 332) 597 = .ok (.ifCond .ne 22, 3) := by decide +kernel
theorem d332_600 : decode (cdN 332) 600 = .ok (.aload_n 3, 1) := by decide +kernel
theorem d332_601 : decode (cdN 332) 601 = .ok (.bipush 9, 2) := by decide +kernel
theorem d332_603 : decode (cdN 332) 603 = .ok (.iconst 0, 1) := by decide +kernel
theorem d332_604 : decode (cdN 332) 604 = .ok (.iconst 0, 1) := by decide +kernel
theorem d332_605 : decode (cdN 332) 605 = .ok (.iconst 0, 1) := by decide +kernel
theorem d332_606 : decode (cdN 332) 606 = .ok (.invokestatic 240, 3) := by decide +kernel
theorem d332_609 : decode (cdN 332) 609 = .ok (.sipush (-1003), 3) := by decide +kernel
theorem d332_612 : decode (cdN 332) 612 = .ok (.if_icmp .ne 7, 3) := by decide +kernel
theorem d332_615 : decode (cdN 332) 615 = .ok (.iconst 1, 1) := by decide +kernel
theorem d332_616 : decode (cdN 332) 616 = .ok (.goto 4, 3) := by decide +kernel
theorem d332_619 : decode (cdN 332) 619 = .ok (.iconst 0, 1) := by decide +kernel
theorem d332_620 : decode (cdN 332) 620 = .ok (.ireturn, 1) := by decide +kernel
