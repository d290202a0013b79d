theorem d9_0 : decode (cdN 9) 0 = .ok (.aload_n 0, 1) := by decide +kernel
theorem d9_1 : decode (cdN 9) 1 = .ok (.invokespecial 1, 3) := by decide +kernel
theorem c9_1 : ctN (owN 9) 1 = some (9, 0, [320, 121, 122]) := by decide +kernel
theorem d9_4 : decode (cdN 9) 4 = .ok (.return_, 1) := by decide +kernel
theorem d12_0 : decode (cdN 12) 0 = .ok (.aload_n 0, 1) := by decide +kernel
theorem d12_1 : decode (cdN 12) 1 = .ok (.invokespecial 3, 3) := by decide +kernel
theorem c12_3 : ctN (owN 12) 3 = some (9, 0, [259, 121, 122]) := by decide +kernel
theorem d12_4 : decode (cdN 12) 4 = .ok (.aload_n 0, 1) := by decide +kernel
theorem d12_5 : decode (cdN 12) 5 = .ok (.iconst 3, 1) := by decide +kernel
theorem d12_6 : decode (cdN 12) 6 = .ok (.newarray .int, 2) := by decide +kernel
theorem d12_8 : decode (cdN 12) 8 = .ok (.putfield 9, 3) := by decide +kernel
theorem f12_9 : ftN (owN 12) 9 = some (2, 1, 263) := by decide +kernel
theorem d12_11 : decode (cdN 12) 11 = .ok (.aload_n 0, 1) := by decide +kernel
theorem d12_12 : decode (cdN 12) 12 = .ok (.iconst 3, 1) := by decide +kernel
theorem d12_13 : decode (cdN 12) 13 = .ok (.newarray .int, 2) := by decide +kernel
theorem d12_15 : decode (cdN 12) 15 = .ok (.putfield 15, 3) := by decide +kernel
theorem f12_15 : ftN (owN 12) 15 = some (2, 2, 264) := by decide +kernel
theorem d12_18 : decode (cdN 12) 18 = .ok (.aload_n 0, 1) := by decide +kernel
theorem d12_19 : decode (cdN 12) 19 = .ok (.iconst 3, 1) := by decide +kernel
theorem d12_20 : decode (cdN 12) 20 = .ok (.newarray .int, 2) := by decide +kernel
theorem d12_22 : decode (cdN 12) 22 = .ok (.putfield 18, 3) := by decide +kernel
theorem f12_18 : ftN (owN 12) 18 = some (2, 3, 265) := by decide +kernel
theorem d12_25 : decode (cdN 12) 25 = .ok (.return_, 1) := by decide +kernel
theorem d17_0 : decode (cdN 17) 0 = .ok (.aload_n 0, 1) := by decide +kernel
theorem d17_1 : decode (cdN 17) 1 = .ok (.invokespecial 3, 3) := by decide +kernel
theorem c17_3 : ctN (owN 17) 3 = some (9, 0, [280, 121, 122]) := by decide +kernel
theorem d17_4 : decode (cdN 17) 4 = .ok (.aload_n 0, 1) := by decide +kernel
theorem d17_5 : decode (cdN 17) 5 = .ok (.bipush 48, 2) := by decide +kernel
theorem d17_7 : decode (cdN 17) 7 = .ok (.newarray .int, 2) := by decide +kernel
theorem d17_9 : decode (cdN 17) 9 = .ok (.putfield 9, 3) := by decide +kernel
theorem f17_9 : ftN (owN 17) 9 = some (3, 1, 284) := by decide +kernel
theorem d17_12 : decode (cdN 17) 12 = .ok (.aload_n 0, 1) := by decide +kernel
theorem d17_13 : decode (cdN 17) 13 = .ok (.bipush 48, 2) := by decide +kernel
theorem d17_15 : decode (cdN 17) 15 = .ok (.newarray .int, 2) := by decide +kernel
theorem d17_17 : decode (cdN 17) 17 = .ok (.putfield 15, 3) := by decide +kernel
theorem f17_15 : ftN (owN 17) 15 = some (3, 2, 287) := by decide +kernel
theorem d17_20 : decode (cdN 17) 20 = .ok (.aload_n 0, 1) := by decide +kernel
theorem d17_21 : decode (cdN 17) 21 = .ok (.bipush 48, 2) := by decide +kernel
theorem d17_23 : decode (cdN 17) 23 = .ok (.newarray .int, 2) := by decide +kernel
theorem d17_25 : decode (cdN 17) 25 = .ok (.putfield 18, 3) := by decide +kernel
theorem f17_18 : ftN (owN 17) 18 = some (3, 3, 290) := by decide +kernel
theorem d17_28 : decode (cdN 17) 28 = .ok (.aload_n 0, 1) := by decide +kernel
theorem d17_29 : decode (cdN 17) 29 = .ok (.bipush 48, 2) := by decide +kernel
theorem d17_31 : decode (cdN 17) 31 = .ok (.newarray .int, 2) := by decide +kernel
theorem d17_33 : decode (cdN 17) 33 = .ok (.putfield 21, 3) := by decide +kernel
theorem f17_21 : ftN (owN 17) 21 = some (3, 4, 293) := by decide +kernel
theorem d17_36 : decode (cdN 17) 36 = .ok (.aload_n 0, 1) := by decide +kernel
theorem d17_37 : decode (cdN 17) 37 = .ok (.sipush 288, 3) := by decide +kernel
theorem d17_40 : decode (cdN 17) 40 = .ok (.newarray .int, 2) := by decide +kernel
theorem d17_42 : decode (cdN 17) 42 = .ok (.putfield 24, 3) := by decide +kernel
theorem f17_24 : ftN (owN 17) 24 = some (3, 5, 295) := by decide +kernel
theorem d17_45 : decode (cdN 17) 45 = .ok (.aload_n 0, 1) := by decide +kernel
theorem d17_46 : decode (cdN 17) 46 = .ok (.sipush 288, 3) := by decide +kernel
theorem d17_49 : decode (cdN 17) 49 = .ok (.newarray .int, 2) := by decide +kernel
theorem d17_51 : decode (cdN 17) 51 = .ok (.putfield 27, 3) := by decide +kernel
theorem f17_27 : ftN (owN 17) 27 = some (3, 6, 298) := by decide +kernel
theorem d17_54 : decode (cdN 17) 54 = .ok (.return_, 1) := by decide +kernel
theorem d28_0 : decode (cdN 28) 0 = .ok (.aload_n 0, 1) := by decide +kernel
theorem d28_1 : decode (cdN 28) 1 = .ok (.invokespecial 3, 3) := by decide +kernel
theorem c28_3 : ctN (owN 28) 3 = some (9, 0, [246, 121, 122]) := by decide +kernel
theorem d28_4 : decode (cdN 28) 4 = .ok (.aload_n 0, 1) := by decide +kernel
theorem d28_5 : decode (cdN 28) 5 = .ok (.bipush 8, 2) := by decide +kernel
theorem d28_7 : decode (cdN 28) 7 = .ok (.anewarray 9, 3) := by decide +kernel
theorem n28_9 : clN (owN 28) 9 = some (5, 247, 249, 99) := by decide +kernel
theorem d28_10 : decode (cdN 28) 10 = .ok (.putfield 11, 3) := by decide +kernel
theorem f28_11 : ftN (owN 28) 11 = some (4, 2, 425) := by decide +kernel
theorem d28_13 : decode (cdN 28) 13 = .ok (.iconst 0, 1) := by decide +kernel
theorem d28_14 : decode (cdN 28) 14 = .ok (.istore_n 1, 1) := by decide +kernel
theorem d28_15 : decode (cdN 28) 15 = .ok (.iload_n 1, 1) := by decide +kernel
theorem d28_16 : decode (cdN 28) 16 = .ok (.bipush 8, 2) := by decide +kernel
theorem d28_18 : decode (cdN 28) 18 = .ok (.if_icmp .ge 22, 3) := by decide +kernel
theorem d28_21 : decode (cdN 28) 21 = .ok (.aload_n 0, 1) := by decide +kernel
theorem d28_22 : decode (cdN 28) 22 = .ok (.getfield 11, 3) := by decide +kernel
theorem d28_25 : decode (cdN 28) 25 = .ok (.iload_n 1, 1) := by decide +kernel
theorem d28_26 : decode (cdN 28) 26 = .ok (.new 9, 3) := by decide +kernel
theorem d28_29 : decode (cdN 28) 29 = .ok (.dup, 1) := by decide +kernel
theorem d28_30 : decode (cdN 28) 30 = .ok (.invokespecial 17, 3) := by decide +kernel
theorem c28_17 : ctN (owN 28) 17 = some (4, 32, [251, 99]) := by decide +kernel
theorem d28_33 : decode (cdN 28) 33 = .ok (.aastore, 1) := by decide +kernel
theorem d28_34 : decode (cdN 28) 34 = .ok (.iinc 1 1, 3) := by decide +kernel
theorem d28_37 : decode (cdN 28) 37 = .ok (.goto (-22), 3) := by decide +kernel
theorem d28_40 : decode (cdN 28) 40 = .ok (.return_, 1) := by decide +kernel
theorem d32_0 : decode (cdN 32) 0 = .ok (.aload_n 0, 1) := by decide +kernel
theorem d32_1 : decode (cdN 32) 1 = .ok (.invokespecial 3, 3) := by decide +kernel
theorem c32_3 : ctN (owN 32) 3 = some (9, 0, [253, 121, 122]) := by decide +kernel
theorem d32_4 : decode (cdN 32) 4 = .ok (.aload_n 0, 1) := by decide +kernel
theorem d32_5 : decode (cdN 32) 5 = .ok (.bipush 12, 2) := by decide +kernel
theorem d32_7 : decode (cdN 32) 7 = .ok (.newarray .int, 2) := by decide +kernel
theorem d32_9 : decode (cdN 32) 9 = .ok (.putfield 9, 3) := by decide +kernel
theorem f32_9 : ftN (owN 32) 9 = some (5, 8, 382) := by decide +kernel
theorem d32_12 : decode (cdN 32) 12 = .ok (.aload_n 0, 1) := by decide +kernel
theorem d32_13 : decode (cdN 32) 13 = .ok (.bipush 12, 2) := by decide +kernel
theorem d32_15 : decode (cdN 32) 15 = .ok (.newarray .int, 2) := by decide +kernel
theorem d32_17 : decode (cdN 32) 17 = .ok (.putfield 15, 3) := by decide +kernel
theorem f32_15 : ftN (owN 32) 15 = some (5, 9, 384) := by decide +kernel
theorem d32_20 : decode (cdN 32) 20 = .ok (.aload_n 0, 1) := by decide +kernel
theorem d32_21 : decode (cdN 32) 21 = .ok (.new 18, 3) := by decide +kernel
theorem n32_18 : clN (owN 32) 18 = some (2, 254, 255, 100) := by decide +kernel
theorem d32_24 : decode (cdN 32) 24 = .ok (.dup, 1) := by decide +kernel
theorem d32_25 : decode (cdN 32) 25 = .ok (.invokespecial 20, 3) := by decide +kernel
theorem c32_20 : ctN (owN 32) 20 = some (4, 12, [257, 100]) := by decide +kernel
theorem d32_28 : decode (cdN 32) 28 = .ok (.putfield 21, 3) := by decide +kernel
theorem f32_21 : ftN (owN 32) 21 = some (5, 10, 386) := by decide +kernel
theorem d32_31 : decode (cdN 32) 31 = .ok (.aload_n 0, 1) := by decide +kernel
theorem d32_32 : decode (cdN 32) 32 = .ok (.new 25, 3) := by decide +kernel
theorem n32_25 : clN (owN 32) 25 = some (3, 275, 276, 101) := by decide +kernel
theorem d32_35 : decode (cdN 32) 35 = .ok (.dup, 1) := by decide +kernel
theorem d32_36 : decode (cdN 32) 36 = .ok (.invokespecial 27, 3) := by decide +kernel
theorem c32_27 : ctN (owN 32) 27 = some (4, 17, [278, 101]) := by decide +kernel
theorem d32_39 : decode (cdN 32) 39 = .ok (.putfield 28, 3) := by decide +kernel
theorem f32_28 : ftN (owN 32) 28 = some (5, 11, 390) := by decide +kernel
theorem d32_42 : decode (cdN 32) 42 = .ok (.aload_n 0, 1) := by decide +kernel
theorem d32_43 : decode (cdN 32) 43 = .ok (.new 32, 3) := by decide +kernel
theorem n32_32 : clN (owN 32) 32 = some (1, 315, 316, 102) := by decide +kernel
theorem d32_46 : decode (cdN 32) 46 = .ok (.dup, 1) := by decide +kernel
theorem d32_47 : decode (cdN 32) 47 = .ok (.invokespecial 34, 3) := by decide +kernel
theorem c32_34 : ctN (owN 32) 34 = some (4, 9, [318, 102]) := by decide +kernel
theorem d32_50 : decode (cdN 32) 50 = .ok (.putfield 35, 3) := by decide +kernel
theorem f32_35 : ftN (owN 32) 35 = some (5, 12, 393) := by decide +kernel
theorem d32_53 : decode (cdN 32) 53 = .ok (.return_, 1) := by decide +kernel
theorem d55_0 : decode (cdN 55) 0 = .ok (.aload_n 0, 1) := by decide +kernel
theorem d55_1 : decode (cdN 55) 1 = .ok (.invokespecial 3, 3) := by decide +kernel
theorem c55_3 : ctN (owN 55) 3 = some (9, 0, [218, 121, 122]) := by decide +kernel
theorem d55_4 : decode (cdN 55) 4 = .ok (.aload_n 0, 1) := by decide +kernel
theorem d55_5 : decode (cdN 55) 5 = .ok (.bipush 48, 2) := by decide +kernel
theorem d55_7 : decode (cdN 55) 7 = .ok (.newarray .int, 2) := by decide +kernel
theorem d55_9 : decode (cdN 55) 9 = .ok (.putfield 9, 3) := by decide +kernel
theorem f55_9 : ftN (owN 55) 9 = some (6, 0, 219) := by decide +kernel
theorem d55_12 : decode (cdN 55) 12 = .ok (.aload_n 0, 1) := by decide +kernel
theorem d55_13 : decode (cdN 55) 13 = .ok (.bipush 6, 2) := by decide +kernel
theorem d55_15 : decode (cdN 55) 15 = .ok (.newarray .int, 2) := by decide +kernel
theorem d55_17 : decode (cdN 55) 17 = .ok (.putfield 15, 3) := by decide +kernel
theorem f55_15 : ftN (owN 55) 15 = some (6, 1, 221) := by decide +kernel
theorem d55_20 : decode (cdN 55) 20 = .ok (.return_, 1) := by decide +kernel
theorem d75_0 : decode (cdN 75) 0 = .ok (.aload_n 0, 1) := by decide +kernel
theorem d75_1 : decode (cdN 75) 1 = .ok (.invokespecial 1, 3) := by decide +kernel
theorem c75_1 : ctN (owN 75) 1 = some (9, 0, [120, 121, 122]) := by decide +kernel
theorem d75_4 : decode (cdN 75) 4 = .ok (.aload_n 0, 1) := by decide +kernel
theorem d75_5 : decode (cdN 75) 5 = .ok (.new 7, 3) := by decide +kernel
theorem n75_7 : clN (owN 75) 7 = some (7, 123, 124, 93) := by decide +kernel
theorem d75_8 : decode (cdN 75) 8 = .ok (.dup, 1) := by decide +kernel
theorem d75_9 : decode (cdN 75) 9 = .ok (.sipush 500, 3) := by decide +kernel
theorem d75_12 : decode (cdN 75) 12 = .ok (.invokespecial 11, 3) := by decide +kernel
theorem c75_11 : ctN (owN 75) 11 = some (2, 62, [125, 126, 93]) := by decide +kernel
theorem d75_15 : decode (cdN 75) 15 = .ok (.putfield 14, 3) := by decide +kernel
theorem f75_14 : ftN (owN 75) 14 = some (9, 0, 473) := by decide +kernel
theorem d75_18 : decode (cdN 75) 18 = .ok (.aload_n 0, 1) := by decide +kernel
theorem d75_19 : decode (cdN 75) 19 = .ok (.new 7, 3) := by decide +kernel
theorem d75_22 : decode (cdN 75) 22 = .ok (.dup, 1) := by decide +kernel
theorem d75_23 : decode (cdN 75) 23 = .ok (.bipush 53, 2) := by decide +kernel
theorem d75_25 : decode (cdN 75) 25 = .ok (.invokespecial 11, 3) := by decide +kernel
theorem d75_28 : decode (cdN 75) 28 = .ok (.putfield 18, 3) := by decide +kernel
theorem f75_18 : ftN (owN 75) 18 = some (9, 1, 474) := by decide +kernel
theorem d75_31 : decode (cdN 75) 31 = .ok (.aload_n 0, 1) := by decide +kernel
theorem d75_32 : decode (cdN 75) 32 = .ok (.new 21, 3) := by decide +kernel
theorem n75_21 : clN (owN 75) 21 = some (8, 144, 145, 95) := by decide +kernel
theorem d75_35 : decode (cdN 75) 35 = .ok (.dup, 1) := by decide +kernel
theorem d75_36 : decode (cdN 75) 36 = .ok (.aload_n 0, 1) := by decide +kernel
theorem d75_37 : decode (cdN 75) 37 = .ok (.getfield 14, 3) := by decide +kernel
theorem d75_40 : decode (cdN 75) 40 = .ok (.invokespecial 23, 3) := by decide +kernel
theorem c75_23 : ctN (owN 75) 23 = some (2, 66, [146, 147, 95]) := by decide +kernel
theorem d75_43 : decode (cdN 75) 43 = .ok (.putfield 26, 3) := by decide +kernel
theorem f75_26 : ftN (owN 75) 26 = some (9, 2, 475) := by decide +kernel
theorem d75_46 : decode (cdN 75) 46 = .ok (.aload_n 0, 1) := by decide +kernel
theorem d75_47 : decode (cdN 75) 47 = .ok (.new 30, 3) := by decide +kernel
theorem n75_30 : clN (owN 75) 30 = some (0, 190, 191, 96) := by decide +kernel
theorem d75_50 : decode (cdN 75) 50 = .ok (.dup, 1) := by decide +kernel
theorem d75_51 : decode (cdN 75) 51 = .ok (.invokespecial 32, 3) := by decide +kernel
theorem c75_32 : ctN (owN 75) 32 = some (4, 0, [193, 96]) := by decide +kernel
theorem d75_54 : decode (cdN 75) 54 = .ok (.putfield 33, 3) := by decide +kernel
theorem f75_33 : ftN (owN 75) 33 = some (9, 3, 476) := by decide +kernel
theorem d75_57 : decode (cdN 75) 57 = .ok (.aload_n 0, 1) := by decide +kernel
theorem d75_58 : decode (cdN 75) 58 = .ok (.new 37, 3) := by decide +kernel
theorem n75_37 : clN (owN 75) 37 = some (6, 213, 214, 97) := by decide +kernel
theorem d75_61 : decode (cdN 75) 61 = .ok (.dup, 1) := by decide +kernel
theorem d75_62 : decode (cdN 75) 62 = .ok (.invokespecial 39, 3) := by decide +kernel
theorem c75_39 : ctN (owN 75) 39 = some (4, 55, [216, 97]) := by decide +kernel
theorem d75_65 : decode (cdN 75) 65 = .ok (.putfield 40, 3) := by decide +kernel
theorem f75_40 : ftN (owN 75) 40 = some (9, 4, 477) := by decide +kernel
theorem d75_68 : decode (cdN 75) 68 = .ok (.aload_n 0, 1) := by decide +kernel
theorem d75_69 : decode (cdN 75) 69 = .ok (.new 44, 3) := by decide +kernel
theorem n75_44 : clN (owN 75) 44 = some (4, 241, 242, 98) := by decide +kernel
theorem d75_72 : decode (cdN 75) 72 = .ok (.dup, 1) := by decide +kernel
theorem d75_73 : decode (cdN 75) 73 = .ok (.invokespecial 46, 3) := by decide +kernel
theorem c75_46 : ctN (owN 75) 46 = some (2, 28, [243, 244, 98]) := by decide +kernel
theorem d75_76 : decode (cdN 75) 76 = .ok (.putfield 47, 3) := by decide +kernel
theorem f75_47 : ftN (owN 75) 47 = some (9, 5, 478) := by decide +kernel
theorem d75_79 : decode (cdN 75) 79 = .ok (.aload_n 0, 1) := by decide +kernel
theorem d75_80 : decode (cdN 75) 80 = .ok (.new 51, 3) := by decide +kernel
theorem n75_51 : clN (owN 75) 51 = some (5, 433, 249, 99) := by decide +kernel
theorem d75_83 : decode (cdN 75) 83 = .ok (.dup, 1) := by decide +kernel
theorem d75_84 : decode (cdN 75) 84 = .ok (.invokespecial 53, 3) := by decide +kernel
theorem c75_53 : ctN (owN 75) 53 = some (4, 32, [251, 99]) := by decide +kernel
theorem d75_87 : decode (cdN 75) 87 = .ok (.putfield 54, 3) := by decide +kernel
theorem f75_54 : ftN (owN 75) 54 = some (9, 6, 479) := by decide +kernel
theorem d75_90 : decode (cdN 75) 90 = .ok (.aload_n 0, 1) := by decide +kernel
theorem d75_91 : decode (cdN 75) 91 = .ok (.new 51, 3) := by decide +kernel
theorem d75_94 : decode (cdN 75) 94 = .ok (.dup, 1) := by decide +kernel
theorem d75_95 : decode (cdN 75) 95 = .ok (.invokespecial 53, 3) := by decide +kernel
theorem d75_98 : decode (cdN 75) 98 = .ok (.putfield 58, 3) := by decide +kernel
theorem f75_58 : ftN (owN 75) 58 = some (9, 7, 480) := by decide +kernel
theorem d75_101 : decode (cdN 75) 101 = .ok (.aload_n 0, 1) := by decide +kernel
theorem d75_102 : decode (cdN 75) 102 = .ok (.new 51, 3) := by decide +kernel
theorem d75_105 : decode (cdN 75) 105 = .ok (.dup, 1) := by decide +kernel
theorem d75_106 : decode (cdN 75) 106 = .ok (.invokespecial 53, 3) := by decide +kernel
theorem d75_109 : decode (cdN 75) 109 = .ok (.putfield 61, 3) := by decide +kernel
theorem f75_61 : ftN (owN 75) 61 = some (9, 8, 481) := by decide +kernel
theorem d75_112 : decode (cdN 75) 112 = .ok (.aload_n 0, 1) := by decide +kernel
theorem d75_113 : decode (cdN 75) 113 = .ok (.getfield 54, 3) := by decide +kernel
theorem d75_116 : decode (cdN 75) 116 = .ok (.iconst 2, 1) := by decide +kernel
theorem d75_117 : decode (cdN 75) 117 = .ok (.iconst 0, 1) := by decide +kernel
theorem d75_118 : decode (cdN 75) 118 = .ok (.bipush 10, 2) := by decide +kernel
theorem d75_120 : decode (cdN 75) 120 = .ok (.iconst 4, 1) := by decide +kernel
theorem d75_121 : decode (cdN 75) 121 = .ok (.invokevirtual 64, 3) := by decide +kernel
theorem c75_64 : ctN (owN 75) 64 = some (0, 33, [435, 436, 437, 99]) := by decide +kernel
theorem d75_124 : decode (cdN 75) 124 = .ok (.aload_n 0, 1) := by decide +kernel
theorem d75_125 : decode (cdN 75) 125 = .ok (.getfield 54, 3) := by decide +kernel
theorem d75_128 : decode (cdN 75) 128 = .ok (.getfield 68, 3) := by decide +kernel
theorem f75_68 : ftN (owN 75) 68 = some (5, 10, 387) := by decide +kernel
theorem d75_131 : decode (cdN 75) 131 = .ok (.sipush 200, 3) := by decide +kernel
theorem d75_134 : decode (cdN 75) 134 = .ok (.bipush 30, 2) := by decide +kernel
theorem d75_136 : decode (cdN 75) 136 = .ok (.bipush 20, 2) := by decide +kernel
theorem d75_138 : decode (cdN 75) 138 = .ok (.invokevirtual 72, 3) := by decide +kernel
theorem c75_72 : ctN (owN 75) 72 = some (0, 14, [443, 444, 445, 100]) := by decide +kernel
theorem d75_141 : decode (cdN 75) 141 = .ok (.pop, 1) := by decide +kernel
theorem d75_142 : decode (cdN 75) 142 = .ok (.aload_n 0, 1) := by decide +kernel
theorem d75_143 : decode (cdN 75) 143 = .ok (.getfield 14, 3) := by decide +kernel
theorem d75_146 : decode (cdN 75) 146 = .ok (.bipush 104, 2) := by decide +kernel
theorem d75_148 : decode (cdN 75) 148 = .ok (.invokevirtual 78, 3) := by decide +kernel
theorem c75_78 : ctN (owN 75) 78 = some (0, 64, [447, 448, 449, 93]) := by decide +kernel
theorem d75_151 : decode (cdN 75) 151 = .ok (.aload_n 0, 1) := by decide +kernel
theorem d75_152 : decode (cdN 75) 152 = .ok (.getfield 14, 3) := by decide +kernel
theorem d75_155 : decode (cdN 75) 155 = .ok (.bipush 105, 2) := by decide +kernel
theorem d75_157 : decode (cdN 75) 157 = .ok (.invokevirtual 78, 3) := by decide +kernel
theorem d75_160 : decode (cdN 75) 160 = .ok (.aload_n 0, 1) := by decide +kernel
theorem d75_161 : decode (cdN 75) 161 = .ok (.getfield 54, 3) := by decide +kernel
theorem d75_164 : decode (cdN 75) 164 = .ok (.aload_n 0, 1) := by decide +kernel
theorem d75_165 : decode (cdN 75) 165 = .ok (.getfield 14, 3) := by decide +kernel
theorem d75_168 : decode (cdN 75) 168 = .ok (.getfield 81, 3) := by decide +kernel
theorem f75_81 : ftN (owN 75) 81 = some (7, 0, 133) := by decide +kernel
theorem d75_171 : decode (cdN 75) 171 = .ok (.iconst 0, 1) := by decide +kernel
theorem d75_172 : decode (cdN 75) 172 = .ok (.aload_n 0, 1) := by decide +kernel
theorem d75_173 : decode (cdN 75) 173 = .ok (.getfield 14, 3) := by decide +kernel
theorem d75_176 : decode (cdN 75) 176 = .ok (.getfield 85, 3) := by decide +kernel
theorem f75_85 : ftN (owN 75) 85 = some (7, 1, 135) := by decide +kernel
theorem d75_179 : decode (cdN 75) 179 = .ok (.invokevirtual 89, 3) := by decide +kernel
theorem c75_89 : ctN (owN 75) 89 = some (0, 40, [451, 452, 453, 99]) := by decide +kernel
theorem d75_182 : decode (cdN 75) 182 = .ok (.pop, 1) := by decide +kernel
theorem d75_183 : decode (cdN 75) 183 = .ok (.aload_n 0, 1) := by decide +kernel
theorem d75_184 : decode (cdN 75) 184 = .ok (.getfield 14, 3) := by decide +kernel
theorem d75_187 : decode (cdN 75) 187 = .ok (.iconst 0, 1) := by decide +kernel
theorem d75_188 : decode (cdN 75) 188 = .ok (.putfield 85, 3) := by decide +kernel
theorem d75_191 : decode (cdN 75) 191 = .ok (.return_, 1) := by decide +kernel
theorem d146_0 : decode (cdN 146) 0 = .ok (.aload_n 0, 1) := by decide +kernel
theorem d146_1 : decode (cdN 146) 1 = .ok (.invokespecial 3, 3) := by decide +kernel
theorem c146_3 : ctN (owN 146) 3 = some (9, 0, [1363, 121, 122]) := by decide +kernel
theorem d146_4 : decode (cdN 146) 4 = .ok (.aload_n 0, 1) := by decide +kernel
theorem d146_5 : decode (cdN 146) 5 = .ok (.sipush 1011, 3) := by decide +kernel
theorem d146_8 : decode (cdN 146) 8 = .ok (.newarray .int, 2) := by decide +kernel
theorem d146_10 : decode (cdN 146) 10 = .ok (.putfield 9, 3) := by decide +kernel
theorem f146_9 : ftN (owN 146) 9 = some (10, 0, 1471) := by decide +kernel
theorem d146_13 : decode (cdN 146) 13 = .ok (.aload_n 0, 1) := by decide +kernel
theorem d146_14 : decode (cdN 146) 14 = .ok (.sipush 1011, 3) := by decide +kernel
theorem d146_17 : decode (cdN 146) 17 = .ok (.newarray .int, 2) := by decide +kernel
theorem d146_19 : decode (cdN 146) 19 = .ok (.putfield 13, 3) := by decide +kernel
theorem f146_13 : ftN (owN 146) 13 = some (10, 1, 1472) := by decide +kernel
theorem d146_22 : decode (cdN 146) 22 = .ok (.aload_n 0, 1) := by decide +kernel
theorem d146_23 : decode (cdN 146) 23 = .ok (.sipush 1011, 3) := by decide +kernel
theorem d146_26 : decode (cdN 146) 26 = .ok (.newarray .int, 2) := by decide +kernel
theorem d146_28 : decode (cdN 146) 28 = .ok (.putfield 16, 3) := by decide +kernel
theorem f146_16 : ftN (owN 146) 16 = some (10, 2, 1473) := by decide +kernel
theorem d146_31 : decode (cdN 146) 31 = .ok (.aload_n 0, 1) := by decide +kernel
theorem d146_32 : decode (cdN 146) 32 = .ok (.sipush 1011, 3) := by decide +kernel
theorem d146_35 : decode (cdN 146) 35 = .ok (.newarray .int, 2) := by decide +kernel
theorem d146_37 : decode (cdN 146) 37 = .ok (.putfield 19, 3) := by decide +kernel
theorem f146_19 : ftN (owN 146) 19 = some (10, 3, 1474) := by decide +kernel
theorem d146_40 : decode (cdN 146) 40 = .ok (.aload_n 0, 1) := by decide +kernel
theorem d146_41 : decode (cdN 146) 41 = .ok (.sipush 8088, 3) := by decide +kernel
theorem d146_44 : decode (cdN 146) 44 = .ok (.newarray .int, 2) := by decide +kernel
theorem d146_46 : decode (cdN 146) 46 = .ok (.putfield 22, 3) := by decide +kernel
theorem f146_22 : ftN (owN 146) 22 = some (10, 4, 1475) := by decide +kernel
theorem d146_49 : decode (cdN 146) 49 = .ok (.aload_n 0, 1) := by decide +kernel
theorem d146_50 : decode (cdN 146) 50 = .ok (.bipush 16, 2) := by decide +kernel
theorem d146_52 : decode (cdN 146) 52 = .ok (.newarray .int, 2) := by decide +kernel
theorem d146_54 : decode (cdN 146) 54 = .ok (.putfield 25, 3) := by decide +kernel
theorem f146_25 : ftN (owN 146) 25 = some (10, 8, 1479) := by decide +kernel
theorem d146_57 : decode (cdN 146) 57 = .ok (.aload_n 0, 1) := by decide +kernel
theorem d146_58 : decode (cdN 146) 58 = .ok (.bipush 6, 2) := by decide +kernel
theorem d146_60 : decode (cdN 146) 60 = .ok (.newarray .int, 2) := by decide +kernel
theorem d146_62 : decode (cdN 146) 62 = .ok (.putfield 28, 3) := by decide +kernel
theorem f146_28 : ftN (owN 146) 28 = some (10, 9, 1480) := by decide +kernel
theorem d146_65 : decode (cdN 146) 65 = .ok (.aload_n 0, 1) := by decide +kernel
theorem d146_66 : decode (cdN 146) 66 = .ok (.sipush 500, 3) := by decide +kernel
theorem d146_69 : decode (cdN 146) 69 = .ok (.newarray .int, 2) := by decide +kernel
theorem d146_71 : decode (cdN 146) 71 = .ok (.putfield 31, 3) := by decide +kernel
theorem f146_31 : ftN (owN 146) 31 = some (10, 11, 1482) := by decide +kernel
theorem d146_74 : decode (cdN 146) 74 = .ok (.aload_n 0, 1) := by decide +kernel
theorem d146_75 : decode (cdN 146) 75 = .ok (.iconst (-1), 1) := by decide +kernel
theorem d146_76 : decode (cdN 146) 76 = .ok (.putfield 34, 3) := by decide +kernel
theorem f146_34 : ftN (owN 146) 34 = some (10, 19, 1490) := by decide +kernel
theorem d146_79 : decode (cdN 146) 79 = .ok (.aload_n 0, 1) := by decide +kernel
theorem d146_80 : decode (cdN 146) 80 = .ok (.sipush 540, 3) := by decide +kernel
theorem d146_83 : decode (cdN 146) 83 = .ok (.newarray .int, 2) := by decide +kernel
theorem d146_85 : decode (cdN 146) 85 = .ok (.putfield 38, 3) := by decide +kernel
theorem f146_38 : ftN (owN 146) 38 = some (10, 20, 1491) := by decide +kernel
theorem d146_88 : decode (cdN 146) 88 = .ok (.aload_n 0, 1) := by decide +kernel
theorem d146_89 : decode (cdN 146) 89 = .ok (.bipush 60, 2) := by decide +kernel
theorem d146_91 : decode (cdN 146) 91 = .ok (.newarray .int, 2) := by decide +kernel
theorem d146_93 : decode (cdN 146) 93 = .ok (.putfield 41, 3) := by decide +kernel
theorem f146_41 : ftN (owN 146) 41 = some (10, 22, 1493) := by decide +kernel
theorem d146_96 : decode (cdN 146) 96 = .ok (.ldc 44, 2) := by decide +kernel
theorem k146_44 : ksN (owN 146) 44 = some 10 := by decide +kernel
theorem d146_98 : decode (cdN 146) 98 = .ok (.astore_n 1, 1) := by decide +kernel
theorem d146_99 : decode (cdN 146) 99 = .ok (.iconst 0, 1) := by decide +kernel
theorem d146_100 : decode (cdN 146) 100 = .ok (.istore_n 2, 1) := by decide +kernel
theorem d146_101 : decode (cdN 146) 101 = .ok (.iload_n 2, 1) := by decide +kernel
theorem d146_102 : decode (cdN 146) 102 = .ok (.aload_n 1, 1) := by decide +kernel
theorem d146_103 : decode (cdN 146) 103 = .ok (.invokevirtual 46, 3) := by decide +kernel
theorem c146_46 : ctN (owN 146) 46 = some (10, 0, [1365, 852, 853, 105]) := by decide +kernel
theorem d146_106 : decode (cdN 146) 106 = .ok (.if_icmp .ge 20, 3) := by decide +kernel
theorem d146_109 : decode (cdN 146) 109 = .ok (.aload_n 0, 1) := by decide +kernel
theorem d146_110 : decode (cdN 146) 110 = .ok (.getfield 31, 3) := by decide +kernel
theorem d146_113 : decode (cdN 146) 113 = .ok (.iload_n 2, 1) := by decide +kernel
theorem d146_114 : decode (cdN 146) 114 = .ok (.aload_n 1, 1) := by decide +kernel
theorem d146_115 : decode (cdN 146) 115 = .ok (.iload_n 2, 1) := by decide +kernel
theorem d146_116 : decode (cdN 146) 116 = .ok (.invokevirtual 52, 3) := by decide +kernel
theorem c146_52 : ctN (owN 146) 52 = some (11, 0, [1366, 862, 863, 105]) := by decide +kernel
theorem d146_119 : decode (cdN 146) 119 = .ok (.iastore, 1) := by decide +kernel
theorem d146_120 : decode (cdN 146) 120 = .ok (.iinc 2 1, 3) := by decide +kernel
theorem d146_123 : decode (cdN 146) 123 = .ok (.goto (-22), 3) := by decide +kernel
theorem d146_126 : decode (cdN 146) 126 = .ok (.aload_n 0, 1) := by decide +kernel
theorem d146_127 : decode (cdN 146) 127 = .ok (.aload_n 1, 1) := by decide +kernel
theorem d146_128 : decode (cdN 146) 128 = .ok (.invokevirtual 46, 3) := by decide +kernel
theorem d146_131 : decode (cdN 146) 131 = .ok (.putfield 56, 3) := by decide +kernel
theorem f146_56 : ftN (owN 146) 56 = some (10, 12, 1483) := by decide +kernel
theorem d146_134 : decode (cdN 146) 134 = .ok (.aload_n 0, 1) := by decide +kernel
theorem d146_135 : decode (cdN 146) 135 = .ok (.invokevirtual 58, 3) := by decide +kernel
theorem c146_58 : ctN (owN 146) 58 = some (0, 215, [1367, 1368, 1369, 104]) := by decide +kernel
theorem d146_138 : decode (cdN 146) 138 = .ok (.istore_n 2, 1) := by decide +kernel
theorem d146_139 : decode (cdN 146) 139 = .ok (.aload_n 0, 1) := by decide +kernel
theorem d146_140 : decode (cdN 146) 140 = .ok (.getfield 25, 3) := by decide +kernel
theorem d146_143 : decode (cdN 146) 143 = .ok (.iconst 0, 1) := by decide +kernel
theorem d146_144 : decode (cdN 146) 144 = .ok (.bipush 104, 2) := by decide +kernel
theorem d146_146 : decode (cdN 146) 146 = .ok (.iastore, 1) := by decide +kernel
theorem d146_147 : decode (cdN 146) 147 = .ok (.aload_n 0, 1) := by decide +kernel
theorem d146_148 : decode (cdN 146) 148 = .ok (.getfield 25, 3) := by decide +kernel
theorem d146_151 : decode (cdN 146) 151 = .ok (.iconst 1, 1) := by decide +kernel
theorem d146_152 : decode (cdN 146) 152 = .ok (.bipush 105, 2) := by decide +kernel
theorem d146_154 : decode (cdN 146) 154 = .ok (.iastore, 1) := by decide +kernel
theorem d146_155 : decode (cdN 146) 155 = .ok (.aload_n 0, 1) := by decide +kernel
theorem d146_156 : decode (cdN 146) 156 = .ok (.iconst 2, 1) := by decide +kernel
theorem d146_157 : decode (cdN 146) 157 = .ok (.invokevirtual 61, 3) := by decide +kernel
theorem c146_61 : ctN (owN 146) 61 = some (0, 170, [1439, 1441, 30, 104]) := by decide +kernel
theorem d146_160 : decode (cdN 146) 160 = .ok (.return_, 1) := by decide +kernel
theorem d294_0 : decode (cdN 294) 0 = .ok (.aload 6, 2) := by decide +kernel
theorem d294_2 : decode (cdN 294) 2 = .ok (.iconst 0, 1) := by decide +kernel
theorem d294_3 : decode (cdN 294) 3 = .ok (.aload_n 0, 1) := by decide +kernel
theorem d294_4 : decode (cdN 294) 4 = .ok (.iload_n 1, 1) := by decide +kernel
theorem d294_5 : decode (cdN 294) 5 = .ok (.iload_n 2, 1) := by decide +kernel
theorem d294_6 : decode (cdN 294) 6 = .ok (.iload_n 3, 1) := by decide +kernel
theorem d294_7 : decode (cdN 294) 7 = .ok (.iload 4, 2) := by decide +kernel
theorem d294_9 : decode (cdN 294) 9 = .ok (.iload 5, 2) := by decide +kernel
theorem d294_11 : decode (cdN 294) 11 = .ok (.invokevirtual 7, 3) := by decide +kernel
theorem c294_7 : ctN (owN 294) 7 = some (0, 76, [718, 719, 720, 92]) := by decide +kernel
theorem d294_14 : decode (cdN 294) 14 = .ok (.i2l, 1) := by decide +kernel
theorem d294_15 : decode (cdN 294) 15 = .ok (.lastore, 1) := by decide +kernel
theorem d294_16 : decode (cdN 294) 16 = .ok (.goto 7, 3) := by decide +kernel
theorem d294_19 : decode (cdN 294) 19 = .ok (.astore 7, 2) := by decide +kernel
theorem d294_21 : decode (cdN 294) 21 = .ok (.iconst 1, 1) := by decide +kernel
theorem d294_22 : decode (cdN 294) 22 = .ok (.ireturn, 1) := by decide +kernel
theorem d294_23 : decode (cdN 294) 23 = .ok (.iconst 0, 1) := by decide +kernel
theorem d294_24 : decode (cdN 294) 24 = .ok (.ireturn, 1) := by decide +kernel
theorem d295_0 : decode (cdN 295) 0 = .ok (.aload_n 2, 1) := by decide +kernel
theorem d295_1 : decode (cdN 295) 1 = .ok (.iconst 0, 1) := by decide +kernel
theorem d295_2 : decode (cdN 295) 2 = .ok (.aload_n 0, 1) := by decide +kernel
theorem d295_3 : decode (cdN 295) 3 = .ok (.iload_n 1, 1) := by decide +kernel
theorem d295_4 : decode (cdN 295) 4 = .ok (.invokevirtual 15, 3) := by decide +kernel
theorem c295_15 : ctN (owN 295) 15 = some (0, 77, [799, 800, 801, 92]) := by decide +kernel
theorem d295_7 : decode (cdN 295) 7 = .ok (.i2l, 1) := by decide +kernel
theorem d295_8 : decode (cdN 295) 8 = .ok (.lastore, 1) := by decide +kernel
theorem d295_9 : decode (cdN 295) 9 = .ok (.goto 6, 3) := by decide +kernel
theorem d295_12 : decode (cdN 295) 12 = .ok (.astore_n 3, 1) := by decide +kernel
theorem d295_13 : decode (cdN 295) 13 = .ok (.iconst 1, 1) := by decide +kernel
theorem d295_14 : decode (cdN 295) 14 = .ok (.ireturn, 1) := by decide +kernel
theorem d295_15 : decode (cdN 295) 15 = .ok (.iconst 0, 1) := by decide +kernel
theorem d295_16 : decode (cdN 295) 16 = .ok (.ireturn, 1) := by decide +kernel
theorem d296_0 : decode (cdN 296) 0 = .ok (.aload_n 1, 1) := by decide +kernel
theorem d296_1 : decode (cdN 296) 1 = .ok (.iconst 0, 1) := by decide +kernel
theorem d296_2 : decode (cdN 296) 2 = .ok (.aload_n 0, 1) := by decide +kernel
theorem d296_3 : decode (cdN 296) 3 = .ok (.invokevirtual 21, 3) := by decide +kernel
theorem c296_21 : ctN (owN 296) 21 = some (0, 78, [822, 823, 824, 92]) := by decide +kernel
theorem d296_6 : decode (cdN 296) 6 = .ok (.i2l, 1) := by decide +kernel
theorem d296_7 : decode (cdN 296) 7 = .ok (.lastore, 1) := by decide +kernel
theorem d296_8 : decode (cdN 296) 8 = .ok (.goto 6, 3) := by decide +kernel
theorem d296_11 : decode (cdN 296) 11 = .ok (.astore_n 2, 1) := by decide +kernel
theorem d296_12 : decode (cdN 296) 12 = .ok (.iconst 1, 1) := by decide +kernel
theorem d296_13 : decode (cdN 296) 13 = .ok (.ireturn, 1) := by decide +kernel
theorem d296_14 : decode (cdN 296) 14 = .ok (.iconst 0, 1) := by decide +kernel
theorem d296_15 : decode (cdN 296) 15 = .ok (.ireturn, 1) := by decide +kernel
theorem d297_0 : decode (cdN 297) 0 = .ok (.aload_n 1, 1) := by decide +kernel
theorem d297_1 : decode (cdN 297) 1 = .ok (.iconst 0, 1) := by decide +kernel
theorem d297_2 : decode (cdN 297) 2 = .ok (.aload_n 0, 1) := by decide +kernel
theorem d297_3 : decode (cdN 297) 3 = .ok (.invokevirtual 25, 3) := by decide +kernel
theorem c297_25 : ctN (owN 297) 25 = some (0, 79, [933, 934, 935, 92]) := by decide +kernel
theorem d297_6 : decode (cdN 297) 6 = .ok (.i2l, 1) := by decide +kernel
theorem d297_7 : decode (cdN 297) 7 = .ok (.lastore, 1) := by decide +kernel
theorem d297_8 : decode (cdN 297) 8 = .ok (.goto 6, 3) := by decide +kernel
theorem d297_11 : decode (cdN 297) 11 = .ok (.astore_n 2, 1) := by decide +kernel
theorem d297_12 : decode (cdN 297) 12 = .ok (.iconst 1, 1) := by decide +kernel
theorem d297_13 : decode (cdN 297) 13 = .ok (.ireturn, 1) := by decide +kernel
theorem d297_14 : decode (cdN 297) 14 = .ok (.iconst 0, 1) := by decide +kernel
theorem d297_15 : decode (cdN 297) 15 = .ok (.ireturn, 1) := by decide +kernel
theorem d298_0 : decode (cdN 298) 0 = .ok (.aload_n 2, 1) := by decide +kernel
theorem d298_1 : decode (cdN 298) 1 = .ok (.iconst 0, 1) := by decide +kernel
theorem d298_2 : decode (cdN 298) 2 = .ok (.aload_n 0, 1) := by decide +kernel
theorem d298_3 : decode (cdN 298) 3 = .ok (.iload_n 1, 1) := by decide +kernel
theorem d298_4 : decode (cdN 298) 4 = .ok (.invokevirtual 28, 3) := by decide +kernel
theorem c298_28 : ctN (owN 298) 28 = some (0, 86, [1042, 1043, 1044, 92]) := by decide +kernel
theorem d298_7 : decode (cdN 298) 7 = .ok (.ifCond .eq 7, 3) := by decide +kernel
theorem d298_10 : decode (cdN 298) 10 = .ok (.lconst 1, 1) := by decide +kernel
theorem d298_11 : decode (cdN 298) 11 = .ok (.goto 4, 3) := by decide +kernel
theorem d298_14 : decode (cdN 298) 14 = .ok (.lconst 0, 1) := by decide +kernel
theorem d298_15 : decode (cdN 298) 15 = .ok (.lastore, 1) := by decide +kernel
theorem d298_16 : decode (cdN 298) 16 = .ok (.goto 6, 3) := by decide +kernel
theorem d298_19 : decode (cdN 298) 19 = .ok (.astore_n 3, 1) := by decide +kernel
theorem d298_20 : decode (cdN 298) 20 = .ok (.iconst 1, 1) := by decide +kernel
theorem d298_21 : decode (cdN 298) 21 = .ok (.ireturn, 1) := by decide +kernel
theorem d298_22 : decode (cdN 298) 22 = .ok (.iconst 0, 1) := by decide +kernel
theorem d298_23 : decode (cdN 298) 23 = .ok (.ireturn, 1) := by decide +kernel
theorem d299_0 : decode (cdN 299) 0 = .ok (.aload_n 2, 1) := by decide +kernel
theorem d299_1 : decode (cdN 299) 1 = .ok (.iconst 0, 1) := by decide +kernel
theorem d299_2 : decode (cdN 299) 2 = .ok (.aload_n 0, 1) := by decide +kernel
theorem d299_3 : decode (cdN 299) 3 = .ok (.iload_n 1, 1) := by decide +kernel
theorem d299_4 : decode (cdN 299) 4 = .ok (.invokevirtual 32, 3) := by decide +kernel
theorem c299_32 : ctN (owN 299) 32 = some (0, 87, [1055, 1056, 1057, 92]) := by decide +kernel
theorem d299_7 : decode (cdN 299) 7 = .ok (.i2l, 1) := by decide +kernel
theorem d299_8 : decode (cdN 299) 8 = .ok (.lastore, 1) := by decide +kernel
theorem d299_9 : decode (cdN 299) 9 = .ok (.goto 6, 3) := by decide +kernel
theorem d299_12 : decode (cdN 299) 12 = .ok (.astore_n 3, 1) := by decide +kernel
theorem d299_13 : decode (cdN 299) 13 = .ok (.iconst 1, 1) := by decide +kernel
theorem d299_14 : decode (cdN 299) 14 = .ok (.ireturn, 1) := by decide +kernel
theorem d299_15 : decode (cdN 299) 15 = .ok (.iconst 0, 1) := by decide +kernel
theorem d299_16 : decode (cdN 299) 16 = .ok (.ireturn, 1) := by decide +kernel
theorem d300_0 : decode (cdN 300) 0 = .ok (.aload_n 2, 1) := by decide +kernel
theorem d300_1 : decode (cdN 300) 1 = .ok (.iconst 0, 1) := by decide +kernel
theorem d300_2 : decode (cdN 300) 2 = .ok (.aload_n 0, 1) := by decide +kernel
theorem d300_3 : decode (cdN 300) 3 = .ok (.iload_n 1, 1) := by decide +kernel
theorem d300_4 : decode (cdN 300) 4 = .ok (.invokevirtual 35, 3) := by decide +kernel
theorem c300_35 : ctN (owN 300) 35 = some (0, 88, [1062, 1063, 1064, 92]) := by decide +kernel
theorem d300_7 : decode (cdN 300) 7 = .ok (.i2l, 1) := by decide +kernel
theorem d300_8 : decode (cdN 300) 8 = .ok (.lastore, 1) := by decide +kernel
theorem d300_9 : decode (cdN 300) 9 = .ok (.goto 6, 3) := by decide +kernel
theorem d300_12 : decode (cdN 300) 12 = .ok (.astore_n 3, 1) := by decide +kernel
theorem d300_13 : decode (cdN 300) 13 = .ok (.iconst 1, 1) := by decide +kernel
theorem d300_14 : decode (cdN 300) 14 = .ok (.ireturn, 1) := by decide +kernel
theorem d300_15 : decode (cdN 300) 15 = .ok (.iconst 0, 1) := by decide +kernel
theorem d300_16 : decode (cdN 300) 16 = .ok (.ireturn, 1) := by decide +kernel
theorem d301_0 : decode (cdN 301) 0 = .ok (.aload_n 2, 1) := by decide +kernel
theorem d301_1 : decode (cdN 301) 1 = .ok (.iconst 0, 1) := by decide +kernel
theorem d301_2 : decode (cdN 301) 2 = .ok (.aload_n 0, 1) := by decide +kernel
theorem d301_3 : decode (cdN 301) 3 = .ok (.iload_n 1, 1) := by decide +kernel
theorem d301_4 : decode (cdN 301) 4 = .ok (.invokevirtual 38, 3) := by decide +kernel
theorem c301_38 : ctN (owN 301) 38 = some (0, 91, [1071, 1072, 1073, 92]) := by decide +kernel
theorem d301_7 : decode (cdN 301) 7 = .ok (.i2l, 1) := by decide +kernel
theorem d301_8 : decode (cdN 301) 8 = .ok (.lastore, 1) := by decide +kernel
theorem d301_9 : decode (cdN 301) 9 = .ok (.goto 6, 3) := by decide +kernel
theorem d301_12 : decode (cdN 301) 12 = .ok (.astore_n 3, 1) := by decide +kernel
theorem d301_13 : decode (cdN 301) 13 = .ok (.iconst 1, 1) := by decide +kernel
theorem d301_14 : decode (cdN 301) 14 = .ok (.ireturn, 1) := by decide +kernel
theorem d301_15 : decode (cdN 301) 15 = .ok (.iconst 0, 1) := by decide +kernel
theorem d301_16 : decode (cdN 301) 16 = .ok (.ireturn, 1) := by decide +kernel
theorem d302_0 : decode (cdN 302) 0 = .ok (.aload_n 2, 1) := by decide +kernel
theorem d302_1 : decode (cdN 302) 1 = .ok (.iconst 0, 1) := by decide +kernel
theorem d302_2 : decode (cdN 302) 2 = .ok (.aload_n 0, 1) := by decide +kernel
theorem d302_3 : decode (cdN 302) 3 = .ok (.iload_n 1, 1) := by decide +kernel
theorem d302_4 : decode (cdN 302) 4 = .ok (.invokevirtual 43, 3) := by decide +kernel
theorem c302_43 : ctN (owN 302) 43 = some (0, 92, [1098, 1099, 1100, 92]) := by decide +kernel
theorem d302_7 : decode (cdN 302) 7 = .ok (.i2l, 1) := by decide +kernel
theorem d302_8 : decode (cdN 302) 8 = .ok (.lastore, 1) := by decide +kernel
theorem d302_9 : decode (cdN 302) 9 = .ok (.goto 6, 3) := by decide +kernel
theorem d302_12 : decode (cdN 302) 12 = .ok (.astore_n 3, 1) := by decide +kernel
theorem d302_13 : decode (cdN 302) 13 = .ok (.iconst 1, 1) := by decide +kernel
theorem d302_14 : decode (cdN 302) 14 = .ok (.ireturn, 1) := by decide +kernel
theorem d302_15 : decode (cdN 302) 15 = .ok (.iconst 0, 1) := by decide +kernel
theorem d302_16 : decode (cdN 302) 16 = .ok (.ireturn, 1) := by decide +kernel
theorem d303_0 : decode (cdN 303) 0 = .ok (.aload_n 2, 1) := by decide +kernel
theorem d303_1 : decode (cdN 303) 1 = .ok (.iconst 0, 1) := by decide +kernel
theorem d303_2 : decode (cdN 303) 2 = .ok (.aload_n 0, 1) := by decide +kernel
theorem d303_3 : decode (cdN 303) 3 = .ok (.iload_n 1, 1) := by decide +kernel
theorem d303_4 : decode (cdN 303) 4 = .ok (.invokevirtual 46, 3) := by decide +kernel
theorem c303_46 : ctN (owN 303) 46 = some (0, 93, [1106, 1107, 1108, 92]) := by decide +kernel
theorem d303_7 : decode (cdN 303) 7 = .ok (.i2l, 1) := by decide +kernel
theorem d303_8 : decode (cdN 303) 8 = .ok (.lastore, 1) := by decide +kernel
theorem d303_9 : decode (cdN 303) 9 = .ok (.goto 6, 3) := by decide +kernel
theorem d303_12 : decode (cdN 303) 12 = .ok (.astore_n 3, 1) := by decide +kernel
theorem d303_13 : decode (cdN 303) 13 = .ok (.iconst 1, 1) := by decide +kernel
theorem d303_14 : decode (cdN 303) 14 = .ok (.ireturn, 1) := by decide +kernel
theorem d303_15 : decode (cdN 303) 15 = .ok (.iconst 0, 1) := by decide +kernel
theorem d303_16 : decode (cdN 303) 16 = .ok (.ireturn, 1) := by decide +kernel
theorem d304_0 : decode (cdN 304) 0 = .ok (.aload_n 2, 1) := by decide +kernel
theorem d304_1 : decode (cdN 304) 1 = .ok (.iconst 0, 1) := by decide +kernel
theorem d304_2 : decode (cdN 304) 2 = .ok (.aload_n 0, 1) := by decide +kernel
theorem d304_3 : decode (cdN 304) 3 = .ok (.iload_n 1, 1) := by decide +kernel
theorem d304_4 : decode (cdN 304) 4 = .ok (.invokevirtual 49, 3) := by decide +kernel
theorem c304_49 : ctN (owN 304) 49 = some (0, 95, [1113, 1114, 1115, 92]) := by decide +kernel
theorem d304_7 : decode (cdN 304) 7 = .ok (.i2l, 1) := by decide +kernel
theorem d304_8 : decode (cdN 304) 8 = .ok (.lastore, 1) := by decide +kernel
theorem d304_9 : decode (cdN 304) 9 = .ok (.goto 6, 3) := by decide +kernel
theorem d304_12 : decode (cdN 304) 12 = .ok (.astore_n 3, 1) := by decide +kernel
theorem d304_13 : decode (cdN 304) 13 = .ok (.iconst 1, 1) := by decide +kernel
theorem d304_14 : decode (cdN 304) 14 = .ok (.ireturn, 1) := by decide +kernel
theorem d304_15 : decode (cdN 304) 15 = .ok (.iconst 0, 1) := by decide +kernel
theorem d304_16 : decode (cdN 304) 16 = .ok (.ireturn, 1) := by decide +kernel
theorem d305_0 : decode (cdN 305) 0 = .ok (.aload_n 3, 1) := by decide +kernel
theorem d305_1 : decode (cdN 305) 1 = .ok (.iconst 0, 1) := by decide +kernel
theorem d305_2 : decode (cdN 305) 2 = .ok (.aload_n 0, 1) := by decide +kernel
theorem d305_3 : decode (cdN 305) 3 = .ok (.iload_n 1, 1) := by decide +kernel
theorem d305_4 : decode (cdN 305) 4 = .ok (.iload_n 2, 1) := by decide +kernel
theorem d305_5 : decode (cdN 305) 5 = .ok (.invokevirtual 52, 3) := by decide +kernel
theorem c305_52 : ctN (owN 305) 52 = some (0, 96, [1125, 1126, 1127, 92]) := by decide +kernel
theorem d305_8 : decode (cdN 305) 8 = .ok (.i2l, 1) := by decide +kernel
theorem d305_9 : decode (cdN 305) 9 = .ok (.lastore, 1) := by decide +kernel
theorem d305_10 : decode (cdN 305) 10 = .ok (.goto 7, 3) := by decide +kernel
theorem d305_13 : decode (cdN 305) 13 = .ok (.astore 4, 2) := by decide +kernel
theorem d305_15 : decode (cdN 305) 15 = .ok (.iconst 1, 1) := by decide +kernel
theorem d305_16 : decode (cdN 305) 16 = .ok (.ireturn, 1) := by decide +kernel
theorem d305_17 : decode (cdN 305) 17 = .ok (.iconst 0, 1) := by decide +kernel
theorem d305_18 : decode (cdN 305) 18 = .ok (.ireturn, 1) := by decide +kernel
theorem d306_0 : decode (cdN 306) 0 = .ok (.aload_n 3, 1) := by decide +kernel
theorem d306_1 : decode (cdN 306) 1 = .ok (.iconst 0, 1) := by decide +kernel
theorem d306_2 : decode (cdN 306) 2 = .ok (.aload_n 0, 1) := by decide +kernel
theorem d306_3 : decode (cdN 306) 3 = .ok (.iload_n 1, 1) := by decide +kernel
theorem d306_4 : decode (cdN 306) 4 = .ok (.iload_n 2, 1) := by decide +kernel
theorem d306_5 : decode (cdN 306) 5 = .ok (.invokevirtual 56, 3) := by decide +kernel
theorem c306_56 : ctN (owN 306) 56 = some (0, 97, [1132, 1133, 1134, 92]) := by decide +kernel
theorem d306_8 : decode (cdN 306) 8 = .ok (.i2l, 1) := by decide +kernel
theorem d306_9 : decode (cdN 306) 9 = .ok (.lastore, 1) := by decide +kernel
theorem d306_10 : decode (cdN 306) 10 = .ok (.goto 7, 3) := by decide +kernel
theorem d306_13 : decode (cdN 306) 13 = .ok (.astore 4, 2) := by decide +kernel
theorem d306_15 : decode (cdN 306) 15 = .ok (.iconst 1, 1) := by decide +kernel
theorem d306_16 : decode (cdN 306) 16 = .ok (.ireturn, 1) := by decide +kernel
theorem d306_17 : decode (cdN 306) 17 = .ok (.iconst 0, 1) := by decide +kernel
theorem d306_18 : decode (cdN 306) 18 = .ok (.ireturn, 1) := by decide +kernel
theorem d307_0 : decode (cdN 307) 0 = .ok (.aload_n 2, 1) := by decide +kernel
theorem d307_1 : decode (cdN 307) 1 = .ok (.iconst 0, 1) := by decide +kernel
theorem d307_2 : decode (cdN 307) 2 = .ok (.aload_n 0, 1) := by decide +kernel
theorem d307_3 : decode (cdN 307) 3 = .ok (.iload_n 1, 1) := by decide +kernel
theorem d307_4 : decode (cdN 307) 4 = .ok (.invokevirtual 59, 3) := by decide +kernel
theorem c307_59 : ctN (owN 307) 59 = some (0, 98, [1140, 1141, 1142, 92]) := by decide +kernel
theorem d307_7 : decode (cdN 307) 7 = .ok (.i2l, 1) := by decide +kernel
theorem d307_8 : decode (cdN 307) 8 = .ok (.lastore, 1) := by decide +kernel
theorem d307_9 : decode (cdN 307) 9 = .ok (.goto 6, 3) := by decide +kernel
theorem d307_12 : decode (cdN 307) 12 = .ok (.astore_n 3, 1) := by decide +kernel
theorem d307_13 : decode (cdN 307) 13 = .ok (.iconst 1, 1) := by decide +kernel
theorem d307_14 : decode (cdN 307) 14 = .ok (.ireturn, 1) := by decide +kernel
theorem d307_15 : decode (cdN 307) 15 = .ok (.iconst 0, 1) := by decide +kernel
theorem d307_16 : decode (cdN 307) 16 = .ok (.ireturn, 1) := by decide +kernel
theorem d308_0 : decode (cdN 308) 0 = .ok (.aload_n 2, 1) := by decide +kernel
theorem d308_1 : decode (cdN 308) 1 = .ok (.iconst 0, 1) := by decide +kernel
theorem d308_2 : decode (cdN 308) 2 = .ok (.aload_n 0, 1) := by decide +kernel
theorem d308_3 : decode (cdN 308) 3 = .ok (.iload_n 1, 1) := by decide +kernel
theorem d308_4 : decode (cdN 308) 4 = .ok (.invokevirtual 62, 3) := by decide +kernel
theorem c308_62 : ctN (owN 308) 62 = some (0, 99, [1147, 1148, 1149, 92]) := by decide +kernel
theorem d308_7 : decode (cdN 308) 7 = .ok (.i2l, 1) := by decide +kernel
theorem d308_8 : decode (cdN 308) 8 = .ok (.lastore, 1) := by decide +kernel
theorem d308_9 : decode (cdN 308) 9 = .ok (.goto 6, 3) := by decide +kernel
theorem d308_12 : decode (cdN 308) 12 = .ok (.astore_n 3, 1) := by decide +kernel
theorem d308_13 : decode (cdN 308) 13 = .ok (.iconst 1, 1) := by decide +kernel
theorem d308_14 : decode (cdN 308) 14 = .ok (.ireturn, 1) := by decide +kernel
theorem d308_15 : decode (cdN 308) 15 = .ok (.iconst 0, 1) := by decide +kernel
theorem d308_16 : decode (cdN 308) 16 = .ok (.ireturn, 1) := by decide +kernel
theorem d309_0 : decode (cdN 309) 0 = .ok (.aload_n 2, 1) := by decide +kernel
theorem d309_1 : decode (cdN 309) 1 = .ok (.iconst 0, 1) := by decide +kernel
theorem d309_2 : decode (cdN 309) 2 = .ok (.aload_n 0, 1) := by decide +kernel
theorem d309_3 : decode (cdN 309) 3 = .ok (.iload_n 1, 1) := by decide +kernel
theorem d309_4 : decode (cdN 309) 4 = .ok (.invokevirtual 65, 3) := by decide +kernel
theorem c309_65 : ctN (owN 309) 65 = some (0, 100, [1154, 1155, 1156, 92]) := by decide +kernel
theorem d309_7 : decode (cdN 309) 7 = .ok (.ifCond .eq 7, 3) := by decide +kernel
theorem d309_10 : decode (cdN 309) 10 = .ok (.lconst 1, 1) := by decide +kernel
theorem d309_11 : decode (cdN 309) 11 = .ok (.goto 4, 3) := by decide +kernel
theorem d309_14 : decode (cdN 309) 14 = .ok (.lconst 0, 1) := by decide +kernel
theorem d309_15 : decode (cdN 309) 15 = .ok (.lastore, 1) := by decide +kernel
theorem d309_16 : decode (cdN 309) 16 = .ok (.goto 6, 3) := by decide +kernel
theorem d309_19 : decode (cdN 309) 19 = .ok (.astore_n 3, 1) := by decide +kernel
theorem d309_20 : decode (cdN 309) 20 = .ok (.iconst 1, 1) := by decide +kernel
theorem d309_21 : decode (cdN 309) 21 = .ok (.ireturn, 1) := by decide +kernel
theorem d309_22 : decode (cdN 309) 22 = .ok (.iconst 0, 1) := by decide +kernel
theorem d309_23 : decode (cdN 309) 23 = .ok (.ireturn, 1) := by decide +kernel
theorem d310_0 : decode (cdN 310) 0 = .ok (.aload_n 3, 1) := by decide +kernel
theorem d310_1 : decode (cdN 310) 1 = .ok (.iconst 0, 1) := by decide +kernel
theorem d310_2 : decode (cdN 310) 2 = .ok (.aload_n 0, 1) := by decide +kernel
theorem d310_3 : decode (cdN 310) 3 = .ok (.iload_n 1, 1) := by decide +kernel
theorem d310_4 : decode (cdN 310) 4 = .ok (.iload_n 2, 1) := by decide +kernel
theorem d310_5 : decode (cdN 310) 5 = .ok (.invokevirtual 68, 3) := by decide +kernel
theorem c310_68 : ctN (owN 310) 68 = some (0, 101, [1161, 1162, 1163, 92]) := by decide +kernel
theorem d310_8 : decode (cdN 310) 8 = .ok (.i2l, 1) := by decide +kernel
theorem d310_9 : decode (cdN 310) 9 = .ok (.lastore, 1) := by decide +kernel
theorem d310_10 : decode (cdN 310) 10 = .ok (.goto 7, 3) := by decide +kernel
theorem d310_13 : decode (cdN 310) 13 = .ok (.astore 4, 2) := by decide +kernel
theorem d310_15 : decode (cdN 310) 15 = .ok (.iconst 1, 1) := by decide +kernel
theorem d310_16 : decode (cdN 310) 16 = .ok (.ireturn, 1) := by decide +kernel
theorem d310_17 : decode (cdN 310) 17 = .ok (.iconst 0, 1) := by decide +kernel
theorem d310_18 : decode (cdN 310) 18 = .ok (.ireturn, 1) := by decide +kernel
theorem d311_0 : decode (cdN 311) 0 = .ok (.aload_n 2, 1) := by decide +kernel
theorem d311_1 : decode (cdN 311) 1 = .ok (.iconst 0, 1) := by decide +kernel
theorem d311_2 : decode (cdN 311) 2 = .ok (.aload_n 0, 1) := by decide +kernel
theorem d311_3 : decode (cdN 311) 3 = .ok (.iload_n 1, 1) := by decide +kernel
theorem d311_4 : decode (cdN 311) 4 = .ok (.invokevirtual 71, 3) := by decide +kernel
theorem c311_71 : ctN (owN 311) 71 = some (0, 102, [1168, 1169, 1170, 92]) := by decide +kernel
theorem d311_7 : decode (cdN 311) 7 = .ok (.ifCond .eq 7, 3) := by decide +kernel
theorem d311_10 : decode (cdN 311) 10 = .ok (.lconst 1, 1) := by decide +kernel
theorem d311_11 : decode (cdN 311) 11 = .ok (.goto 4, 3) := by decide +kernel
theorem d311_14 : decode (cdN 311) 14 = .ok (.lconst 0, 1) := by decide +kernel
theorem d311_15 : decode (cdN 311) 15 = .ok (.lastore, 1) := by decide +kernel
theorem d311_16 : decode (cdN 311) 16 = .ok (.goto 6, 3) := by decide +kernel
theorem d311_19 : decode (cdN 311) 19 = .ok (.astore_n 3, 1) := by decide +kernel
theorem d311_20 : decode (cdN 311) 20 = .ok (.iconst 1, 1) := by decide +kernel
theorem d311_21 : decode (cdN 311) 21 = .ok (.ireturn, 1) := by decide +kernel
theorem d311_22 : decode (cdN 311) 22 = .ok (.iconst 0, 1) := by decide +kernel
theorem d311_23 : decode (cdN 311) 23 = .ok (.ireturn, 1) := by decide +kernel
theorem d312_0 : decode (cdN 312) 0 = .ok (.aload_n 2, 1) := by decide +kernel
theorem d312_1 : decode (cdN 312) 1 = .ok (.iconst 0, 1) := by decide +kernel
theorem d312_2 : decode (cdN 312) 2 = .ok (.aload_n 0, 1) := by decide +kernel
theorem d312_3 : decode (cdN 312) 3 = .ok (.iload_n 1, 1) := by decide +kernel
theorem d312_4 : decode (cdN 312) 4 = .ok (.invokevirtual 74, 3) := by decide +kernel
theorem c312_74 : ctN (owN 312) 74 = some (0, 103, [1179, 1180, 1181, 92]) := by decide +kernel
theorem d312_7 : decode (cdN 312) 7 = .ok (.i2l, 1) := by decide +kernel
theorem d312_8 : decode (cdN 312) 8 = .ok (.lastore, 1) := by decide +kernel
theorem d312_9 : decode (cdN 312) 9 = .ok (.goto 6, 3) := by decide +kernel
theorem d312_12 : decode (cdN 312) 12 = .ok (.astore_n 3, 1) := by decide +kernel
theorem d312_13 : decode (cdN 312) 13 = .ok (.iconst 1, 1) := by decide +kernel
theorem d312_14 : decode (cdN 312) 14 = .ok (.ireturn, 1) := by decide +kernel
theorem d312_15 : decode (cdN 312) 15 = .ok (.iconst 0, 1) := by decide +kernel
theorem d312_16 : decode (cdN 312) 16 = .ok (.ireturn, 1) := by decide +kernel
theorem d313_0 : decode (cdN 313) 0 = .ok (.aload 4, 2) := by decide +kernel
theorem d313_2 : decode (cdN 313) 2 = .ok (.iconst 0, 1) := by decide +kernel
theorem d313_3 : decode (cdN 313) 3 = .ok (.aload_n 0, 1) := by decide +kernel
theorem d313_4 : decode (cdN 313) 4 = .ok (.iload_n 1, 1) := by decide +kernel
theorem d313_5 : decode (cdN 313) 5 = .ok (.iload_n 2, 1) := by decide +kernel
theorem d313_6 : decode (cdN 313) 6 = .ok (.iload_n 3, 1) := by decide +kernel
theorem d313_7 : decode (cdN 313) 7 = .ok (.invokevirtual 77, 3) := by decide +kernel
theorem c313_77 : ctN (owN 313) 77 = some (0, 105, [1187, 1188, 1189, 92]) := by decide +kernel
theorem d313_10 : decode (cdN 313) 10 = .ok (.i2l, 1) := by decide +kernel
theorem d313_11 : decode (cdN 313) 11 = .ok (.lastore, 1) := by decide +kernel
theorem d313_12 : decode (cdN 313) 12 = .ok (.goto 11, 3) := by decide +kernel
theorem d313_15 : decode (cdN 313) 15 = .ok (.astore 5, 2) := by decide +kernel
theorem d313_17 : decode (cdN 313) 17 = .ok (.iconst 1, 1) := by decide +kernel
theorem d313_18 : decode (cdN 313) 18 = .ok (.ireturn, 1) := by decide +kernel
theorem d313_19 : decode (cdN 313) 19 = .ok (.astore 5, 2) := by decide +kernel
theorem d313_21 : decode (cdN 313) 21 = .ok (.iconst 2, 1) := by decide +kernel
theorem d313_22 : decode (cdN 313) 22 = .ok (.ireturn, 1) := by decide +kernel
theorem d313_23 : decode (cdN 313) 23 = .ok (.iconst 0, 1) := by decide +kernel
theorem d313_24 : decode (cdN 313) 24 = .ok (.ireturn, 1) := by decide +kernel
theorem d314_0 : decode (cdN 314) 0 = .ok (.aload_n 3, 1) := by decide +kernel
theorem d314_1 : decode (cdN 314) 1 = .ok (.iconst 0, 1) := by decide +kernel
theorem d314_2 : decode (cdN 314) 2 = .ok (.aload_n 0, 1) := by decide +kernel
theorem d314_3 : decode (cdN 314) 3 = .ok (.iload_n 1, 1) := by decide +kernel
theorem d314_4 : decode (cdN 314) 4 = .ok (.iload_n 2, 1) := by decide +kernel
theorem d314_5 : decode (cdN 314) 5 = .ok (.invokevirtual 81, 3) := by decide +kernel
theorem c314_81 : ctN (owN 314) 81 = some (0, 106, [1196, 1197, 1198, 92]) := by decide +kernel
theorem d314_8 : decode (cdN 314) 8 = .ok (.i2l, 1) := by decide +kernel
theorem d314_9 : decode (cdN 314) 9 = .ok (.lastore, 1) := by decide +kernel
theorem d314_10 : decode (cdN 314) 10 = .ok (.goto 11, 3) := by decide +kernel
theorem d314_13 : decode (cdN 314) 13 = .ok (.astore 4, 2) := by decide +kernel
theorem d314_15 : decode (cdN 314) 15 = .ok (.iconst 1, 1) := by decide +kernel
theorem d314_16 : decode (cdN 314) 16 = .ok (.ireturn, 1) := by decide +kernel
theorem d314_17 : decode (cdN 314) 17 = .ok (.astore 4, 2) := by decide +kernel
theorem d314_19 : decode (cdN 314) 19 = .ok (.iconst 2, 1) := by decide +kernel
theorem d314_20 : decode (cdN 314) 20 = .ok (.ireturn, 1) := by decide +kernel
theorem d314_21 : decode (cdN 314) 21 = .ok (.iconst 0, 1) := by decide +kernel
theorem d314_22 : decode (cdN 314) 22 = .ok (.ireturn, 1) := by decide +kernel
theorem d315_0 : decode (cdN 315) 0 = .ok (.aload_n 3, 1) := by decide +kernel
theorem d315_1 : decode (cdN 315) 1 = .ok (.iconst 0, 1) := by decide +kernel
theorem d315_2 : decode (cdN 315) 2 = .ok (.aload_n 0, 1) := by decide +kernel
theorem d315_3 : decode (cdN 315) 3 = .ok (.iload_n 1, 1) := by decide +kernel
theorem d315_4 : decode (cdN 315) 4 = .ok (.iload_n 2, 1) := by decide +kernel
theorem d315_5 : decode (cdN 315) 5 = .ok (.invokevirtual 84, 3) := by decide +kernel
theorem c315_84 : ctN (owN 315) 84 = some (0, 107, [1203, 1204, 1205, 92]) := by decide +kernel
theorem d315_8 : decode (cdN 315) 8 = .ok (.i2l, 1) := by decide +kernel
theorem d315_9 : decode (cdN 315) 9 = .ok (.lastore, 1) := by decide +kernel
theorem d315_10 : decode (cdN 315) 10 = .ok (.goto 11, 3) := by decide +kernel
theorem d315_13 : decode (cdN 315) 13 = .ok (.astore 4, 2) := by decide +kernel
theorem d315_15 : decode (cdN 315) 15 = .ok (.iconst 1, 1) := by decide +kernel
theorem d315_16 : decode (cdN 315) 16 = .ok (.ireturn, 1) := by decide +kernel
theorem d315_17 : decode (cdN 315) 17 = .ok (.astore 4, 2) := by decide +kernel
theorem d315_19 : decode (cdN 315) 19 = .ok (.iconst 2, 1) := by decide +kernel
theorem d315_20 : decode (cdN 315) 20 = .ok (.ireturn, 1) := by decide +kernel
theorem d315_21 : decode (cdN 315) 21 = .ok (.iconst 0, 1) := by decide +kernel
theorem d315_22 : decode (cdN 315) 22 = .ok (.ireturn, 1) := by decide +kernel
theorem d316_0 : decode (cdN 316) 0 = .ok (.aload_n 3, 1) := by decide +kernel
theorem d316_1 : decode (cdN 316) 1 = .ok (.iconst 0, 1) := by decide +kernel
theorem d316_2 : decode (cdN 316) 2 = .ok (.aload_n 0, 1) := by decide +kernel
theorem d316_3 : decode (cdN 316) 3 = .ok (.iload_n 1, 1) := by decide +kernel
theorem d316_4 : decode (cdN 316) 4 = .ok (.iload_n 2, 1) := by decide +kernel
theorem d316_5 : decode (cdN 316) 5 = .ok (.invokevirtual 87, 3) := by decide +kernel
theorem c316_87 : ctN (owN 316) 87 = some (0, 108, [1210, 1211, 1212, 92]) := by decide +kernel
theorem d316_8 : decode (cdN 316) 8 = .ok (.i2l, 1) := by decide +kernel
theorem d316_9 : decode (cdN 316) 9 = .ok (.lastore, 1) := by decide +kernel
theorem d316_10 : decode (cdN 316) 10 = .ok (.goto 11, 3) := by decide +kernel
theorem d316_13 : decode (cdN 316) 13 = .ok (.astore 4, 2) := by decide +kernel
theorem d316_15 : decode (cdN 316) 15 = .ok (.iconst 1, 1) := by decide +kernel
theorem d316_16 : decode (cdN 316) 16 = .ok (.ireturn, 1) := by decide +kernel
theorem d316_17 : decode (cdN 316) 17 = .ok (.astore 4, 2) := by decide +kernel
theorem d316_19 : decode (cdN 316) 19 = .ok (.iconst 2, 1) := by decide +kernel
theorem d316_20 : decode (cdN 316) 20 = .ok (.ireturn, 1) := by decide +kernel
theorem d316_21 : decode (cdN 316) 21 = .ok (.iconst 0, 1) := by decide +kernel
theorem d316_22 : decode (cdN 316) 22 = .ok (.ireturn, 1) := by decide +kernel
theorem d317_0 : decode (cdN 317) 0 = .ok (.aload_n 3, 1) := by decide +kernel
theorem d317_1 : decode (cdN 317) 1 = .ok (.iconst 0, 1) := by decide +kernel
theorem d317_2 : decode (cdN 317) 2 = .ok (.aload_n 0, 1) := by decide +kernel
theorem d317_3 : decode (cdN 317) 3 = .ok (.iload_n 1, 1) := by decide +kernel
theorem d317_4 : decode (cdN 317) 4 = .ok (.iload_n 2, 1) := by decide +kernel
theorem d317_5 : decode (cdN 317) 5 = .ok (.invokevirtual 90, 3) := by decide +kernel
theorem c317_90 : ctN (owN 317) 90 = some (0, 109, [1217, 1218, 1219, 92]) := by decide +kernel
theorem d317_8 : decode (cdN 317) 8 = .ok (.i2l, 1) := by decide +kernel
theorem d317_9 : decode (cdN 317) 9 = .ok (.lastore, 1) := by decide +kernel
theorem d317_10 : decode (cdN 317) 10 = .ok (.goto 11, 3) := by decide +kernel
theorem d317_13 : decode (cdN 317) 13 = .ok (.astore 4, 2) := by decide +kernel
theorem d317_15 : decode (cdN 317) 15 = .ok (.iconst 1, 1) := by decide +kernel
theorem d317_16 : decode (cdN 317) 16 = .ok (.ireturn, 1) := by decide +kernel
theorem d317_17 : decode (cdN 317) 17 = .ok (.astore 4, 2) := by decide +kernel
theorem d317_19 : decode (cdN 317) 19 = .ok (.iconst 2, 1) := by decide +kernel
theorem d317_20 : decode (cdN 317) 20 = .ok (.ireturn, 1) := by decide +kernel
theorem d317_21 : decode (cdN 317) 21 = .ok (.iconst 0, 1) := by decide +kernel
theorem d317_22 : decode (cdN 317) 22 = .ok (.ireturn, 1) := by decide +kernel
theorem d318_0 : decode (cdN 318) 0 = .ok (.aload 4, 2) := by decide +kernel
theorem d318_2 : decode (cdN 318) 2 = .ok (.iconst 0, 1) := by decide +kernel
theorem d318_3 : decode (cdN 318) 3 = .ok (.aload_n 0, 1) := by decide +kernel
theorem d318_4 : decode (cdN 318) 4 = .ok (.iload_n 1, 1) := by decide +kernel
theorem d318_5 : decode (cdN 318) 5 = .ok (.iload_n 2, 1) := by decide +kernel
theorem d318_6 : decode (cdN 318) 6 = .ok (.iload_n 3, 1) := by decide +kernel
theorem d318_7 : decode (cdN 318) 7 = .ok (.invokevirtual 93, 3) := by decide +kernel
theorem c318_93 : ctN (owN 318) 93 = some (0, 110, [1225, 1226, 1227, 92]) := by decide +kernel
theorem d318_10 : decode (cdN 318) 10 = .ok (.ifCond .eq 7, 3) := by decide +kernel
theorem d318_13 : decode (cdN 318) 13 = .ok (.lconst 1, 1) := by decide +kernel
theorem d318_14 : decode (cdN 318) 14 = .ok (.goto 4, 3) := by decide +kernel
theorem d318_17 : decode (cdN 318) 17 = .ok (.lconst 0, 1) := by decide +kernel
theorem d318_18 : decode (cdN 318) 18 = .ok (.lastore, 1) := by decide +kernel
theorem d318_19 : decode (cdN 318) 19 = .ok (.goto 11, 3) := by decide +kernel
theorem d318_22 : decode (cdN 318) 22 = .ok (.astore 5, 2) := by decide +kernel
theorem d318_24 : decode (cdN 318) 24 = .ok (.iconst 1, 1) := by decide +kernel
theorem d318_25 : decode (cdN 318) 25 = .ok (.ireturn, 1) := by decide +kernel
theorem d318_26 : decode (cdN 318) 26 = .ok (.astore 5, 2) := by decide +kernel
theorem d318_28 : decode (cdN 318) 28 = .ok (.iconst 2, 1) := by decide +kernel
theorem d318_29 : decode (cdN 318) 29 = .ok (.ireturn, 1) := by decide +kernel
theorem d318_30 : decode (cdN 318) 30 = .ok (.iconst 0, 1) := by decide +kernel
theorem d318_31 : decode (cdN 318) 31 = .ok (.ireturn, 1) := by decide +kernel
theorem d319_0 : decode (cdN 319) 0 = .ok (.aload_n 2, 1) := by decide +kernel
theorem d319_1 : decode (cdN 319) 1 = .ok (.iconst 0, 1) := by decide +kernel
theorem d319_2 : decode (cdN 319) 2 = .ok (.aload_n 0, 1) := by decide +kernel
theorem d319_3 : decode (cdN 319) 3 = .ok (.iload_n 1, 1) := by decide +kernel
theorem d319_4 : decode (cdN 319) 4 = .ok (.invokevirtual 97, 3) := by decide +kernel
theorem c319_97 : ctN (owN 319) 97 = some (0, 111, [1243, 1244, 1245, 92]) := by decide +kernel
theorem d319_7 : decode (cdN 319) 7 = .ok (.i2l, 1) := by decide +kernel
theorem d319_8 : decode (cdN 319) 8 = .ok (.lastore, 1) := by decide +kernel
theorem d319_9 : decode (cdN 319) 9 = .ok (.goto 6, 3) := by decide +kernel
theorem d319_12 : decode (cdN 319) 12 = .ok (.astore_n 3, 1) := by decide +kernel
theorem d319_13 : decode (cdN 319) 13 = .ok (.iconst 1, 1) := by decide +kernel
theorem d319_14 : decode (cdN 319) 14 = .ok (.ireturn, 1) := by decide +kernel
theorem d319_15 : decode (cdN 319) 15 = .ok (.iconst 0, 1) := by decide +kernel
theorem d319_16 : decode (cdN 319) 16 = .ok (.ireturn, 1) := by decide +kernel
theorem d320_0 : decode (cdN 320) 0 = .ok (.aload_n 2, 1) := by decide +kernel
theorem d320_1 : decode (cdN 320) 1 = .ok (.iconst 0, 1) := by decide +kernel
theorem d320_2 : decode (cdN 320) 2 = .ok (.aload_n 0, 1) := by decide +kernel
theorem d320_3 : decode (cdN 320) 3 = .ok (.iload_n 1, 1) := by decide +kernel
theorem d320_4 : decode (cdN 320) 4 = .ok (.invokevirtual 100, 3) := by decide +kernel
theorem c320_100 : ctN (owN 320) 100 = some (0, 112, [1250, 1251, 1252, 92]) := by decide +kernel
theorem d320_7 : decode (cdN 320) 7 = .ok (.i2l, 1) := by decide +kernel
theorem d320_8 : decode (cdN 320) 8 = .ok (.lastore, 1) := by decide +kernel
theorem d320_9 : decode (cdN 320) 9 = .ok (.goto 6, 3) := by decide +kernel
theorem d320_12 : decode (cdN 320) 12 = .ok (.astore_n 3, 1) := by decide +kernel
theorem d320_13 : decode (cdN 320) 13 = .ok (.iconst 1, 1) := by decide +kernel
theorem d320_14 : decode (cdN 320) 14 = .ok (.ireturn, 1) := by decide +kernel
theorem d320_15 : decode (cdN 320) 15 = .ok (.iconst 0, 1) := by decide +kernel
theorem d320_16 : decode (cdN 320) 16 = .ok (.ireturn, 1) := by decide +kernel
theorem d321_0 : decode (cdN 321) 0 = .ok (.aload_n 1, 1) := by decide +kernel
theorem d321_1 : decode (cdN 321) 1 = .ok (.iconst 0, 1) := by decide +kernel
theorem d321_2 : decode (cdN 321) 2 = .ok (.aload_n 0, 1) := by decide +kernel
theorem d321_3 : decode (cdN 321) 3 = .ok (.invokevirtual 103, 3) := by decide +kernel
theorem c321_103 : ctN (owN 321) 103 = some (0, 127, [1257, 1258, 1259, 92]) := by decide +kernel
theorem d321_6 : decode (cdN 321) 6 = .ok (.i2l, 1) := by decide +kernel
theorem d321_7 : decode (cdN 321) 7 = .ok (.lastore, 1) := by decide +kernel
theorem d321_8 : decode (cdN 321) 8 = .ok (.goto 9, 3) := by decide +kernel
theorem d321_11 : decode (cdN 321) 11 = .ok (.astore_n 2, 1) := by decide +kernel
theorem d321_12 : decode (cdN 321) 12 = .ok (.iconst 1, 1) := by decide +kernel
theorem d321_13 : decode (cdN 321) 13 = .ok (.ireturn, 1) := by decide +kernel
theorem d321_14 : decode (cdN 321) 14 = .ok (.astore_n 2, 1) := by decide +kernel
theorem d321_15 : decode (cdN 321) 15 = .ok (.iconst 2, 1) := by decide +kernel
theorem d321_16 : decode (cdN 321) 16 = .ok (.ireturn, 1) := by decide +kernel
theorem d321_17 : decode (cdN 321) 17 = .ok (.iconst 0, 1) := by decide +kernel
theorem d321_18 : decode (cdN 321) 18 = .ok (.ireturn, 1) := by decide +kernel
theorem d322_0 : decode (cdN 322) 0 = .ok (.aload_n 2, 1) := by decide +kernel
theorem d322_1 : decode (cdN 322) 1 = .ok (.iconst 0, 1) := by decide +kernel
theorem d322_2 : decode (cdN 322) 2 = .ok (.aload_n 0, 1) := by decide +kernel
theorem d322_3 : decode (cdN 322) 3 = .ok (.iload_n 1, 1) := by decide +kernel
theorem d322_4 : decode (cdN 322) 4 = .ok (.invokevirtual 106, 3) := by decide +kernel
theorem c322_106 : ctN (owN 322) 106 = some (0, 128, [1267, 1268, 1269, 92]) := by decide +kernel
theorem d322_7 : decode (cdN 322) 7 = .ok (.i2l, 1) := by decide +kernel
theorem d322_8 : decode (cdN 322) 8 = .ok (.lastore, 1) := by decide +kernel
theorem d322_9 : decode (cdN 322) 9 = .ok (.goto 9, 3) := by decide +kernel
theorem d322_12 : decode (cdN 322) 12 = .ok (.astore_n 3, 1) := by decide +kernel
theorem d322_13 : decode (cdN 322) 13 = .ok (.iconst 1, 1) := by decide +kernel
theorem d322_14 : decode (cdN 322) 14 = .ok (.ireturn, 1) := by decide +kernel
theorem d322_15 : decode (cdN 322) 15 = .ok (.astore_n 3, 1) := by decide +kernel
theorem d322_16 : decode (cdN 322) 16 = .ok (.iconst 2, 1) := by decide +kernel
theorem d322_17 : decode (cdN 322) 17 = .ok (.ireturn, 1) := by decide +kernel
theorem d322_18 : decode (cdN 322) 18 = .ok (.iconst 0, 1) := by decide +kernel
theorem d322_19 : decode (cdN 322) 19 = .ok (.ireturn, 1) := by decide +kernel
theorem d323_0 : decode (cdN 323) 0 = .ok (.aload_n 2, 1) := by decide +kernel
theorem d323_1 : decode (cdN 323) 1 = .ok (.iconst 0, 1) := by decide +kernel
theorem d323_2 : decode (cdN 323) 2 = .ok (.aload_n 0, 1) := by decide +kernel
theorem d323_3 : decode (cdN 323) 3 = .ok (.iload_n 1, 1) := by decide +kernel
theorem d323_4 : decode (cdN 323) 4 = .ok (.invokevirtual 109, 3) := by decide +kernel
theorem c323_109 : ctN (owN 323) 109 = some (0, 129, [1277, 1278, 1279, 92]) := by decide +kernel
theorem d323_7 : decode (cdN 323) 7 = .ok (.i2l, 1) := by decide +kernel
theorem d323_8 : decode (cdN 323) 8 = .ok (.lastore, 1) := by decide +kernel
theorem d323_9 : decode (cdN 323) 9 = .ok (.goto 9, 3) := by decide +kernel
theorem d323_12 : decode (cdN 323) 12 = .ok (.astore_n 3, 1) := by decide +kernel
theorem d323_13 : decode (cdN 323) 13 = .ok (.iconst 1, 1) := by decide +kernel
theorem d323_14 : decode (cdN 323) 14 = .ok (.ireturn, 1) := by decide +kernel
theorem d323_15 : decode (cdN 323) 15 = .ok (.astore_n 3, 1) := by decide +kernel
theorem d323_16 : decode (cdN 323) 16 = .ok (.iconst 2, 1) := by decide +kernel
theorem d323_17 : decode (cdN 323) 17 = .ok (.ireturn, 1) := by decide +kernel
theorem d323_18 : decode (cdN 323) 18 = .ok (.iconst 0, 1) := by decide +kernel
theorem d323_19 : decode (cdN 323) 19 = .ok (.ireturn, 1) := by decide +kernel
theorem d324_0 : decode (cdN 324) 0 = .ok (.aload_n 2, 1) := by decide +kernel
theorem d324_1 : decode (cdN 324) 1 = .ok (.iconst 0, 1) := by decide +kernel
theorem d324_2 : decode (cdN 324) 2 = .ok (.aload_n 0, 1) := by decide +kernel
theorem d324_3 : decode (cdN 324) 3 = .ok (.iload_n 1, 1) := by decide +kernel
theorem d324_4 : decode (cdN 324) 4 = .ok (.invokevirtual 112, 3) := by decide +kernel
theorem c324_112 : ctN (owN 324) 112 = some (0, 130, [1287, 1288, 1289, 92]) := by decide +kernel
theorem d324_7 : decode (cdN 324) 7 = .ok (.i2l, 1) := by decide +kernel
theorem d324_8 : decode (cdN 324) 8 = .ok (.lastore, 1) := by decide +kernel
theorem d324_9 : decode (cdN 324) 9 = .ok (.goto 9, 3) := by decide +kernel
theorem d324_12 : decode (cdN 324) 12 = .ok (.astore_n 3, 1) := by decide +kernel
theorem d324_13 : decode (cdN 324) 13 = .ok (.iconst 1, 1) := by decide +kernel
theorem d324_14 : decode (cdN 324) 14 = .ok (.ireturn, 1) := by decide +kernel
theorem d324_15 : decode (cdN 324) 15 = .ok (.astore_n 3, 1) := by decide +kernel
theorem d324_16 : decode (cdN 324) 16 = .ok (.iconst 2, 1) := by decide +kernel
theorem d324_17 : decode (cdN 324) 17 = .ok (.ireturn, 1) := by decide +kernel
theorem d324_18 : decode (cdN 324) 18 = .ok (.iconst 0, 1) := by decide +kernel
theorem d324_19 : decode (cdN 324) 19 = .ok (.ireturn, 1) := by decide +kernel
theorem d325_0 : decode (cdN 325) 0 = .ok (.aload_n 2, 1) := by decide +kernel
theorem d325_1 : decode (cdN 325) 1 = .ok (.iconst 0, 1) := by decide +kernel
theorem d325_2 : decode (cdN 325) 2 = .ok (.aload_n 0, 1) := by decide +kernel
theorem d325_3 : decode (cdN 325) 3 = .ok (.iload_n 1, 1) := by decide +kernel
theorem d325_4 : decode (cdN 325) 4 = .ok (.invokevirtual 115, 3) := by decide +kernel
theorem c325_115 : ctN (owN 325) 115 = some (0, 131, [1297, 1298, 1299, 92]) := by decide +kernel
theorem d325_7 : decode (cdN 325) 7 = .ok (.i2l, 1) := by decide +kernel
theorem d325_8 : decode (cdN 325) 8 = .ok (.lastore, 1) := by decide +kernel
theorem d325_9 : decode (cdN 325) 9 = .ok (.goto 9, 3) := by decide +kernel
theorem d325_12 : decode (cdN 325) 12 = .ok (.astore_n 3, 1) := by decide +kernel
theorem d325_13 : decode (cdN 325) 13 = .ok (.iconst 1, 1) := by decide +kernel
theorem d325_14 : decode (cdN 325) 14 = .ok (.ireturn, 1) := by decide +kernel
theorem d325_15 : decode (cdN 325) 15 = .ok (.astore_n 3, 1) := by decide +kernel
theorem d325_16 : decode (cdN 325) 16 = .ok (.iconst 2, 1) := by decide +kernel
theorem d325_17 : decode (cdN 325) 17 = .ok (.ireturn, 1) := by decide +kernel
theorem d325_18 : decode (cdN 325) 18 = .ok (.iconst 0, 1) := by decide +kernel
theorem d325_19 : decode (cdN 325) 19 = .ok (.ireturn, 1) := by decide +kernel
theorem d326_0 : decode (cdN 326) 0 = .ok (.aload_n 2, 1) := by decide +kernel
theorem d326_1 : decode (cdN 326) 1 = .ok (.iconst 0, 1) := by decide +kernel
theorem d326_2 : decode (cdN 326) 2 = .ok (.aload_n 0, 1) := by decide +kernel
theorem d326_3 : decode (cdN 326) 3 = .ok (.iload_n 1, 1) := by decide +kernel
theorem d326_4 : decode (cdN 326) 4 = .ok (.invokevirtual 118, 3) := by decide +kernel
theorem c326_118 : ctN (owN 326) 118 = some (0, 132, [1308, 1309, 1310, 92]) := by decide +kernel
theorem d326_7 : decode (cdN 326) 7 = .ok (.i2l, 1) := by decide +kernel
theorem d326_8 : decode (cdN 326) 8 = .ok (.lastore, 1) := by decide +kernel
theorem d326_9 : decode (cdN 326) 9 = .ok (.goto 6, 3) := by decide +kernel
theorem d326_12 : decode (cdN 326) 12 = .ok (.astore_n 3, 1) := by decide +kernel
theorem d326_13 : decode (cdN 326) 13 = .ok (.iconst 1, 1) := by decide +kernel
theorem d326_14 : decode (cdN 326) 14 = .ok (.ireturn, 1) := by decide +kernel
theorem d326_15 : decode (cdN 326) 15 = .ok (.iconst 0, 1) := by decide +kernel
theorem d326_16 : decode (cdN 326) 16 = .ok (.ireturn, 1) := by decide +kernel
theorem d327_0 : decode (cdN 327) 0 = .ok (.aload 4, 2) := by decide +kernel
theorem d327_2 : decode (cdN 327) 2 = .ok (.iconst 0, 1) := by decide +kernel
theorem d327_3 : decode (cdN 327) 3 = .ok (.aload_n 0, 1) := by decide +kernel
theorem d327_4 : decode (cdN 327) 4 = .ok (.iload_n 1, 1) := by decide +kernel
theorem d327_5 : decode (cdN 327) 5 = .ok (.iload_n 2, 1) := by decide +kernel
theorem d327_6 : decode (cdN 327) 6 = .ok (.iload_n 3, 1) := by decide +kernel
theorem d327_7 : decode (cdN 327) 7 = .ok (.invokevirtual 121, 3) := by decide +kernel
theorem c327_121 : ctN (owN 327) 121 = some (0, 133, [1316, 1317, 1318, 92]) := by decide +kernel
theorem d327_10 : decode (cdN 327) 10 = .ok (.i2l, 1) := by decide +kernel
theorem d327_11 : decode (cdN 327) 11 = .ok (.lastore, 1) := by decide +kernel
theorem d327_12 : decode (cdN 327) 12 = .ok (.goto 11, 3) := by decide +kernel
theorem d327_15 : decode (cdN 327) 15 = .ok (.astore 5, 2) := by decide +kernel
theorem d327_17 : decode (cdN 327) 17 = .ok (.iconst 1, 1) := by decide +kernel
theorem d327_18 : decode (cdN 327) 18 = .ok (.ireturn, 1) := by decide +kernel
theorem d327_19 : decode (cdN 327) 19 = .ok (.astore 5, 2) := by decide +kernel
theorem d327_21 : decode (cdN 327) 21 = .ok (.iconst 2, 1) := by decide +kernel
theorem d327_22 : decode (cdN 327) 22 = .ok (.ireturn, 1) := by decide +kernel
theorem d327_23 : decode (cdN 327) 23 = .ok (.iconst 0, 1) := by decide +kernel
theorem d327_24 : decode (cdN 327) 24 = .ok (.ireturn, 1) := by decide +kernel
theorem d328_0 : decode (cdN 328) 0 = .ok (.aload_n 2, 1) := by decide +kernel
theorem d328_1 : decode (cdN 328) 1 = .ok (.iconst 0, 1) := by decide +kernel
theorem d328_2 : decode (cdN 328) 2 = .ok (.aload_n 0, 1) := by decide +kernel
theorem d328_3 : decode (cdN 328) 3 = .ok (.iload_n 1, 1) := by decide +kernel
theorem d328_4 : decode (cdN 328) 4 = .ok (.invokevirtual 124, 3) := by decide +kernel
theorem c328_124 : ctN (owN 328) 124 = some (0, 134, [1325, 1326, 1327, 92]) := by decide +kernel
theorem d328_7 : decode (cdN 328) 7 = .ok (.i2l, 1) := by decide +kernel
theorem d328_8 : decode (cdN 328) 8 = .ok (.lastore, 1) := by decide +kernel
theorem d328_9 : decode (cdN 328) 9 = .ok (.goto 6, 3) := by decide +kernel
theorem d328_12 : decode (cdN 328) 12 = .ok (.astore_n 3, 1) := by decide +kernel
theorem d328_13 : decode (cdN 328) 13 = .ok (.iconst 1, 1) := by decide +kernel
theorem d328_14 : decode (cdN 328) 14 = .ok (.ireturn, 1) := by decide +kernel
theorem d328_15 : decode (cdN 328) 15 = .ok (.iconst 0, 1) := by decide +kernel
theorem d328_16 : decode (cdN 328) 16 = .ok (.ireturn, 1) := by decide +kernel
theorem d329_0 : decode (cdN 329) 0 = .ok (.aload_n 1, 1) := by decide +kernel
theorem d329_1 : decode (cdN 329) 1 = .ok (.iconst 0, 1) := by decide +kernel
theorem d329_2 : decode (cdN 329) 2 = .ok (.aload_n 0, 1) := by decide +kernel
theorem d329_3 : decode (cdN 329) 3 = .ok (.invokevirtual 127, 3) := by decide +kernel
theorem c329_127 : ctN (owN 329) 127 = some (0, 135, [1334, 1335, 1336, 92]) := by decide +kernel
theorem d329_6 : decode (cdN 329) 6 = .ok (.i2l, 1) := by decide +kernel
theorem d329_7 : decode (cdN 329) 7 = .ok (.lastore, 1) := by decide +kernel
theorem d329_8 : decode (cdN 329) 8 = .ok (.goto 6, 3) := by decide +kernel
theorem d329_11 : decode (cdN 329) 11 = .ok (.astore_n 2, 1) := by decide +kernel
theorem d329_12 : decode (cdN 329) 12 = .ok (.iconst 1, 1) := by decide +kernel
theorem d329_13 : decode (cdN 329) 13 = .ok (.ireturn, 1) := by decide +kernel
theorem d329_14 : decode (cdN 329) 14 = .ok (.iconst 0, 1) := by decide +kernel
theorem d329_15 : decode (cdN 329) 15 = .ok (.ireturn, 1) := by decide +kernel
theorem d330_0 : decode (cdN 330) 0 = .ok (.aload_n 1, 1) := by decide +kernel
theorem d330_1 : decode (cdN 330) 1 = .ok (.iconst 0, 1) := by decide +kernel
theorem d330_2 : decode (cdN 330) 2 = .ok (.aload_n 0, 1) := by decide +kernel
theorem d330_3 : decode (cdN 330) 3 = .ok (.invokevirtual 130, 3) := by decide +kernel
theorem c330_130 : ctN (owN 330) 130 = some (0, 137, [1346, 1347, 1348, 92]) := by decide +kernel
theorem d330_6 : decode (cdN 330) 6 = .ok (.i2l, 1) := by decide +kernel
theorem d330_7 : decode (cdN 330) 7 = .ok (.lastore, 1) := by decide +kernel
theorem d330_8 : decode (cdN 330) 8 = .ok (.goto 6, 3) := by decide +kernel
theorem d330_11 : decode (cdN 330) 11 = .ok (.astore_n 2, 1) := by decide +kernel
theorem d330_12 : decode (cdN 330) 12 = .ok (.iconst 1, 1) := by decide +kernel
theorem d330_13 : decode (cdN 330) 13 = .ok (.ireturn, 1) := by decide +kernel
theorem d330_14 : decode (cdN 330) 14 = .ok (.iconst 0, 1) := by decide +kernel
theorem d330_15 : decode (cdN 330) 15 = .ok (.ireturn, 1) := by decide +kernel
theorem d331_0 : decode (cdN 331) 0 = .ok (.aload_n 3, 1) := by decide +kernel
theorem d331_1 : decode (cdN 331) 1 = .ok (.iconst 0, 1) := by decide +kernel
theorem d331_2 : decode (cdN 331) 2 = .ok (.aload_n 0, 1) := by decide +kernel
theorem d331_3 : decode (cdN 331) 3 = .ok (.iload_n 1, 1) := by decide +kernel
theorem d331_4 : decode (cdN 331) 4 = .ok (.iload_n 2, 1) := by decide +kernel
theorem d331_5 : decode (cdN 331) 5 = .ok (.invokevirtual 133, 3) := by decide +kernel
theorem c331_133 : ctN (owN 331) 133 = some (0, 138, [1354, 1355, 1356, 92]) := by decide +kernel
theorem d331_8 : decode (cdN 331) 8 = .ok (.i2l, 1) := by decide +kernel
theorem d331_9 : decode (cdN 331) 9 = .ok (.lastore, 1) := by decide +kernel
theorem d331_10 : decode (cdN 331) 10 = .ok (.goto 11, 3) := by decide +kernel
theorem d331_13 : decode (cdN 331) 13 = .ok (.astore 4, 2) := by decide +kernel
theorem d331_15 : decode (cdN 331) 15 = .ok (.iconst 1, 1) := by decide +kernel
theorem d331_16 : decode (cdN 331) 16 = .ok (.ireturn, 1) := by decide +kernel
theorem d331_17 : decode (cdN 331) 17 = .ok (.astore 4, 2) := by decide +kernel
theorem d331_19 : decode (cdN 331) 19 = .ok (.iconst 2, 1) := by decide +kernel
theorem d331_20 : decode (cdN 331) 20 = .ok (.ireturn, 1) := by decide +kernel
theorem d331_21 : decode (cdN 331) 21 = .ok (.iconst 0, 1) := by decide +kernel
theorem d331_22 : decode (cdN 331) 22 = .ok (.ireturn, 1) := by decide +kernel
