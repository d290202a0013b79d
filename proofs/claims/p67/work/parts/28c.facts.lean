theorem d9_0 : decode (cdN 9) 0 = .ok (.aload_n 0, 1) := by decide +kernel
theorem d9_1 : decode (cdN 9) 1 = .ok (.invokespecial 1, 3) := by decide +kernel
theorem c9_1 : ctN (owN 9) 1 = some (9, 0, [232, 45, 46]) := by decide +kernel
theorem d9_4 : decode (cdN 9) 4 = .ok (.return_, 1) := by decide +kernel
theorem d12_0 : decode (cdN 12) 0 = .ok (.aload_n 0, 1) := by decide +kernel
theorem d12_1 : decode (cdN 12) 1 = .ok (.invokespecial 3, 3) := by decide +kernel
theorem c12_3 : ctN (owN 12) 3 = some (9, 0, [171, 45, 46]) := by decide +kernel
theorem d12_4 : decode (cdN 12) 4 = .ok (.aload_n 0, 1) := by decide +kernel
theorem d12_5 : decode (cdN 12) 5 = .ok (.iconst 3, 1) := by decide +kernel
theorem d12_6 : decode (cdN 12) 6 = .ok (.newarray .int, 2) := by decide +kernel
theorem d12_8 : decode (cdN 12) 8 = .ok (.putfield 9, 3) := by decide +kernel
theorem f12_9 : ftN (owN 12) 9 = some (2, 1, 175) := by decide +kernel
theorem d12_11 : decode (cdN 12) 11 = .ok (.aload_n 0, 1) := by decide +kernel
theorem d12_12 : decode (cdN 12) 12 = .ok (.iconst 3, 1) := by decide +kernel
theorem d12_13 : decode (cdN 12) 13 = .ok (.newarray .int, 2) := by decide +kernel
theorem d12_15 : decode (cdN 12) 15 = .ok (.putfield 15, 3) := by decide +kernel
theorem f12_15 : ftN (owN 12) 15 = some (2, 2, 176) := by decide +kernel
theorem d12_18 : decode (cdN 12) 18 = .ok (.aload_n 0, 1) := by decide +kernel
theorem d12_19 : decode (cdN 12) 19 = .ok (.iconst 3, 1) := by decide +kernel
theorem d12_20 : decode (cdN 12) 20 = .ok (.newarray .int, 2) := by decide +kernel
theorem d12_22 : decode (cdN 12) 22 = .ok (.putfield 18, 3) := by decide +kernel
theorem f12_18 : ftN (owN 12) 18 = some (2, 3, 177) := by decide +kernel
theorem d12_25 : decode (cdN 12) 25 = .ok (.return_, 1) := by decide +kernel
theorem d17_0 : decode (cdN 17) 0 = .ok (.aload_n 0, 1) := by decide +kernel
theorem d17_1 : decode (cdN 17) 1 = .ok (.invokespecial 3, 3) := by decide +kernel
theorem c17_3 : ctN (owN 17) 3 = some (9, 0, [192, 45, 46]) := by decide +kernel
theorem d17_4 : decode (cdN 17) 4 = .ok (.aload_n 0, 1) := by decide +kernel
theorem d17_5 : decode (cdN 17) 5 = .ok (.bipush 48, 2) := by decide +kernel
theorem d17_7 : decode (cdN 17) 7 = .ok (.newarray .int, 2) := by decide +kernel
theorem d17_9 : decode (cdN 17) 9 = .ok (.putfield 9, 3) := by decide +kernel
theorem f17_9 : ftN (owN 17) 9 = some (3, 1, 196) := by decide +kernel
theorem d17_12 : decode (cdN 17) 12 = .ok (.aload_n 0, 1) := by decide +kernel
theorem d17_13 : decode (cdN 17) 13 = .ok (.bipush 48, 2) := by decide +kernel
theorem d17_15 : decode (cdN 17) 15 = .ok (.newarray .int, 2) := by decide +kernel
theorem d17_17 : decode (cdN 17) 17 = .ok (.putfield 15, 3) := by decide +kernel
theorem f17_15 : ftN (owN 17) 15 = some (3, 2, 199) := by decide +kernel
theorem d17_20 : decode (cdN 17) 20 = .ok (.aload_n 0, 1) := by decide +kernel
theorem d17_21 : decode (cdN 17) 21 = .ok (.bipush 48, 2) := by decide +kernel
theorem d17_23 : decode (cdN 17) 23 = .ok (.newarray .int, 2) := by decide +kernel
theorem d17_25 : decode (cdN 17) 25 = .ok (.putfield 18, 3) := by decide +kernel
theorem f17_18 : ftN (owN 17) 18 = some (3, 3, 202) := by decide +kernel
theorem d17_28 : decode (cdN 17) 28 = .ok (.aload_n 0, 1) := by decide +kernel
theorem d17_29 : decode (cdN 17) 29 = .ok (.bipush 48, 2) := by decide +kernel
theorem d17_31 : decode (cdN 17) 31 = .ok (.newarray .int, 2) := by decide +kernel
theorem d17_33 : decode (cdN 17) 33 = .ok (.putfield 21, 3) := by decide +kernel
theorem f17_21 : ftN (owN 17) 21 = some (3, 4, 205) := by decide +kernel
theorem d17_36 : decode (cdN 17) 36 = .ok (.aload_n 0, 1) := by decide +kernel
theorem d17_37 : decode (cdN 17) 37 = .ok (.sipush 288, 3) := by decide +kernel
theorem d17_40 : decode (cdN 17) 40 = .ok (.newarray .int, 2) := by decide +kernel
theorem d17_42 : decode (cdN 17) 42 = .ok (.putfield 24, 3) := by decide +kernel
theorem f17_24 : ftN (owN 17) 24 = some (3, 5, 207) := by decide +kernel
theorem d17_45 : decode (cdN 17) 45 = .ok (.aload_n 0, 1) := by decide +kernel
theorem d17_46 : decode (cdN 17) 46 = .ok (.sipush 288, 3) := by decide +kernel
theorem d17_49 : decode (cdN 17) 49 = .ok (.newarray .int, 2) := by decide +kernel
theorem d17_51 : decode (cdN 17) 51 = .ok (.putfield 27, 3) := by decide +kernel
theorem f17_27 : ftN (owN 17) 27 = some (3, 6, 210) := by decide +kernel
theorem d17_54 : decode (cdN 17) 54 = .ok (.return_, 1) := by decide +kernel
theorem d28_0 : decode (cdN 28) 0 = .ok (.aload_n 0, 1) := by decide +kernel
theorem d28_1 : decode (cdN 28) 1 = .ok (.invokespecial 3, 3) := by decide +kernel
theorem c28_3 : ctN (owN 28) 3 = some (9, 0, [158, 45, 46]) := by decide +kernel
theorem d28_4 : decode (cdN 28) 4 = .ok (.aload_n 0, 1) := by decide +kernel
theorem d28_5 : decode (cdN 28) 5 = .ok (.bipush 8, 2) := by decide +kernel
theorem d28_7 : decode (cdN 28) 7 = .ok (.anewarray 9, 3) := by decide +kernel
theorem n28_9 : clN (owN 28) 9 = some (5, 159, 161, 29) := by decide +kernel
theorem d28_10 : decode (cdN 28) 10 = .ok (.putfield 11, 3) := by decide +kernel
theorem f28_11 : ftN (owN 28) 11 = some (4, 2, 335) := by decide +kernel
theorem d28_13 : decode (cdN 28) 13 = .ok (.iconst 0, 1) := by decide +kernel
theorem d28_14 : decode (cdN 28) 14 = .ok (.istore_n 1, 1) := by decide +kernel
theorem d28_15 : decode (cdN 28) 15 = .ok (.iload_n 1, 1) := by decide +kernel
theorem d28_16 : decode (cdN 28) 16 = .ok (.bipush 8, 2) := by decide +kernel
theorem d28_18 : decode (cdN 28) 18 = .ok (.if_icmp .ge 22, 3) := by decide +kernel
theorem d28_21 : decode (cdN 28) 21 = .ok (.aload_n 0, 1) := by decide +kernel
theorem d28_22 : decode (cdN 28) 22 = .ok (.getfield 11, 3) := by decide +kernel
theorem d28_25 : decode (cdN 28) 25 = .ok (.iload_n 1, 1) := by decide +kernel
theorem d28_26 : decode (cdN 28) 26 = .ok (.new 9, 3) := by decide +kernel
theorem d28_29 : decode (cdN 28) 29 = .ok (.dup, 1) := by decide +kernel
theorem d28_30 : decode (cdN 28) 30 = .ok (.invokespecial 17, 3) := by decide +kernel
theorem c28_17 : ctN (owN 28) 17 = some (4, 32, [163, 29]) := by decide +kernel
theorem d28_33 : decode (cdN 28) 33 = .ok (.aastore, 1) := by decide +kernel
theorem d28_34 : decode (cdN 28) 34 = .ok (.iinc 1 1, 3) := by decide +kernel
theorem d28_37 : decode (cdN 28) 37 = .ok (.goto (-22), 3) := by decide +kernel
theorem d28_40 : decode (cdN 28) 40 = .ok (.return_, 1) := by decide +kernel
theorem d32_0 : decode (cdN 32) 0 = .ok (.aload_n 0, 1) := by decide +kernel
theorem d32_1 : decode (cdN 32) 1 = .ok (.invokespecial 3, 3) := by decide +kernel
theorem c32_3 : ctN (owN 32) 3 = some (9, 0, [165, 45, 46]) := by decide +kernel
theorem d32_4 : decode (cdN 32) 4 = .ok (.aload_n 0, 1) := by decide +kernel
theorem d32_5 : decode (cdN 32) 5 = .ok (.bipush 12, 2) := by decide +kernel
theorem d32_7 : decode (cdN 32) 7 = .ok (.newarray .int, 2) := by decide +kernel
theorem d32_9 : decode (cdN 32) 9 = .ok (.putfield 9, 3) := by decide +kernel
theorem f32_9 : ftN (owN 32) 9 = some (5, 8, 293) := by decide +kernel
theorem d32_12 : decode (cdN 32) 12 = .ok (.aload_n 0, 1) := by decide +kernel
theorem d32_13 : decode (cdN 32) 13 = .ok (.bipush 12, 2) := by decide +kernel
theorem d32_15 : decode (cdN 32) 15 = .ok (.newarray .int, 2) := by decide +kernel
theorem d32_17 : decode (cdN 32) 17 = .ok (.putfield 15, 3) := by decide +kernel
theorem f32_15 : ftN (owN 32) 15 = some (5, 9, 295) := by decide +kernel
theorem d32_20 : decode (cdN 32) 20 = .ok (.aload_n 0, 1) := by decide +kernel
theorem d32_21 : decode (cdN 32) 21 = .ok (.new 18, 3) := by decide +kernel
theorem n32_18 : clN (owN 32) 18 = some (2, 166, 167, 30) := by decide +kernel
theorem d32_24 : decode (cdN 32) 24 = .ok (.dup, 1) := by decide +kernel
theorem d32_25 : decode (cdN 32) 25 = .ok (.invokespecial 20, 3) := by decide +kernel
theorem c32_20 : ctN (owN 32) 20 = some (4, 12, [169, 30]) := by decide +kernel
theorem d32_28 : decode (cdN 32) 28 = .ok (.putfield 21, 3) := by decide +kernel
theorem f32_21 : ftN (owN 32) 21 = some (5, 10, 297) := by decide +kernel
theorem d32_31 : decode (cdN 32) 31 = .ok (.aload_n 0, 1) := by decide +kernel
theorem d32_32 : decode (cdN 32) 32 = .ok (.new 25, 3) := by decide +kernel
theorem n32_25 : clN (owN 32) 25 = some (3, 187, 188, 31) := by decide +kernel
theorem d32_35 : decode (cdN 32) 35 = .ok (.dup, 1) := by decide +kernel
theorem d32_36 : decode (cdN 32) 36 = .ok (.invokespecial 27, 3) := by decide +kernel
theorem c32_27 : ctN (owN 32) 27 = some (4, 17, [190, 31]) := by decide +kernel
theorem d32_39 : decode (cdN 32) 39 = .ok (.putfield 28, 3) := by decide +kernel
theorem f32_28 : ftN (owN 32) 28 = some (5, 11, 300) := by decide +kernel
theorem d32_42 : decode (cdN 32) 42 = .ok (.aload_n 0, 1) := by decide +kernel
theorem d32_43 : decode (cdN 32) 43 = .ok (.new 32, 3) := by decide +kernel
theorem n32_32 : clN (owN 32) 32 = some (1, 227, 228, 32) := by decide +kernel
theorem d32_46 : decode (cdN 32) 46 = .ok (.dup, 1) := by decide +kernel
theorem d32_47 : decode (cdN 32) 47 = .ok (.invokespecial 34, 3) := by decide +kernel
theorem c32_34 : ctN (owN 32) 34 = some (4, 9, [230, 32]) := by decide +kernel
theorem d32_50 : decode (cdN 32) 50 = .ok (.putfield 35, 3) := by decide +kernel
theorem f32_35 : ftN (owN 32) 35 = some (5, 12, 303) := by decide +kernel
theorem d32_53 : decode (cdN 32) 53 = .ok (.return_, 1) := by decide +kernel
theorem d55_0 : decode (cdN 55) 0 = .ok (.aload_n 0, 1) := by decide +kernel
theorem d55_1 : decode (cdN 55) 1 = .ok (.invokespecial 3, 3) := by decide +kernel
theorem c55_3 : ctN (owN 55) 3 = some (9, 0, [131, 45, 46]) := by decide +kernel
theorem d55_4 : decode (cdN 55) 4 = .ok (.aload_n 0, 1) := by decide +kernel
theorem d55_5 : decode (cdN 55) 5 = .ok (.bipush 48, 2) := by decide +kernel
theorem d55_7 : decode (cdN 55) 7 = .ok (.newarray .int, 2) := by decide +kernel
theorem d55_9 : decode (cdN 55) 9 = .ok (.putfield 9, 3) := by decide +kernel
theorem f55_9 : ftN (owN 55) 9 = some (6, 0, 132) := by decide +kernel
theorem d55_12 : decode (cdN 55) 12 = .ok (.aload_n 0, 1) := by decide +kernel
theorem d55_13 : decode (cdN 55) 13 = .ok (.bipush 6, 2) := by decide +kernel
theorem d55_15 : decode (cdN 55) 15 = .ok (.newarray .int, 2) := by decide +kernel
theorem d55_17 : decode (cdN 55) 17 = .ok (.putfield 15, 3) := by decide +kernel
theorem f55_15 : ftN (owN 55) 15 = some (6, 1, 133) := by decide +kernel
theorem d55_20 : decode (cdN 55) 20 = .ok (.return_, 1) := by decide +kernel
theorem d75_0 : decode (cdN 75) 0 = .ok (.aload_n 0, 1) := by decide +kernel
theorem d75_1 : decode (cdN 75) 1 = .ok (.invokespecial 1, 3) := by decide +kernel
theorem c75_1 : ctN (owN 75) 1 = some (9, 0, [44, 45, 46]) := by decide +kernel
theorem d75_4 : decode (cdN 75) 4 = .ok (.aload_n 0, 1) := by decide +kernel
theorem d75_5 : decode (cdN 75) 5 = .ok (.new 7, 3) := by decide +kernel
theorem n75_7 : clN (owN 75) 7 = some (7, 47, 48, 24) := by decide +kernel
theorem d75_8 : decode (cdN 75) 8 = .ok (.dup, 1) := by decide +kernel
theorem d75_9 : decode (cdN 75) 9 = .ok (.sipush 500, 3) := by decide +kernel
theorem d75_12 : decode (cdN 75) 12 = .ok (.invokespecial 11, 3) := by decide +kernel
theorem c75_11 : ctN (owN 75) 11 = some (2, 62, [49, 50, 24]) := by decide +kernel
theorem d75_15 : decode (cdN 75) 15 = .ok (.putfield 14, 3) := by decide +kernel
theorem f75_14 : ftN (owN 75) 14 = some (9, 0, 383) := by decide +kernel
theorem d75_18 : decode (cdN 75) 18 = .ok (.aload_n 0, 1) := by decide +kernel
theorem d75_19 : decode (cdN 75) 19 = .ok (.new 7, 3) := by decide +kernel
theorem d75_22 : decode (cdN 75) 22 = .ok (.dup, 1) := by decide +kernel
theorem d75_23 : decode (cdN 75) 23 = .ok (.bipush 53, 2) := by decide +kernel
theorem d75_25 : decode (cdN 75) 25 = .ok (.invokespecial 11, 3) := by decide +kernel
theorem d75_28 : decode (cdN 75) 28 = .ok (.putfield 18, 3) := by decide +kernel
theorem f75_18 : ftN (owN 75) 18 = some (9, 1, 384) := by decide +kernel
theorem d75_31 : decode (cdN 75) 31 = .ok (.aload_n 0, 1) := by decide +kernel
theorem d75_32 : decode (cdN 75) 32 = .ok (.new 21, 3) := by decide +kernel
theorem n75_21 : clN (owN 75) 21 = some (8, 67, 68, 25) := by decide +kernel
theorem d75_35 : decode (cdN 75) 35 = .ok (.dup, 1) := by decide +kernel
theorem d75_36 : decode (cdN 75) 36 = .ok (.aload_n 0, 1) := by decide +kernel
theorem d75_37 : decode (cdN 75) 37 = .ok (.getfield 14, 3) := by decide +kernel
theorem d75_40 : decode (cdN 75) 40 = .ok (.invokespecial 23, 3) := by decide +kernel
theorem c75_23 : ctN (owN 75) 23 = some (2, 66, [69, 70, 25]) := by decide +kernel
theorem d75_43 : decode (cdN 75) 43 = .ok (.putfield 26, 3) := by decide +kernel
theorem f75_26 : ftN (owN 75) 26 = some (9, 2, 385) := by decide +kernel
theorem d75_46 : decode (cdN 75) 46 = .ok (.aload_n 0, 1) := by decide +kernel
theorem d75_47 : decode (cdN 75) 47 = .ok (.new 30, 3) := by decide +kernel
theorem n75_30 : clN (owN 75) 30 = some (0, 105, 106, 26) := by decide +kernel
theorem d75_50 : decode (cdN 75) 50 = .ok (.dup, 1) := by decide +kernel
theorem d75_51 : decode (cdN 75) 51 = .ok (.invokespecial 32, 3) := by decide +kernel
theorem c75_32 : ctN (owN 75) 32 = some (4, 0, [108, 26]) := by decide +kernel
theorem d75_54 : decode (cdN 75) 54 = .ok (.putfield 33, 3) := by decide +kernel
theorem f75_33 : ftN (owN 75) 33 = some (9, 3, 386) := by decide +kernel
theorem d75_57 : decode (cdN 75) 57 = .ok (.aload_n 0, 1) := by decide +kernel
theorem d75_58 : decode (cdN 75) 58 = .ok (.new 37, 3) := by decide +kernel
theorem n75_37 : clN (owN 75) 37 = some (6, 126, 127, 27) := by decide +kernel
theorem d75_61 : decode (cdN 75) 61 = .ok (.dup, 1) := by decide +kernel
theorem d75_62 : decode (cdN 75) 62 = .ok (.invokespecial 39, 3) := by decide +kernel
theorem c75_39 : ctN (owN 75) 39 = some (4, 55, [129, 27]) := by decide +kernel
theorem d75_65 : decode (cdN 75) 65 = .ok (.putfield 40, 3) := by decide +kernel
theorem f75_40 : ftN (owN 75) 40 = some (9, 4, 387) := by decide +kernel
theorem d75_68 : decode (cdN 75) 68 = .ok (.aload_n 0, 1) := by decide +kernel
theorem d75_69 : decode (cdN 75) 69 = .ok (.new 44, 3) := by decide +kernel
theorem n75_44 : clN (owN 75) 44 = some (4, 153, 154, 28) := by decide +kernel
theorem d75_72 : decode (cdN 75) 72 = .ok (.dup, 1) := by decide +kernel
theorem d75_73 : decode (cdN 75) 73 = .ok (.invokespecial 46, 3) := by decide +kernel
theorem c75_46 : ctN (owN 75) 46 = some (2, 28, [155, 156, 28]) := by decide +kernel
theorem d75_76 : decode (cdN 75) 76 = .ok (.putfield 47, 3) := by decide +kernel
theorem f75_47 : ftN (owN 75) 47 = some (9, 5, 388) := by decide +kernel
theorem d75_79 : decode (cdN 75) 79 = .ok (.aload_n 0, 1) := by decide +kernel
theorem d75_80 : decode (cdN 75) 80 = .ok (.new 51, 3) := by decide +kernel
theorem n75_51 : clN (owN 75) 51 = some (5, 343, 161, 29) := by decide +kernel
theorem d75_83 : decode (cdN 75) 83 = .ok (.dup, 1) := by decide +kernel
theorem d75_84 : decode (cdN 75) 84 = .ok (.invokespecial 53, 3) := by decide +kernel
theorem c75_53 : ctN (owN 75) 53 = some (4, 32, [163, 29]) := by decide +kernel
theorem d75_87 : decode (cdN 75) 87 = .ok (.putfield 54, 3) := by decide +kernel
theorem f75_54 : ftN (owN 75) 54 = some (9, 6, 389) := by decide +kernel
theorem d75_90 : decode (cdN 75) 90 = .ok (.aload_n 0, 1) := by decide +kernel
theorem d75_91 : decode (cdN 75) 91 = .ok (.new 51, 3) := by decide +kernel
theorem d75_94 : decode (cdN 75) 94 = .ok (.dup, 1) := by decide +kernel
theorem d75_95 : decode (cdN 75) 95 = .ok (.invokespecial 53, 3) := by decide +kernel
theorem d75_98 : decode (cdN 75) 98 = .ok (.putfield 58, 3) := by decide +kernel
theorem f75_58 : ftN (owN 75) 58 = some (9, 7, 390) := by decide +kernel
theorem d75_101 : decode (cdN 75) 101 = .ok (.aload_n 0, 1) := by decide +kernel
theorem d75_102 : decode (cdN 75) 102 = .ok (.new 51, 3) := by decide +kernel
theorem d75_105 : decode (cdN 75) 105 = .ok (.dup, 1) := by decide +kernel
theorem d75_106 : decode (cdN 75) 106 = .ok (.invokespecial 53, 3) := by decide +kernel
theorem d75_109 : decode (cdN 75) 109 = .ok (.putfield 61, 3) := by decide +kernel
theorem f75_61 : ftN (owN 75) 61 = some (9, 8, 391) := by decide +kernel
theorem d75_112 : decode (cdN 75) 112 = .ok (.aload_n 0, 1) := by decide +kernel
theorem d75_113 : decode (cdN 75) 113 = .ok (.getfield 54, 3) := by decide +kernel
theorem d75_116 : decode (cdN 75) 116 = .ok (.iconst 2, 1) := by decide +kernel
theorem d75_117 : decode (cdN 75) 117 = .ok (.iconst 0, 1) := by decide +kernel
theorem d75_118 : decode (cdN 75) 118 = .ok (.bipush 10, 2) := by decide +kernel
theorem d75_120 : decode (cdN 75) 120 = .ok (.iconst 4, 1) := by decide +kernel
theorem d75_121 : decode (cdN 75) 121 = .ok (.invokevirtual 64, 3) := by decide +kernel
theorem c75_64 : ctN (owN 75) 64 = some (0, 33, [345, 346, 347, 29]) := by decide +kernel
theorem d75_124 : decode (cdN 75) 124 = .ok (.aload_n 0, 1) := by decide +kernel
theorem d75_125 : decode (cdN 75) 125 = .ok (.getfield 54, 3) := by decide +kernel
theorem d75_128 : decode (cdN 75) 128 = .ok (.getfield 68, 3) := by decide +kernel
theorem f75_68 : ftN (owN 75) 68 = some (5, 10, 298) := by decide +kernel
theorem d75_131 : decode (cdN 75) 131 = .ok (.sipush 200, 3) := by decide +kernel
theorem d75_134 : decode (cdN 75) 134 = .ok (.bipush 30, 2) := by decide +kernel
theorem d75_136 : decode (cdN 75) 136 = .ok (.bipush 20, 2) := by decide +kernel
theorem d75_138 : decode (cdN 75) 138 = .ok (.invokevirtual 72, 3) := by decide +kernel
theorem c75_72 : ctN (owN 75) 72 = some (0, 14, [353, 354, 355, 30]) := by decide +kernel
theorem d75_141 : decode (cdN 75) 141 = .ok (.pop, 1) := by decide +kernel
theorem d75_142 : decode (cdN 75) 142 = .ok (.aload_n 0, 1) := by decide +kernel
theorem d75_143 : decode (cdN 75) 143 = .ok (.getfield 14, 3) := by decide +kernel
theorem d75_146 : decode (cdN 75) 146 = .ok (.bipush 104, 2) := by decide +kernel
theorem d75_148 : decode (cdN 75) 148 = .ok (.invokevirtual 78, 3) := by decide +kernel
theorem c75_78 : ctN (owN 75) 78 = some (0, 64, [357, 358, 359, 24]) := by decide +kernel
theorem d75_151 : decode (cdN 75) 151 = .ok (.aload_n 0, 1) := by decide +kernel
theorem d75_152 : decode (cdN 75) 152 = .ok (.getfield 14, 3) := by decide +kernel
theorem d75_155 : decode (cdN 75) 155 = .ok (.bipush 105, 2) := by decide +kernel
theorem d75_157 : decode (cdN 75) 157 = .ok (.invokevirtual 78, 3) := by decide +kernel
theorem d75_160 : decode (cdN 75) 160 = .ok (.aload_n 0, 1) := by decide +kernel
theorem d75_161 : decode (cdN 75) 161 = .ok (.getfield 54, 3) := by decide +kernel
theorem d75_164 : decode (cdN 75) 164 = .ok (.aload_n 0, 1) := by decide +kernel
theorem d75_165 : decode (cdN 75) 165 = .ok (.getfield 14, 3) := by decide +kernel
theorem d75_168 : decode (cdN 75) 168 = .ok (.getfield 81, 3) := by decide +kernel
theorem f75_81 : ftN (owN 75) 81 = some (7, 0, 57) := by decide +kernel
theorem d75_171 : decode (cdN 75) 171 = .ok (.iconst 0, 1) := by decide +kernel
theorem d75_172 : decode (cdN 75) 172 = .ok (.aload_n 0, 1) := by decide +kernel
theorem d75_173 : decode (cdN 75) 173 = .ok (.getfield 14, 3) := by decide +kernel
theorem d75_176 : decode (cdN 75) 176 = .ok (.getfield 85, 3) := by decide +kernel
theorem f75_85 : ftN (owN 75) 85 = some (7, 1, 58) := by decide +kernel
theorem d75_179 : decode (cdN 75) 179 = .ok (.invokevirtual 89, 3) := by decide +kernel
theorem c75_89 : ctN (owN 75) 89 = some (0, 40, [361, 362, 363, 29]) := by decide +kernel
theorem d75_182 : decode (cdN 75) 182 = .ok (.pop, 1) := by decide +kernel
theorem d75_183 : decode (cdN 75) 183 = .ok (.aload_n 0, 1) := by decide +kernel
theorem d75_184 : decode (cdN 75) 184 = .ok (.getfield 14, 3) := by decide +kernel
theorem d75_187 : decode (cdN 75) 187 = .ok (.iconst 0, 1) := by decide +kernel
theorem d75_188 : decode (cdN 75) 188 = .ok (.putfield 85, 3) := by decide +kernel
theorem d75_191 : decode (cdN 75) 191 = .ok (.return_, 1) := by decide +kernel
