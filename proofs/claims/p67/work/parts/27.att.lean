/-! ===== an attempt ===== -/
theorem d23_0 : decode (cdN 23) 0 = .ok (.iload_n 1, 1) := by decide +kernel
theorem d23_1 : decode (cdN 23) 1 = .ok (.ifCond .lt 16, 3) := by decide +kernel
theorem d23_4 : decode (cdN 23) 4 = .ok (.iload_n 1, 1) := by decide +kernel
theorem d23_5 : decode (cdN 23) 5 = .ok (.bipush 48, 2) := by decide +kernel
theorem d23_7 : decode (cdN 23) 7 = .ok (.if_icmp .ge 10, 3) := by decide +kernel
theorem d23_10 : decode (cdN 23) 10 = .ok (.aload_n 2, 1) := by decide +kernel
theorem d23_11 : decode (cdN 23) 11 = .ok (.arraylength, 1) := by decide +kernel
theorem d23_12 : decode (cdN 23) 12 = .ok (.bipush 6, 2) := by decide +kernel
theorem d23_14 : decode (cdN 23) 14 = .ok (.if_icmp .ge 4, 3) := by decide +kernel
theorem d23_17 : decode (cdN 23) 17 = .ok (.return_, 1) := by decide +kernel
theorem d23_18 : decode (cdN 23) 18 = .ok (.aload_n 0, 1) := by decide +kernel
theorem d23_19 : decode (cdN 23) 19 = .ok (.getfield 21, 3) := by decide +kernel
theorem f23_21 : ftN (owN 23) 21 = some (3, 4, 205) := by decide +kernel
theorem d23_22 : decode (cdN 23) 22 = .ok (.iload_n 1, 1) := by decide +kernel
theorem d23_23 : decode (cdN 23) 23 = .ok (.dup2, 1) := by decide +kernel
theorem d23_24 : decode (cdN 23) 24 = .ok (.iaload, 1) := by decide +kernel
theorem d23_25 : decode (cdN 23) 25 = .ok (.iconst 1, 1) := by decide +kernel
theorem d23_26 : decode (cdN 23) 26 = .ok (.iadd, 1) := by decide +kernel
theorem d23_27 : decode (cdN 23) 27 = .ok (.iastore, 1) := by decide +kernel
theorem d23_28 : decode (cdN 23) 28 = .ok (.aload_n 2, 1) := by decide +kernel
theorem d23_29 : decode (cdN 23) 29 = .ok (.iconst 0, 1) := by decide +kernel
theorem d23_30 : decode (cdN 23) 30 = .ok (.aload_n 0, 1) := by decide +kernel
theorem d23_31 : decode (cdN 23) 31 = .ok (.getfield 27, 3) := by decide +kernel
theorem f23_27 : ftN (owN 23) 27 = some (3, 6, 210) := by decide +kernel
theorem d23_34 : decode (cdN 23) 34 = .ok (.iload_n 1, 1) := by decide +kernel
theorem d23_35 : decode (cdN 23) 35 = .ok (.bipush 6, 2) := by decide +kernel
theorem d23_37 : decode (cdN 23) 37 = .ok (.imul, 1) := by decide +kernel
theorem d23_38 : decode (cdN 23) 38 = .ok (.bipush 6, 2) := by decide +kernel
theorem d23_40 : decode (cdN 23) 40 = .ok (.invokestatic 34, 3) := by decide +kernel
theorem c23_34 : ctN (owN 23) 34 = some (8, 0, [376, 378, 377, 19]) := by decide +kernel
theorem d23_43 : decode (cdN 23) 43 = .ok (.return_, 1) := by decide +kernel
theorem d51_0 : decode (cdN 51) 0 = .ok (.aload_n 0, 1) := by decide +kernel
theorem d51_1 : decode (cdN 51) 1 = .ok (.invokevirtual 198, 3) := by decide +kernel
theorem c51_198 : ctN (owN 51) 198 = some (0, 52, [788, 790, 6, 29]) := by decide +kernel
theorem d51_4 : decode (cdN 51) 4 = .ok (.aload_n 2, 1) := by decide +kernel
theorem d51_5 : decode (cdN 51) 5 = .ok (.aload_n 0, 1) := by decide +kernel
theorem d51_6 : decode (cdN 51) 6 = .ok (.iload_n 1, 1) := by decide +kernel
theorem d51_7 : decode (cdN 51) 7 = .ok (.aload_n 0, 1) := by decide +kernel
theorem d51_8 : decode (cdN 51) 8 = .ok (.getfield 52, 3) := by decide +kernel
theorem f51_52 : ftN (owN 51) 52 = some (5, 4, 286) := by decide +kernel
theorem d51_11 : decode (cdN 51) 11 = .ok (.aload_n 0, 1) := by decide +kernel
theorem d51_12 : decode (cdN 51) 12 = .ok (.getfield 39, 3) := by decide +kernel
theorem f51_39 : ftN (owN 51) 39 = some (5, 0, 279) := by decide +kernel
theorem d51_15 : decode (cdN 51) 15 = .ok (.invokevirtual 201, 3) := by decide +kernel
theorem c51_201 : ctN (owN 51) 201 = some (0, 61, [792, 519, 520, 27]) := by decide +kernel
theorem d51_18 : decode (cdN 51) 18 = .ok (.istore_n 3, 1) := by decide +kernel
theorem d51_19 : decode (cdN 51) 19 = .ok (.aload_n 0, 1) := by decide +kernel
theorem d51_20 : decode (cdN 51) 20 = .ok (.getfield 28, 3) := by decide +kernel
theorem f51_28 : ftN (owN 51) 28 = some (5, 11, 300) := by decide +kernel
theorem d51_23 : decode (cdN 51) 23 = .ok (.getfield 207, 3) := by decide +kernel
theorem f51_207 : ftN (owN 51) 207 = some (3, 3, 203) := by decide +kernel
theorem d51_26 : decode (cdN 51) 26 = .ok (.iload_n 1, 1) := by decide +kernel
theorem d51_27 : decode (cdN 51) 27 = .ok (.dup2, 1) := by decide +kernel
theorem d51_28 : decode (cdN 51) 28 = .ok (.iaload, 1) := by decide +kernel
theorem d51_29 : decode (cdN 51) 29 = .ok (.iconst 1, 1) := by decide +kernel
theorem d51_30 : decode (cdN 51) 30 = .ok (.iadd, 1) := by decide +kernel
theorem d51_31 : decode (cdN 51) 31 = .ok (.iastore, 1) := by decide +kernel
theorem d51_32 : decode (cdN 51) 32 = .ok (.aload_n 0, 1) := by decide +kernel
theorem d51_33 : decode (cdN 51) 33 = .ok (.getfield 35, 3) := by decide +kernel
theorem f51_35 : ftN (owN 51) 35 = some (5, 12, 303) := by decide +kernel
theorem d51_36 : decode (cdN 51) 36 = .ok (.dup, 1) := by decide +kernel
theorem d51_37 : decode (cdN 51) 37 = .ok (.getfield 210, 3) := by decide +kernel
theorem f51_210 : ftN (owN 51) 210 = some (1, 0, 234) := by decide +kernel
theorem d51_40 : decode (cdN 51) 40 = .ok (.iconst 1, 1) := by decide +kernel
theorem d51_41 : decode (cdN 51) 41 = .ok (.iadd, 1) := by decide +kernel
theorem d51_42 : decode (cdN 51) 42 = .ok (.putfield 210, 3) := by decide +kernel
theorem d51_45 : decode (cdN 51) 45 = .ok (.aload_n 0, 1) := by decide +kernel
theorem d51_46 : decode (cdN 51) 46 = .ok (.getfield 35, 3) := by decide +kernel
theorem d51_49 : decode (cdN 51) 49 = .ok (.dup, 1) := by decide +kernel
theorem d51_50 : decode (cdN 51) 50 = .ok (.getfield 213, 3) := by decide +kernel
theorem f51_213 : ftN (owN 51) 213 = some (1, 5, 249) := by decide +kernel
theorem d51_53 : decode (cdN 51) 53 = .ok (.aload_n 2, 1) := by decide +kernel
theorem d51_54 : decode (cdN 51) 54 = .ok (.getfield 216, 3) := by decide +kernel
theorem f51_216 : ftN (owN 51) 216 = some (6, 2, 136) := by decide +kernel
theorem d51_57 : decode (cdN 51) 57 = .ok (.iadd, 1) := by decide +kernel
theorem d51_58 : decode (cdN 51) 58 = .ok (.putfield 213, 3) := by decide +kernel
theorem d51_61 : decode (cdN 51) 61 = .ok (.aload_n 2, 1) := by decide +kernel
theorem d51_62 : decode (cdN 51) 62 = .ok (.getfield 216, 3) := by decide +kernel
theorem d51_65 : decode (cdN 51) 65 = .ok (.bipush 8, 2) := by decide +kernel
theorem d51_67 : decode (cdN 51) 67 = .ok (.iadd, 1) := by decide +kernel
theorem d51_68 : decode (cdN 51) 68 = .ok (.aload_n 0, 1) := by decide +kernel
theorem d51_69 : decode (cdN 51) 69 = .ok (.getfield 39, 3) := by decide +kernel
theorem d51_72 : decode (cdN 51) 72 = .ok (.imul, 1) := by decide +kernel
theorem d51_73 : decode (cdN 51) 73 = .ok (.istore 4, 2) := by decide +kernel
theorem d51_75 : decode (cdN 51) 75 = .ok (.aload_n 0, 1) := by decide +kernel
theorem d51_76 : decode (cdN 51) 76 = .ok (.getfield 35, 3) := by decide +kernel
theorem d51_79 : decode (cdN 51) 79 = .ok (.dup, 1) := by decide +kernel
theorem d51_80 : decode (cdN 51) 80 = .ok (.getfield 217, 3) := by decide +kernel
theorem f51_217 : ftN (owN 51) 217 = some (1, 6, 252) := by decide +kernel
theorem d51_83 : decode (cdN 51) 83 = .ok (.iload 4, 2) := by decide +kernel
theorem d51_85 : decode (cdN 51) 85 = .ok (.iadd, 1) := by decide +kernel
theorem d51_86 : decode (cdN 51) 86 = .ok (.putfield 217, 3) := by decide +kernel
theorem d51_89 : decode (cdN 51) 89 = .ok (.aload_n 0, 1) := by decide +kernel
theorem d51_90 : decode (cdN 51) 90 = .ok (.dup, 1) := by decide +kernel
theorem d51_91 : decode (cdN 51) 91 = .ok (.getfield 52, 3) := by decide +kernel
theorem d51_94 : decode (cdN 51) 94 = .ok (.iload 4, 2) := by decide +kernel
theorem d51_96 : decode (cdN 51) 96 = .ok (.iadd, 1) := by decide +kernel
theorem d51_97 : decode (cdN 51) 97 = .ok (.putfield 52, 3) := by decide +kernel
theorem d51_100 : decode (cdN 51) 100 = .ok (.aload_n 0, 1) := by decide +kernel
theorem d51_101 : decode (cdN 51) 101 = .ok (.iload_n 1, 1) := by decide +kernel
theorem d51_102 : decode (cdN 51) 102 = .ok (.iload_n 3, 1) := by decide +kernel
theorem d51_103 : decode (cdN 51) 103 = .ok (.aload_n 2, 1) := by decide +kernel
theorem d51_104 : decode (cdN 51) 104 = .ok (.getfield 220, 3) := by decide +kernel
theorem f51_220 : ftN (owN 51) 220 = some (6, 1, 134) := by decide +kernel
theorem d51_107 : decode (cdN 51) 107 = .ok (.invokevirtual 223, 3) := by decide +kernel
theorem c51_223 : ctN (owN 51) 223 = some (0, 53, [793, 795, 7, 29]) := by decide +kernel
theorem d51_110 : decode (cdN 51) 110 = .ok (.aload_n 0, 1) := by decide +kernel
theorem d51_111 : decode (cdN 51) 111 = .ok (.iload_n 1, 1) := by decide +kernel
theorem d51_112 : decode (cdN 51) 112 = .ok (.iload_n 3, 1) := by decide +kernel
theorem d51_113 : decode (cdN 51) 113 = .ok (.invokevirtual 227, 3) := by decide +kernel
theorem c51_227 : ctN (owN 51) 227 = some (0, 54, [801, 803, 8, 29]) := by decide +kernel
theorem d51_116 : decode (cdN 51) 116 = .ok (.return_, 1) := by decide +kernel
theorem d52_0 : decode (cdN 52) 0 = .ok (.aload_n 0, 1) := by decide +kernel
theorem d52_1 : decode (cdN 52) 1 = .ok (.getfield 52, 3) := by decide +kernel
theorem f52_52 : ftN (owN 52) 52 = some (5, 4, 286) := by decide +kernel
theorem d52_4 : decode (cdN 52) 4 = .ok (.aload_n 0, 1) := by decide +kernel
theorem d52_5 : decode (cdN 52) 5 = .ok (.getfield 55, 3) := by decide +kernel
theorem f52_55 : ftN (owN 52) 55 = some (5, 5, 288) := by decide +kernel
theorem d52_8 : decode (cdN 52) 8 = .ok (.if_icmp .ge 32, 3) := by decide +kernel
theorem d52_11 : decode (cdN 52) 11 = .ok (.aload_n 0, 1) := by decide +kernel
theorem d52_12 : decode (cdN 52) 12 = .ok (.getfield 35, 3) := by decide +kernel
theorem f52_35 : ftN (owN 52) 35 = some (5, 12, 303) := by decide +kernel
theorem d52_15 : decode (cdN 52) 15 = .ok (.dup, 1) := by decide +kernel
theorem d52_16 : decode (cdN 52) 16 = .ok (.getfield 231, 3) := by decide +kernel
theorem f52_231 : ftN (owN 52) 231 = some (1, 7, 255) := by decide +kernel
theorem d52_19 : decode (cdN 52) 19 = .ok (.aload_n 0, 1) := by decide +kernel
theorem d52_20 : decode (cdN 52) 20 = .ok (.getfield 55, 3) := by decide +kernel
theorem d52_23 : decode (cdN 52) 23 = .ok (.aload_n 0, 1) := by decide +kernel
theorem d52_24 : decode (cdN 52) 24 = .ok (.getfield 52, 3) := by decide +kernel
theorem d52_27 : decode (cdN 52) 27 = .ok (.isub, 1) := by decide +kernel
theorem d52_28 : decode (cdN 52) 28 = .ok (.iadd, 1) := by decide +kernel
theorem d52_29 : decode (cdN 52) 29 = .ok (.putfield 231, 3) := by decide +kernel
theorem d52_32 : decode (cdN 52) 32 = .ok (.aload_n 0, 1) := by decide +kernel
theorem d52_33 : decode (cdN 52) 33 = .ok (.aload_n 0, 1) := by decide +kernel
theorem d52_34 : decode (cdN 52) 34 = .ok (.getfield 55, 3) := by decide +kernel
theorem d52_37 : decode (cdN 52) 37 = .ok (.putfield 52, 3) := by decide +kernel
theorem d52_40 : decode (cdN 52) 40 = .ok (.return_, 1) := by decide +kernel
theorem d53_0 : decode (cdN 53) 0 = .ok (.iload_n 2, 1) := by decide +kernel
theorem d53_1 : decode (cdN 53) 1 = .ok (.iconst 1, 1) := by decide +kernel
theorem d53_2 : decode (cdN 53) 2 = .ok (.if_icmp .ne 17, 3) := by decide +kernel
theorem d53_5 : decode (cdN 53) 5 = .ok (.aload_n 0, 1) := by decide +kernel
theorem d53_6 : decode (cdN 53) 6 = .ok (.getfield 35, 3) := by decide +kernel
theorem f53_35 : ftN (owN 53) 35 = some (5, 12, 303) := by decide +kernel
theorem d53_9 : decode (cdN 53) 9 = .ok (.dup, 1) := by decide +kernel
theorem d53_10 : decode (cdN 53) 10 = .ok (.getfield 234, 3) := by decide +kernel
theorem f53_234 : ftN (owN 53) 234 = some (1, 1, 237) := by decide +kernel
theorem d53_13 : decode (cdN 53) 13 = .ok (.iconst 1, 1) := by decide +kernel
theorem d53_14 : decode (cdN 53) 14 = .ok (.iadd, 1) := by decide +kernel
theorem d53_15 : decode (cdN 53) 15 = .ok (.putfield 234, 3) := by decide +kernel
theorem d53_18 : decode (cdN 53) 18 = .ok (.return_, 1) := by decide +kernel
theorem d53_19 : decode (cdN 53) 19 = .ok (.aload_n 3, 1) := by decide +kernel
theorem d53_20 : decode (cdN 53) 20 = .ok (.iconst 0, 1) := by decide +kernel
theorem d53_21 : decode (cdN 53) 21 = .ok (.iaload, 1) := by decide +kernel
theorem d53_22 : decode (cdN 53) 22 = .ok (.bipush 16, 2) := by decide +kernel
theorem d53_24 : decode (cdN 53) 24 = .ok (.idiv, 1) := by decide +kernel
theorem d53_25 : decode (cdN 53) 25 = .ok (.istore 4, 2) := by decide +kernel
theorem d53_27 : decode (cdN 53) 27 = .ok (.iload 4, 2) := by decide +kernel
theorem d53_29 : decode (cdN 53) 29 = .ok (.aload_n 0, 1) := by decide +kernel
theorem d53_30 : decode (cdN 53) 30 = .ok (.getfield 58, 3) := by decide +kernel
theorem f53_58 : ftN (owN 53) 58 = some (5, 6, 290) := by decide +kernel
theorem d53_33 : decode (cdN 53) 33 = .ok (.if_icmp .ne 19, 3) := by decide +kernel
theorem d53_36 : decode (cdN 53) 36 = .ok (.aload_n 0, 1) := by decide +kernel
theorem d53_37 : decode (cdN 53) 37 = .ok (.getfield 35, 3) := by decide +kernel
theorem d53_40 : decode (cdN 53) 40 = .ok (.dup, 1) := by decide +kernel
theorem d53_41 : decode (cdN 53) 41 = .ok (.getfield 237, 3) := by decide +kernel
theorem f53_237 : ftN (owN 53) 237 = some (1, 2, 240) := by decide +kernel
theorem d53_44 : decode (cdN 53) 44 = .ok (.iconst 1, 1) := by decide +kernel
theorem d53_45 : decode (cdN 53) 45 = .ok (.iadd, 1) := by decide +kernel
theorem d53_46 : decode (cdN 53) 46 = .ok (.putfield 237, 3) := by decide +kernel
theorem d53_49 : decode (cdN 53) 49 = .ok (.goto 25, 3) := by decide +kernel
theorem d53_52 : decode (cdN 53) 52 = .ok (.aload_n 0, 1) := by decide +kernel
theorem d53_53 : decode (cdN 53) 53 = .ok (.getfield 35, 3) := by decide +kernel
theorem d53_56 : decode (cdN 53) 56 = .ok (.dup, 1) := by decide +kernel
theorem d53_57 : decode (cdN 53) 57 = .ok (.getfield 240, 3) := by decide +kernel
theorem f53_240 : ftN (owN 53) 240 = some (1, 3, 243) := by decide +kernel
theorem d53_60 : decode (cdN 53) 60 = .ok (.iconst 1, 1) := by decide +kernel
theorem d53_61 : decode (cdN 53) 61 = .ok (.iadd, 1) := by decide +kernel
theorem d53_62 : decode (cdN 53) 62 = .ok (.putfield 240, 3) := by decide +kernel
theorem d53_65 : decode (cdN 53) 65 = .ok (.aload_n 0, 1) := by decide +kernel
theorem d53_66 : decode (cdN 53) 66 = .ok (.getfield 28, 3) := by decide +kernel
theorem f53_28 : ftN (owN 53) 28 = some (5, 11, 300) := by decide +kernel
theorem d53_69 : decode (cdN 53) 69 = .ok (.iload_n 1, 1) := by decide +kernel
theorem d53_70 : decode (cdN 53) 70 = .ok (.aload_n 3, 1) := by decide +kernel
theorem d53_71 : decode (cdN 53) 71 = .ok (.invokevirtual 243, 3) := by decide +kernel
theorem c53_243 : ctN (owN 53) 243 = some (0, 23, [797, 798, 799, 31]) := by decide +kernel
theorem d53_74 : decode (cdN 53) 74 = .ok (.aload_n 0, 1) := by decide +kernel
theorem d53_75 : decode (cdN 53) 75 = .ok (.iload 4, 2) := by decide +kernel
theorem d53_77 : decode (cdN 53) 77 = .ok (.putfield 58, 3) := by decide +kernel
theorem d53_80 : decode (cdN 53) 80 = .ok (.iload_n 2, 1) := by decide +kernel
theorem d53_81 : decode (cdN 53) 81 = .ok (.iconst 2, 1) := by decide +kernel
theorem d53_82 : decode (cdN 53) 82 = .ok (.if_icmp .ne 16, 3) := by decide +kernel
theorem d53_85 : decode (cdN 53) 85 = .ok (.aload_n 0, 1) := by decide +kernel
theorem d53_86 : decode (cdN 53) 86 = .ok (.getfield 35, 3) := by decide +kernel
theorem d53_89 : decode (cdN 53) 89 = .ok (.dup, 1) := by decide +kernel
theorem d53_90 : decode (cdN 53) 90 = .ok (.getfield 247, 3) := by decide +kernel
theorem f53_247 : ftN (owN 53) 247 = some (1, 4, 246) := by decide +kernel
theorem d53_93 : decode (cdN 53) 93 = .ok (.iconst 1, 1) := by decide +kernel
theorem d53_94 : decode (cdN 53) 94 = .ok (.iadd, 1) := by decide +kernel
theorem d53_95 : decode (cdN 53) 95 = .ok (.putfield 247, 3) := by decide +kernel
theorem d53_98 : decode (cdN 53) 98 = .ok (.return_, 1) := by decide +kernel
theorem d54_0 : decode (cdN 54) 0 = .ok (.iload_n 2, 1) := by decide +kernel
theorem d54_1 : decode (cdN 54) 1 = .ok (.ifCond .ne 16, 3) := by decide +kernel
theorem d54_4 : decode (cdN 54) 4 = .ok (.aload_n 0, 1) := by decide +kernel
theorem d54_5 : decode (cdN 54) 5 = .ok (.getfield 28, 3) := by decide +kernel
theorem f54_28 : ftN (owN 54) 28 = some (5, 11, 300) := by decide +kernel
theorem d54_8 : decode (cdN 54) 8 = .ok (.getfield 165, 3) := by decide +kernel
theorem f54_165 : ftN (owN 54) 165 = some (3, 2, 200) := by decide +kernel
theorem d54_11 : decode (cdN 54) 11 = .ok (.iload_n 1, 1) := by decide +kernel
theorem d54_12 : decode (cdN 54) 12 = .ok (.iconst 1, 1) := by decide +kernel
theorem d54_13 : decode (cdN 54) 13 = .ok (.iastore, 1) := by decide +kernel
theorem d54_14 : decode (cdN 54) 14 = .ok (.goto 57, 3) := by decide +kernel
theorem d54_17 : decode (cdN 54) 17 = .ok (.aload_n 0, 1) := by decide +kernel
theorem d54_18 : decode (cdN 54) 18 = .ok (.getfield 28, 3) := by decide +kernel
theorem d54_21 : decode (cdN 54) 21 = .ok (.getfield 207, 3) := by decide +kernel
theorem f54_207 : ftN (owN 54) 207 = some (3, 3, 203) := by decide +kernel
theorem d54_24 : decode (cdN 54) 24 = .ok (.iload_n 1, 1) := by decide +kernel
theorem d54_25 : decode (cdN 54) 25 = .ok (.iaload, 1) := by decide +kernel
theorem d54_26 : decode (cdN 54) 26 = .ok (.aload_n 0, 1) := by decide +kernel
theorem d54_27 : decode (cdN 54) 27 = .ok (.getfield 49, 3) := by decide +kernel
theorem f54_49 : ftN (owN 54) 49 = some (5, 3, 285) := by decide +kernel
theorem d54_30 : decode (cdN 54) 30 = .ok (.if_icmp .lt 16, 3) := by decide +kernel
theorem d54_33 : decode (cdN 54) 33 = .ok (.aload_n 0, 1) := by decide +kernel
theorem d54_34 : decode (cdN 54) 34 = .ok (.getfield 28, 3) := by decide +kernel
theorem d54_37 : decode (cdN 54) 37 = .ok (.getfield 165, 3) := by decide +kernel
theorem d54_40 : decode (cdN 54) 40 = .ok (.iload_n 1, 1) := by decide +kernel
theorem d54_41 : decode (cdN 54) 41 = .ok (.iconst 2, 1) := by decide +kernel
theorem d54_42 : decode (cdN 54) 42 = .ok (.iastore, 1) := by decide +kernel
theorem d54_43 : decode (cdN 54) 43 = .ok (.goto 28, 3) := by decide +kernel
theorem d54_46 : decode (cdN 54) 46 = .ok (.aload_n 0, 1) := by decide +kernel
theorem d54_47 : decode (cdN 54) 47 = .ok (.aload_n 0, 1) := by decide +kernel
theorem d54_48 : decode (cdN 54) 48 = .ok (.getfield 52, 3) := by decide +kernel
theorem f54_52 : ftN (owN 54) 52 = some (5, 4, 286) := by decide +kernel
theorem d54_51 : decode (cdN 54) 51 = .ok (.aload_n 0, 1) := by decide +kernel
theorem d54_52 : decode (cdN 54) 52 = .ok (.getfield 46, 3) := by decide +kernel
theorem f54_46 : ftN (owN 54) 46 = some (5, 2, 284) := by decide +kernel
theorem d54_55 : decode (cdN 54) 55 = .ok (.aload_n 0, 1) := by decide +kernel
theorem d54_56 : decode (cdN 54) 56 = .ok (.getfield 28, 3) := by decide +kernel
theorem d54_59 : decode (cdN 54) 59 = .ok (.getfield 207, 3) := by decide +kernel
theorem d54_62 : decode (cdN 54) 62 = .ok (.iload_n 1, 1) := by decide +kernel
theorem d54_63 : decode (cdN 54) 63 = .ok (.iaload, 1) := by decide +kernel
theorem d54_64 : decode (cdN 54) 64 = .ok (.iconst 1, 1) := by decide +kernel
theorem d54_65 : decode (cdN 54) 65 = .ok (.isub, 1) := by decide +kernel
theorem d54_66 : decode (cdN 54) 66 = .ok (.ishl, 1) := by decide +kernel
theorem d54_67 : decode (cdN 54) 67 = .ok (.iadd, 1) := by decide +kernel
theorem d54_68 : decode (cdN 54) 68 = .ok (.putfield 55, 3) := by decide +kernel
theorem f54_55 : ftN (owN 54) 55 = some (5, 5, 288) := by decide +kernel
theorem d54_71 : decode (cdN 54) 71 = .ok (.return_, 1) := by decide +kernel
theorem d50_0 : decode (cdN 50) 0 = .ok (.iconst 0, 1) := by decide +kernel
theorem d50_1 : decode (cdN 50) 1 = .ok (.istore_n 3, 1) := by decide +kernel
theorem d50_2 : decode (cdN 50) 2 = .ok (.aload_n 0, 1) := by decide +kernel
theorem d50_3 : decode (cdN 50) 3 = .ok (.getfield 28, 3) := by decide +kernel
theorem f50_28 : ftN (owN 50) 28 = some (5, 11, 300) := by decide +kernel
theorem d50_6 : decode (cdN 50) 6 = .ok (.invokevirtual 190, 3) := by decide +kernel
theorem c50_190 : ctN (owN 50) 190 = some (0, 22, [780, 781, 782, 31]) := by decide +kernel
theorem d50_9 : decode (cdN 50) 9 = .ok (.istore 4, 2) := by decide +kernel
theorem d50_11 : decode (cdN 50) 11 = .ok (.iload_n 3, 1) := by decide +kernel
theorem d50_12 : decode (cdN 50) 12 = .ok (.iload_n 1, 1) := by decide +kernel
theorem d50_13 : decode (cdN 50) 13 = .ok (.if_icmp .ge 31, 3) := by decide +kernel
theorem d50_16 : decode (cdN 50) 16 = .ok (.iload 4, 2) := by decide +kernel
theorem d50_18 : decode (cdN 50) 18 = .ok (.iconst (-1), 1) := by decide +kernel
theorem d50_19 : decode (cdN 50) 19 = .ok (.if_icmp .eq 25, 3) := by decide +kernel
theorem d50_22 : decode (cdN 50) 22 = .ok (.aload_n 0, 1) := by decide +kernel
theorem d50_23 : decode (cdN 50) 23 = .ok (.iload 4, 2) := by decide +kernel
theorem d50_25 : decode (cdN 50) 25 = .ok (.aload_n 2, 1) := by decide +kernel
theorem d50_26 : decode (cdN 50) 26 = .ok (.invokevirtual 194, 3) := by decide +kernel
theorem c50_194 : ctN (owN 50) 194 = some (0, 51, [784, 786, 5, 29]) := by decide +kernel
theorem d50_29 : decode (cdN 50) 29 = .ok (.iinc 3 1, 3) := by decide +kernel
theorem d50_32 : decode (cdN 50) 32 = .ok (.aload_n 0, 1) := by decide +kernel
theorem d50_33 : decode (cdN 50) 33 = .ok (.getfield 28, 3) := by decide +kernel
theorem d50_36 : decode (cdN 50) 36 = .ok (.invokevirtual 190, 3) := by decide +kernel
theorem d50_39 : decode (cdN 50) 39 = .ok (.istore 4, 2) := by decide +kernel
theorem d50_41 : decode (cdN 50) 41 = .ok (.goto (-30), 3) := by decide +kernel
theorem d50_44 : decode (cdN 50) 44 = .ok (.iload_n 3, 1) := by decide +kernel
theorem d50_45 : decode (cdN 50) 45 = .ok (.ireturn, 1) := by decide +kernel
theorem d49_0 : decode (cdN 49) 0 = .ok (.aload_n 0, 1) := by decide +kernel
theorem d49_1 : decode (cdN 49) 1 = .ok (.getfield 52, 3) := by decide +kernel
theorem f49_52 : ftN (owN 49) 52 = some (5, 4, 286) := by decide +kernel
theorem d49_4 : decode (cdN 49) 4 = .ok (.ldc 183, 2) := by decide +kernel
theorem k49_183 : kiN (owN 49) 183 = some (900000, 774) := by decide +kernel
theorem d49_6 : decode (cdN 49) 6 = .ok (.if_icmp .gt 7, 3) := by decide +kernel
theorem d49_9 : decode (cdN 49) 9 = .ok (.iconst 1, 1) := by decide +kernel
theorem d49_10 : decode (cdN 49) 10 = .ok (.goto 4, 3) := by decide +kernel
theorem d49_13 : decode (cdN 49) 13 = .ok (.iconst 0, 1) := by decide +kernel
theorem d49_14 : decode (cdN 49) 14 = .ok (.ireturn, 1) := by decide +kernel
theorem d47_0 : decode (cdN 47) 0 = .ok (.aload_n 0, 1) := by decide +kernel
theorem d47_1 : decode (cdN 47) 1 = .ok (.getfield 52, 3) := by decide +kernel
theorem f47_52 : ftN (owN 47) 52 = some (5, 4, 286) := by decide +kernel
theorem d47_4 : decode (cdN 47) 4 = .ok (.ldc 183, 2) := by decide +kernel
theorem k47_183 : kiN (owN 47) 183 = some (900000, 774) := by decide +kernel
theorem d47_6 : decode (cdN 47) 6 = .ok (.iload_n 1, 1) := by decide +kernel
theorem d47_7 : decode (cdN 47) 7 = .ok (.isub, 1) := by decide +kernel
theorem d47_8 : decode (cdN 47) 8 = .ok (.if_icmp .gt 7, 3) := by decide +kernel
theorem d47_11 : decode (cdN 47) 11 = .ok (.iconst 1, 1) := by decide +kernel
theorem d47_12 : decode (cdN 47) 12 = .ok (.goto 4, 3) := by decide +kernel
theorem d47_15 : decode (cdN 47) 15 = .ok (.iconst 0, 1) := by decide +kernel
theorem d47_16 : decode (cdN 47) 16 = .ok (.ireturn, 1) := by decide +kernel
theorem d48_0 : decode (cdN 48) 0 = .ok (.aload_n 0, 1) := by decide +kernel
theorem d48_1 : decode (cdN 48) 1 = .ok (.iload_n 1, 1) := by decide +kernel
theorem d48_2 : decode (cdN 48) 2 = .ok (.invokevirtual 184, 3) := by decide +kernel
theorem c48_184 : ctN (owN 48) 184 = some (0, 47, [865, 857, 858, 29]) := by decide +kernel
theorem d48_5 : decode (cdN 48) 5 = .ok (.ifCond .ne 5, 3) := by decide +kernel
theorem d48_8 : decode (cdN 48) 8 = .ok (.iconst 0, 1) := by decide +kernel
theorem d48_9 : decode (cdN 48) 9 = .ok (.ireturn, 1) := by decide +kernel
theorem d48_10 : decode (cdN 48) 10 = .ok (.aload_n 0, 1) := by decide +kernel
theorem d48_11 : decode (cdN 48) 11 = .ok (.dup, 1) := by decide +kernel
theorem d48_12 : decode (cdN 48) 12 = .ok (.getfield 52, 3) := by decide +kernel
theorem f48_52 : ftN (owN 48) 52 = some (5, 4, 286) := by decide +kernel
theorem d48_15 : decode (cdN 48) 15 = .ok (.iload_n 1, 1) := by decide +kernel
theorem d48_16 : decode (cdN 48) 16 = .ok (.iadd, 1) := by decide +kernel
theorem d48_17 : decode (cdN 48) 17 = .ok (.putfield 52, 3) := by decide +kernel
theorem d48_20 : decode (cdN 48) 20 = .ok (.aload_n 0, 1) := by decide +kernel
theorem d48_21 : decode (cdN 48) 21 = .ok (.getfield 35, 3) := by decide +kernel
theorem f48_35 : ftN (owN 48) 35 = some (5, 12, 303) := by decide +kernel
theorem d48_24 : decode (cdN 48) 24 = .ok (.dup, 1) := by decide +kernel
theorem d48_25 : decode (cdN 48) 25 = .ok (.getfield 187, 3) := by decide +kernel
theorem f48_187 : ftN (owN 48) 187 = some (1, 8, 258) := by decide +kernel
theorem d48_28 : decode (cdN 48) 28 = .ok (.iload_n 1, 1) := by decide +kernel
theorem d48_29 : decode (cdN 48) 29 = .ok (.iadd, 1) := by decide +kernel
theorem d48_30 : decode (cdN 48) 30 = .ok (.putfield 187, 3) := by decide +kernel
theorem d48_33 : decode (cdN 48) 33 = .ok (.iconst 1, 1) := by decide +kernel
theorem d48_34 : decode (cdN 48) 34 = .ok (.ireturn, 1) := by decide +kernel
def chewA (A : AV) (t : Int) : Bool := chewD (A 0 4) (A 1) (A 2) (A 3) t
def SfA (A : AV) (f : Int) : Int → Int := fun k => A 10 (6 * f + k)
def chA (A : AV) (t bt : Int) : Int → Bool := fun b => chewA A (t + b * bt)
def resA (A : AV) (f t bt : Int) : Int := resZ (SfA A f) (A 6 f).toNat (chA A t bt) (A 0 1)
/-- byte k that is taken of frame f at the tick t -/
def takA (A : AV) (f t bt : Int) (k : Int) : Int := byteZ (takZ (cabZ (SfA A f) (chA A t bt)) (A 6 f * 8) (A 0 1)) k
def napA (A : AV) : AV := if A 0 7 < A 0 8 then up2 (up2 A 0 15 (A 0 15 + (A 0 8 - A 0 7))) 0 7 (A 0 8) else A
def recA (A : AV) (f r : Int) (B : Int → Int) : AV :=
  if r = 1 then up2 A 0 11 (A 0 11 + 1) else
    let E := up2 (if B 0 / 16 + 1 = A 0 9 then up2 A 0 12 (A 0 12 + 1) else wrB (up2 (up2 A 0 13 (A 0 13 + 1)) 9 f 1) f (A 6 f) B) 0 9 (B 0 / 16 + 1)
    if r = 2 then up2 E 0 14 (E 0 14 + 1) else E
def setA (A : AV) (f r : Int) : AV :=
  if r = 0 then up2 A 7 f 1 else if A 0 3 ≤ A 8 f then up2 A 7 f 2 else up2 A 0 8 (A 0 7 + A 0 2 * 2 ^ (A 8 f - 1).toNat)
def cntA (A : AV) (f : Int) : AV :=
  up2 (up2 (up2 (up2 A 8 f (A 8 f + 1)) 0 10 (A 0 10 + 1)) 0 16 (A 0 16 + A 6 f * 8)) 0 7 (A 0 7 + (A 6 f * 8 + 8) * A 0 0)
def attA (A : AV) (f : Int) : AV :=
  setA (recA (cntA (napA A) f) f (resA (napA A) f (napA A 0 7) (napA A 0 0)) (takA (napA A) f (napA A 0 7) (napA A 0 0))) f (resA (napA A) f (napA A 0 7) (napA A 0 0))
/-! the class's own -/
def napC (I : Nat → Int → Int) (p : Nat) : Nat → Int → Int := if I p 4 < I p 5 then up2 (up2 I (p + 14) 7 (I (p + 14) 7 + (I p 5 - I p 4))) p 4 (I p 5) else I
def setC (I : Nat → Int → Int) (p : Nat) (f r : Int) : Nat → Int → Int :=
  if r = 0 then up2 I (p + 9) f 1 else if I p 3 ≤ I (p + 10) f then up2 I (p + 9) f 2 else up2 I p 5 (I p 4 + I p 2 * 2 ^ (I (p + 10) f - 1).toNat)
def recC0 (I : Nat → Int → Int) (p : Nat) (f : Int) : Nat → Int → Int :=
  up2 (if I 13 0 / 16 = I p 6 then up2 I (p + 14) 2 (I (p + 14) 2 + 1) else cp2 (up2 (up2 I (p + 14) 3 (I (p + 14) 3 + 1)) (p + 11) f (I (p + 11) f + 1)) 13 0 (p + 13) (f * 6) 6) p 6 (I 13 0 / 16)
def recC (I : Nat → Int → Int) (p : Nat) (f r : Int) : Nat → Int → Int :=
  if r = 1 then up2 I (p + 14) 1 (I (p + 14) 1 + 1) else if r = 2 then up2 (recC0 I p f) (p + 14) 4 (I (p + 14) 4 + 1) else recC0 I p f
theorem vc_nap {I : Nat → Int → Int} {p : Nat} : Vc (napC I p) p = napA (Vc I p) := by
  unfold napC napA
  rw [vr7, vr8, vr15]
  split
  · rw [vw7, vw15]
  · rfl
theorem vrow {I : Nat → Int → Int} {p : Nat} {f : Int} (h0 : 0 ≤ f) (h1 : f < I (p + 7) 0) : Vc I p 6 f = I (p + 8) f ∧ Vc I p 7 f = I (p + 9) f ∧ Vc I p 8 f = I (p + 10) f := ⟨ent_in h0 h1, ent_in h0 h1, ent_in h0 h1⟩
theorem vc_set {I : Nat → Int → Int} {p : Nat} {f r : Int} (h0 : 0 ≤ f) (h1 : f < I (p + 7) 0) : Vc (setC I p f r) p = setA (Vc I p) f r := by
  unfold setC setA
  rw [vr3, vr7, vr2, (vrow h0 h1).2.2]
  split
  · rw [vc_st h0 h1]
  · split
    · rw [vc_st h0 h1]
    · rw [vw8]
theorem vc_rec {I : Nat → Int → Int} {p : Nat} {f r : Int} (hp : 16 ≤ p) (h0 : 0 ≤ f) (h1 : f < I (p + 7) 0) (hz : 0 ≤ I (p + 8) f ∧ I (p + 8) f ≤ 6) (ha : 0 ≤ I (p + 11) f) : Vc (recC I p f r) p = recA (Vc I p) f r (fun k => I 13 k) := by
  have e0 : Vc (recC0 I p f) p = up2 (if I 13 0 / 16 + 1 = Vc I p 0 9 then up2 (Vc I p) 0 12 (Vc I p 0 12 + 1) else wrB (up2 (up2 (Vc I p) 0 13 (Vc I p 0 13 + 1)) 9 f 1) f (Vc I p 6 f) (fun k => I 13 k)) 0 9 (I 13 0 / 16 + 1) := by
    unfold recC0
    rw [vw9, vr9, vr12, vr13, (vrow h0 h1).1]
    congr 1
    by_cases e : I 13 0 / 16 = I p 6
    · rw [if_pos e, if_pos (by omega), vw12]
    · rw [if_neg e, if_neg (by omega)]
      have h2 := vc_ar (I := up2 I (p + 14) 3 (I (p + 14) 3 + 1)) (p := p) (s := 13) (f := f) (by omega) h0 (by rw [up2_p (by omega)]; exact h1) (by rw [up2_p (by omega)]; exact hz) (by rw [up2_p (by omega)]; exact ha)
      rw [up2_off' I _ _ (by omega : p + 11 ≠ p + 14), up2_off' I _ _ (by omega : p + 8 ≠ p + 14), up2_off' I _ _ (by omega : 13 ≠ p + 14), vw13] at h2
      exact h2
  unfold recC recA
  rw [vr11]
  split
  · rw [vw11]
  · dsimp only
    split
    · rw [vw14, e0]
      congr 1
      rw [up2_i (by decide)]
      rw [show ∀ (c : Prop) [Decidable c] (X Y : AV), (if c then X else Y) 0 14 = if c then X 0 14 else Y 0 14 from fun c _ X Y => by split <;> rfl]
      rw [up2_i (by decide)]
      have e14 : wrB (up2 (up2 (Vc I p) 0 13 (Vc I p 0 13 + 1)) 9 f 1) f (Vc I p 6 f) (fun k => I 13 k) 0 14 = Vc I p 0 14 := by
        show (if _ then _ else _) = _
        rw [if_neg (fun z => by cases z.1), up2_p (by decide), up2_i (by decide)]
      rw [e14, ite_self, vr14]
    · exact e0
