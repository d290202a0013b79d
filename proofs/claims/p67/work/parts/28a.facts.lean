theorem d0_0 : decode (cdN 0) 0 = .ok (.aload_n 0, 1) := by decide +kernel
theorem d0_1 : decode (cdN 0) 1 = .ok (.invokespecial 3, 3) := by decide +kernel
theorem c0_3 : ctN (owN 0) 3 = some (9, 0, [110, 45, 46]) := by decide +kernel
theorem d0_4 : decode (cdN 0) 4 = .ok (.aload_n 0, 1) := by decide +kernel
theorem d0_5 : decode (cdN 0) 5 = .ok (.bipush 30, 2) := by decide +kernel
theorem d0_7 : decode (cdN 0) 7 = .ok (.newarray .int, 2) := by decide +kernel
theorem d0_9 : decode (cdN 0) 9 = .ok (.putfield 9, 3) := by decide +kernel
theorem f0_9 : ftN (owN 0) 9 = some (0, 1, 111) := by decide +kernel
theorem d0_12 : decode (cdN 0) 12 = .ok (.aload_n 0, 1) := by decide +kernel
theorem d0_13 : decode (cdN 0) 13 = .ok (.bipush 30, 2) := by decide +kernel
theorem d0_15 : decode (cdN 0) 15 = .ok (.newarray .int, 2) := by decide +kernel
theorem d0_17 : decode (cdN 0) 17 = .ok (.putfield 15, 3) := by decide +kernel
theorem f0_15 : ftN (owN 0) 15 = some (0, 2, 112) := by decide +kernel
theorem d0_20 : decode (cdN 0) 20 = .ok (.aload_n 0, 1) := by decide +kernel
theorem d0_21 : decode (cdN 0) 21 = .ok (.bipush 30, 2) := by decide +kernel
theorem d0_23 : decode (cdN 0) 23 = .ok (.newarray .int, 2) := by decide +kernel
theorem d0_25 : decode (cdN 0) 25 = .ok (.putfield 18, 3) := by decide +kernel
theorem f0_18 : ftN (owN 0) 18 = some (0, 3, 113) := by decide +kernel
theorem d0_28 : decode (cdN 0) 28 = .ok (.aload_n 0, 1) := by decide +kernel
theorem d0_29 : decode (cdN 0) 29 = .ok (.bipush 30, 2) := by decide +kernel
theorem d0_31 : decode (cdN 0) 31 = .ok (.newarray .int, 2) := by decide +kernel
theorem d0_33 : decode (cdN 0) 33 = .ok (.putfield 21, 3) := by decide +kernel
theorem f0_21 : ftN (owN 0) 21 = some (0, 4, 114) := by decide +kernel
theorem d0_36 : decode (cdN 0) 36 = .ok (.return_, 1) := by decide +kernel
theorem d10_0 : decode (cdN 10) 0 = .ok (.aload_n 0, 1) := by decide +kernel
theorem d10_1 : decode (cdN 10) 1 = .ok (.iconst 0, 1) := by decide +kernel
theorem d10_2 : decode (cdN 10) 2 = .ok (.putfield 7, 3) := by decide +kernel
theorem f10_7 : ftN (owN 10) 7 = some (1, 0, 233) := by decide +kernel
theorem d10_5 : decode (cdN 10) 5 = .ok (.aload_n 0, 1) := by decide +kernel
theorem d10_6 : decode (cdN 10) 6 = .ok (.iconst 0, 1) := by decide +kernel
theorem d10_7 : decode (cdN 10) 7 = .ok (.putfield 13, 3) := by decide +kernel
theorem f10_13 : ftN (owN 10) 13 = some (1, 1, 236) := by decide +kernel
theorem d10_10 : decode (cdN 10) 10 = .ok (.aload_n 0, 1) := by decide +kernel
theorem d10_11 : decode (cdN 10) 11 = .ok (.iconst 0, 1) := by decide +kernel
theorem d10_12 : decode (cdN 10) 12 = .ok (.putfield 16, 3) := by decide +kernel
theorem f10_16 : ftN (owN 10) 16 = some (1, 2, 239) := by decide +kernel
theorem d10_15 : decode (cdN 10) 15 = .ok (.aload_n 0, 1) := by decide +kernel
theorem d10_16 : decode (cdN 10) 16 = .ok (.iconst 0, 1) := by decide +kernel
theorem d10_17 : decode (cdN 10) 17 = .ok (.putfield 19, 3) := by decide +kernel
theorem f10_19 : ftN (owN 10) 19 = some (1, 3, 242) := by decide +kernel
theorem d10_20 : decode (cdN 10) 20 = .ok (.aload_n 0, 1) := by decide +kernel
theorem d10_21 : decode (cdN 10) 21 = .ok (.iconst 0, 1) := by decide +kernel
theorem d10_22 : decode (cdN 10) 22 = .ok (.putfield 22, 3) := by decide +kernel
theorem f10_22 : ftN (owN 10) 22 = some (1, 4, 245) := by decide +kernel
theorem d10_25 : decode (cdN 10) 25 = .ok (.aload_n 0, 1) := by decide +kernel
theorem d10_26 : decode (cdN 10) 26 = .ok (.iconst 0, 1) := by decide +kernel
theorem d10_27 : decode (cdN 10) 27 = .ok (.putfield 25, 3) := by decide +kernel
theorem f10_25 : ftN (owN 10) 25 = some (1, 5, 248) := by decide +kernel
theorem d10_30 : decode (cdN 10) 30 = .ok (.aload_n 0, 1) := by decide +kernel
theorem d10_31 : decode (cdN 10) 31 = .ok (.iconst 0, 1) := by decide +kernel
theorem d10_32 : decode (cdN 10) 32 = .ok (.putfield 28, 3) := by decide +kernel
theorem f10_28 : ftN (owN 10) 28 = some (1, 6, 251) := by decide +kernel
theorem d10_35 : decode (cdN 10) 35 = .ok (.aload_n 0, 1) := by decide +kernel
theorem d10_36 : decode (cdN 10) 36 = .ok (.iconst 0, 1) := by decide +kernel
theorem d10_37 : decode (cdN 10) 37 = .ok (.putfield 31, 3) := by decide +kernel
theorem f10_31 : ftN (owN 10) 31 = some (1, 7, 254) := by decide +kernel
theorem d10_40 : decode (cdN 10) 40 = .ok (.aload_n 0, 1) := by decide +kernel
theorem d10_41 : decode (cdN 10) 41 = .ok (.iconst 0, 1) := by decide +kernel
theorem d10_42 : decode (cdN 10) 42 = .ok (.putfield 34, 3) := by decide +kernel
theorem f10_34 : ftN (owN 10) 34 = some (1, 8, 257) := by decide +kernel
theorem d10_45 : decode (cdN 10) 45 = .ok (.return_, 1) := by decide +kernel
theorem d11_0 : decode (cdN 11) 0 = .ok (.aload_n 0, 1) := by decide +kernel
theorem d11_1 : decode (cdN 11) 1 = .ok (.aload_n 1, 1) := by decide +kernel
theorem d11_2 : decode (cdN 11) 2 = .ok (.getfield 7, 3) := by decide +kernel
theorem f11_7 : ftN (owN 11) 7 = some (1, 0, 233) := by decide +kernel
theorem d11_5 : decode (cdN 11) 5 = .ok (.putfield 7, 3) := by decide +kernel
theorem d11_8 : decode (cdN 11) 8 = .ok (.aload_n 0, 1) := by decide +kernel
theorem d11_9 : decode (cdN 11) 9 = .ok (.aload_n 1, 1) := by decide +kernel
theorem d11_10 : decode (cdN 11) 10 = .ok (.getfield 13, 3) := by decide +kernel
theorem f11_13 : ftN (owN 11) 13 = some (1, 1, 236) := by decide +kernel
theorem d11_13 : decode (cdN 11) 13 = .ok (.putfield 13, 3) := by decide +kernel
theorem d11_16 : decode (cdN 11) 16 = .ok (.aload_n 0, 1) := by decide +kernel
theorem d11_17 : decode (cdN 11) 17 = .ok (.aload_n 1, 1) := by decide +kernel
theorem d11_18 : decode (cdN 11) 18 = .ok (.getfield 16, 3) := by decide +kernel
theorem f11_16 : ftN (owN 11) 16 = some (1, 2, 239) := by decide +kernel
theorem d11_21 : decode (cdN 11) 21 = .ok (.putfield 16, 3) := by decide +kernel
theorem d11_24 : decode (cdN 11) 24 = .ok (.aload_n 0, 1) := by decide +kernel
theorem d11_25 : decode (cdN 11) 25 = .ok (.aload_n 1, 1) := by decide +kernel
theorem d11_26 : decode (cdN 11) 26 = .ok (.getfield 19, 3) := by decide +kernel
theorem f11_19 : ftN (owN 11) 19 = some (1, 3, 242) := by decide +kernel
theorem d11_29 : decode (cdN 11) 29 = .ok (.putfield 19, 3) := by decide +kernel
theorem d11_32 : decode (cdN 11) 32 = .ok (.aload_n 0, 1) := by decide +kernel
theorem d11_33 : decode (cdN 11) 33 = .ok (.aload_n 1, 1) := by decide +kernel
theorem d11_34 : decode (cdN 11) 34 = .ok (.getfield 22, 3) := by decide +kernel
theorem f11_22 : ftN (owN 11) 22 = some (1, 4, 245) := by decide +kernel
theorem d11_37 : decode (cdN 11) 37 = .ok (.putfield 22, 3) := by decide +kernel
theorem d11_40 : decode (cdN 11) 40 = .ok (.aload_n 0, 1) := by decide +kernel
theorem d11_41 : decode (cdN 11) 41 = .ok (.aload_n 1, 1) := by decide +kernel
theorem d11_42 : decode (cdN 11) 42 = .ok (.getfield 25, 3) := by decide +kernel
theorem f11_25 : ftN (owN 11) 25 = some (1, 5, 248) := by decide +kernel
theorem d11_45 : decode (cdN 11) 45 = .ok (.putfield 25, 3) := by decide +kernel
theorem d11_48 : decode (cdN 11) 48 = .ok (.aload_n 0, 1) := by decide +kernel
theorem d11_49 : decode (cdN 11) 49 = .ok (.aload_n 1, 1) := by decide +kernel
theorem d11_50 : decode (cdN 11) 50 = .ok (.getfield 28, 3) := by decide +kernel
theorem f11_28 : ftN (owN 11) 28 = some (1, 6, 251) := by decide +kernel
theorem d11_53 : decode (cdN 11) 53 = .ok (.putfield 28, 3) := by decide +kernel
theorem d11_56 : decode (cdN 11) 56 = .ok (.aload_n 0, 1) := by decide +kernel
theorem d11_57 : decode (cdN 11) 57 = .ok (.aload_n 1, 1) := by decide +kernel
theorem d11_58 : decode (cdN 11) 58 = .ok (.getfield 31, 3) := by decide +kernel
theorem f11_31 : ftN (owN 11) 31 = some (1, 7, 254) := by decide +kernel
theorem d11_61 : decode (cdN 11) 61 = .ok (.putfield 31, 3) := by decide +kernel
theorem d11_64 : decode (cdN 11) 64 = .ok (.aload_n 0, 1) := by decide +kernel
theorem d11_65 : decode (cdN 11) 65 = .ok (.aload_n 1, 1) := by decide +kernel
theorem d11_66 : decode (cdN 11) 66 = .ok (.getfield 34, 3) := by decide +kernel
theorem f11_34 : ftN (owN 11) 34 = some (1, 8, 257) := by decide +kernel
theorem d11_69 : decode (cdN 11) 69 = .ok (.putfield 34, 3) := by decide +kernel
theorem d11_72 : decode (cdN 11) 72 = .ok (.return_, 1) := by decide +kernel
theorem d13_0 : decode (cdN 13) 0 = .ok (.aload_n 0, 1) := by decide +kernel
theorem d13_1 : decode (cdN 13) 1 = .ok (.aload_n 1, 1) := by decide +kernel
theorem d13_2 : decode (cdN 13) 2 = .ok (.getfield 21, 3) := by decide +kernel
theorem f13_21 : ftN (owN 13) 21 = some (2, 0, 172) := by decide +kernel
theorem d13_5 : decode (cdN 13) 5 = .ok (.putfield 21, 3) := by decide +kernel
theorem d13_8 : decode (cdN 13) 8 = .ok (.aload_n 1, 1) := by decide +kernel
theorem d13_9 : decode (cdN 13) 9 = .ok (.getfield 9, 3) := by decide +kernel
theorem f13_9 : ftN (owN 13) 9 = some (2, 1, 175) := by decide +kernel
theorem d13_12 : decode (cdN 13) 12 = .ok (.iconst 0, 1) := by decide +kernel
theorem d13_13 : decode (cdN 13) 13 = .ok (.aload_n 0, 1) := by decide +kernel
theorem d13_14 : decode (cdN 13) 14 = .ok (.getfield 9, 3) := by decide +kernel
theorem d13_17 : decode (cdN 13) 17 = .ok (.iconst 0, 1) := by decide +kernel
theorem d13_18 : decode (cdN 13) 18 = .ok (.iconst 3, 1) := by decide +kernel
theorem d13_19 : decode (cdN 13) 19 = .ok (.invokestatic 25, 3) := by decide +kernel
theorem c13_25 : ctN (owN 13) 25 = some (8, 0, [573, 378, 377, 19]) := by decide +kernel
theorem d13_22 : decode (cdN 13) 22 = .ok (.aload_n 1, 1) := by decide +kernel
theorem d13_23 : decode (cdN 13) 23 = .ok (.getfield 15, 3) := by decide +kernel
theorem f13_15 : ftN (owN 13) 15 = some (2, 2, 176) := by decide +kernel
theorem d13_26 : decode (cdN 13) 26 = .ok (.iconst 0, 1) := by decide +kernel
theorem d13_27 : decode (cdN 13) 27 = .ok (.aload_n 0, 1) := by decide +kernel
theorem d13_28 : decode (cdN 13) 28 = .ok (.getfield 15, 3) := by decide +kernel
theorem d13_31 : decode (cdN 13) 31 = .ok (.iconst 0, 1) := by decide +kernel
theorem d13_32 : decode (cdN 13) 32 = .ok (.iconst 3, 1) := by decide +kernel
theorem d13_33 : decode (cdN 13) 33 = .ok (.invokestatic 25, 3) := by decide +kernel
theorem d13_36 : decode (cdN 13) 36 = .ok (.aload_n 1, 1) := by decide +kernel
theorem d13_37 : decode (cdN 13) 37 = .ok (.getfield 18, 3) := by decide +kernel
theorem f13_18 : ftN (owN 13) 18 = some (2, 3, 177) := by decide +kernel
theorem d13_40 : decode (cdN 13) 40 = .ok (.iconst 0, 1) := by decide +kernel
theorem d13_41 : decode (cdN 13) 41 = .ok (.aload_n 0, 1) := by decide +kernel
theorem d13_42 : decode (cdN 13) 42 = .ok (.getfield 18, 3) := by decide +kernel
theorem d13_45 : decode (cdN 13) 45 = .ok (.iconst 0, 1) := by decide +kernel
theorem d13_46 : decode (cdN 13) 46 = .ok (.iconst 3, 1) := by decide +kernel
theorem d13_47 : decode (cdN 13) 47 = .ok (.invokestatic 25, 3) := by decide +kernel
theorem d13_50 : decode (cdN 13) 50 = .ok (.return_, 1) := by decide +kernel
theorem d18_0 : decode (cdN 18) 0 = .ok (.aload_n 0, 1) := by decide +kernel
theorem d18_1 : decode (cdN 18) 1 = .ok (.aload_n 1, 1) := by decide +kernel
theorem d18_2 : decode (cdN 18) 2 = .ok (.getfield 30, 3) := by decide +kernel
theorem f18_30 : ftN (owN 18) 30 = some (3, 0, 193) := by decide +kernel
theorem d18_5 : decode (cdN 18) 5 = .ok (.putfield 30, 3) := by decide +kernel
theorem d18_8 : decode (cdN 18) 8 = .ok (.aload_n 1, 1) := by decide +kernel
theorem d18_9 : decode (cdN 18) 9 = .ok (.getfield 9, 3) := by decide +kernel
theorem f18_9 : ftN (owN 18) 9 = some (3, 1, 196) := by decide +kernel
theorem d18_12 : decode (cdN 18) 12 = .ok (.iconst 0, 1) := by decide +kernel
theorem d18_13 : decode (cdN 18) 13 = .ok (.aload_n 0, 1) := by decide +kernel
theorem d18_14 : decode (cdN 18) 14 = .ok (.getfield 9, 3) := by decide +kernel
theorem d18_17 : decode (cdN 18) 17 = .ok (.iconst 0, 1) := by decide +kernel
theorem d18_18 : decode (cdN 18) 18 = .ok (.bipush 48, 2) := by decide +kernel
theorem d18_20 : decode (cdN 18) 20 = .ok (.invokestatic 34, 3) := by decide +kernel
theorem c18_34 : ctN (owN 18) 34 = some (8, 0, [376, 378, 377, 19]) := by decide +kernel
theorem d18_23 : decode (cdN 18) 23 = .ok (.aload_n 1, 1) := by decide +kernel
theorem d18_24 : decode (cdN 18) 24 = .ok (.getfield 15, 3) := by decide +kernel
theorem f18_15 : ftN (owN 18) 15 = some (3, 2, 199) := by decide +kernel
theorem d18_27 : decode (cdN 18) 27 = .ok (.iconst 0, 1) := by decide +kernel
theorem d18_28 : decode (cdN 18) 28 = .ok (.aload_n 0, 1) := by decide +kernel
theorem d18_29 : decode (cdN 18) 29 = .ok (.getfield 15, 3) := by decide +kernel
theorem d18_32 : decode (cdN 18) 32 = .ok (.iconst 0, 1) := by decide +kernel
theorem d18_33 : decode (cdN 18) 33 = .ok (.bipush 48, 2) := by decide +kernel
theorem d18_35 : decode (cdN 18) 35 = .ok (.invokestatic 34, 3) := by decide +kernel
theorem d18_38 : decode (cdN 18) 38 = .ok (.aload_n 1, 1) := by decide +kernel
theorem d18_39 : decode (cdN 18) 39 = .ok (.getfield 18, 3) := by decide +kernel
theorem f18_18 : ftN (owN 18) 18 = some (3, 3, 202) := by decide +kernel
theorem d18_42 : decode (cdN 18) 42 = .ok (.iconst 0, 1) := by decide +kernel
theorem d18_43 : decode (cdN 18) 43 = .ok (.aload_n 0, 1) := by decide +kernel
theorem d18_44 : decode (cdN 18) 44 = .ok (.getfield 18, 3) := by decide +kernel
theorem d18_47 : decode (cdN 18) 47 = .ok (.iconst 0, 1) := by decide +kernel
theorem d18_48 : decode (cdN 18) 48 = .ok (.bipush 48, 2) := by decide +kernel
theorem d18_50 : decode (cdN 18) 50 = .ok (.invokestatic 34, 3) := by decide +kernel
theorem d18_53 : decode (cdN 18) 53 = .ok (.aload_n 1, 1) := by decide +kernel
theorem d18_54 : decode (cdN 18) 54 = .ok (.getfield 21, 3) := by decide +kernel
theorem f18_21 : ftN (owN 18) 21 = some (3, 4, 205) := by decide +kernel
theorem d18_57 : decode (cdN 18) 57 = .ok (.iconst 0, 1) := by decide +kernel
theorem d18_58 : decode (cdN 18) 58 = .ok (.aload_n 0, 1) := by decide +kernel
theorem d18_59 : decode (cdN 18) 59 = .ok (.getfield 21, 3) := by decide +kernel
theorem d18_62 : decode (cdN 18) 62 = .ok (.iconst 0, 1) := by decide +kernel
theorem d18_63 : decode (cdN 18) 63 = .ok (.bipush 48, 2) := by decide +kernel
theorem d18_65 : decode (cdN 18) 65 = .ok (.invokestatic 34, 3) := by decide +kernel
theorem d18_68 : decode (cdN 18) 68 = .ok (.aload_n 1, 1) := by decide +kernel
theorem d18_69 : decode (cdN 18) 69 = .ok (.getfield 24, 3) := by decide +kernel
theorem f18_24 : ftN (owN 18) 24 = some (3, 5, 207) := by decide +kernel
theorem d18_72 : decode (cdN 18) 72 = .ok (.iconst 0, 1) := by decide +kernel
theorem d18_73 : decode (cdN 18) 73 = .ok (.aload_n 0, 1) := by decide +kernel
theorem d18_74 : decode (cdN 18) 74 = .ok (.getfield 24, 3) := by decide +kernel
theorem d18_77 : decode (cdN 18) 77 = .ok (.iconst 0, 1) := by decide +kernel
theorem d18_78 : decode (cdN 18) 78 = .ok (.sipush 288, 3) := by decide +kernel
theorem d18_81 : decode (cdN 18) 81 = .ok (.invokestatic 34, 3) := by decide +kernel
theorem d18_84 : decode (cdN 18) 84 = .ok (.aload_n 1, 1) := by decide +kernel
theorem d18_85 : decode (cdN 18) 85 = .ok (.getfield 27, 3) := by decide +kernel
theorem f18_27 : ftN (owN 18) 27 = some (3, 6, 210) := by decide +kernel
theorem d18_88 : decode (cdN 18) 88 = .ok (.iconst 0, 1) := by decide +kernel
theorem d18_89 : decode (cdN 18) 89 = .ok (.aload_n 0, 1) := by decide +kernel
theorem d18_90 : decode (cdN 18) 90 = .ok (.getfield 27, 3) := by decide +kernel
theorem d18_93 : decode (cdN 18) 93 = .ok (.iconst 0, 1) := by decide +kernel
theorem d18_94 : decode (cdN 18) 94 = .ok (.sipush 288, 3) := by decide +kernel
theorem d18_97 : decode (cdN 18) 97 = .ok (.invokestatic 34, 3) := by decide +kernel
theorem d18_100 : decode (cdN 18) 100 = .ok (.return_, 1) := by decide +kernel
theorem d19_0 : decode (cdN 19) 0 = .ok (.aload_n 0, 1) := by decide +kernel
theorem d19_1 : decode (cdN 19) 1 = .ok (.getfield 30, 3) := by decide +kernel
theorem f19_30 : ftN (owN 19) 30 = some (3, 0, 193) := by decide +kernel
theorem d19_4 : decode (cdN 19) 4 = .ok (.ifCond .lt 34, 3) := by decide +kernel
theorem d19_7 : decode (cdN 19) 7 = .ok (.aload_n 0, 1) := by decide +kernel
theorem d19_8 : decode (cdN 19) 8 = .ok (.getfield 30, 3) := by decide +kernel
theorem d19_11 : decode (cdN 19) 11 = .ok (.bipush 48, 2) := by decide +kernel
theorem d19_13 : decode (cdN 19) 13 = .ok (.if_icmp .ge 25, 3) := by decide +kernel
theorem d19_16 : decode (cdN 19) 16 = .ok (.iload_n 3, 1) := by decide +kernel
theorem d19_17 : decode (cdN 19) 17 = .ok (.iconst 1, 1) := by decide +kernel
theorem d19_18 : decode (cdN 19) 18 = .ok (.if_icmp .lt 20, 3) := by decide +kernel
theorem d19_21 : decode (cdN 19) 21 = .ok (.iload_n 3, 1) := by decide +kernel
theorem d19_22 : decode (cdN 19) 22 = .ok (.iconst 4, 1) := by decide +kernel
theorem d19_23 : decode (cdN 19) 23 = .ok (.if_icmp .gt 15, 3) := by decide +kernel
theorem d19_26 : decode (cdN 19) 26 = .ok (.iload_n 2, 1) := by decide +kernel
theorem d19_27 : decode (cdN 19) 27 = .ok (.ifCond .lt 11, 3) := by decide +kernel
theorem d19_30 : decode (cdN 19) 30 = .ok (.iload_n 2, 1) := by decide +kernel
theorem d19_31 : decode (cdN 19) 31 = .ok (.aload_n 1, 1) := by decide +kernel
theorem d19_32 : decode (cdN 19) 32 = .ok (.arraylength, 1) := by decide +kernel
theorem d19_33 : decode (cdN 19) 33 = .ok (.iload_n 3, 1) := by decide +kernel
theorem d19_34 : decode (cdN 19) 34 = .ok (.isub, 1) := by decide +kernel
theorem d19_35 : decode (cdN 19) 35 = .ok (.if_icmp .le 4, 3) := by decide +kernel
theorem d19_38 : decode (cdN 19) 38 = .ok (.return_, 1) := by decide +kernel
theorem d19_39 : decode (cdN 19) 39 = .ok (.aload_n 0, 1) := by decide +kernel
theorem d19_40 : decode (cdN 19) 40 = .ok (.getfield 30, 3) := by decide +kernel
theorem d19_43 : decode (cdN 19) 43 = .ok (.bipush 6, 2) := by decide +kernel
theorem d19_45 : decode (cdN 19) 45 = .ok (.imul, 1) := by decide +kernel
theorem d19_46 : decode (cdN 19) 46 = .ok (.istore 4, 2) := by decide +kernel
theorem d19_48 : decode (cdN 19) 48 = .ok (.aload_n 0, 1) := by decide +kernel
theorem d19_49 : decode (cdN 19) 49 = .ok (.getfield 24, 3) := by decide +kernel
theorem f19_24 : ftN (owN 19) 24 = some (3, 5, 207) := by decide +kernel
theorem d19_52 : decode (cdN 19) 52 = .ok (.iload 4, 2) := by decide +kernel
theorem d19_54 : decode (cdN 19) 54 = .ok (.aload_n 0, 1) := by decide +kernel
theorem d19_55 : decode (cdN 19) 55 = .ok (.getfield 30, 3) := by decide +kernel
theorem d19_58 : decode (cdN 19) 58 = .ok (.bipush 16, 2) := by decide +kernel
theorem d19_60 : decode (cdN 19) 60 = .ok (.irem, 1) := by decide +kernel
theorem d19_61 : decode (cdN 19) 61 = .ok (.bipush 16, 2) := by decide +kernel
theorem d19_63 : decode (cdN 19) 63 = .ok (.imul, 1) := by decide +kernel
theorem d19_64 : decode (cdN 19) 64 = .ok (.iload_n 3, 1) := by decide +kernel
theorem d19_65 : decode (cdN 19) 65 = .ok (.iadd, 1) := by decide +kernel
theorem d19_66 : decode (cdN 19) 66 = .ok (.iastore, 1) := by decide +kernel
theorem d19_67 : decode (cdN 19) 67 = .ok (.aload_n 1, 1) := by decide +kernel
theorem d19_68 : decode (cdN 19) 68 = .ok (.iload_n 2, 1) := by decide +kernel
theorem d19_69 : decode (cdN 19) 69 = .ok (.aload_n 0, 1) := by decide +kernel
theorem d19_70 : decode (cdN 19) 70 = .ok (.getfield 24, 3) := by decide +kernel
theorem d19_73 : decode (cdN 19) 73 = .ok (.iload 4, 2) := by decide +kernel
theorem d19_75 : decode (cdN 19) 75 = .ok (.iconst 1, 1) := by decide +kernel
theorem d19_76 : decode (cdN 19) 76 = .ok (.iadd, 1) := by decide +kernel
theorem d19_77 : decode (cdN 19) 77 = .ok (.iload_n 3, 1) := by decide +kernel
theorem d19_78 : decode (cdN 19) 78 = .ok (.invokestatic 34, 3) := by decide +kernel
theorem c19_34 : ctN (owN 19) 34 = some (8, 0, [376, 378, 377, 19]) := by decide +kernel
theorem d19_81 : decode (cdN 19) 81 = .ok (.aload_n 0, 1) := by decide +kernel
theorem d19_82 : decode (cdN 19) 82 = .ok (.getfield 24, 3) := by decide +kernel
theorem d19_85 : decode (cdN 19) 85 = .ok (.iload 4, 2) := by decide +kernel
theorem d19_87 : decode (cdN 19) 87 = .ok (.iconst 1, 1) := by decide +kernel
theorem d19_88 : decode (cdN 19) 88 = .ok (.iadd, 1) := by decide +kernel
theorem d19_89 : decode (cdN 19) 89 = .ok (.iload_n 3, 1) := by decide +kernel
theorem d19_90 : decode (cdN 19) 90 = .ok (.iadd, 1) := by decide +kernel
theorem d19_91 : decode (cdN 19) 91 = .ok (.aload_n 0, 1) := by decide +kernel
theorem d19_92 : decode (cdN 19) 92 = .ok (.getfield 24, 3) := by decide +kernel
theorem d19_95 : decode (cdN 19) 95 = .ok (.iload 4, 2) := by decide +kernel
theorem d19_97 : decode (cdN 19) 97 = .ok (.iload 4, 2) := by decide +kernel
theorem d19_99 : decode (cdN 19) 99 = .ok (.iconst 1, 1) := by decide +kernel
theorem d19_100 : decode (cdN 19) 100 = .ok (.iadd, 1) := by decide +kernel
theorem d19_101 : decode (cdN 19) 101 = .ok (.iload_n 3, 1) := by decide +kernel
theorem d19_102 : decode (cdN 19) 102 = .ok (.iadd, 1) := by decide +kernel
theorem d19_103 : decode (cdN 19) 103 = .ok (.invokestatic 40, 3) := by decide +kernel
theorem c19_40 : ctN (owN 19) 40 = some (3, 143, [380, 23]) := by decide +kernel
theorem d19_106 : decode (cdN 19) 106 = .ok (.iastore, 1) := by decide +kernel
theorem d19_107 : decode (cdN 19) 107 = .ok (.aload_n 0, 1) := by decide +kernel
theorem d19_108 : decode (cdN 19) 108 = .ok (.getfield 9, 3) := by decide +kernel
theorem f19_9 : ftN (owN 19) 9 = some (3, 1, 196) := by decide +kernel
theorem d19_111 : decode (cdN 19) 111 = .ok (.aload_n 0, 1) := by decide +kernel
theorem d19_112 : decode (cdN 19) 112 = .ok (.getfield 30, 3) := by decide +kernel
theorem d19_115 : decode (cdN 19) 115 = .ok (.iload_n 3, 1) := by decide +kernel
theorem d19_116 : decode (cdN 19) 116 = .ok (.iconst 2, 1) := by decide +kernel
theorem d19_117 : decode (cdN 19) 117 = .ok (.iadd, 1) := by decide +kernel
theorem d19_118 : decode (cdN 19) 118 = .ok (.iastore, 1) := by decide +kernel
theorem d19_119 : decode (cdN 19) 119 = .ok (.aload_n 0, 1) := by decide +kernel
theorem d19_120 : decode (cdN 19) 120 = .ok (.getfield 15, 3) := by decide +kernel
theorem f19_15 : ftN (owN 19) 15 = some (3, 2, 199) := by decide +kernel
theorem d19_123 : decode (cdN 19) 123 = .ok (.aload_n 0, 1) := by decide +kernel
theorem d19_124 : decode (cdN 19) 124 = .ok (.getfield 30, 3) := by decide +kernel
theorem d19_127 : decode (cdN 19) 127 = .ok (.iconst 0, 1) := by decide +kernel
theorem d19_128 : decode (cdN 19) 128 = .ok (.iastore, 1) := by decide +kernel
theorem d19_129 : decode (cdN 19) 129 = .ok (.aload_n 0, 1) := by decide +kernel
theorem d19_130 : decode (cdN 19) 130 = .ok (.getfield 18, 3) := by decide +kernel
theorem f19_18 : ftN (owN 19) 18 = some (3, 3, 202) := by decide +kernel
theorem d19_133 : decode (cdN 19) 133 = .ok (.aload_n 0, 1) := by decide +kernel
theorem d19_134 : decode (cdN 19) 134 = .ok (.getfield 30, 3) := by decide +kernel
theorem d19_137 : decode (cdN 19) 137 = .ok (.iconst 0, 1) := by decide +kernel
theorem d19_138 : decode (cdN 19) 138 = .ok (.iastore, 1) := by decide +kernel
theorem d19_139 : decode (cdN 19) 139 = .ok (.aload_n 0, 1) := by decide +kernel
theorem d19_140 : decode (cdN 19) 140 = .ok (.getfield 21, 3) := by decide +kernel
theorem f19_21 : ftN (owN 19) 21 = some (3, 4, 205) := by decide +kernel
theorem d19_143 : decode (cdN 19) 143 = .ok (.aload_n 0, 1) := by decide +kernel
theorem d19_144 : decode (cdN 19) 144 = .ok (.getfield 30, 3) := by decide +kernel
theorem d19_147 : decode (cdN 19) 147 = .ok (.iconst 0, 1) := by decide +kernel
theorem d19_148 : decode (cdN 19) 148 = .ok (.iastore, 1) := by decide +kernel
theorem d19_149 : decode (cdN 19) 149 = .ok (.aload_n 0, 1) := by decide +kernel
theorem d19_150 : decode (cdN 19) 150 = .ok (.dup, 1) := by decide +kernel
theorem d19_151 : decode (cdN 19) 151 = .ok (.getfield 30, 3) := by decide +kernel
theorem d19_154 : decode (cdN 19) 154 = .ok (.iconst 1, 1) := by decide +kernel
theorem d19_155 : decode (cdN 19) 155 = .ok (.iadd, 1) := by decide +kernel
theorem d19_156 : decode (cdN 19) 156 = .ok (.putfield 30, 3) := by decide +kernel
theorem d19_159 : decode (cdN 19) 159 = .ok (.return_, 1) := by decide +kernel
theorem d29_0 : decode (cdN 29) 0 = .ok (.aload_n 0, 1) := by decide +kernel
theorem d29_1 : decode (cdN 29) 1 = .ok (.getfield 11, 3) := by decide +kernel
theorem f29_11 : ftN (owN 29) 11 = some (4, 2, 335) := by decide +kernel
theorem d29_4 : decode (cdN 29) 4 = .ok (.aload_n 0, 1) := by decide +kernel
theorem d29_5 : decode (cdN 29) 5 = .ok (.getfield 18, 3) := by decide +kernel
theorem f29_18 : ftN (owN 29) 18 = some (4, 1, 334) := by decide +kernel
theorem d29_8 : decode (cdN 29) 8 = .ok (.aaload, 1) := by decide +kernel
theorem d29_9 : decode (cdN 29) 9 = .ok (.astore_n 2, 1) := by decide +kernel
theorem d29_10 : decode (cdN 29) 10 = .ok (.aload_n 2, 1) := by decide +kernel
theorem d29_11 : decode (cdN 29) 11 = .ok (.ifnull 36, 3) := by decide +kernel
theorem d29_14 : decode (cdN 29) 14 = .ok (.aload_n 2, 1) := by decide +kernel
theorem d29_15 : decode (cdN 29) 15 = .ok (.aload_n 1, 1) := by decide +kernel
theorem d29_16 : decode (cdN 29) 16 = .ok (.invokevirtual 22, 3) := by decide +kernel
theorem c29_22 : ctN (owN 29) 22 = some (0, 34, [763, 565, 566, 29]) := by decide +kernel
theorem d29_19 : decode (cdN 29) 19 = .ok (.aload_n 0, 1) := by decide +kernel
theorem d29_20 : decode (cdN 29) 20 = .ok (.aload_n 0, 1) := by decide +kernel
theorem d29_21 : decode (cdN 29) 21 = .ok (.getfield 18, 3) := by decide +kernel
theorem d29_24 : decode (cdN 29) 24 = .ok (.iconst 1, 1) := by decide +kernel
theorem d29_25 : decode (cdN 29) 25 = .ok (.iadd, 1) := by decide +kernel
theorem d29_26 : decode (cdN 29) 26 = .ok (.bipush 8, 2) := by decide +kernel
theorem d29_28 : decode (cdN 29) 28 = .ok (.irem, 1) := by decide +kernel
theorem d29_29 : decode (cdN 29) 29 = .ok (.putfield 18, 3) := by decide +kernel
theorem d29_32 : decode (cdN 29) 32 = .ok (.aload_n 0, 1) := by decide +kernel
theorem d29_33 : decode (cdN 29) 33 = .ok (.aload_n 0, 1) := by decide +kernel
theorem d29_34 : decode (cdN 29) 34 = .ok (.getfield 26, 3) := by decide +kernel
theorem f29_26 : ftN (owN 29) 26 = some (4, 0, 332) := by decide +kernel
theorem d29_37 : decode (cdN 29) 37 = .ok (.iconst 1, 1) := by decide +kernel
theorem d29_38 : decode (cdN 29) 38 = .ok (.iadd, 1) := by decide +kernel
theorem d29_39 : decode (cdN 29) 39 = .ok (.bipush 8, 2) := by decide +kernel
theorem d29_41 : decode (cdN 29) 41 = .ok (.invokestatic 29, 3) := by decide +kernel
theorem c29_29 : ctN (owN 29) 29 = some (6, 0, [764, 370, 17, 371]) := by decide +kernel
theorem d29_44 : decode (cdN 29) 44 = .ok (.putfield 26, 3) := by decide +kernel
theorem d29_47 : decode (cdN 29) 47 = .ok (.return_, 1) := by decide +kernel
theorem d30_0 : decode (cdN 30) 0 = .ok (.aload_n 0, 1) := by decide +kernel
theorem d30_1 : decode (cdN 30) 1 = .ok (.getfield 18, 3) := by decide +kernel
theorem f30_18 : ftN (owN 30) 18 = some (4, 1, 334) := by decide +kernel
theorem d30_4 : decode (cdN 30) 4 = .ok (.bipush 8, 2) := by decide +kernel
theorem d30_6 : decode (cdN 30) 6 = .ok (.iadd, 1) := by decide +kernel
theorem d30_7 : decode (cdN 30) 7 = .ok (.iconst 1, 1) := by decide +kernel
theorem d30_8 : decode (cdN 30) 8 = .ok (.isub, 1) := by decide +kernel
theorem d30_9 : decode (cdN 30) 9 = .ok (.bipush 8, 2) := by decide +kernel
theorem d30_11 : decode (cdN 30) 11 = .ok (.irem, 1) := by decide +kernel
theorem d30_12 : decode (cdN 30) 12 = .ok (.istore_n 2, 1) := by decide +kernel
theorem d30_13 : decode (cdN 30) 13 = .ok (.aload_n 0, 1) := by decide +kernel
theorem d30_14 : decode (cdN 30) 14 = .ok (.getfield 11, 3) := by decide +kernel
theorem f30_11 : ftN (owN 30) 11 = some (4, 2, 335) := by decide +kernel
theorem d30_17 : decode (cdN 30) 17 = .ok (.iload_n 2, 1) := by decide +kernel
theorem d30_18 : decode (cdN 30) 18 = .ok (.aaload, 1) := by decide +kernel
theorem d30_19 : decode (cdN 30) 19 = .ok (.astore_n 3, 1) := by decide +kernel
theorem d30_20 : decode (cdN 30) 20 = .ok (.aload_n 0, 1) := by decide +kernel
theorem d30_21 : decode (cdN 30) 21 = .ok (.getfield 26, 3) := by decide +kernel
theorem f30_26 : ftN (owN 30) 26 = some (4, 0, 332) := by decide +kernel
theorem d30_24 : decode (cdN 30) 24 = .ok (.ifCond .le 27, 3) := by decide +kernel
theorem d30_27 : decode (cdN 30) 27 = .ok (.aload_n 3, 1) := by decide +kernel
theorem d30_28 : decode (cdN 30) 28 = .ok (.ifnull 23, 3) := by decide +kernel
theorem d30_31 : decode (cdN 30) 31 = .ok (.aload_n 1, 1) := by decide +kernel
theorem d30_32 : decode (cdN 30) 32 = .ok (.aload_n 3, 1) := by decide +kernel
theorem d30_33 : decode (cdN 30) 33 = .ok (.invokevirtual 22, 3) := by decide +kernel
theorem c30_22 : ctN (owN 30) 22 = some (0, 34, [763, 565, 566, 29]) := by decide +kernel
theorem d30_36 : decode (cdN 30) 36 = .ok (.aload_n 0, 1) := by decide +kernel
theorem d30_37 : decode (cdN 30) 37 = .ok (.iload_n 2, 1) := by decide +kernel
theorem d30_38 : decode (cdN 30) 38 = .ok (.putfield 18, 3) := by decide +kernel
theorem d30_41 : decode (cdN 30) 41 = .ok (.aload_n 0, 1) := by decide +kernel
theorem d30_42 : decode (cdN 30) 42 = .ok (.dup, 1) := by decide +kernel
theorem d30_43 : decode (cdN 30) 43 = .ok (.getfield 26, 3) := by decide +kernel
theorem d30_46 : decode (cdN 30) 46 = .ok (.iconst 1, 1) := by decide +kernel
theorem d30_47 : decode (cdN 30) 47 = .ok (.isub, 1) := by decide +kernel
theorem d30_48 : decode (cdN 30) 48 = .ok (.putfield 26, 3) := by decide +kernel
theorem d30_51 : decode (cdN 30) 51 = .ok (.return_, 1) := by decide +kernel
theorem d31_0 : decode (cdN 31) 0 = .ok (.aload_n 0, 1) := by decide +kernel
theorem d31_1 : decode (cdN 31) 1 = .ok (.iconst 0, 1) := by decide +kernel
theorem d31_2 : decode (cdN 31) 2 = .ok (.putfield 26, 3) := by decide +kernel
theorem f31_26 : ftN (owN 31) 26 = some (4, 0, 332) := by decide +kernel
theorem d31_5 : decode (cdN 31) 5 = .ok (.return_, 1) := by decide +kernel
theorem d33_0 : decode (cdN 33) 0 = .ok (.aload_n 0, 1) := by decide +kernel
theorem d33_1 : decode (cdN 33) 1 = .ok (.iload_n 1, 1) := by decide +kernel
theorem d33_2 : decode (cdN 33) 2 = .ok (.putfield 39, 3) := by decide +kernel
theorem f33_39 : ftN (owN 33) 39 = some (5, 0, 279) := by decide +kernel
theorem d33_5 : decode (cdN 33) 5 = .ok (.aload_n 0, 1) := by decide +kernel
theorem d33_6 : decode (cdN 33) 6 = .ok (.iload_n 2, 1) := by decide +kernel
theorem d33_7 : decode (cdN 33) 7 = .ok (.putfield 43, 3) := by decide +kernel
theorem f33_43 : ftN (owN 33) 43 = some (5, 1, 281) := by decide +kernel
theorem d33_10 : decode (cdN 33) 10 = .ok (.aload_n 0, 1) := by decide +kernel
theorem d33_11 : decode (cdN 33) 11 = .ok (.iload_n 3, 1) := by decide +kernel
theorem d33_12 : decode (cdN 33) 12 = .ok (.putfield 46, 3) := by decide +kernel
theorem f33_46 : ftN (owN 33) 46 = some (5, 2, 284) := by decide +kernel
theorem d33_15 : decode (cdN 33) 15 = .ok (.aload_n 0, 1) := by decide +kernel
theorem d33_16 : decode (cdN 33) 16 = .ok (.iload 4, 2) := by decide +kernel
theorem d33_18 : decode (cdN 33) 18 = .ok (.putfield 49, 3) := by decide +kernel
theorem f33_49 : ftN (owN 33) 49 = some (5, 3, 285) := by decide +kernel
theorem d33_21 : decode (cdN 33) 21 = .ok (.aload_n 0, 1) := by decide +kernel
theorem d33_22 : decode (cdN 33) 22 = .ok (.iconst 0, 1) := by decide +kernel
theorem d33_23 : decode (cdN 33) 23 = .ok (.putfield 52, 3) := by decide +kernel
theorem f33_52 : ftN (owN 33) 52 = some (5, 4, 286) := by decide +kernel
theorem d33_26 : decode (cdN 33) 26 = .ok (.aload_n 0, 1) := by decide +kernel
theorem d33_27 : decode (cdN 33) 27 = .ok (.iconst 0, 1) := by decide +kernel
theorem d33_28 : decode (cdN 33) 28 = .ok (.putfield 55, 3) := by decide +kernel
theorem f33_55 : ftN (owN 33) 55 = some (5, 5, 288) := by decide +kernel
theorem d33_31 : decode (cdN 33) 31 = .ok (.aload_n 0, 1) := by decide +kernel
theorem d33_32 : decode (cdN 33) 32 = .ok (.iconst (-1), 1) := by decide +kernel
theorem d33_33 : decode (cdN 33) 33 = .ok (.putfield 58, 3) := by decide +kernel
theorem f33_58 : ftN (owN 33) 58 = some (5, 6, 290) := by decide +kernel
theorem d33_36 : decode (cdN 33) 36 = .ok (.aload_n 0, 1) := by decide +kernel
theorem d33_37 : decode (cdN 33) 37 = .ok (.iconst 0, 1) := by decide +kernel
theorem d33_38 : decode (cdN 33) 38 = .ok (.putfield 61, 3) := by decide +kernel
theorem f33_61 : ftN (owN 33) 61 = some (5, 7, 291) := by decide +kernel
theorem d33_41 : decode (cdN 33) 41 = .ok (.aload_n 0, 1) := by decide +kernel
theorem d33_42 : decode (cdN 33) 42 = .ok (.getfield 21, 3) := by decide +kernel
theorem f33_21 : ftN (owN 33) 21 = some (5, 10, 297) := by decide +kernel
theorem d33_45 : decode (cdN 33) 45 = .ok (.iconst 0, 1) := by decide +kernel
theorem d33_46 : decode (cdN 33) 46 = .ok (.putfield 64, 3) := by decide +kernel
theorem f33_64 : ftN (owN 33) 64 = some (2, 0, 173) := by decide +kernel
theorem d33_49 : decode (cdN 33) 49 = .ok (.aload_n 0, 1) := by decide +kernel
theorem d33_50 : decode (cdN 33) 50 = .ok (.getfield 28, 3) := by decide +kernel
theorem f33_28 : ftN (owN 33) 28 = some (5, 11, 300) := by decide +kernel
theorem d33_53 : decode (cdN 33) 53 = .ok (.iconst 0, 1) := by decide +kernel
theorem d33_54 : decode (cdN 33) 54 = .ok (.putfield 67, 3) := by decide +kernel
theorem f33_67 : ftN (owN 33) 67 = some (3, 0, 194) := by decide +kernel
theorem d33_57 : decode (cdN 33) 57 = .ok (.aload_n 0, 1) := by decide +kernel
theorem d33_58 : decode (cdN 33) 58 = .ok (.getfield 35, 3) := by decide +kernel
theorem f33_35 : ftN (owN 33) 35 = some (5, 12, 303) := by decide +kernel
theorem d33_61 : decode (cdN 33) 61 = .ok (.invokevirtual 68, 3) := by decide +kernel
theorem c33_68 : ctN (owN 33) 68 = some (0, 10, [349, 350, 351, 32]) := by decide +kernel
theorem d33_64 : decode (cdN 33) 64 = .ok (.return_, 1) := by decide +kernel
theorem d34_0 : decode (cdN 34) 0 = .ok (.aload_n 0, 1) := by decide +kernel
theorem d34_1 : decode (cdN 34) 1 = .ok (.aload_n 1, 1) := by decide +kernel
theorem d34_2 : decode (cdN 34) 2 = .ok (.getfield 39, 3) := by decide +kernel
theorem f34_39 : ftN (owN 34) 39 = some (5, 0, 279) := by decide +kernel
theorem d34_5 : decode (cdN 34) 5 = .ok (.putfield 39, 3) := by decide +kernel
theorem d34_8 : decode (cdN 34) 8 = .ok (.aload_n 0, 1) := by decide +kernel
theorem d34_9 : decode (cdN 34) 9 = .ok (.aload_n 1, 1) := by decide +kernel
theorem d34_10 : decode (cdN 34) 10 = .ok (.getfield 43, 3) := by decide +kernel
theorem f34_43 : ftN (owN 34) 43 = some (5, 1, 281) := by decide +kernel
theorem d34_13 : decode (cdN 34) 13 = .ok (.putfield 43, 3) := by decide +kernel
theorem d34_16 : decode (cdN 34) 16 = .ok (.aload_n 0, 1) := by decide +kernel
theorem d34_17 : decode (cdN 34) 17 = .ok (.aload_n 1, 1) := by decide +kernel
theorem d34_18 : decode (cdN 34) 18 = .ok (.getfield 46, 3) := by decide +kernel
theorem f34_46 : ftN (owN 34) 46 = some (5, 2, 284) := by decide +kernel
theorem d34_21 : decode (cdN 34) 21 = .ok (.putfield 46, 3) := by decide +kernel
theorem d34_24 : decode (cdN 34) 24 = .ok (.aload_n 0, 1) := by decide +kernel
theorem d34_25 : decode (cdN 34) 25 = .ok (.aload_n 1, 1) := by decide +kernel
theorem d34_26 : decode (cdN 34) 26 = .ok (.getfield 49, 3) := by decide +kernel
theorem f34_49 : ftN (owN 34) 49 = some (5, 3, 285) := by decide +kernel
theorem d34_29 : decode (cdN 34) 29 = .ok (.putfield 49, 3) := by decide +kernel
theorem d34_32 : decode (cdN 34) 32 = .ok (.aload_n 0, 1) := by decide +kernel
theorem d34_33 : decode (cdN 34) 33 = .ok (.aload_n 1, 1) := by decide +kernel
theorem d34_34 : decode (cdN 34) 34 = .ok (.getfield 52, 3) := by decide +kernel
theorem f34_52 : ftN (owN 34) 52 = some (5, 4, 286) := by decide +kernel
theorem d34_37 : decode (cdN 34) 37 = .ok (.putfield 52, 3) := by decide +kernel
theorem d34_40 : decode (cdN 34) 40 = .ok (.aload_n 0, 1) := by decide +kernel
theorem d34_41 : decode (cdN 34) 41 = .ok (.aload_n 1, 1) := by decide +kernel
theorem d34_42 : decode (cdN 34) 42 = .ok (.getfield 55, 3) := by decide +kernel
theorem f34_55 : ftN (owN 34) 55 = some (5, 5, 288) := by decide +kernel
theorem d34_45 : decode (cdN 34) 45 = .ok (.putfield 55, 3) := by decide +kernel
theorem d34_48 : decode (cdN 34) 48 = .ok (.aload_n 0, 1) := by decide +kernel
theorem d34_49 : decode (cdN 34) 49 = .ok (.aload_n 1, 1) := by decide +kernel
theorem d34_50 : decode (cdN 34) 50 = .ok (.getfield 58, 3) := by decide +kernel
theorem f34_58 : ftN (owN 34) 58 = some (5, 6, 290) := by decide +kernel
theorem d34_53 : decode (cdN 34) 53 = .ok (.putfield 58, 3) := by decide +kernel
theorem d34_56 : decode (cdN 34) 56 = .ok (.aload_n 0, 1) := by decide +kernel
theorem d34_57 : decode (cdN 34) 57 = .ok (.aload_n 1, 1) := by decide +kernel
theorem d34_58 : decode (cdN 34) 58 = .ok (.getfield 61, 3) := by decide +kernel
theorem f34_61 : ftN (owN 34) 61 = some (5, 7, 291) := by decide +kernel
theorem d34_61 : decode (cdN 34) 61 = .ok (.putfield 61, 3) := by decide +kernel
theorem d34_64 : decode (cdN 34) 64 = .ok (.aload_n 1, 1) := by decide +kernel
theorem d34_65 : decode (cdN 34) 65 = .ok (.getfield 9, 3) := by decide +kernel
theorem f34_9 : ftN (owN 34) 9 = some (5, 8, 293) := by decide +kernel
theorem d34_68 : decode (cdN 34) 68 = .ok (.iconst 0, 1) := by decide +kernel
theorem d34_69 : decode (cdN 34) 69 = .ok (.aload_n 0, 1) := by decide +kernel
theorem d34_70 : decode (cdN 34) 70 = .ok (.getfield 9, 3) := by decide +kernel
theorem d34_73 : decode (cdN 34) 73 = .ok (.iconst 0, 1) := by decide +kernel
theorem d34_74 : decode (cdN 34) 74 = .ok (.bipush 12, 2) := by decide +kernel
theorem d34_76 : decode (cdN 34) 76 = .ok (.invokestatic 71, 3) := by decide +kernel
theorem c34_71 : ctN (owN 34) 71 = some (8, 0, [568, 378, 377, 19]) := by decide +kernel
theorem d34_79 : decode (cdN 34) 79 = .ok (.aload_n 1, 1) := by decide +kernel
theorem d34_80 : decode (cdN 34) 80 = .ok (.getfield 15, 3) := by decide +kernel
theorem f34_15 : ftN (owN 34) 15 = some (5, 9, 295) := by decide +kernel
theorem d34_83 : decode (cdN 34) 83 = .ok (.iconst 0, 1) := by decide +kernel
theorem d34_84 : decode (cdN 34) 84 = .ok (.aload_n 0, 1) := by decide +kernel
theorem d34_85 : decode (cdN 34) 85 = .ok (.getfield 15, 3) := by decide +kernel
theorem d34_88 : decode (cdN 34) 88 = .ok (.iconst 0, 1) := by decide +kernel
theorem d34_89 : decode (cdN 34) 89 = .ok (.bipush 12, 2) := by decide +kernel
theorem d34_91 : decode (cdN 34) 91 = .ok (.invokestatic 71, 3) := by decide +kernel
theorem d34_94 : decode (cdN 34) 94 = .ok (.aload_n 0, 1) := by decide +kernel
theorem d34_95 : decode (cdN 34) 95 = .ok (.getfield 21, 3) := by decide +kernel
theorem f34_21 : ftN (owN 34) 21 = some (5, 10, 297) := by decide +kernel
theorem d34_98 : decode (cdN 34) 98 = .ok (.aload_n 1, 1) := by decide +kernel
theorem d34_99 : decode (cdN 34) 99 = .ok (.getfield 21, 3) := by decide +kernel
theorem d34_102 : decode (cdN 34) 102 = .ok (.invokevirtual 77, 3) := by decide +kernel
theorem c34_77 : ctN (owN 34) 77 = some (0, 13, [569, 570, 571, 30]) := by decide +kernel
theorem d34_105 : decode (cdN 34) 105 = .ok (.aload_n 0, 1) := by decide +kernel
theorem d34_106 : decode (cdN 34) 106 = .ok (.getfield 28, 3) := by decide +kernel
theorem f34_28 : ftN (owN 34) 28 = some (5, 11, 300) := by decide +kernel
theorem d34_109 : decode (cdN 34) 109 = .ok (.aload_n 1, 1) := by decide +kernel
theorem d34_110 : decode (cdN 34) 110 = .ok (.getfield 28, 3) := by decide +kernel
theorem d34_113 : decode (cdN 34) 113 = .ok (.invokevirtual 81, 3) := by decide +kernel
theorem c34_81 : ctN (owN 34) 81 = some (0, 18, [574, 575, 576, 31]) := by decide +kernel
theorem d34_116 : decode (cdN 34) 116 = .ok (.aload_n 0, 1) := by decide +kernel
theorem d34_117 : decode (cdN 34) 117 = .ok (.getfield 35, 3) := by decide +kernel
theorem f34_35 : ftN (owN 34) 35 = some (5, 12, 303) := by decide +kernel
theorem d34_120 : decode (cdN 34) 120 = .ok (.aload_n 1, 1) := by decide +kernel
theorem d34_121 : decode (cdN 34) 121 = .ok (.getfield 35, 3) := by decide +kernel
theorem d34_124 : decode (cdN 34) 124 = .ok (.invokevirtual 84, 3) := by decide +kernel
theorem c34_84 : ctN (owN 34) 84 = some (0, 11, [578, 579, 580, 32]) := by decide +kernel
theorem d34_127 : decode (cdN 34) 127 = .ok (.return_, 1) := by decide +kernel
theorem d35_0 : decode (cdN 35) 0 = .ok (.aload_n 1, 1) := by decide +kernel
theorem d35_1 : decode (cdN 35) 1 = .ok (.invokevirtual 87, 3) := by decide +kernel
theorem c35_87 : ctN (owN 35) 87 = some (0, 67, [694, 695, 696, 25]) := by decide +kernel
theorem d35_4 : decode (cdN 35) 4 = .ok (.aload_n 1, 1) := by decide +kernel
theorem d35_5 : decode (cdN 35) 5 = .ok (.invokevirtual 92, 3) := by decide +kernel
theorem c35_92 : ctN (owN 35) 92 = some (0, 69, [698, 699, 700, 25]) := by decide +kernel
theorem d35_8 : decode (cdN 35) 8 = .ok (.aload_n 0, 1) := by decide +kernel
theorem d35_9 : decode (cdN 35) 9 = .ok (.aload_n 1, 1) := by decide +kernel
theorem d35_10 : decode (cdN 35) 10 = .ok (.invokevirtual 95, 3) := by decide +kernel
theorem c35_95 : ctN (owN 35) 95 = some (0, 36, [709, 711, 3, 29]) := by decide +kernel
theorem d35_13 : decode (cdN 35) 13 = .ok (.ifCond .eq 15, 3) := by decide +kernel
theorem d35_16 : decode (cdN 35) 16 = .ok (.aload_n 0, 1) := by decide +kernel
theorem d35_17 : decode (cdN 35) 17 = .ok (.aload_n 1, 1) := by decide +kernel
theorem d35_18 : decode (cdN 35) 18 = .ok (.invokevirtual 99, 3) := by decide +kernel
theorem c35_99 : ctN (owN 35) 99 = some (0, 37, [735, 737, 4, 29]) := by decide +kernel
theorem d35_21 : decode (cdN 35) 21 = .ok (.ifCond .eq 7, 3) := by decide +kernel
theorem d35_24 : decode (cdN 35) 24 = .ok (.iconst 1, 1) := by decide +kernel
theorem d35_25 : decode (cdN 35) 25 = .ok (.goto 4, 3) := by decide +kernel
theorem d35_28 : decode (cdN 35) 28 = .ok (.iconst 0, 1) := by decide +kernel
theorem d35_29 : decode (cdN 35) 29 = .ok (.ireturn, 1) := by decide +kernel
theorem d36_0 : decode (cdN 36) 0 = .ok (.aload_n 1, 1) := by decide +kernel
theorem d36_1 : decode (cdN 36) 1 = .ok (.ldc 102, 2) := by decide +kernel
theorem k36_102 : ksN (owN 36) 102 = some 0 := by decide +kernel
theorem d36_3 : decode (cdN 36) 3 = .ok (.invokevirtual 104, 3) := by decide +kernel
theorem c36_104 : ctN (owN 36) 104 = some (0, 71, [714, 715, 716, 25]) := by decide +kernel
theorem d36_6 : decode (cdN 36) 6 = .ok (.ifCond .ne 9, 3) := by decide +kernel
theorem d36_9 : decode (cdN 36) 9 = .ok (.aload_n 1, 1) := by decide +kernel
theorem d36_10 : decode (cdN 36) 10 = .ok (.iconst 1, 1) := by decide +kernel
theorem d36_11 : decode (cdN 36) 11 = .ok (.invokevirtual 108, 3) := by decide +kernel
theorem c36_108 : ctN (owN 36) 108 = some (0, 68, [720, 721, 722, 25]) := by decide +kernel
theorem d36_14 : decode (cdN 36) 14 = .ok (.ireturn, 1) := by decide +kernel
theorem d36_15 : decode (cdN 36) 15 = .ok (.aload_n 1, 1) := by decide +kernel
theorem d36_16 : decode (cdN 36) 16 = .ok (.iconst 1, 1) := by decide +kernel
theorem d36_17 : decode (cdN 36) 17 = .ok (.bipush 9, 2) := by decide +kernel
theorem d36_19 : decode (cdN 36) 19 = .ok (.invokevirtual 112, 3) := by decide +kernel
theorem c36_112 : ctN (owN 36) 112 = some (0, 72, [724, 725, 726, 25]) := by decide +kernel
theorem d36_22 : decode (cdN 36) 22 = .ok (.istore_n 2, 1) := by decide +kernel
theorem d36_23 : decode (cdN 36) 23 = .ok (.iload_n 2, 1) := by decide +kernel
theorem d36_24 : decode (cdN 36) 24 = .ok (.iconst (-1), 1) := by decide +kernel
theorem d36_25 : decode (cdN 36) 25 = .ok (.if_icmp .ne 5, 3) := by decide +kernel
theorem d36_28 : decode (cdN 36) 28 = .ok (.iconst 0, 1) := by decide +kernel
theorem d36_29 : decode (cdN 36) 29 = .ok (.ireturn, 1) := by decide +kernel
theorem d36_30 : decode (cdN 36) 30 = .ok (.aload_n 1, 1) := by decide +kernel
theorem d36_31 : decode (cdN 36) 31 = .ok (.iconst 1, 1) := by decide +kernel
theorem d36_32 : decode (cdN 36) 32 = .ok (.sipush 199, 3) := by decide +kernel
theorem d36_35 : decode (cdN 36) 35 = .ok (.invokevirtual 112, 3) := by decide +kernel
theorem d36_38 : decode (cdN 36) 38 = .ok (.istore_n 3, 1) := by decide +kernel
theorem d36_39 : decode (cdN 36) 39 = .ok (.iload_n 3, 1) := by decide +kernel
theorem d36_40 : decode (cdN 36) 40 = .ok (.iconst (-1), 1) := by decide +kernel
theorem d36_41 : decode (cdN 36) 41 = .ok (.if_icmp .ne 5, 3) := by decide +kernel
theorem d36_44 : decode (cdN 36) 44 = .ok (.iconst 0, 1) := by decide +kernel
theorem d36_45 : decode (cdN 36) 45 = .ok (.ireturn, 1) := by decide +kernel
theorem d36_46 : decode (cdN 36) 46 = .ok (.aload_n 1, 1) := by decide +kernel
theorem d36_47 : decode (cdN 36) 47 = .ok (.iconst 1, 1) := by decide +kernel
theorem d36_48 : decode (cdN 36) 48 = .ok (.bipush 99, 2) := by decide +kernel
theorem d36_50 : decode (cdN 36) 50 = .ok (.invokevirtual 112, 3) := by decide +kernel
theorem d36_53 : decode (cdN 36) 53 = .ok (.istore 4, 2) := by decide +kernel
theorem d36_55 : decode (cdN 36) 55 = .ok (.iload 4, 2) := by decide +kernel
theorem d36_57 : decode (cdN 36) 57 = .ok (.iconst (-1), 1) := by decide +kernel
theorem d36_58 : decode (cdN 36) 58 = .ok (.if_icmp .ne 5, 3) := by decide +kernel
theorem d36_61 : decode (cdN 36) 61 = .ok (.iconst 0, 1) := by decide +kernel
theorem d36_62 : decode (cdN 36) 62 = .ok (.ireturn, 1) := by decide +kernel
theorem d36_63 : decode (cdN 36) 63 = .ok (.aload_n 1, 1) := by decide +kernel
theorem d36_64 : decode (cdN 36) 64 = .ok (.iconst 1, 1) := by decide +kernel
theorem d36_65 : decode (cdN 36) 65 = .ok (.bipush 9, 2) := by decide +kernel
theorem d36_67 : decode (cdN 36) 67 = .ok (.invokevirtual 112, 3) := by decide +kernel
theorem d36_70 : decode (cdN 36) 70 = .ok (.istore 5, 2) := by decide +kernel
theorem d36_72 : decode (cdN 36) 72 = .ok (.iload 5, 2) := by decide +kernel
theorem d36_74 : decode (cdN 36) 74 = .ok (.iconst (-1), 1) := by decide +kernel
theorem d36_75 : decode (cdN 36) 75 = .ok (.if_icmp .eq 10, 3) := by decide +kernel
theorem d36_78 : decode (cdN 36) 78 = .ok (.aload_n 1, 1) := by decide +kernel
theorem d36_79 : decode (cdN 36) 79 = .ok (.invokevirtual 116, 3) := by decide +kernel
theorem c36_116 : ctN (owN 36) 116 = some (0, 73, [730, 731, 732, 25]) := by decide +kernel
theorem d36_82 : decode (cdN 36) 82 = .ok (.ifCond .ne 5, 3) := by decide +kernel
theorem d36_85 : decode (cdN 36) 85 = .ok (.iconst 0, 1) := by decide +kernel
theorem d36_86 : decode (cdN 36) 86 = .ok (.ireturn, 1) := by decide +kernel
theorem d36_87 : decode (cdN 36) 87 = .ok (.aload_n 0, 1) := by decide +kernel
theorem d36_88 : decode (cdN 36) 88 = .ok (.iload_n 2, 1) := by decide +kernel
theorem d36_89 : decode (cdN 36) 89 = .ok (.iload_n 3, 1) := by decide +kernel
theorem d36_90 : decode (cdN 36) 90 = .ok (.bipush 100, 2) := by decide +kernel
theorem d36_92 : decode (cdN 36) 92 = .ok (.isub, 1) := by decide +kernel
theorem d36_93 : decode (cdN 36) 93 = .ok (.iload 4, 2) := by decide +kernel
theorem d36_95 : decode (cdN 36) 95 = .ok (.iload 5, 2) := by decide +kernel
theorem d36_97 : decode (cdN 36) 97 = .ok (.invokevirtual 120, 3) := by decide +kernel
theorem c36_120 : ctN (owN 36) 120 = some (0, 33, [734, 346, 347, 29]) := by decide +kernel
theorem d36_100 : decode (cdN 36) 100 = .ok (.iconst 1, 1) := by decide +kernel
theorem d36_101 : decode (cdN 36) 101 = .ok (.ireturn, 1) := by decide +kernel
theorem d37_0 : decode (cdN 37) 0 = .ok (.iconst 0, 1) := by decide +kernel
theorem d37_1 : decode (cdN 37) 1 = .ok (.istore_n 2, 1) := by decide +kernel
theorem d37_2 : decode (cdN 37) 2 = .ok (.iload_n 2, 1) := by decide +kernel
theorem d37_3 : decode (cdN 37) 3 = .ok (.iconst 3, 1) := by decide +kernel
theorem d37_4 : decode (cdN 37) 4 = .ok (.if_icmp .gt 90, 3) := by decide +kernel
theorem d37_7 : decode (cdN 37) 7 = .ok (.aload_n 1, 1) := by decide +kernel
theorem d37_8 : decode (cdN 37) 8 = .ok (.invokevirtual 92, 3) := by decide +kernel
theorem c37_92 : ctN (owN 37) 92 = some (0, 69, [698, 699, 700, 25]) := by decide +kernel
theorem d37_11 : decode (cdN 37) 11 = .ok (.aload_n 1, 1) := by decide +kernel
theorem d37_12 : decode (cdN 37) 12 = .ok (.getfield 124, 3) := by decide +kernel
theorem f37_124 : ftN (owN 37) 124 = some (8, 1, 75) := by decide +kernel
theorem d37_15 : decode (cdN 37) 15 = .ok (.ifCond .ne 5, 3) := by decide +kernel
theorem d37_18 : decode (cdN 37) 18 = .ok (.iconst 1, 1) := by decide +kernel
theorem d37_19 : decode (cdN 37) 19 = .ok (.ireturn, 1) := by decide +kernel
theorem d37_20 : decode (cdN 37) 20 = .ok (.aload_n 1, 1) := by decide +kernel
theorem d37_21 : decode (cdN 37) 21 = .ok (.ldc 127, 2) := by decide +kernel
theorem k37_127 : ksN (owN 37) 127 = some 1 := by decide +kernel
theorem d37_23 : decode (cdN 37) 23 = .ok (.invokevirtual 104, 3) := by decide +kernel
theorem c37_104 : ctN (owN 37) 104 = some (0, 71, [714, 715, 716, 25]) := by decide +kernel
theorem d37_26 : decode (cdN 37) 26 = .ok (.ifCond .ne 9, 3) := by decide +kernel
theorem d37_29 : decode (cdN 37) 29 = .ok (.aload_n 1, 1) := by decide +kernel
theorem d37_30 : decode (cdN 37) 30 = .ok (.iconst 1, 1) := by decide +kernel
theorem d37_31 : decode (cdN 37) 31 = .ok (.invokevirtual 108, 3) := by decide +kernel
theorem c37_108 : ctN (owN 37) 108 = some (0, 68, [720, 721, 722, 25]) := by decide +kernel
theorem d37_34 : decode (cdN 37) 34 = .ok (.ireturn, 1) := by decide +kernel
theorem d37_35 : decode (cdN 37) 35 = .ok (.aload_n 0, 1) := by decide +kernel
theorem d37_36 : decode (cdN 37) 36 = .ok (.getfield 21, 3) := by decide +kernel
theorem f37_21 : ftN (owN 37) 21 = some (5, 10, 297) := by decide +kernel
theorem d37_39 : decode (cdN 37) 39 = .ok (.getfield 64, 3) := by decide +kernel
theorem f37_64 : ftN (owN 37) 64 = some (2, 0, 173) := by decide +kernel
theorem d37_42 : decode (cdN 37) 42 = .ok (.iconst 3, 1) := by decide +kernel
theorem d37_43 : decode (cdN 37) 43 = .ok (.if_icmp .lt 9, 3) := by decide +kernel
theorem d37_46 : decode (cdN 37) 46 = .ok (.aload_n 1, 1) := by decide +kernel
theorem d37_47 : decode (cdN 37) 47 = .ok (.iconst 3, 1) := by decide +kernel
theorem d37_48 : decode (cdN 37) 48 = .ok (.invokevirtual 108, 3) := by decide +kernel
theorem d37_51 : decode (cdN 37) 51 = .ok (.ireturn, 1) := by decide +kernel
theorem d37_52 : decode (cdN 37) 52 = .ok (.aload_n 1, 1) := by decide +kernel
theorem d37_53 : decode (cdN 37) 53 = .ok (.invokevirtual 129, 3) := by decide +kernel
theorem c37_129 : ctN (owN 37) 129 = some (0, 74, [740, 741, 742, 25]) := by decide +kernel
theorem d37_56 : decode (cdN 37) 56 = .ok (.ifCond .eq 10, 3) := by decide +kernel
theorem d37_59 : decode (cdN 37) 59 = .ok (.aload_n 1, 1) := by decide +kernel
theorem d37_60 : decode (cdN 37) 60 = .ok (.invokevirtual 116, 3) := by decide +kernel
theorem c37_116 : ctN (owN 37) 116 = some (0, 73, [730, 731, 732, 25]) := by decide +kernel
theorem d37_63 : decode (cdN 37) 63 = .ok (.ifCond .ne 5, 3) := by decide +kernel
theorem d37_66 : decode (cdN 37) 66 = .ok (.iconst 0, 1) := by decide +kernel
theorem d37_67 : decode (cdN 37) 67 = .ok (.ireturn, 1) := by decide +kernel
theorem d37_68 : decode (cdN 37) 68 = .ok (.aload_n 0, 1) := by decide +kernel
theorem d37_69 : decode (cdN 37) 69 = .ok (.getfield 21, 3) := by decide +kernel
theorem d37_72 : decode (cdN 37) 72 = .ok (.aload_n 1, 1) := by decide +kernel
theorem d37_73 : decode (cdN 37) 73 = .ok (.getfield 131, 3) := by decide +kernel
theorem f37_131 : ftN (owN 37) 131 = some (8, 6, 80) := by decide +kernel
theorem d37_76 : decode (cdN 37) 76 = .ok (.aload_n 1, 1) := by decide +kernel
theorem d37_77 : decode (cdN 37) 77 = .ok (.getfield 134, 3) := by decide +kernel
theorem f37_134 : ftN (owN 37) 134 = some (8, 7, 82) := by decide +kernel
theorem d37_80 : decode (cdN 37) 80 = .ok (.aload_n 1, 1) := by decide +kernel
theorem d37_81 : decode (cdN 37) 81 = .ok (.getfield 137, 3) := by decide +kernel
theorem f37_137 : ftN (owN 37) 137 = some (8, 8, 84) := by decide +kernel
theorem d37_84 : decode (cdN 37) 84 = .ok (.invokevirtual 140, 3) := by decide +kernel
theorem c37_140 : ctN (owN 37) 140 = some (0, 14, [745, 354, 355, 30]) := by decide +kernel
theorem d37_87 : decode (cdN 37) 87 = .ok (.pop, 1) := by decide +kernel
theorem d37_88 : decode (cdN 37) 88 = .ok (.iinc 2 1, 3) := by decide +kernel
theorem d37_91 : decode (cdN 37) 91 = .ok (.goto (-89), 3) := by decide +kernel
theorem d37_94 : decode (cdN 37) 94 = .ok (.iconst 0, 1) := by decide +kernel
theorem d37_95 : decode (cdN 37) 95 = .ok (.ireturn, 1) := by decide +kernel
theorem d38_0 : decode (cdN 38) 0 = .ok (.iload_n 1, 1) := by decide +kernel
theorem d38_1 : decode (cdN 38) 1 = .ok (.ifCond .lt 21, 3) := by decide +kernel
theorem d38_4 : decode (cdN 38) 4 = .ok (.iload_n 1, 1) := by decide +kernel
theorem d38_5 : decode (cdN 38) 5 = .ok (.aload_n 0, 1) := by decide +kernel
theorem d38_6 : decode (cdN 38) 6 = .ok (.getfield 61, 3) := by decide +kernel
theorem f38_61 : ftN (owN 38) 61 = some (5, 7, 291) := by decide +kernel
theorem d38_9 : decode (cdN 38) 9 = .ok (.if_icmp .ge 13, 3) := by decide +kernel
theorem d38_12 : decode (cdN 38) 12 = .ok (.iload_n 1, 1) := by decide +kernel
theorem d38_13 : decode (cdN 38) 13 = .ok (.bipush 12, 2) := by decide +kernel
theorem d38_15 : decode (cdN 38) 15 = .ok (.if_icmp .ge 7, 3) := by decide +kernel
theorem d38_18 : decode (cdN 38) 18 = .ok (.iconst 1, 1) := by decide +kernel
theorem d38_19 : decode (cdN 38) 19 = .ok (.goto 4, 3) := by decide +kernel
theorem d38_22 : decode (cdN 38) 22 = .ok (.iconst 0, 1) := by decide +kernel
theorem d38_23 : decode (cdN 38) 23 = .ok (.ireturn, 1) := by decide +kernel
theorem d39_0 : decode (cdN 39) 0 = .ok (.aload_n 0, 1) := by decide +kernel
theorem d39_1 : decode (cdN 39) 1 = .ok (.getfield 61, 3) := by decide +kernel
theorem f39_61 : ftN (owN 39) 61 = some (5, 7, 291) := by decide +kernel
theorem d39_4 : decode (cdN 39) 4 = .ok (.ifCond .lt 16, 3) := by decide +kernel
theorem d39_7 : decode (cdN 39) 7 = .ok (.aload_n 0, 1) := by decide +kernel
theorem d39_8 : decode (cdN 39) 8 = .ok (.getfield 61, 3) := by decide +kernel
theorem d39_11 : decode (cdN 39) 11 = .ok (.bipush 12, 2) := by decide +kernel
theorem d39_13 : decode (cdN 39) 13 = .ok (.if_icmp .ge 7, 3) := by decide +kernel
theorem d39_16 : decode (cdN 39) 16 = .ok (.iconst 1, 1) := by decide +kernel
theorem d39_17 : decode (cdN 39) 17 = .ok (.goto 4, 3) := by decide +kernel
theorem d39_20 : decode (cdN 39) 20 = .ok (.iconst 0, 1) := by decide +kernel
theorem d39_21 : decode (cdN 39) 21 = .ok (.ireturn, 1) := by decide +kernel
theorem d40_0 : decode (cdN 40) 0 = .ok (.aload_n 0, 1) := by decide +kernel
theorem d40_1 : decode (cdN 40) 1 = .ok (.invokevirtual 144, 3) := by decide +kernel
theorem c40_144 : ctN (owN 40) 144 = some (0, 39, [365, 366, 367, 29]) := by decide +kernel
theorem d40_4 : decode (cdN 40) 4 = .ok (.ifCond .eq 14, 3) := by decide +kernel
theorem d40_7 : decode (cdN 40) 7 = .ok (.iload_n 3, 1) := by decide +kernel
theorem d40_8 : decode (cdN 40) 8 = .ok (.iconst 1, 1) := by decide +kernel
theorem d40_9 : decode (cdN 40) 9 = .ok (.if_icmp .lt 9, 3) := by decide +kernel
theorem d40_12 : decode (cdN 40) 12 = .ok (.iload_n 3, 1) := by decide +kernel
theorem d40_13 : decode (cdN 40) 13 = .ok (.bipush 16, 2) := by decide +kernel
theorem d40_15 : decode (cdN 40) 15 = .ok (.if_icmp .le 5, 3) := by decide +kernel
theorem d40_18 : decode (cdN 40) 18 = .ok (.iconst (-1), 1) := by decide +kernel
theorem d40_19 : decode (cdN 40) 19 = .ok (.ireturn, 1) := by decide +kernel
theorem d40_20 : decode (cdN 40) 20 = .ok (.aload_n 0, 1) := by decide +kernel
theorem d40_21 : decode (cdN 40) 21 = .ok (.getfield 9, 3) := by decide +kernel
theorem f40_9 : ftN (owN 40) 9 = some (5, 8, 293) := by decide +kernel
theorem d40_24 : decode (cdN 40) 24 = .ok (.aload_n 0, 1) := by decide +kernel
theorem d40_25 : decode (cdN 40) 25 = .ok (.getfield 61, 3) := by decide +kernel
theorem f40_61 : ftN (owN 40) 61 = some (5, 7, 291) := by decide +kernel
theorem d40_28 : decode (cdN 40) 28 = .ok (.iload_n 3, 1) := by decide +kernel
theorem d40_29 : decode (cdN 40) 29 = .ok (.iastore, 1) := by decide +kernel
theorem d40_30 : decode (cdN 40) 30 = .ok (.aload_n 0, 1) := by decide +kernel
theorem d40_31 : decode (cdN 40) 31 = .ok (.getfield 15, 3) := by decide +kernel
theorem f40_15 : ftN (owN 40) 15 = some (5, 9, 295) := by decide +kernel
theorem d40_34 : decode (cdN 40) 34 = .ok (.aload_n 0, 1) := by decide +kernel
theorem d40_35 : decode (cdN 40) 35 = .ok (.getfield 61, 3) := by decide +kernel
theorem d40_38 : decode (cdN 40) 38 = .ok (.aload_n 0, 1) := by decide +kernel
theorem d40_39 : decode (cdN 40) 39 = .ok (.getfield 28, 3) := by decide +kernel
theorem f40_28 : ftN (owN 40) 28 = some (5, 11, 300) := by decide +kernel
theorem d40_42 : decode (cdN 40) 42 = .ok (.getfield 67, 3) := by decide +kernel
theorem f40_67 : ftN (owN 40) 67 = some (3, 0, 194) := by decide +kernel
theorem d40_45 : decode (cdN 40) 45 = .ok (.iastore, 1) := by decide +kernel
theorem d40_46 : decode (cdN 40) 46 = .ok (.iconst 0, 1) := by decide +kernel
theorem d40_47 : decode (cdN 40) 47 = .ok (.istore 4, 2) := by decide +kernel
theorem d40_49 : decode (cdN 40) 49 = .ok (.iload 4, 2) := by decide +kernel
theorem d40_51 : decode (cdN 40) 51 = .ok (.iload_n 3, 1) := by decide +kernel
theorem d40_52 : decode (cdN 40) 52 = .ok (.if_icmp .ge 29, 3) := by decide +kernel
theorem d40_55 : decode (cdN 40) 55 = .ok (.aload_n 0, 1) := by decide +kernel
theorem d40_56 : decode (cdN 40) 56 = .ok (.getfield 28, 3) := by decide +kernel
theorem d40_59 : decode (cdN 40) 59 = .ok (.aload_n 1, 1) := by decide +kernel
theorem d40_60 : decode (cdN 40) 60 = .ok (.iload_n 2, 1) := by decide +kernel
theorem d40_61 : decode (cdN 40) 61 = .ok (.iload 4, 2) := by decide +kernel
theorem d40_63 : decode (cdN 40) 63 = .ok (.iadd, 1) := by decide +kernel
theorem d40_64 : decode (cdN 40) 64 = .ok (.iload_n 3, 1) := by decide +kernel
theorem d40_65 : decode (cdN 40) 65 = .ok (.iload 4, 2) := by decide +kernel
theorem d40_67 : decode (cdN 40) 67 = .ok (.isub, 1) := by decide +kernel
theorem d40_68 : decode (cdN 40) 68 = .ok (.iconst 4, 1) := by decide +kernel
theorem d40_69 : decode (cdN 40) 69 = .ok (.invokestatic 147, 3) := by decide +kernel
theorem c40_147 : ctN (owN 40) 147 = some (6, 0, [369, 370, 17, 371]) := by decide +kernel
theorem d40_72 : decode (cdN 40) 72 = .ok (.invokevirtual 152, 3) := by decide +kernel
theorem c40_152 : ctN (owN 40) 152 = some (0, 19, [372, 373, 374, 31]) := by decide +kernel
theorem d40_75 : decode (cdN 40) 75 = .ok (.iinc 4 4, 3) := by decide +kernel
theorem d40_78 : decode (cdN 40) 78 = .ok (.goto (-29), 3) := by decide +kernel
theorem d40_81 : decode (cdN 40) 81 = .ok (.aload_n 0, 1) := by decide +kernel
theorem d40_82 : decode (cdN 40) 82 = .ok (.dup, 1) := by decide +kernel
theorem d40_83 : decode (cdN 40) 83 = .ok (.getfield 61, 3) := by decide +kernel
theorem d40_86 : decode (cdN 40) 86 = .ok (.iconst 1, 1) := by decide +kernel
theorem d40_87 : decode (cdN 40) 87 = .ok (.iadd, 1) := by decide +kernel
theorem d40_88 : decode (cdN 40) 88 = .ok (.putfield 61, 3) := by decide +kernel
theorem d40_91 : decode (cdN 40) 91 = .ok (.aload_n 0, 1) := by decide +kernel
theorem d40_92 : decode (cdN 40) 92 = .ok (.getfield 61, 3) := by decide +kernel
theorem d40_95 : decode (cdN 40) 95 = .ok (.iconst 1, 1) := by decide +kernel
theorem d40_96 : decode (cdN 40) 96 = .ok (.isub, 1) := by decide +kernel
theorem d40_97 : decode (cdN 40) 97 = .ok (.ireturn, 1) := by decide +kernel
theorem d41_0 : decode (cdN 41) 0 = .ok (.aload_n 0, 1) := by decide +kernel
theorem d41_1 : decode (cdN 41) 1 = .ok (.iload_n 1, 1) := by decide +kernel
theorem d41_2 : decode (cdN 41) 2 = .ok (.invokevirtual 155, 3) := by decide +kernel
theorem c41_155 : ctN (owN 41) 155 = some (0, 38, [822, 823, 824, 29]) := by decide +kernel
theorem d41_5 : decode (cdN 41) 5 = .ok (.ifCond .ne 5, 3) := by decide +kernel
theorem d41_8 : decode (cdN 41) 8 = .ok (.iconst 0, 1) := by decide +kernel
theorem d41_9 : decode (cdN 41) 9 = .ok (.ireturn, 1) := by decide +kernel
theorem d41_10 : decode (cdN 41) 10 = .ok (.aload_n 0, 1) := by decide +kernel
theorem d41_11 : decode (cdN 41) 11 = .ok (.getfield 9, 3) := by decide +kernel
theorem f41_9 : ftN (owN 41) 9 = some (5, 8, 293) := by decide +kernel
theorem d41_14 : decode (cdN 41) 14 = .ok (.iload_n 1, 1) := by decide +kernel
theorem d41_15 : decode (cdN 41) 15 = .ok (.iaload, 1) := by decide +kernel
theorem d41_16 : decode (cdN 41) 16 = .ok (.iconst 4, 1) := by decide +kernel
theorem d41_17 : decode (cdN 41) 17 = .ok (.iadd, 1) := by decide +kernel
theorem d41_18 : decode (cdN 41) 18 = .ok (.iconst 1, 1) := by decide +kernel
theorem d41_19 : decode (cdN 41) 19 = .ok (.isub, 1) := by decide +kernel
theorem d41_20 : decode (cdN 41) 20 = .ok (.iconst 4, 1) := by decide +kernel
theorem d41_21 : decode (cdN 41) 21 = .ok (.idiv, 1) := by decide +kernel
theorem d41_22 : decode (cdN 41) 22 = .ok (.istore_n 2, 1) := by decide +kernel
theorem d41_23 : decode (cdN 41) 23 = .ok (.aload_n 0, 1) := by decide +kernel
theorem d41_24 : decode (cdN 41) 24 = .ok (.getfield 15, 3) := by decide +kernel
theorem f41_15 : ftN (owN 41) 15 = some (5, 9, 295) := by decide +kernel
theorem d41_27 : decode (cdN 41) 27 = .ok (.iload_n 1, 1) := by decide +kernel
theorem d41_28 : decode (cdN 41) 28 = .ok (.iaload, 1) := by decide +kernel
theorem d41_29 : decode (cdN 41) 29 = .ok (.iload_n 2, 1) := by decide +kernel
theorem d41_30 : decode (cdN 41) 30 = .ok (.iadd, 1) := by decide +kernel
theorem d41_31 : decode (cdN 41) 31 = .ok (.bipush 48, 2) := by decide +kernel
theorem d41_33 : decode (cdN 41) 33 = .ok (.invokestatic 147, 3) := by decide +kernel
theorem c41_147 : ctN (owN 41) 147 = some (6, 0, [369, 370, 17, 371]) := by decide +kernel
theorem d41_36 : decode (cdN 41) 36 = .ok (.ireturn, 1) := by decide +kernel
theorem d42_0 : decode (cdN 42) 0 = .ok (.aload_n 0, 1) := by decide +kernel
theorem d42_1 : decode (cdN 42) 1 = .ok (.iload_n 1, 1) := by decide +kernel
theorem d42_2 : decode (cdN 42) 2 = .ok (.invokevirtual 155, 3) := by decide +kernel
theorem c42_155 : ctN (owN 42) 155 = some (0, 38, [822, 823, 824, 29]) := by decide +kernel
theorem d42_5 : decode (cdN 42) 5 = .ok (.ifCond .ne 5, 3) := by decide +kernel
theorem d42_8 : decode (cdN 42) 8 = .ok (.iconst (-1), 1) := by decide +kernel
theorem d42_9 : decode (cdN 42) 9 = .ok (.ireturn, 1) := by decide +kernel
theorem d42_10 : decode (cdN 42) 10 = .ok (.iconst 1, 1) := by decide +kernel
theorem d42_11 : decode (cdN 42) 11 = .ok (.istore_n 2, 1) := by decide +kernel
theorem d42_12 : decode (cdN 42) 12 = .ok (.aload_n 0, 1) := by decide +kernel
theorem d42_13 : decode (cdN 42) 13 = .ok (.iload_n 1, 1) := by decide +kernel
theorem d42_14 : decode (cdN 42) 14 = .ok (.invokevirtual 158, 3) := by decide +kernel
theorem c42_158 : ctN (owN 42) 158 = some (0, 41, [826, 828, 10, 29]) := by decide +kernel
theorem d42_17 : decode (cdN 42) 17 = .ok (.istore_n 3, 1) := by decide +kernel
theorem d42_18 : decode (cdN 42) 18 = .ok (.aload_n 0, 1) := by decide +kernel
theorem d42_19 : decode (cdN 42) 19 = .ok (.getfield 15, 3) := by decide +kernel
theorem f42_15 : ftN (owN 42) 15 = some (5, 9, 295) := by decide +kernel
theorem d42_22 : decode (cdN 42) 22 = .ok (.iload_n 1, 1) := by decide +kernel
theorem d42_23 : decode (cdN 42) 23 = .ok (.iaload, 1) := by decide +kernel
theorem d42_24 : decode (cdN 42) 24 = .ok (.iconst 0, 1) := by decide +kernel
theorem d42_25 : decode (cdN 42) 25 = .ok (.invokestatic 162, 3) := by decide +kernel
theorem c42_162 : ctN (owN 42) 162 = some (5, 0, [830, 54, 17, 55]) := by decide +kernel
theorem d42_28 : decode (cdN 42) 28 = .ok (.istore 4, 2) := by decide +kernel
theorem d42_30 : decode (cdN 42) 30 = .ok (.iload 4, 2) := by decide +kernel
theorem d42_32 : decode (cdN 42) 32 = .ok (.iload_n 3, 1) := by decide +kernel
theorem d42_33 : decode (cdN 42) 33 = .ok (.if_icmp .ge 40, 3) := by decide +kernel
theorem d42_36 : decode (cdN 42) 36 = .ok (.aload_n 0, 1) := by decide +kernel
theorem d42_37 : decode (cdN 42) 37 = .ok (.getfield 28, 3) := by decide +kernel
theorem f42_28 : ftN (owN 42) 28 = some (5, 11, 300) := by decide +kernel
theorem d42_40 : decode (cdN 42) 40 = .ok (.getfield 165, 3) := by decide +kernel
theorem f42_165 : ftN (owN 42) 165 = some (3, 2, 200) := by decide +kernel
theorem d42_43 : decode (cdN 42) 43 = .ok (.iload 4, 2) := by decide +kernel
theorem d42_45 : decode (cdN 42) 45 = .ok (.iaload, 1) := by decide +kernel
theorem d42_46 : decode (cdN 42) 46 = .ok (.ifCond .ne 5, 3) := by decide +kernel
theorem d42_49 : decode (cdN 42) 49 = .ok (.iconst 0, 1) := by decide +kernel
theorem d42_50 : decode (cdN 42) 50 = .ok (.ireturn, 1) := by decide +kernel
theorem d42_51 : decode (cdN 42) 51 = .ok (.aload_n 0, 1) := by decide +kernel
theorem d42_52 : decode (cdN 42) 52 = .ok (.getfield 28, 3) := by decide +kernel
theorem d42_55 : decode (cdN 42) 55 = .ok (.getfield 165, 3) := by decide +kernel
theorem d42_58 : decode (cdN 42) 58 = .ok (.iload 4, 2) := by decide +kernel
theorem d42_60 : decode (cdN 42) 60 = .ok (.iaload, 1) := by decide +kernel
theorem d42_61 : decode (cdN 42) 61 = .ok (.iconst 2, 1) := by decide +kernel
theorem d42_62 : decode (cdN 42) 62 = .ok (.if_icmp .ne 5, 3) := by decide +kernel
theorem d42_65 : decode (cdN 42) 65 = .ok (.iconst 2, 1) := by decide +kernel
theorem d42_66 : decode (cdN 42) 66 = .ok (.istore_n 2, 1) := by decide +kernel
theorem d42_67 : decode (cdN 42) 67 = .ok (.iinc 4 1, 3) := by decide +kernel
theorem d42_70 : decode (cdN 42) 70 = .ok (.goto (-40), 3) := by decide +kernel
theorem d42_73 : decode (cdN 42) 73 = .ok (.iload_n 2, 1) := by decide +kernel
theorem d42_74 : decode (cdN 42) 74 = .ok (.ireturn, 1) := by decide +kernel
theorem d43_0 : decode (cdN 43) 0 = .ok (.aload_n 0, 1) := by decide +kernel
theorem d43_1 : decode (cdN 43) 1 = .ok (.iload_n 1, 1) := by decide +kernel
theorem d43_2 : decode (cdN 43) 2 = .ok (.invokevirtual 168, 3) := by decide +kernel
theorem c43_168 : ctN (owN 43) 168 = some (0, 42, [818, 819, 820, 29]) := by decide +kernel
theorem d43_5 : decode (cdN 43) 5 = .ok (.ifCond .ne 7, 3) := by decide +kernel
theorem d43_8 : decode (cdN 43) 8 = .ok (.iconst 1, 1) := by decide +kernel
theorem d43_9 : decode (cdN 43) 9 = .ok (.goto 4, 3) := by decide +kernel
theorem d43_12 : decode (cdN 43) 12 = .ok (.iconst 0, 1) := by decide +kernel
theorem d43_13 : decode (cdN 43) 13 = .ok (.ireturn, 1) := by decide +kernel
theorem d44_0 : decode (cdN 44) 0 = .ok (.aload_n 0, 1) := by decide +kernel
theorem d44_1 : decode (cdN 44) 1 = .ok (.iload_n 1, 1) := by decide +kernel
theorem d44_2 : decode (cdN 44) 2 = .ok (.invokevirtual 171, 3) := by decide +kernel
theorem c44_171 : ctN (owN 44) 171 = some (0, 43, [836, 815, 816, 29]) := by decide +kernel
theorem d44_5 : decode (cdN 44) 5 = .ok (.ifCond .ne 5, 3) := by decide +kernel
theorem d44_8 : decode (cdN 44) 8 = .ok (.iconst 0, 1) := by decide +kernel
theorem d44_9 : decode (cdN 44) 9 = .ok (.ireturn, 1) := by decide +kernel
theorem d44_10 : decode (cdN 44) 10 = .ok (.iconst 0, 1) := by decide +kernel
theorem d44_11 : decode (cdN 44) 11 = .ok (.istore_n 2, 1) := by decide +kernel
theorem d44_12 : decode (cdN 44) 12 = .ok (.aload_n 0, 1) := by decide +kernel
theorem d44_13 : decode (cdN 44) 13 = .ok (.iload_n 1, 1) := by decide +kernel
theorem d44_14 : decode (cdN 44) 14 = .ok (.invokevirtual 158, 3) := by decide +kernel
theorem c44_158 : ctN (owN 44) 158 = some (0, 41, [826, 828, 10, 29]) := by decide +kernel
theorem d44_17 : decode (cdN 44) 17 = .ok (.istore_n 3, 1) := by decide +kernel
theorem d44_18 : decode (cdN 44) 18 = .ok (.aload_n 0, 1) := by decide +kernel
theorem d44_19 : decode (cdN 44) 19 = .ok (.getfield 15, 3) := by decide +kernel
theorem f44_15 : ftN (owN 44) 15 = some (5, 9, 295) := by decide +kernel
theorem d44_22 : decode (cdN 44) 22 = .ok (.iload_n 1, 1) := by decide +kernel
theorem d44_23 : decode (cdN 44) 23 = .ok (.iaload, 1) := by decide +kernel
theorem d44_24 : decode (cdN 44) 24 = .ok (.iconst 0, 1) := by decide +kernel
theorem d44_25 : decode (cdN 44) 25 = .ok (.invokestatic 162, 3) := by decide +kernel
theorem c44_162 : ctN (owN 44) 162 = some (5, 0, [830, 54, 17, 55]) := by decide +kernel
theorem d44_28 : decode (cdN 44) 28 = .ok (.istore 4, 2) := by decide +kernel
theorem d44_30 : decode (cdN 44) 30 = .ok (.iload 4, 2) := by decide +kernel
theorem d44_32 : decode (cdN 44) 32 = .ok (.iload_n 3, 1) := by decide +kernel
theorem d44_33 : decode (cdN 44) 33 = .ok (.if_icmp .ge 36, 3) := by decide +kernel
theorem d44_36 : decode (cdN 44) 36 = .ok (.aload_n 0, 1) := by decide +kernel
theorem d44_37 : decode (cdN 44) 37 = .ok (.getfield 28, 3) := by decide +kernel
theorem f44_28 : ftN (owN 44) 28 = some (5, 11, 300) := by decide +kernel
theorem d44_40 : decode (cdN 44) 40 = .ok (.getfield 165, 3) := by decide +kernel
theorem f44_165 : ftN (owN 44) 165 = some (3, 2, 200) := by decide +kernel
theorem d44_43 : decode (cdN 44) 43 = .ok (.iload 4, 2) := by decide +kernel
theorem d44_45 : decode (cdN 44) 45 = .ok (.iaload, 1) := by decide +kernel
theorem d44_46 : decode (cdN 44) 46 = .ok (.ifCond .ne 17, 3) := by decide +kernel
theorem d44_49 : decode (cdN 44) 49 = .ok (.aload_n 0, 1) := by decide +kernel
theorem d44_50 : decode (cdN 44) 50 = .ok (.getfield 28, 3) := by decide +kernel
theorem d44_53 : decode (cdN 44) 53 = .ok (.getfield 165, 3) := by decide +kernel
theorem d44_56 : decode (cdN 44) 56 = .ok (.iload 4, 2) := by decide +kernel
theorem d44_58 : decode (cdN 44) 58 = .ok (.iconst 2, 1) := by decide +kernel
theorem d44_59 : decode (cdN 44) 59 = .ok (.iastore, 1) := by decide +kernel
theorem d44_60 : decode (cdN 44) 60 = .ok (.iinc 2 1, 3) := by decide +kernel
theorem d44_63 : decode (cdN 44) 63 = .ok (.iinc 4 1, 3) := by decide +kernel
theorem d44_66 : decode (cdN 44) 66 = .ok (.goto (-36), 3) := by decide +kernel
theorem d44_69 : decode (cdN 44) 69 = .ok (.iload_n 2, 1) := by decide +kernel
theorem d44_70 : decode (cdN 44) 70 = .ok (.ireturn, 1) := by decide +kernel
theorem d45_0 : decode (cdN 45) 0 = .ok (.aload_n 0, 1) := by decide +kernel
theorem d45_1 : decode (cdN 45) 1 = .ok (.iload_n 1, 1) := by decide +kernel
theorem d45_2 : decode (cdN 45) 2 = .ok (.invokevirtual 168, 3) := by decide +kernel
theorem c45_168 : ctN (owN 45) 168 = some (0, 42, [818, 819, 820, 29]) := by decide +kernel
theorem d45_5 : decode (cdN 45) 5 = .ok (.iconst 2, 1) := by decide +kernel
theorem d45_6 : decode (cdN 45) 6 = .ok (.if_icmp .ne 14, 3) := by decide +kernel
theorem d45_9 : decode (cdN 45) 9 = .ok (.aload_n 0, 1) := by decide +kernel
theorem d45_10 : decode (cdN 45) 10 = .ok (.invokevirtual 144, 3) := by decide +kernel
theorem c45_144 : ctN (owN 45) 144 = some (0, 39, [365, 366, 367, 29]) := by decide +kernel
theorem d45_13 : decode (cdN 45) 13 = .ok (.ifCond .eq 7, 3) := by decide +kernel
theorem d45_16 : decode (cdN 45) 16 = .ok (.iconst 1, 1) := by decide +kernel
theorem d45_17 : decode (cdN 45) 17 = .ok (.goto 4, 3) := by decide +kernel
theorem d45_20 : decode (cdN 45) 20 = .ok (.iconst 0, 1) := by decide +kernel
theorem d45_21 : decode (cdN 45) 21 = .ok (.ireturn, 1) := by decide +kernel
theorem d46_0 : decode (cdN 46) 0 = .ok (.aload_n 0, 1) := by decide +kernel
theorem d46_1 : decode (cdN 46) 1 = .ok (.iload_n 1, 1) := by decide +kernel
theorem d46_2 : decode (cdN 46) 2 = .ok (.invokevirtual 174, 3) := by decide +kernel
theorem c46_174 : ctN (owN 46) 174 = some (0, 45, [850, 842, 843, 29]) := by decide +kernel
theorem d46_5 : decode (cdN 46) 5 = .ok (.ifCond .ne 5, 3) := by decide +kernel
theorem d46_8 : decode (cdN 46) 8 = .ok (.iconst (-1), 1) := by decide +kernel
theorem d46_9 : decode (cdN 46) 9 = .ok (.ireturn, 1) := by decide +kernel
theorem d46_10 : decode (cdN 46) 10 = .ok (.aload_n 0, 1) := by decide +kernel
theorem d46_11 : decode (cdN 46) 11 = .ok (.iload_n 1, 1) := by decide +kernel
theorem d46_12 : decode (cdN 46) 12 = .ok (.invokevirtual 158, 3) := by decide +kernel
theorem c46_158 : ctN (owN 46) 158 = some (0, 41, [826, 828, 10, 29]) := by decide +kernel
theorem d46_15 : decode (cdN 46) 15 = .ok (.istore_n 2, 1) := by decide +kernel
theorem d46_16 : decode (cdN 46) 16 = .ok (.aload_n 0, 1) := by decide +kernel
theorem d46_17 : decode (cdN 46) 17 = .ok (.getfield 9, 3) := by decide +kernel
theorem f46_9 : ftN (owN 46) 9 = some (5, 8, 293) := by decide +kernel
theorem d46_20 : decode (cdN 46) 20 = .ok (.aload_n 0, 1) := by decide +kernel
theorem d46_21 : decode (cdN 46) 21 = .ok (.getfield 61, 3) := by decide +kernel
theorem f46_61 : ftN (owN 46) 61 = some (5, 7, 291) := by decide +kernel
theorem d46_24 : decode (cdN 46) 24 = .ok (.aload_n 0, 1) := by decide +kernel
theorem d46_25 : decode (cdN 46) 25 = .ok (.getfield 9, 3) := by decide +kernel
theorem d46_28 : decode (cdN 46) 28 = .ok (.iload_n 1, 1) := by decide +kernel
theorem d46_29 : decode (cdN 46) 29 = .ok (.iaload, 1) := by decide +kernel
theorem d46_30 : decode (cdN 46) 30 = .ok (.iastore, 1) := by decide +kernel
theorem d46_31 : decode (cdN 46) 31 = .ok (.aload_n 0, 1) := by decide +kernel
theorem d46_32 : decode (cdN 46) 32 = .ok (.getfield 15, 3) := by decide +kernel
theorem f46_15 : ftN (owN 46) 15 = some (5, 9, 295) := by decide +kernel
theorem d46_35 : decode (cdN 46) 35 = .ok (.aload_n 0, 1) := by decide +kernel
theorem d46_36 : decode (cdN 46) 36 = .ok (.getfield 61, 3) := by decide +kernel
theorem d46_39 : decode (cdN 46) 39 = .ok (.aload_n 0, 1) := by decide +kernel
theorem d46_40 : decode (cdN 46) 40 = .ok (.getfield 28, 3) := by decide +kernel
theorem f46_28 : ftN (owN 46) 28 = some (5, 11, 300) := by decide +kernel
theorem d46_43 : decode (cdN 46) 43 = .ok (.getfield 67, 3) := by decide +kernel
theorem f46_67 : ftN (owN 46) 67 = some (3, 0, 194) := by decide +kernel
theorem d46_46 : decode (cdN 46) 46 = .ok (.iastore, 1) := by decide +kernel
theorem d46_47 : decode (cdN 46) 47 = .ok (.aload_n 0, 1) := by decide +kernel
theorem d46_48 : decode (cdN 46) 48 = .ok (.getfield 15, 3) := by decide +kernel
theorem d46_51 : decode (cdN 46) 51 = .ok (.iload_n 1, 1) := by decide +kernel
theorem d46_52 : decode (cdN 46) 52 = .ok (.iaload, 1) := by decide +kernel
theorem d46_53 : decode (cdN 46) 53 = .ok (.iconst 0, 1) := by decide +kernel
theorem d46_54 : decode (cdN 46) 54 = .ok (.invokestatic 162, 3) := by decide +kernel
theorem c46_162 : ctN (owN 46) 162 = some (5, 0, [830, 54, 17, 55]) := by decide +kernel
theorem d46_57 : decode (cdN 46) 57 = .ok (.istore_n 3, 1) := by decide +kernel
theorem d46_58 : decode (cdN 46) 58 = .ok (.iload_n 3, 1) := by decide +kernel
theorem d46_59 : decode (cdN 46) 59 = .ok (.iload_n 2, 1) := by decide +kernel
theorem d46_60 : decode (cdN 46) 60 = .ok (.if_icmp .ge 40, 3) := by decide +kernel
theorem d46_63 : decode (cdN 46) 63 = .ok (.aload_n 0, 1) := by decide +kernel
theorem d46_64 : decode (cdN 46) 64 = .ok (.getfield 28, 3) := by decide +kernel
theorem d46_67 : decode (cdN 46) 67 = .ok (.aload_n 0, 1) := by decide +kernel
theorem d46_68 : decode (cdN 46) 68 = .ok (.getfield 28, 3) := by decide +kernel
theorem d46_71 : decode (cdN 46) 71 = .ok (.getfield 177, 3) := by decide +kernel
theorem f46_177 : ftN (owN 46) 177 = some (3, 5, 208) := by decide +kernel
theorem d46_74 : decode (cdN 46) 74 = .ok (.iload_n 3, 1) := by decide +kernel
theorem d46_75 : decode (cdN 46) 75 = .ok (.bipush 6, 2) := by decide +kernel
theorem d46_77 : decode (cdN 46) 77 = .ok (.imul, 1) := by decide +kernel
theorem d46_78 : decode (cdN 46) 78 = .ok (.iconst 1, 1) := by decide +kernel
theorem d46_79 : decode (cdN 46) 79 = .ok (.iadd, 1) := by decide +kernel
theorem d46_80 : decode (cdN 46) 80 = .ok (.aload_n 0, 1) := by decide +kernel
theorem d46_81 : decode (cdN 46) 81 = .ok (.getfield 28, 3) := by decide +kernel
theorem d46_84 : decode (cdN 46) 84 = .ok (.getfield 180, 3) := by decide +kernel
theorem f46_180 : ftN (owN 46) 180 = some (3, 1, 197) := by decide +kernel
theorem d46_87 : decode (cdN 46) 87 = .ok (.iload_n 3, 1) := by decide +kernel
theorem d46_88 : decode (cdN 46) 88 = .ok (.iaload, 1) := by decide +kernel
theorem d46_89 : decode (cdN 46) 89 = .ok (.iconst 2, 1) := by decide +kernel
theorem d46_90 : decode (cdN 46) 90 = .ok (.isub, 1) := by decide +kernel
theorem d46_91 : decode (cdN 46) 91 = .ok (.invokevirtual 152, 3) := by decide +kernel
theorem c46_152 : ctN (owN 46) 152 = some (0, 19, [372, 373, 374, 31]) := by decide +kernel
theorem d46_94 : decode (cdN 46) 94 = .ok (.iinc 3 1, 3) := by decide +kernel
theorem d46_97 : decode (cdN 46) 97 = .ok (.goto (-39), 3) := by decide +kernel
theorem d46_100 : decode (cdN 46) 100 = .ok (.aload_n 0, 1) := by decide +kernel
theorem d46_101 : decode (cdN 46) 101 = .ok (.dup, 1) := by decide +kernel
theorem d46_102 : decode (cdN 46) 102 = .ok (.getfield 61, 3) := by decide +kernel
theorem d46_105 : decode (cdN 46) 105 = .ok (.iconst 1, 1) := by decide +kernel
theorem d46_106 : decode (cdN 46) 106 = .ok (.iadd, 1) := by decide +kernel
theorem d46_107 : decode (cdN 46) 107 = .ok (.putfield 61, 3) := by decide +kernel
theorem d46_110 : decode (cdN 46) 110 = .ok (.aload_n 0, 1) := by decide +kernel
theorem d46_111 : decode (cdN 46) 111 = .ok (.getfield 61, 3) := by decide +kernel
theorem d46_114 : decode (cdN 46) 114 = .ok (.iconst 1, 1) := by decide +kernel
theorem d46_115 : decode (cdN 46) 115 = .ok (.isub, 1) := by decide +kernel
theorem d46_116 : decode (cdN 46) 116 = .ok (.ireturn, 1) := by decide +kernel
theorem d62_0 : decode (cdN 62) 0 = .ok (.aload_n 0, 1) := by decide +kernel
theorem d62_1 : decode (cdN 62) 1 = .ok (.invokespecial 3, 3) := by decide +kernel
theorem c62_3 : ctN (owN 62) 3 = some (9, 0, [52, 45, 46]) := by decide +kernel
theorem d62_4 : decode (cdN 62) 4 = .ok (.aload_n 0, 1) := by decide +kernel
theorem d62_5 : decode (cdN 62) 5 = .ok (.iload_n 1, 1) := by decide +kernel
theorem d62_6 : decode (cdN 62) 6 = .ok (.iconst 0, 1) := by decide +kernel
theorem d62_7 : decode (cdN 62) 7 = .ok (.invokestatic 9, 3) := by decide +kernel
theorem c62_9 : ctN (owN 62) 9 = some (5, 0, [53, 54, 17, 55]) := by decide +kernel
theorem d62_10 : decode (cdN 62) 10 = .ok (.newarray .int, 2) := by decide +kernel
theorem d62_12 : decode (cdN 62) 12 = .ok (.putfield 15, 3) := by decide +kernel
theorem f62_15 : ftN (owN 62) 15 = some (7, 0, 56) := by decide +kernel
theorem d62_15 : decode (cdN 62) 15 = .ok (.return_, 1) := by decide +kernel
theorem d63_0 : decode (cdN 63) 0 = .ok (.iload_n 1, 1) := by decide +kernel
theorem d63_1 : decode (cdN 63) 1 = .ok (.ifCond .lt 20, 3) := by decide +kernel
theorem d63_4 : decode (cdN 63) 4 = .ok (.iload_n 1, 1) := by decide +kernel
theorem d63_5 : decode (cdN 63) 5 = .ok (.aload_n 0, 1) := by decide +kernel
theorem d63_6 : decode (cdN 63) 6 = .ok (.getfield 21, 3) := by decide +kernel
theorem f63_21 : ftN (owN 63) 21 = some (7, 1, 59) := by decide +kernel
theorem d63_9 : decode (cdN 63) 9 = .ok (.if_icmp .ge 12, 3) := by decide +kernel
theorem d63_12 : decode (cdN 63) 12 = .ok (.iload_n 1, 1) := by decide +kernel
theorem d63_13 : decode (cdN 63) 13 = .ok (.aload_n 0, 1) := by decide +kernel
theorem d63_14 : decode (cdN 63) 14 = .ok (.getfield 15, 3) := by decide +kernel
theorem f63_15 : ftN (owN 63) 15 = some (7, 0, 56) := by decide +kernel
theorem d63_17 : decode (cdN 63) 17 = .ok (.arraylength, 1) := by decide +kernel
theorem d63_18 : decode (cdN 63) 18 = .ok (.if_icmp .lt 7, 3) := by decide +kernel
theorem d63_21 : decode (cdN 63) 21 = .ok (.iconst (-1), 1) := by decide +kernel
theorem d63_22 : decode (cdN 63) 22 = .ok (.goto 9, 3) := by decide +kernel
theorem d63_25 : decode (cdN 63) 25 = .ok (.aload_n 0, 1) := by decide +kernel
theorem d63_26 : decode (cdN 63) 26 = .ok (.getfield 15, 3) := by decide +kernel
theorem d63_29 : decode (cdN 63) 29 = .ok (.iload_n 1, 1) := by decide +kernel
theorem d63_30 : decode (cdN 63) 30 = .ok (.iaload, 1) := by decide +kernel
theorem d63_31 : decode (cdN 63) 31 = .ok (.ireturn, 1) := by decide +kernel
theorem d64_0 : decode (cdN 64) 0 = .ok (.aload_n 0, 1) := by decide +kernel
theorem d64_1 : decode (cdN 64) 1 = .ok (.getfield 21, 3) := by decide +kernel
theorem f64_21 : ftN (owN 64) 21 = some (7, 1, 59) := by decide +kernel
theorem d64_4 : decode (cdN 64) 4 = .ok (.ifCond .lt 39, 3) := by decide +kernel
theorem d64_7 : decode (cdN 64) 7 = .ok (.aload_n 0, 1) := by decide +kernel
theorem d64_8 : decode (cdN 64) 8 = .ok (.getfield 21, 3) := by decide +kernel
theorem d64_11 : decode (cdN 64) 11 = .ok (.aload_n 0, 1) := by decide +kernel
theorem d64_12 : decode (cdN 64) 12 = .ok (.getfield 15, 3) := by decide +kernel
theorem f64_15 : ftN (owN 64) 15 = some (7, 0, 56) := by decide +kernel
theorem d64_15 : decode (cdN 64) 15 = .ok (.arraylength, 1) := by decide +kernel
theorem d64_16 : decode (cdN 64) 16 = .ok (.if_icmp .ge 27, 3) := by decide +kernel
theorem d64_19 : decode (cdN 64) 19 = .ok (.aload_n 0, 1) := by decide +kernel
theorem d64_20 : decode (cdN 64) 20 = .ok (.getfield 15, 3) := by decide +kernel
theorem d64_23 : decode (cdN 64) 23 = .ok (.aload_n 0, 1) := by decide +kernel
theorem d64_24 : decode (cdN 64) 24 = .ok (.getfield 21, 3) := by decide +kernel
theorem d64_27 : decode (cdN 64) 27 = .ok (.iload_n 1, 1) := by decide +kernel
theorem d64_28 : decode (cdN 64) 28 = .ok (.sipush 255, 3) := by decide +kernel
theorem d64_31 : decode (cdN 64) 31 = .ok (.iand, 1) := by decide +kernel
theorem d64_32 : decode (cdN 64) 32 = .ok (.iastore, 1) := by decide +kernel
theorem d64_33 : decode (cdN 64) 33 = .ok (.aload_n 0, 1) := by decide +kernel
theorem d64_34 : decode (cdN 64) 34 = .ok (.dup, 1) := by decide +kernel
theorem d64_35 : decode (cdN 64) 35 = .ok (.getfield 21, 3) := by decide +kernel
theorem d64_38 : decode (cdN 64) 38 = .ok (.iconst 1, 1) := by decide +kernel
theorem d64_39 : decode (cdN 64) 39 = .ok (.iadd, 1) := by decide +kernel
theorem d64_40 : decode (cdN 64) 40 = .ok (.putfield 21, 3) := by decide +kernel
theorem d64_43 : decode (cdN 64) 43 = .ok (.return_, 1) := by decide +kernel
theorem d65_0 : decode (cdN 65) 0 = .ok (.aload_n 0, 1) := by decide +kernel
theorem d65_1 : decode (cdN 65) 1 = .ok (.iload_n 1, 1) := by decide +kernel
theorem d65_2 : decode (cdN 65) 2 = .ok (.bipush 24, 2) := by decide +kernel
theorem d65_4 : decode (cdN 65) 4 = .ok (.iushr, 1) := by decide +kernel
theorem d65_5 : decode (cdN 65) 5 = .ok (.invokevirtual 25, 3) := by decide +kernel
theorem c65_25 : ctN (owN 65) 25 = some (0, 64, [676, 358, 359, 24]) := by decide +kernel
theorem d65_8 : decode (cdN 65) 8 = .ok (.aload_n 0, 1) := by decide +kernel
theorem d65_9 : decode (cdN 65) 9 = .ok (.iload_n 1, 1) := by decide +kernel
theorem d65_10 : decode (cdN 65) 10 = .ok (.bipush 16, 2) := by decide +kernel
theorem d65_12 : decode (cdN 65) 12 = .ok (.iushr, 1) := by decide +kernel
theorem d65_13 : decode (cdN 65) 13 = .ok (.invokevirtual 25, 3) := by decide +kernel
theorem d65_16 : decode (cdN 65) 16 = .ok (.aload_n 0, 1) := by decide +kernel
theorem d65_17 : decode (cdN 65) 17 = .ok (.iload_n 1, 1) := by decide +kernel
theorem d65_18 : decode (cdN 65) 18 = .ok (.bipush 8, 2) := by decide +kernel
theorem d65_20 : decode (cdN 65) 20 = .ok (.iushr, 1) := by decide +kernel
theorem d65_21 : decode (cdN 65) 21 = .ok (.invokevirtual 25, 3) := by decide +kernel
theorem d65_24 : decode (cdN 65) 24 = .ok (.aload_n 0, 1) := by decide +kernel
theorem d65_25 : decode (cdN 65) 25 = .ok (.iload_n 1, 1) := by decide +kernel
theorem d65_26 : decode (cdN 65) 26 = .ok (.invokevirtual 25, 3) := by decide +kernel
theorem d65_29 : decode (cdN 65) 29 = .ok (.return_, 1) := by decide +kernel
theorem d66_0 : decode (cdN 66) 0 = .ok (.aload_n 0, 1) := by decide +kernel
theorem d66_1 : decode (cdN 66) 1 = .ok (.invokespecial 3, 3) := by decide +kernel
theorem c66_3 : ctN (owN 66) 3 = some (9, 0, [72, 45, 46]) := by decide +kernel
theorem d66_4 : decode (cdN 66) 4 = .ok (.aload_n 0, 1) := by decide +kernel
theorem d66_5 : decode (cdN 66) 5 = .ok (.iconst (-1), 1) := by decide +kernel
theorem d66_6 : decode (cdN 66) 6 = .ok (.putfield 9, 3) := by decide +kernel
theorem f66_9 : ftN (owN 66) 9 = some (8, 5, 79) := by decide +kernel
theorem d66_9 : decode (cdN 66) 9 = .ok (.aload_n 0, 1) := by decide +kernel
theorem d66_10 : decode (cdN 66) 10 = .ok (.aload_n 1, 1) := by decide +kernel
theorem d66_11 : decode (cdN 66) 11 = .ok (.putfield 15, 3) := by decide +kernel
theorem f66_15 : ftN (owN 66) 15 = some (8, 0, 73) := by decide +kernel
theorem d66_14 : decode (cdN 66) 14 = .ok (.return_, 1) := by decide +kernel
theorem d67_0 : decode (cdN 67) 0 = .ok (.aload_n 0, 1) := by decide +kernel
theorem d67_1 : decode (cdN 67) 1 = .ok (.iconst 0, 1) := by decide +kernel
theorem d67_2 : decode (cdN 67) 2 = .ok (.putfield 19, 3) := by decide +kernel
theorem f67_19 : ftN (owN 67) 19 = some (8, 1, 74) := by decide +kernel
theorem d67_5 : decode (cdN 67) 5 = .ok (.aload_n 0, 1) := by decide +kernel
theorem d67_6 : decode (cdN 67) 6 = .ok (.iconst 0, 1) := by decide +kernel
theorem d67_7 : decode (cdN 67) 7 = .ok (.putfield 22, 3) := by decide +kernel
theorem f67_22 : ftN (owN 67) 22 = some (8, 2, 76) := by decide +kernel
theorem d67_10 : decode (cdN 67) 10 = .ok (.aload_n 0, 1) := by decide +kernel
theorem d67_11 : decode (cdN 67) 11 = .ok (.iconst 0, 1) := by decide +kernel
theorem d67_12 : decode (cdN 67) 12 = .ok (.putfield 25, 3) := by decide +kernel
theorem f67_25 : ftN (owN 67) 25 = some (8, 3, 77) := by decide +kernel
theorem d67_15 : decode (cdN 67) 15 = .ok (.aload_n 0, 1) := by decide +kernel
theorem d67_16 : decode (cdN 67) 16 = .ok (.iconst 0, 1) := by decide +kernel
theorem d67_17 : decode (cdN 67) 17 = .ok (.putfield 28, 3) := by decide +kernel
theorem f67_28 : ftN (owN 67) 28 = some (8, 4, 78) := by decide +kernel
theorem d67_20 : decode (cdN 67) 20 = .ok (.aload_n 0, 1) := by decide +kernel
theorem d67_21 : decode (cdN 67) 21 = .ok (.iconst (-1), 1) := by decide +kernel
theorem d67_22 : decode (cdN 67) 22 = .ok (.putfield 9, 3) := by decide +kernel
theorem f67_9 : ftN (owN 67) 9 = some (8, 5, 79) := by decide +kernel
theorem d67_25 : decode (cdN 67) 25 = .ok (.return_, 1) := by decide +kernel
theorem d68_0 : decode (cdN 68) 0 = .ok (.aload_n 0, 1) := by decide +kernel
theorem d68_1 : decode (cdN 68) 1 = .ok (.iload_n 1, 1) := by decide +kernel
theorem d68_2 : decode (cdN 68) 2 = .ok (.putfield 28, 3) := by decide +kernel
theorem f68_28 : ftN (owN 68) 28 = some (8, 4, 78) := by decide +kernel
theorem d68_5 : decode (cdN 68) 5 = .ok (.aload_n 0, 1) := by decide +kernel
theorem d68_6 : decode (cdN 68) 6 = .ok (.aload_n 0, 1) := by decide +kernel
theorem d68_7 : decode (cdN 68) 7 = .ok (.getfield 22, 3) := by decide +kernel
theorem f68_22 : ftN (owN 68) 22 = some (8, 2, 76) := by decide +kernel
theorem d68_10 : decode (cdN 68) 10 = .ok (.putfield 9, 3) := by decide +kernel
theorem f68_9 : ftN (owN 68) 9 = some (8, 5, 79) := by decide +kernel
theorem d68_13 : decode (cdN 68) 13 = .ok (.iconst 0, 1) := by decide +kernel
theorem d68_14 : decode (cdN 68) 14 = .ok (.ireturn, 1) := by decide +kernel
theorem d69_0 : decode (cdN 69) 0 = .ok (.aload_n 0, 1) := by decide +kernel
theorem d69_1 : decode (cdN 69) 1 = .ok (.aload_n 0, 1) := by decide +kernel
theorem d69_2 : decode (cdN 69) 2 = .ok (.getfield 25, 3) := by decide +kernel
theorem f69_25 : ftN (owN 69) 25 = some (8, 3, 77) := by decide +kernel
theorem d69_5 : decode (cdN 69) 5 = .ok (.putfield 22, 3) := by decide +kernel
theorem f69_22 : ftN (owN 69) 22 = some (8, 2, 76) := by decide +kernel
theorem d69_8 : decode (cdN 69) 8 = .ok (.aload_n 0, 1) := by decide +kernel
theorem d69_9 : decode (cdN 69) 9 = .ok (.getfield 22, 3) := by decide +kernel
theorem d69_12 : decode (cdN 69) 12 = .ok (.aload_n 0, 1) := by decide +kernel
theorem d69_13 : decode (cdN 69) 13 = .ok (.getfield 15, 3) := by decide +kernel
theorem f69_15 : ftN (owN 69) 15 = some (8, 0, 73) := by decide +kernel
theorem d69_16 : decode (cdN 69) 16 = .ok (.getfield 31, 3) := by decide +kernel
theorem f69_31 : ftN (owN 69) 31 = some (7, 1, 60) := by decide +kernel
theorem d69_19 : decode (cdN 69) 19 = .ok (.if_icmp .ge 32, 3) := by decide +kernel
theorem d69_22 : decode (cdN 69) 22 = .ok (.aload_n 0, 1) := by decide +kernel
theorem d69_23 : decode (cdN 69) 23 = .ok (.getfield 15, 3) := by decide +kernel
theorem d69_26 : decode (cdN 69) 26 = .ok (.aload_n 0, 1) := by decide +kernel
theorem d69_27 : decode (cdN 69) 27 = .ok (.getfield 22, 3) := by decide +kernel
theorem d69_30 : decode (cdN 69) 30 = .ok (.invokevirtual 36, 3) := by decide +kernel
theorem c69_36 : ctN (owN 69) 36 = some (0, 63, [702, 703, 704, 24]) := by decide +kernel
theorem d69_33 : decode (cdN 69) 33 = .ok (.bipush 32, 2) := by decide +kernel
theorem d69_35 : decode (cdN 69) 35 = .ok (.if_icmp .ne 16, 3) := by decide +kernel
theorem d69_38 : decode (cdN 69) 38 = .ok (.aload_n 0, 1) := by decide +kernel
theorem d69_39 : decode (cdN 69) 39 = .ok (.dup, 1) := by decide +kernel
theorem d69_40 : decode (cdN 69) 40 = .ok (.getfield 22, 3) := by decide +kernel
theorem d69_43 : decode (cdN 69) 43 = .ok (.iconst 1, 1) := by decide +kernel
theorem d69_44 : decode (cdN 69) 44 = .ok (.iadd, 1) := by decide +kernel
theorem d69_45 : decode (cdN 69) 45 = .ok (.putfield 22, 3) := by decide +kernel
theorem d69_48 : decode (cdN 69) 48 = .ok (.goto (-40), 3) := by decide +kernel
theorem d69_51 : decode (cdN 69) 51 = .ok (.aload_n 0, 1) := by decide +kernel
theorem d69_52 : decode (cdN 69) 52 = .ok (.aload_n 0, 1) := by decide +kernel
theorem d69_53 : decode (cdN 69) 53 = .ok (.getfield 22, 3) := by decide +kernel
theorem d69_56 : decode (cdN 69) 56 = .ok (.putfield 25, 3) := by decide +kernel
theorem d69_59 : decode (cdN 69) 59 = .ok (.aload_n 0, 1) := by decide +kernel
theorem d69_60 : decode (cdN 69) 60 = .ok (.aload_n 0, 1) := by decide +kernel
theorem d69_61 : decode (cdN 69) 61 = .ok (.getfield 15, 3) := by decide +kernel
theorem d69_64 : decode (cdN 69) 64 = .ok (.aload_n 0, 1) := by decide +kernel
theorem d69_65 : decode (cdN 69) 65 = .ok (.getfield 22, 3) := by decide +kernel
theorem d69_68 : decode (cdN 69) 68 = .ok (.invokevirtual 36, 3) := by decide +kernel
theorem d69_71 : decode (cdN 69) 71 = .ok (.invokestatic 40, 3) := by decide +kernel
theorem c69_40 : ctN (owN 69) 40 = some (1, 70, [706, 707, 25]) := by decide +kernel
theorem d69_74 : decode (cdN 69) 74 = .ok (.putfield 19, 3) := by decide +kernel
theorem f69_19 : ftN (owN 69) 19 = some (8, 1, 74) := by decide +kernel
theorem d69_77 : decode (cdN 69) 77 = .ok (.aload_n 0, 1) := by decide +kernel
theorem d69_78 : decode (cdN 69) 78 = .ok (.getfield 19, 3) := by decide +kernel
theorem d69_81 : decode (cdN 69) 81 = .ok (.ifCond .ne 4, 3) := by decide +kernel
theorem d69_84 : decode (cdN 69) 84 = .ok (.return_, 1) := by decide +kernel
theorem d69_85 : decode (cdN 69) 85 = .ok (.aload_n 0, 1) := by decide +kernel
theorem d69_86 : decode (cdN 69) 86 = .ok (.dup, 1) := by decide +kernel
theorem d69_87 : decode (cdN 69) 87 = .ok (.getfield 25, 3) := by decide +kernel
theorem d69_90 : decode (cdN 69) 90 = .ok (.iconst 1, 1) := by decide +kernel
theorem d69_91 : decode (cdN 69) 91 = .ok (.iadd, 1) := by decide +kernel
theorem d69_92 : decode (cdN 69) 92 = .ok (.putfield 25, 3) := by decide +kernel
theorem d69_95 : decode (cdN 69) 95 = .ok (.aload_n 0, 1) := by decide +kernel
theorem d69_96 : decode (cdN 69) 96 = .ok (.getfield 19, 3) := by decide +kernel
theorem d69_99 : decode (cdN 69) 99 = .ok (.iconst 1, 1) := by decide +kernel
theorem d69_100 : decode (cdN 69) 100 = .ok (.if_icmp .eq 11, 3) := by decide +kernel
theorem d69_103 : decode (cdN 69) 103 = .ok (.aload_n 0, 1) := by decide +kernel
theorem d69_104 : decode (cdN 69) 104 = .ok (.getfield 19, 3) := by decide +kernel
theorem d69_107 : decode (cdN 69) 107 = .ok (.iconst 2, 1) := by decide +kernel
theorem d69_108 : decode (cdN 69) 108 = .ok (.if_icmp .ne 51, 3) := by decide +kernel
theorem d69_111 : decode (cdN 69) 111 = .ok (.aload_n 0, 1) := by decide +kernel
theorem d69_112 : decode (cdN 69) 112 = .ok (.getfield 25, 3) := by decide +kernel
theorem d69_115 : decode (cdN 69) 115 = .ok (.aload_n 0, 1) := by decide +kernel
theorem d69_116 : decode (cdN 69) 116 = .ok (.getfield 15, 3) := by decide +kernel
theorem d69_119 : decode (cdN 69) 119 = .ok (.getfield 31, 3) := by decide +kernel
theorem d69_122 : decode (cdN 69) 122 = .ok (.if_icmp .ge 37, 3) := by decide +kernel
theorem d69_125 : decode (cdN 69) 125 = .ok (.aload_n 0, 1) := by decide +kernel
theorem d69_126 : decode (cdN 69) 126 = .ok (.getfield 15, 3) := by decide +kernel
theorem d69_129 : decode (cdN 69) 129 = .ok (.aload_n 0, 1) := by decide +kernel
theorem d69_130 : decode (cdN 69) 130 = .ok (.getfield 25, 3) := by decide +kernel
theorem d69_133 : decode (cdN 69) 133 = .ok (.invokevirtual 36, 3) := by decide +kernel
theorem d69_136 : decode (cdN 69) 136 = .ok (.invokestatic 40, 3) := by decide +kernel
theorem d69_139 : decode (cdN 69) 139 = .ok (.aload_n 0, 1) := by decide +kernel
theorem d69_140 : decode (cdN 69) 140 = .ok (.getfield 19, 3) := by decide +kernel
theorem d69_143 : decode (cdN 69) 143 = .ok (.if_icmp .ne 16, 3) := by decide +kernel
theorem d69_146 : decode (cdN 69) 146 = .ok (.aload_n 0, 1) := by decide +kernel
theorem d69_147 : decode (cdN 69) 147 = .ok (.dup, 1) := by decide +kernel
theorem d69_148 : decode (cdN 69) 148 = .ok (.getfield 25, 3) := by decide +kernel
theorem d69_151 : decode (cdN 69) 151 = .ok (.iconst 1, 1) := by decide +kernel
theorem d69_152 : decode (cdN 69) 152 = .ok (.iadd, 1) := by decide +kernel
theorem d69_153 : decode (cdN 69) 153 = .ok (.putfield 25, 3) := by decide +kernel
theorem d69_156 : decode (cdN 69) 156 = .ok (.goto (-45), 3) := by decide +kernel
theorem d69_159 : decode (cdN 69) 159 = .ok (.return_, 1) := by decide +kernel
theorem d70_0 : decode (cdN 70) 0 = .ok (.iload_n 0, 1) := by decide +kernel
theorem d70_1 : decode (cdN 70) 1 = .ok (.iconst (-1), 1) := by decide +kernel
theorem d70_2 : decode (cdN 70) 2 = .ok (.if_icmp .ne 5, 3) := by decide +kernel
theorem d70_5 : decode (cdN 70) 5 = .ok (.iconst 0, 1) := by decide +kernel
theorem d70_6 : decode (cdN 70) 6 = .ok (.ireturn, 1) := by decide +kernel
theorem d70_7 : decode (cdN 70) 7 = .ok (.iload_n 0, 1) := by decide +kernel
theorem d70_8 : decode (cdN 70) 8 = .ok (.bipush 97, 2) := by decide +kernel
theorem d70_10 : decode (cdN 70) 10 = .ok (.if_icmp .lt 11, 3) := by decide +kernel
theorem d70_13 : decode (cdN 70) 13 = .ok (.iload_n 0, 1) := by decide +kernel
theorem d70_14 : decode (cdN 70) 14 = .ok (.bipush 122, 2) := by decide +kernel
theorem d70_16 : decode (cdN 70) 16 = .ok (.if_icmp .gt 5, 3) := by decide +kernel
theorem d70_19 : decode (cdN 70) 19 = .ok (.iconst 1, 1) := by decide +kernel
theorem d70_20 : decode (cdN 70) 20 = .ok (.ireturn, 1) := by decide +kernel
theorem d70_21 : decode (cdN 70) 21 = .ok (.iload_n 0, 1) := by decide +kernel
theorem d70_22 : decode (cdN 70) 22 = .ok (.bipush 48, 2) := by decide +kernel
theorem d70_24 : decode (cdN 70) 24 = .ok (.if_icmp .lt 11, 3) := by decide +kernel
theorem d70_27 : decode (cdN 70) 27 = .ok (.iload_n 0, 1) := by decide +kernel
theorem d70_28 : decode (cdN 70) 28 = .ok (.bipush 57, 2) := by decide +kernel
theorem d70_30 : decode (cdN 70) 30 = .ok (.if_icmp .gt 5, 3) := by decide +kernel
theorem d70_33 : decode (cdN 70) 33 = .ok (.iconst 2, 1) := by decide +kernel
theorem d70_34 : decode (cdN 70) 34 = .ok (.ireturn, 1) := by decide +kernel
theorem d70_35 : decode (cdN 70) 35 = .ok (.iload_n 0, 1) := by decide +kernel
theorem d70_36 : decode (cdN 70) 36 = .ok (.bipush 59, 2) := by decide +kernel
theorem d70_38 : decode (cdN 70) 38 = .ok (.if_icmp .ne 7, 3) := by decide +kernel
theorem d70_41 : decode (cdN 70) 41 = .ok (.iconst 3, 1) := by decide +kernel
theorem d70_42 : decode (cdN 70) 42 = .ok (.goto 4, 3) := by decide +kernel
theorem d70_45 : decode (cdN 70) 45 = .ok (.iconst 4, 1) := by decide +kernel
theorem d70_46 : decode (cdN 70) 46 = .ok (.ireturn, 1) := by decide +kernel
theorem d71_0 : decode (cdN 71) 0 = .ok (.aload_n 0, 1) := by decide +kernel
theorem d71_1 : decode (cdN 71) 1 = .ok (.getfield 19, 3) := by decide +kernel
theorem f71_19 : ftN (owN 71) 19 = some (8, 1, 74) := by decide +kernel
theorem d71_4 : decode (cdN 71) 4 = .ok (.iconst 1, 1) := by decide +kernel
theorem d71_5 : decode (cdN 71) 5 = .ok (.if_icmp .ne 19, 3) := by decide +kernel
theorem d71_8 : decode (cdN 71) 8 = .ok (.aload_n 0, 1) := by decide +kernel
theorem d71_9 : decode (cdN 71) 9 = .ok (.getfield 25, 3) := by decide +kernel
theorem f71_25 : ftN (owN 71) 25 = some (8, 3, 77) := by decide +kernel
theorem d71_12 : decode (cdN 71) 12 = .ok (.aload_n 0, 1) := by decide +kernel
theorem d71_13 : decode (cdN 71) 13 = .ok (.getfield 22, 3) := by decide +kernel
theorem f71_22 : ftN (owN 71) 22 = some (8, 2, 76) := by decide +kernel
theorem d71_16 : decode (cdN 71) 16 = .ok (.isub, 1) := by decide +kernel
theorem d71_17 : decode (cdN 71) 17 = .ok (.aload_n 1, 1) := by decide +kernel
theorem d71_18 : decode (cdN 71) 18 = .ok (.invokevirtual 43, 3) := by decide +kernel
theorem c71_43 : ctN (owN 71) 43 = some (10, 167, [718, 620, 621, 14]) := by decide +kernel
theorem d71_21 : decode (cdN 71) 21 = .ok (.if_icmp .eq 5, 3) := by decide +kernel
theorem d71_24 : decode (cdN 71) 24 = .ok (.iconst 0, 1) := by decide +kernel
theorem d71_25 : decode (cdN 71) 25 = .ok (.ireturn, 1) := by decide +kernel
theorem d71_26 : decode (cdN 71) 26 = .ok (.iconst 0, 1) := by decide +kernel
theorem d71_27 : decode (cdN 71) 27 = .ok (.istore_n 2, 1) := by decide +kernel
theorem d71_28 : decode (cdN 71) 28 = .ok (.iload_n 2, 1) := by decide +kernel
theorem d71_29 : decode (cdN 71) 29 = .ok (.aload_n 1, 1) := by decide +kernel
theorem d71_30 : decode (cdN 71) 30 = .ok (.invokevirtual 43, 3) := by decide +kernel
theorem d71_33 : decode (cdN 71) 33 = .ok (.if_icmp .ge 32, 3) := by decide +kernel
theorem d71_36 : decode (cdN 71) 36 = .ok (.aload_n 0, 1) := by decide +kernel
theorem d71_37 : decode (cdN 71) 37 = .ok (.getfield 15, 3) := by decide +kernel
theorem f71_15 : ftN (owN 71) 15 = some (8, 0, 73) := by decide +kernel
theorem d71_40 : decode (cdN 71) 40 = .ok (.aload_n 0, 1) := by decide +kernel
theorem d71_41 : decode (cdN 71) 41 = .ok (.getfield 22, 3) := by decide +kernel
theorem d71_44 : decode (cdN 71) 44 = .ok (.iload_n 2, 1) := by decide +kernel
theorem d71_45 : decode (cdN 71) 45 = .ok (.iadd, 1) := by decide +kernel
theorem d71_46 : decode (cdN 71) 46 = .ok (.invokevirtual 36, 3) := by decide +kernel
theorem c71_36 : ctN (owN 71) 36 = some (0, 63, [702, 703, 704, 24]) := by decide +kernel
theorem d71_49 : decode (cdN 71) 49 = .ok (.aload_n 1, 1) := by decide +kernel
theorem d71_50 : decode (cdN 71) 50 = .ok (.iload_n 2, 1) := by decide +kernel
theorem d71_51 : decode (cdN 71) 51 = .ok (.invokevirtual 48, 3) := by decide +kernel
theorem c71_48 : ctN (owN 71) 48 = some (11, 168, [719, 630, 631, 14]) := by decide +kernel
theorem d71_54 : decode (cdN 71) 54 = .ok (.if_icmp .eq 5, 3) := by decide +kernel
theorem d71_57 : decode (cdN 71) 57 = .ok (.iconst 0, 1) := by decide +kernel
theorem d71_58 : decode (cdN 71) 58 = .ok (.ireturn, 1) := by decide +kernel
theorem d71_59 : decode (cdN 71) 59 = .ok (.iinc 2 1, 3) := by decide +kernel
theorem d71_62 : decode (cdN 71) 62 = .ok (.goto (-34), 3) := by decide +kernel
theorem d71_65 : decode (cdN 71) 65 = .ok (.iconst 1, 1) := by decide +kernel
theorem d71_66 : decode (cdN 71) 66 = .ok (.ireturn, 1) := by decide +kernel
theorem d72_0 : decode (cdN 72) 0 = .ok (.aload_n 0, 1) := by decide +kernel
theorem d72_1 : decode (cdN 72) 1 = .ok (.invokevirtual 52, 3) := by decide +kernel
theorem c72_52 : ctN (owN 72) 52 = some (0, 69, [728, 699, 700, 25]) := by decide +kernel
theorem d72_4 : decode (cdN 72) 4 = .ok (.aload_n 0, 1) := by decide +kernel
theorem d72_5 : decode (cdN 72) 5 = .ok (.getfield 19, 3) := by decide +kernel
theorem f72_19 : ftN (owN 72) 19 = some (8, 1, 74) := by decide +kernel
theorem d72_8 : decode (cdN 72) 8 = .ok (.iconst 2, 1) := by decide +kernel
theorem d72_9 : decode (cdN 72) 9 = .ok (.if_icmp .ne 16, 3) := by decide +kernel
theorem d72_12 : decode (cdN 72) 12 = .ok (.aload_n 0, 1) := by decide +kernel
theorem d72_13 : decode (cdN 72) 13 = .ok (.getfield 25, 3) := by decide +kernel
theorem f72_25 : ftN (owN 72) 25 = some (8, 3, 77) := by decide +kernel
theorem d72_16 : decode (cdN 72) 16 = .ok (.aload_n 0, 1) := by decide +kernel
theorem d72_17 : decode (cdN 72) 17 = .ok (.getfield 22, 3) := by decide +kernel
theorem f72_22 : ftN (owN 72) 22 = some (8, 2, 76) := by decide +kernel
theorem d72_20 : decode (cdN 72) 20 = .ok (.isub, 1) := by decide +kernel
theorem d72_21 : decode (cdN 72) 21 = .ok (.iconst 3, 1) := by decide +kernel
theorem d72_22 : decode (cdN 72) 22 = .ok (.if_icmp .le 11, 3) := by decide +kernel
theorem d72_25 : decode (cdN 72) 25 = .ok (.aload_n 0, 1) := by decide +kernel
theorem d72_26 : decode (cdN 72) 26 = .ok (.iconst 1, 1) := by decide +kernel
theorem d72_27 : decode (cdN 72) 27 = .ok (.invokevirtual 55, 3) := by decide +kernel
theorem c72_55 : ctN (owN 72) 55 = some (0, 68, [729, 721, 722, 25]) := by decide +kernel
theorem d72_30 : decode (cdN 72) 30 = .ok (.pop, 1) := by decide +kernel
theorem d72_31 : decode (cdN 72) 31 = .ok (.iconst (-1), 1) := by decide +kernel
theorem d72_32 : decode (cdN 72) 32 = .ok (.ireturn, 1) := by decide +kernel
theorem d72_33 : decode (cdN 72) 33 = .ok (.iconst 0, 1) := by decide +kernel
theorem d72_34 : decode (cdN 72) 34 = .ok (.istore_n 3, 1) := by decide +kernel
theorem d72_35 : decode (cdN 72) 35 = .ok (.aload_n 0, 1) := by decide +kernel
theorem d72_36 : decode (cdN 72) 36 = .ok (.getfield 22, 3) := by decide +kernel
theorem d72_39 : decode (cdN 72) 39 = .ok (.istore 4, 2) := by decide +kernel
theorem d72_41 : decode (cdN 72) 41 = .ok (.iload 4, 2) := by decide +kernel
theorem d72_43 : decode (cdN 72) 43 = .ok (.aload_n 0, 1) := by decide +kernel
theorem d72_44 : decode (cdN 72) 44 = .ok (.getfield 25, 3) := by decide +kernel
theorem d72_47 : decode (cdN 72) 47 = .ok (.if_icmp .ge 27, 3) := by decide +kernel
theorem d72_50 : decode (cdN 72) 50 = .ok (.iload_n 3, 1) := by decide +kernel
theorem d72_51 : decode (cdN 72) 51 = .ok (.bipush 10, 2) := by decide +kernel
theorem d72_53 : decode (cdN 72) 53 = .ok (.imul, 1) := by decide +kernel
theorem d72_54 : decode (cdN 72) 54 = .ok (.aload_n 0, 1) := by decide +kernel
theorem d72_55 : decode (cdN 72) 55 = .ok (.getfield 15, 3) := by decide +kernel
theorem f72_15 : ftN (owN 72) 15 = some (8, 0, 73) := by decide +kernel
theorem d72_58 : decode (cdN 72) 58 = .ok (.iload 4, 2) := by decide +kernel
theorem d72_60 : decode (cdN 72) 60 = .ok (.invokevirtual 36, 3) := by decide +kernel
theorem c72_36 : ctN (owN 72) 36 = some (0, 63, [702, 703, 704, 24]) := by decide +kernel
theorem d72_63 : decode (cdN 72) 63 = .ok (.iadd, 1) := by decide +kernel
theorem d72_64 : decode (cdN 72) 64 = .ok (.bipush 48, 2) := by decide +kernel
theorem d72_66 : decode (cdN 72) 66 = .ok (.isub, 1) := by decide +kernel
theorem d72_67 : decode (cdN 72) 67 = .ok (.istore_n 3, 1) := by decide +kernel
theorem d72_68 : decode (cdN 72) 68 = .ok (.iinc 4 1, 3) := by decide +kernel
theorem d72_71 : decode (cdN 72) 71 = .ok (.goto (-30), 3) := by decide +kernel
theorem d72_74 : decode (cdN 72) 74 = .ok (.iload_n 3, 1) := by decide +kernel
theorem d72_75 : decode (cdN 72) 75 = .ok (.iload_n 1, 1) := by decide +kernel
theorem d72_76 : decode (cdN 72) 76 = .ok (.if_icmp .lt 8, 3) := by decide +kernel
theorem d72_79 : decode (cdN 72) 79 = .ok (.iload_n 3, 1) := by decide +kernel
theorem d72_80 : decode (cdN 72) 80 = .ok (.iload_n 2, 1) := by decide +kernel
theorem d72_81 : decode (cdN 72) 81 = .ok (.if_icmp .le 11, 3) := by decide +kernel
theorem d72_84 : decode (cdN 72) 84 = .ok (.aload_n 0, 1) := by decide +kernel
theorem d72_85 : decode (cdN 72) 85 = .ok (.iconst 2, 1) := by decide +kernel
theorem d72_86 : decode (cdN 72) 86 = .ok (.invokevirtual 55, 3) := by decide +kernel
theorem d72_89 : decode (cdN 72) 89 = .ok (.pop, 1) := by decide +kernel
theorem d72_90 : decode (cdN 72) 90 = .ok (.iconst (-1), 1) := by decide +kernel
theorem d72_91 : decode (cdN 72) 91 = .ok (.ireturn, 1) := by decide +kernel
theorem d72_92 : decode (cdN 72) 92 = .ok (.iload_n 3, 1) := by decide +kernel
theorem d72_93 : decode (cdN 72) 93 = .ok (.ireturn, 1) := by decide +kernel
theorem d73_0 : decode (cdN 73) 0 = .ok (.aload_n 0, 1) := by decide +kernel
theorem d73_1 : decode (cdN 73) 1 = .ok (.invokevirtual 52, 3) := by decide +kernel
theorem c73_52 : ctN (owN 73) 52 = some (0, 69, [728, 699, 700, 25]) := by decide +kernel
theorem d73_4 : decode (cdN 73) 4 = .ok (.aload_n 0, 1) := by decide +kernel
theorem d73_5 : decode (cdN 73) 5 = .ok (.getfield 19, 3) := by decide +kernel
theorem f73_19 : ftN (owN 73) 19 = some (8, 1, 74) := by decide +kernel
theorem d73_8 : decode (cdN 73) 8 = .ok (.iconst 3, 1) := by decide +kernel
theorem d73_9 : decode (cdN 73) 9 = .ok (.if_icmp .eq 11, 3) := by decide +kernel
theorem d73_12 : decode (cdN 73) 12 = .ok (.aload_n 0, 1) := by decide +kernel
theorem d73_13 : decode (cdN 73) 13 = .ok (.iconst 1, 1) := by decide +kernel
theorem d73_14 : decode (cdN 73) 14 = .ok (.invokevirtual 55, 3) := by decide +kernel
theorem c73_55 : ctN (owN 73) 55 = some (0, 68, [729, 721, 722, 25]) := by decide +kernel
theorem d73_17 : decode (cdN 73) 17 = .ok (.ifCond .eq 7, 3) := by decide +kernel
theorem d73_20 : decode (cdN 73) 20 = .ok (.iconst 1, 1) := by decide +kernel
theorem d73_21 : decode (cdN 73) 21 = .ok (.goto 4, 3) := by decide +kernel
theorem d73_24 : decode (cdN 73) 24 = .ok (.iconst 0, 1) := by decide +kernel
theorem d73_25 : decode (cdN 73) 25 = .ok (.ireturn, 1) := by decide +kernel
theorem d74_0 : decode (cdN 74) 0 = .ok (.aload_n 0, 1) := by decide +kernel
theorem d74_1 : decode (cdN 74) 1 = .ok (.aload_n 0, 1) := by decide +kernel
theorem d74_2 : decode (cdN 74) 2 = .ok (.iconst 2, 1) := by decide +kernel
theorem d74_3 : decode (cdN 74) 3 = .ok (.sipush 999, 3) := by decide +kernel
theorem d74_6 : decode (cdN 74) 6 = .ok (.invokevirtual 59, 3) := by decide +kernel
theorem c74_59 : ctN (owN 74) 59 = some (0, 72, [744, 725, 726, 25]) := by decide +kernel
theorem d74_9 : decode (cdN 74) 9 = .ok (.putfield 63, 3) := by decide +kernel
theorem f74_63 : ftN (owN 74) 63 = some (8, 6, 81) := by decide +kernel
theorem d74_12 : decode (cdN 74) 12 = .ok (.aload_n 0, 1) := by decide +kernel
theorem d74_13 : decode (cdN 74) 13 = .ok (.getfield 63, 3) := by decide +kernel
theorem d74_16 : decode (cdN 74) 16 = .ok (.iconst (-1), 1) := by decide +kernel
theorem d74_17 : decode (cdN 74) 17 = .ok (.if_icmp .ne 5, 3) := by decide +kernel
theorem d74_20 : decode (cdN 74) 20 = .ok (.iconst 0, 1) := by decide +kernel
theorem d74_21 : decode (cdN 74) 21 = .ok (.ireturn, 1) := by decide +kernel
theorem d74_22 : decode (cdN 74) 22 = .ok (.aload_n 0, 1) := by decide +kernel
theorem d74_23 : decode (cdN 74) 23 = .ok (.aload_n 0, 1) := by decide +kernel
theorem d74_24 : decode (cdN 74) 24 = .ok (.iconst 1, 1) := by decide +kernel
theorem d74_25 : decode (cdN 74) 25 = .ok (.aload_n 0, 1) := by decide +kernel
theorem d74_26 : decode (cdN 74) 26 = .ok (.getfield 63, 3) := by decide +kernel
theorem d74_29 : decode (cdN 74) 29 = .ok (.iconst 1, 1) := by decide +kernel
theorem d74_30 : decode (cdN 74) 30 = .ok (.isub, 1) := by decide +kernel
theorem d74_31 : decode (cdN 74) 31 = .ok (.invokevirtual 59, 3) := by decide +kernel
theorem d74_34 : decode (cdN 74) 34 = .ok (.putfield 66, 3) := by decide +kernel
theorem f74_66 : ftN (owN 74) 66 = some (8, 7, 83) := by decide +kernel
theorem d74_37 : decode (cdN 74) 37 = .ok (.aload_n 0, 1) := by decide +kernel
theorem d74_38 : decode (cdN 74) 38 = .ok (.getfield 66, 3) := by decide +kernel
theorem d74_41 : decode (cdN 74) 41 = .ok (.iconst (-1), 1) := by decide +kernel
theorem d74_42 : decode (cdN 74) 42 = .ok (.if_icmp .ne 5, 3) := by decide +kernel
theorem d74_45 : decode (cdN 74) 45 = .ok (.iconst 0, 1) := by decide +kernel
theorem d74_46 : decode (cdN 74) 46 = .ok (.ireturn, 1) := by decide +kernel
theorem d74_47 : decode (cdN 74) 47 = .ok (.aload_n 0, 1) := by decide +kernel
theorem d74_48 : decode (cdN 74) 48 = .ok (.aload_n 0, 1) := by decide +kernel
theorem d74_49 : decode (cdN 74) 49 = .ok (.iconst 0, 1) := by decide +kernel
theorem d74_50 : decode (cdN 74) 50 = .ok (.sipush 999, 3) := by decide +kernel
theorem d74_53 : decode (cdN 74) 53 = .ok (.invokevirtual 59, 3) := by decide +kernel
theorem d74_56 : decode (cdN 74) 56 = .ok (.putfield 67, 3) := by decide +kernel
theorem f74_67 : ftN (owN 74) 67 = some (8, 8, 85) := by decide +kernel
theorem d74_59 : decode (cdN 74) 59 = .ok (.aload_n 0, 1) := by decide +kernel
theorem d74_60 : decode (cdN 74) 60 = .ok (.getfield 67, 3) := by decide +kernel
theorem d74_63 : decode (cdN 74) 63 = .ok (.iconst (-1), 1) := by decide +kernel
theorem d74_64 : decode (cdN 74) 64 = .ok (.if_icmp .eq 7, 3) := by decide +kernel
theorem d74_67 : decode (cdN 74) 67 = .ok (.iconst 1, 1) := by decide +kernel
theorem d74_68 : decode (cdN 74) 68 = .ok (.goto 4, 3) := by decide +kernel
theorem d74_71 : decode (cdN 74) 71 = .ok (.iconst 0, 1) := by decide +kernel
theorem d74_72 : decode (cdN 74) 72 = .ok (.ireturn, 1) := by decide +kernel
theorem d76_0 : decode (cdN 76) 0 = .ok (.aload_n 0, 1) := by decide +kernel
theorem d76_1 : decode (cdN 76) 1 = .ok (.getfield 14, 3) := by decide +kernel
theorem f76_14 : ftN (owN 76) 14 = some (9, 0, 383) := by decide +kernel
theorem d76_4 : decode (cdN 76) 4 = .ok (.getfield 85, 3) := by decide +kernel
theorem f76_85 : ftN (owN 76) 85 = some (7, 1, 58) := by decide +kernel
theorem d76_7 : decode (cdN 76) 7 = .ok (.bipush 20, 2) := by decide +kernel
theorem d76_9 : decode (cdN 76) 9 = .ok (.iadd, 1) := by decide +kernel
theorem d76_10 : decode (cdN 76) 10 = .ok (.sipush 500, 3) := by decide +kernel
theorem d76_13 : decode (cdN 76) 13 = .ok (.if_icmp .le 13, 3) := by decide +kernel
theorem d76_16 : decode (cdN 76) 16 = .ok (.new 93, 3) := by decide +kernel
theorem d76_19 : decode (cdN 76) 19 = .ok (.dup, 1) := by decide +kernel
theorem d76_20 : decode (cdN 76) 20 = .ok (.ldc 95, 2) := by decide +kernel
theorem k76_95 : ksN (owN 76) 95 = some 4 := by decide +kernel
theorem d76_22 : decode (cdN 76) 22 = .ok (.invokespecial 97, 3) := by decide +kernel
theorem d76_25 : decode (cdN 76) 25 = .ok (.athrow, 1) := by decide +kernel
theorem d76_26 : decode (cdN 76) 26 = .ok (.aload_n 0, 1) := by decide +kernel
theorem d76_27 : decode (cdN 76) 27 = .ok (.getfield 14, 3) := by decide +kernel
theorem d76_30 : decode (cdN 76) 30 = .ok (.iload_n 1, 1) := by decide +kernel
theorem d76_31 : decode (cdN 76) 31 = .ok (.invokevirtual 100, 3) := by decide +kernel
theorem c76_100 : ctN (owN 76) 100 = some (0, 65, [672, 673, 674, 24]) := by decide +kernel
theorem d76_34 : decode (cdN 76) 34 = .ok (.aload_n 0, 1) := by decide +kernel
theorem d76_35 : decode (cdN 76) 35 = .ok (.getfield 14, 3) := by decide +kernel
theorem d76_38 : decode (cdN 76) 38 = .ok (.iload_n 2, 1) := by decide +kernel
theorem d76_39 : decode (cdN 76) 39 = .ok (.invokevirtual 100, 3) := by decide +kernel
theorem d76_42 : decode (cdN 76) 42 = .ok (.aload_n 0, 1) := by decide +kernel
theorem d76_43 : decode (cdN 76) 43 = .ok (.getfield 14, 3) := by decide +kernel
theorem d76_46 : decode (cdN 76) 46 = .ok (.iload_n 3, 1) := by decide +kernel
theorem d76_47 : decode (cdN 76) 47 = .ok (.invokevirtual 100, 3) := by decide +kernel
theorem d76_50 : decode (cdN 76) 50 = .ok (.aload_n 0, 1) := by decide +kernel
theorem d76_51 : decode (cdN 76) 51 = .ok (.getfield 14, 3) := by decide +kernel
theorem d76_54 : decode (cdN 76) 54 = .ok (.iload 4, 2) := by decide +kernel
theorem d76_56 : decode (cdN 76) 56 = .ok (.invokevirtual 100, 3) := by decide +kernel
theorem d76_59 : decode (cdN 76) 59 = .ok (.aload_n 0, 1) := by decide +kernel
theorem d76_60 : decode (cdN 76) 60 = .ok (.getfield 14, 3) := by decide +kernel
theorem d76_63 : decode (cdN 76) 63 = .ok (.iload 5, 2) := by decide +kernel
theorem d76_65 : decode (cdN 76) 65 = .ok (.invokevirtual 100, 3) := by decide +kernel
theorem d76_68 : decode (cdN 76) 68 = .ok (.aload_n 0, 1) := by decide +kernel
theorem d76_69 : decode (cdN 76) 69 = .ok (.getfield 14, 3) := by decide +kernel
theorem d76_72 : decode (cdN 76) 72 = .ok (.getfield 85, 3) := by decide +kernel
theorem d76_75 : decode (cdN 76) 75 = .ok (.ireturn, 1) := by decide +kernel
theorem x76_16 : xtN 76 16 = some (1, 93, 95, 97, false, 4) := by decide +kernel
theorem d77_0 : decode (cdN 77) 0 = .ok (.iload_n 1, 1) := by decide +kernel
theorem d77_1 : decode (cdN 77) 1 = .ok (.ifCond .lt 14, 3) := by decide +kernel
theorem d77_4 : decode (cdN 77) 4 = .ok (.iload_n 1, 1) := by decide +kernel
theorem d77_5 : decode (cdN 77) 5 = .ok (.aload_n 0, 1) := by decide +kernel
theorem d77_6 : decode (cdN 77) 6 = .ok (.getfield 14, 3) := by decide +kernel
theorem f77_14 : ftN (owN 77) 14 = some (9, 0, 383) := by decide +kernel
theorem d77_9 : decode (cdN 77) 9 = .ok (.getfield 85, 3) := by decide +kernel
theorem f77_85 : ftN (owN 77) 85 = some (7, 1, 58) := by decide +kernel
theorem d77_12 : decode (cdN 77) 12 = .ok (.if_icmp .le 13, 3) := by decide +kernel
theorem d77_15 : decode (cdN 77) 15 = .ok (.new 103, 3) := by decide +kernel
theorem d77_18 : decode (cdN 77) 18 = .ok (.dup, 1) := by decide +kernel
theorem d77_19 : decode (cdN 77) 19 = .ok (.ldc 105, 2) := by decide +kernel
theorem k77_105 : ksN (owN 77) 105 = some 5 := by decide +kernel
theorem d77_21 : decode (cdN 77) 21 = .ok (.invokespecial 107, 3) := by decide +kernel
theorem d77_24 : decode (cdN 77) 24 = .ok (.athrow, 1) := by decide +kernel
theorem d77_25 : decode (cdN 77) 25 = .ok (.aload_n 0, 1) := by decide +kernel
theorem d77_26 : decode (cdN 77) 26 = .ok (.getfield 14, 3) := by decide +kernel
theorem d77_29 : decode (cdN 77) 29 = .ok (.iload_n 1, 1) := by decide +kernel
theorem d77_30 : decode (cdN 77) 30 = .ok (.putfield 85, 3) := by decide +kernel
theorem d77_33 : decode (cdN 77) 33 = .ok (.iload_n 1, 1) := by decide +kernel
theorem d77_34 : decode (cdN 77) 34 = .ok (.ireturn, 1) := by decide +kernel
theorem x77_15 : xtN 77 15 = some (0, 103, 105, 107, false, 5) := by decide +kernel
theorem d78_0 : decode (cdN 78) 0 = .ok (.aload_n 0, 1) := by decide +kernel
theorem d78_1 : decode (cdN 78) 1 = .ok (.getfield 61, 3) := by decide +kernel
theorem f78_61 : ftN (owN 78) 61 = some (9, 8, 391) := by decide +kernel
theorem d78_4 : decode (cdN 78) 4 = .ok (.aload_n 0, 1) := by decide +kernel
theorem d78_5 : decode (cdN 78) 5 = .ok (.getfield 26, 3) := by decide +kernel
theorem f78_26 : ftN (owN 78) 26 = some (9, 2, 385) := by decide +kernel
theorem d78_8 : decode (cdN 78) 8 = .ok (.invokevirtual 108, 3) := by decide +kernel
theorem c78_108 : ctN (owN 78) 108 = some (0, 35, [690, 691, 692, 29]) := by decide +kernel
theorem d78_11 : decode (cdN 78) 11 = .ok (.istore_n 1, 1) := by decide +kernel
theorem d78_12 : decode (cdN 78) 12 = .ok (.aload_n 0, 1) := by decide +kernel
theorem d78_13 : decode (cdN 78) 13 = .ok (.getfield 14, 3) := by decide +kernel
theorem f78_14 : ftN (owN 78) 14 = some (9, 0, 383) := by decide +kernel
theorem d78_16 : decode (cdN 78) 16 = .ok (.iconst 0, 1) := by decide +kernel
theorem d78_17 : decode (cdN 78) 17 = .ok (.putfield 85, 3) := by decide +kernel
theorem f78_85 : ftN (owN 78) 85 = some (7, 1, 58) := by decide +kernel
theorem d78_20 : decode (cdN 78) 20 = .ok (.iload_n 1, 1) := by decide +kernel
theorem d78_21 : decode (cdN 78) 21 = .ok (.ifCond .ne 13, 3) := by decide +kernel
theorem d78_24 : decode (cdN 78) 24 = .ok (.new 103, 3) := by decide +kernel
theorem d78_27 : decode (cdN 78) 27 = .ok (.dup, 1) := by decide +kernel
theorem d78_28 : decode (cdN 78) 28 = .ok (.ldc 112, 2) := by decide +kernel
theorem k78_112 : ksN (owN 78) 112 = some 6 := by decide +kernel
theorem d78_30 : decode (cdN 78) 30 = .ok (.invokespecial 107, 3) := by decide +kernel
theorem d78_33 : decode (cdN 78) 33 = .ok (.athrow, 1) := by decide +kernel
theorem d78_34 : decode (cdN 78) 34 = .ok (.aload_n 0, 1) := by decide +kernel
theorem d78_35 : decode (cdN 78) 35 = .ok (.getfield 54, 3) := by decide +kernel
theorem f78_54 : ftN (owN 78) 54 = some (9, 6, 389) := by decide +kernel
theorem d78_38 : decode (cdN 78) 38 = .ok (.aload_n 0, 1) := by decide +kernel
theorem d78_39 : decode (cdN 78) 39 = .ok (.getfield 61, 3) := by decide +kernel
theorem d78_42 : decode (cdN 78) 42 = .ok (.invokevirtual 114, 3) := by decide +kernel
theorem c78_114 : ctN (owN 78) 114 = some (0, 34, [564, 565, 566, 29]) := by decide +kernel
theorem d78_45 : decode (cdN 78) 45 = .ok (.aload_n 0, 1) := by decide +kernel
theorem d78_46 : decode (cdN 78) 46 = .ok (.getfield 47, 3) := by decide +kernel
theorem f78_47 : ftN (owN 78) 47 = some (9, 5, 388) := by decide +kernel
theorem d78_49 : decode (cdN 78) 49 = .ok (.invokevirtual 118, 3) := by decide +kernel
theorem c78_118 : ctN (owN 78) 118 = some (0, 31, [602, 603, 604, 28]) := by decide +kernel
theorem d78_52 : decode (cdN 78) 52 = .ok (.aload_n 0, 1) := by decide +kernel
theorem d78_53 : decode (cdN 78) 53 = .ok (.getfield 54, 3) := by decide +kernel
theorem d78_56 : decode (cdN 78) 56 = .ok (.getfield 68, 3) := by decide +kernel
theorem f78_68 : ftN (owN 78) 68 = some (5, 10, 298) := by decide +kernel
theorem d78_59 : decode (cdN 78) 59 = .ok (.getfield 121, 3) := by decide +kernel
theorem f78_121 : ftN (owN 78) 121 = some (2, 0, 174) := by decide +kernel
theorem d78_62 : decode (cdN 78) 62 = .ok (.ireturn, 1) := by decide +kernel
theorem x78_24 : xtN 78 24 = some (0, 103, 112, 107, false, 6) := by decide +kernel
theorem d82_0 : decode (cdN 82) 0 = .ok (.aload_n 0, 1) := by decide +kernel
theorem d82_1 : decode (cdN 82) 1 = .ok (.getfield 54, 3) := by decide +kernel
theorem f82_54 : ftN (owN 82) 54 = some (9, 6, 389) := by decide +kernel
theorem d82_4 : decode (cdN 82) 4 = .ok (.getfield 143, 3) := by decide +kernel
theorem f82_143 : ftN (owN 82) 143 = some (5, 4, 287) := by decide +kernel
theorem d82_7 : decode (cdN 82) 7 = .ok (.ireturn, 1) := by decide +kernel
theorem d83_0 : decode (cdN 83) 0 = .ok (.aload_n 0, 1) := by decide +kernel
theorem d83_1 : decode (cdN 83) 1 = .ok (.getfield 54, 3) := by decide +kernel
theorem f83_54 : ftN (owN 83) 54 = some (9, 6, 389) := by decide +kernel
theorem d83_4 : decode (cdN 83) 4 = .ok (.getfield 146, 3) := by decide +kernel
theorem f83_146 : ftN (owN 83) 146 = some (5, 0, 280) := by decide +kernel
theorem d83_7 : decode (cdN 83) 7 = .ok (.ireturn, 1) := by decide +kernel
theorem d84_0 : decode (cdN 84) 0 = .ok (.aload_n 0, 1) := by decide +kernel
theorem d84_1 : decode (cdN 84) 1 = .ok (.getfield 54, 3) := by decide +kernel
theorem f84_54 : ftN (owN 84) 54 = some (9, 6, 389) := by decide +kernel
theorem d84_4 : decode (cdN 84) 4 = .ok (.getfield 149, 3) := by decide +kernel
theorem f84_149 : ftN (owN 84) 149 = some (5, 1, 283) := by decide +kernel
theorem d84_7 : decode (cdN 84) 7 = .ok (.ireturn, 1) := by decide +kernel
theorem d85_0 : decode (cdN 85) 0 = .ok (.aload_n 0, 1) := by decide +kernel
theorem d85_1 : decode (cdN 85) 1 = .ok (.getfield 54, 3) := by decide +kernel
theorem f85_54 : ftN (owN 85) 54 = some (9, 6, 389) := by decide +kernel
theorem d85_4 : decode (cdN 85) 4 = .ok (.getfield 68, 3) := by decide +kernel
theorem f85_68 : ftN (owN 85) 68 = some (5, 10, 298) := by decide +kernel
theorem d85_7 : decode (cdN 85) 7 = .ok (.getfield 121, 3) := by decide +kernel
theorem f85_121 : ftN (owN 85) 121 = some (2, 0, 174) := by decide +kernel
theorem d85_10 : decode (cdN 85) 10 = .ok (.ireturn, 1) := by decide +kernel
theorem d86_0 : decode (cdN 86) 0 = .ok (.iload_n 1, 1) := by decide +kernel
theorem d86_1 : decode (cdN 86) 1 = .ok (.invokestatic 152, 3) := by decide +kernel
theorem c86_152 : ctN (owN 86) 152 = some (1, 142, [498, 499, 23]) := by decide +kernel
theorem d86_4 : decode (cdN 86) 4 = .ok (.aload_n 0, 1) := by decide +kernel
theorem d86_5 : decode (cdN 86) 5 = .ok (.getfield 54, 3) := by decide +kernel
theorem f86_54 : ftN (owN 86) 54 = some (9, 6, 389) := by decide +kernel
theorem d86_8 : decode (cdN 86) 8 = .ok (.getfield 68, 3) := by decide +kernel
theorem f86_68 : ftN (owN 86) 68 = some (5, 10, 298) := by decide +kernel
theorem d86_11 : decode (cdN 86) 11 = .ok (.iload_n 1, 1) := by decide +kernel
theorem d86_12 : decode (cdN 86) 12 = .ok (.invokevirtual 155, 3) := by decide +kernel
theorem c86_155 : ctN (owN 86) 155 = some (0, 16, [995, 536, 537, 30]) := by decide +kernel
theorem d86_15 : decode (cdN 86) 15 = .ok (.ireturn, 1) := by decide +kernel
theorem d87_0 : decode (cdN 87) 0 = .ok (.iload_n 1, 1) := by decide +kernel
theorem d87_1 : decode (cdN 87) 1 = .ok (.invokestatic 152, 3) := by decide +kernel
theorem c87_152 : ctN (owN 87) 152 = some (1, 142, [498, 499, 23]) := by decide +kernel
theorem d87_4 : decode (cdN 87) 4 = .ok (.iconst 0, 1) := by decide +kernel
theorem d87_5 : decode (cdN 87) 5 = .ok (.istore_n 2, 1) := by decide +kernel
theorem d87_6 : decode (cdN 87) 6 = .ok (.iload_n 2, 1) := by decide +kernel
theorem d87_7 : decode (cdN 87) 7 = .ok (.sipush 1000, 3) := by decide +kernel
theorem d87_10 : decode (cdN 87) 10 = .ok (.if_icmp .gt 29, 3) := by decide +kernel
theorem d87_13 : decode (cdN 87) 13 = .ok (.aload_n 0, 1) := by decide +kernel
theorem d87_14 : decode (cdN 87) 14 = .ok (.getfield 54, 3) := by decide +kernel
theorem f87_54 : ftN (owN 87) 54 = some (9, 6, 389) := by decide +kernel
theorem d87_17 : decode (cdN 87) 17 = .ok (.getfield 68, 3) := by decide +kernel
theorem f87_68 : ftN (owN 87) 68 = some (5, 10, 298) := by decide +kernel
theorem d87_20 : decode (cdN 87) 20 = .ok (.iload_n 1, 1) := by decide +kernel
theorem d87_21 : decode (cdN 87) 21 = .ok (.iload_n 2, 1) := by decide +kernel
theorem d87_22 : decode (cdN 87) 22 = .ok (.iadd, 1) := by decide +kernel
theorem d87_23 : decode (cdN 87) 23 = .ok (.invokevirtual 155, 3) := by decide +kernel
theorem c87_155 : ctN (owN 87) 155 = some (0, 16, [995, 536, 537, 30]) := by decide +kernel
theorem d87_26 : decode (cdN 87) 26 = .ok (.ifCond .eq 7, 3) := by decide +kernel
theorem d87_29 : decode (cdN 87) 29 = .ok (.iload_n 1, 1) := by decide +kernel
theorem d87_30 : decode (cdN 87) 30 = .ok (.iload_n 2, 1) := by decide +kernel
theorem d87_31 : decode (cdN 87) 31 = .ok (.iadd, 1) := by decide +kernel
theorem d87_32 : decode (cdN 87) 32 = .ok (.ireturn, 1) := by decide +kernel
theorem d87_33 : decode (cdN 87) 33 = .ok (.iinc 2 1, 3) := by decide +kernel
theorem d87_36 : decode (cdN 87) 36 = .ok (.goto (-30), 3) := by decide +kernel
theorem d87_39 : decode (cdN 87) 39 = .ok (.iconst (-1), 1) := by decide +kernel
theorem d87_40 : decode (cdN 87) 40 = .ok (.ireturn, 1) := by decide +kernel
theorem d88_0 : decode (cdN 88) 0 = .ok (.iload_n 1, 1) := by decide +kernel
theorem d88_1 : decode (cdN 88) 1 = .ok (.iconst 1, 1) := by decide +kernel
theorem d88_2 : decode (cdN 88) 2 = .ok (.if_icmp .lt 10, 3) := by decide +kernel
theorem d88_5 : decode (cdN 88) 5 = .ok (.iload_n 1, 1) := by decide +kernel
theorem d88_6 : decode (cdN 88) 6 = .ok (.sipush 500, 3) := by decide +kernel
theorem d88_9 : decode (cdN 88) 9 = .ok (.if_icmp .le 13, 3) := by decide +kernel
theorem d88_12 : decode (cdN 88) 12 = .ok (.new 103, 3) := by decide +kernel
theorem d88_15 : decode (cdN 88) 15 = .ok (.dup, 1) := by decide +kernel
theorem d88_16 : decode (cdN 88) 16 = .ok (.ldc 159, 2) := by decide +kernel
theorem k88_159 : ksN (owN 88) 159 = some 7 := by decide +kernel
theorem d88_18 : decode (cdN 88) 18 = .ok (.invokespecial 107, 3) := by decide +kernel
theorem d88_21 : decode (cdN 88) 21 = .ok (.athrow, 1) := by decide +kernel
theorem d88_22 : decode (cdN 88) 22 = .ok (.aload_n 0, 1) := by decide +kernel
theorem d88_23 : decode (cdN 88) 23 = .ok (.getfield 54, 3) := by decide +kernel
theorem f88_54 : ftN (owN 88) 54 = some (9, 6, 389) := by decide +kernel
theorem d88_26 : decode (cdN 88) 26 = .ok (.getfield 143, 3) := by decide +kernel
theorem f88_143 : ftN (owN 88) 143 = some (5, 4, 287) := by decide +kernel
theorem d88_29 : decode (cdN 88) 29 = .ok (.istore_n 2, 1) := by decide +kernel
theorem d88_30 : decode (cdN 88) 30 = .ok (.iconst 0, 1) := by decide +kernel
theorem d88_31 : decode (cdN 88) 31 = .ok (.istore_n 3, 1) := by decide +kernel
theorem d88_32 : decode (cdN 88) 32 = .ok (.aload_n 0, 1) := by decide +kernel
theorem d88_33 : decode (cdN 88) 33 = .ok (.getfield 54, 3) := by decide +kernel
theorem d88_36 : decode (cdN 88) 36 = .ok (.getfield 143, 3) := by decide +kernel
theorem d88_39 : decode (cdN 88) 39 = .ok (.sipush 2000, 3) := by decide +kernel
theorem d88_42 : decode (cdN 88) 42 = .ok (.iadd, 1) := by decide +kernel
theorem d88_43 : decode (cdN 88) 43 = .ok (.iload_n 1, 1) := by decide +kernel
theorem d88_44 : decode (cdN 88) 44 = .ok (.iadd, 1) := by decide +kernel
theorem d88_45 : decode (cdN 88) 45 = .ok (.istore 4, 2) := by decide +kernel
theorem d88_47 : decode (cdN 88) 47 = .ok (.aload_n 0, 1) := by decide +kernel
theorem d88_48 : decode (cdN 88) 48 = .ok (.getfield 54, 3) := by decide +kernel
theorem d88_51 : decode (cdN 88) 51 = .ok (.getfield 143, 3) := by decide +kernel
theorem d88_54 : decode (cdN 88) 54 = .ok (.istore 5, 2) := by decide +kernel
theorem d88_56 : decode (cdN 88) 56 = .ok (.iload 5, 2) := by decide +kernel
theorem d88_58 : decode (cdN 88) 58 = .ok (.iload 4, 2) := by decide +kernel
theorem d88_60 : decode (cdN 88) 60 = .ok (.if_icmp .ge 44, 3) := by decide +kernel
theorem d88_63 : decode (cdN 88) 63 = .ok (.aload_n 0, 1) := by decide +kernel
theorem d88_64 : decode (cdN 88) 64 = .ok (.getfield 54, 3) := by decide +kernel
theorem d88_67 : decode (cdN 88) 67 = .ok (.getfield 68, 3) := by decide +kernel
theorem f88_68 : ftN (owN 88) 68 = some (5, 10, 298) := by decide +kernel
theorem d88_70 : decode (cdN 88) 70 = .ok (.iload 5, 2) := by decide +kernel
theorem d88_72 : decode (cdN 88) 72 = .ok (.invokevirtual 155, 3) := by decide +kernel
theorem c88_155 : ctN (owN 88) 155 = some (0, 16, [995, 536, 537, 30]) := by decide +kernel
theorem d88_75 : decode (cdN 88) 75 = .ok (.ifCond .eq 13, 3) := by decide +kernel
theorem d88_78 : decode (cdN 88) 78 = .ok (.iload 5, 2) := by decide +kernel
theorem d88_80 : decode (cdN 88) 80 = .ok (.iconst 1, 1) := by decide +kernel
theorem d88_81 : decode (cdN 88) 81 = .ok (.iadd, 1) := by decide +kernel
theorem d88_82 : decode (cdN 88) 82 = .ok (.istore_n 2, 1) := by decide +kernel
theorem d88_83 : decode (cdN 88) 83 = .ok (.iconst 0, 1) := by decide +kernel
theorem d88_84 : decode (cdN 88) 84 = .ok (.istore_n 3, 1) := by decide +kernel
theorem d88_85 : decode (cdN 88) 85 = .ok (.goto 6, 3) := by decide +kernel
theorem d88_88 : decode (cdN 88) 88 = .ok (.iinc 3 1, 3) := by decide +kernel
theorem d88_91 : decode (cdN 88) 91 = .ok (.iload_n 3, 1) := by decide +kernel
theorem d88_92 : decode (cdN 88) 92 = .ok (.iload_n 1, 1) := by decide +kernel
theorem d88_93 : decode (cdN 88) 93 = .ok (.if_icmp .ne 5, 3) := by decide +kernel
theorem d88_96 : decode (cdN 88) 96 = .ok (.iload_n 2, 1) := by decide +kernel
theorem d88_97 : decode (cdN 88) 97 = .ok (.ireturn, 1) := by decide +kernel
theorem d88_98 : decode (cdN 88) 98 = .ok (.iinc 5 1, 3) := by decide +kernel
theorem d88_101 : decode (cdN 88) 101 = .ok (.goto (-45), 3) := by decide +kernel
theorem d88_104 : decode (cdN 88) 104 = .ok (.iconst (-1), 1) := by decide +kernel
theorem d88_105 : decode (cdN 88) 105 = .ok (.ireturn, 1) := by decide +kernel
theorem x88_12 : xtN 88 12 = some (0, 103, 159, 107, false, 7) := by decide +kernel
theorem d90_0 : decode (cdN 90) 0 = .ok (.aload_n 0, 1) := by decide +kernel
theorem d90_1 : decode (cdN 90) 1 = .ok (.getfield 54, 3) := by decide +kernel
theorem f90_54 : ftN (owN 90) 54 = some (9, 6, 389) := by decide +kernel
theorem d90_4 : decode (cdN 90) 4 = .ok (.getfield 164, 3) := by decide +kernel
theorem f90_164 : ftN (owN 90) 164 = some (5, 7, 292) := by decide +kernel
theorem d90_7 : decode (cdN 90) 7 = .ok (.ireturn, 1) := by decide +kernel
theorem d91_0 : decode (cdN 91) 0 = .ok (.aload_n 0, 1) := by decide +kernel
theorem d91_1 : decode (cdN 91) 1 = .ok (.iload_n 1, 1) := by decide +kernel
theorem d91_2 : decode (cdN 91) 2 = .ok (.invokevirtual 167, 3) := by decide +kernel
theorem c91_167 : ctN (owN 91) 167 = some (0, 141, [809, 811, 9, 23]) := by decide +kernel
theorem d91_5 : decode (cdN 91) 5 = .ok (.aload_n 0, 1) := by decide +kernel
theorem d91_6 : decode (cdN 91) 6 = .ok (.getfield 54, 3) := by decide +kernel
theorem f91_54 : ftN (owN 91) 54 = some (9, 6, 389) := by decide +kernel
theorem d91_9 : decode (cdN 91) 9 = .ok (.getfield 170, 3) := by decide +kernel
theorem f91_170 : ftN (owN 91) 170 = some (5, 8, 294) := by decide +kernel
theorem d91_12 : decode (cdN 91) 12 = .ok (.iload_n 1, 1) := by decide +kernel
theorem d91_13 : decode (cdN 91) 13 = .ok (.iaload, 1) := by decide +kernel
theorem d91_14 : decode (cdN 91) 14 = .ok (.ireturn, 1) := by decide +kernel
theorem d92_0 : decode (cdN 92) 0 = .ok (.aload_n 0, 1) := by decide +kernel
theorem d92_1 : decode (cdN 92) 1 = .ok (.iload_n 1, 1) := by decide +kernel
theorem d92_2 : decode (cdN 92) 2 = .ok (.invokevirtual 167, 3) := by decide +kernel
theorem c92_167 : ctN (owN 92) 167 = some (0, 141, [809, 811, 9, 23]) := by decide +kernel
theorem d92_5 : decode (cdN 92) 5 = .ok (.aload_n 0, 1) := by decide +kernel
theorem d92_6 : decode (cdN 92) 6 = .ok (.getfield 54, 3) := by decide +kernel
theorem f92_54 : ftN (owN 92) 54 = some (9, 6, 389) := by decide +kernel
theorem d92_9 : decode (cdN 92) 9 = .ok (.iload_n 1, 1) := by decide +kernel
theorem d92_10 : decode (cdN 92) 10 = .ok (.invokevirtual 173, 3) := by decide +kernel
theorem c92_173 : ctN (owN 92) 173 = some (0, 42, [969, 819, 820, 29]) := by decide +kernel
theorem d92_13 : decode (cdN 92) 13 = .ok (.ireturn, 1) := by decide +kernel
theorem d93_0 : decode (cdN 93) 0 = .ok (.aload_n 0, 1) := by decide +kernel
theorem d93_1 : decode (cdN 93) 1 = .ok (.iload_n 1, 1) := by decide +kernel
theorem d93_2 : decode (cdN 93) 2 = .ok (.invokevirtual 167, 3) := by decide +kernel
theorem c93_167 : ctN (owN 93) 167 = some (0, 141, [809, 811, 9, 23]) := by decide +kernel
theorem d93_5 : decode (cdN 93) 5 = .ok (.aload_n 0, 1) := by decide +kernel
theorem d93_6 : decode (cdN 93) 6 = .ok (.getfield 54, 3) := by decide +kernel
theorem f93_54 : ftN (owN 93) 54 = some (9, 6, 389) := by decide +kernel
theorem d93_9 : decode (cdN 93) 9 = .ok (.getfield 177, 3) := by decide +kernel
theorem f93_177 : ftN (owN 93) 177 = some (5, 9, 296) := by decide +kernel
theorem d93_12 : decode (cdN 93) 12 = .ok (.iload_n 1, 1) := by decide +kernel
theorem d93_13 : decode (cdN 93) 13 = .ok (.iaload, 1) := by decide +kernel
theorem d93_14 : decode (cdN 93) 14 = .ok (.ireturn, 1) := by decide +kernel
theorem d94_0 : decode (cdN 94) 0 = .ok (.aload_n 0, 1) := by decide +kernel
theorem d94_1 : decode (cdN 94) 1 = .ok (.getfield 54, 3) := by decide +kernel
theorem f94_54 : ftN (owN 94) 54 = some (9, 6, 389) := by decide +kernel
theorem d94_4 : decode (cdN 94) 4 = .ok (.getfield 180, 3) := by decide +kernel
theorem f94_180 : ftN (owN 94) 180 = some (5, 11, 302) := by decide +kernel
theorem d94_7 : decode (cdN 94) 7 = .ok (.getfield 184, 3) := by decide +kernel
theorem f94_184 : ftN (owN 94) 184 = some (3, 0, 195) := by decide +kernel
theorem d94_10 : decode (cdN 94) 10 = .ok (.ireturn, 1) := by decide +kernel
theorem d95_0 : decode (cdN 95) 0 = .ok (.aload_n 0, 1) := by decide +kernel
theorem d95_1 : decode (cdN 95) 1 = .ok (.iload_n 1, 1) := by decide +kernel
theorem d95_2 : decode (cdN 95) 2 = .ok (.invokevirtual 187, 3) := by decide +kernel
theorem c95_187 : ctN (owN 95) 187 = some (0, 140, [426, 428, 0, 23]) := by decide +kernel
theorem d95_5 : decode (cdN 95) 5 = .ok (.aload_n 0, 1) := by decide +kernel
theorem d95_6 : decode (cdN 95) 6 = .ok (.getfield 54, 3) := by decide +kernel
theorem f95_54 : ftN (owN 95) 54 = some (9, 6, 389) := by decide +kernel
theorem d95_9 : decode (cdN 95) 9 = .ok (.getfield 180, 3) := by decide +kernel
theorem f95_180 : ftN (owN 95) 180 = some (5, 11, 302) := by decide +kernel
theorem d95_12 : decode (cdN 95) 12 = .ok (.getfield 190, 3) := by decide +kernel
theorem f95_190 : ftN (owN 95) 190 = some (3, 1, 198) := by decide +kernel
theorem d95_15 : decode (cdN 95) 15 = .ok (.iload_n 1, 1) := by decide +kernel
theorem d95_16 : decode (cdN 95) 16 = .ok (.iaload, 1) := by decide +kernel
theorem d95_17 : decode (cdN 95) 17 = .ok (.ireturn, 1) := by decide +kernel
theorem d96_0 : decode (cdN 96) 0 = .ok (.aload_n 0, 1) := by decide +kernel
theorem d96_1 : decode (cdN 96) 1 = .ok (.iload_n 1, 1) := by decide +kernel
theorem d96_2 : decode (cdN 96) 2 = .ok (.invokevirtual 187, 3) := by decide +kernel
theorem c96_187 : ctN (owN 96) 187 = some (0, 140, [426, 428, 0, 23]) := by decide +kernel
theorem d96_5 : decode (cdN 96) 5 = .ok (.iload_n 2, 1) := by decide +kernel
theorem d96_6 : decode (cdN 96) 6 = .ok (.ifCond .lt 19, 3) := by decide +kernel
theorem d96_9 : decode (cdN 96) 9 = .ok (.iload_n 2, 1) := by decide +kernel
theorem d96_10 : decode (cdN 96) 10 = .ok (.aload_n 0, 1) := by decide +kernel
theorem d96_11 : decode (cdN 96) 11 = .ok (.getfield 54, 3) := by decide +kernel
theorem f96_54 : ftN (owN 96) 54 = some (9, 6, 389) := by decide +kernel
theorem d96_14 : decode (cdN 96) 14 = .ok (.getfield 180, 3) := by decide +kernel
theorem f96_180 : ftN (owN 96) 180 = some (5, 11, 302) := by decide +kernel
theorem d96_17 : decode (cdN 96) 17 = .ok (.getfield 190, 3) := by decide +kernel
theorem f96_190 : ftN (owN 96) 190 = some (3, 1, 198) := by decide +kernel
theorem d96_20 : decode (cdN 96) 20 = .ok (.iload_n 1, 1) := by decide +kernel
theorem d96_21 : decode (cdN 96) 21 = .ok (.iaload, 1) := by decide +kernel
theorem d96_22 : decode (cdN 96) 22 = .ok (.if_icmp .lt 5, 3) := by decide +kernel
theorem d96_25 : decode (cdN 96) 25 = .ok (.iconst (-1), 1) := by decide +kernel
theorem d96_26 : decode (cdN 96) 26 = .ok (.ireturn, 1) := by decide +kernel
theorem d96_27 : decode (cdN 96) 27 = .ok (.aload_n 0, 1) := by decide +kernel
theorem d96_28 : decode (cdN 96) 28 = .ok (.getfield 54, 3) := by decide +kernel
theorem d96_31 : decode (cdN 96) 31 = .ok (.getfield 180, 3) := by decide +kernel
theorem d96_34 : decode (cdN 96) 34 = .ok (.getfield 193, 3) := by decide +kernel
theorem f96_193 : ftN (owN 96) 193 = some (3, 5, 209) := by decide +kernel
theorem d96_37 : decode (cdN 96) 37 = .ok (.iload_n 1, 1) := by decide +kernel
theorem d96_38 : decode (cdN 96) 38 = .ok (.bipush 6, 2) := by decide +kernel
theorem d96_40 : decode (cdN 96) 40 = .ok (.imul, 1) := by decide +kernel
theorem d96_41 : decode (cdN 96) 41 = .ok (.iload_n 2, 1) := by decide +kernel
theorem d96_42 : decode (cdN 96) 42 = .ok (.iadd, 1) := by decide +kernel
theorem d96_43 : decode (cdN 96) 43 = .ok (.iaload, 1) := by decide +kernel
theorem d96_44 : decode (cdN 96) 44 = .ok (.ireturn, 1) := by decide +kernel
theorem d97_0 : decode (cdN 97) 0 = .ok (.aload_n 0, 1) := by decide +kernel
theorem d97_1 : decode (cdN 97) 1 = .ok (.iload_n 1, 1) := by decide +kernel
theorem d97_2 : decode (cdN 97) 2 = .ok (.invokevirtual 187, 3) := by decide +kernel
theorem c97_187 : ctN (owN 97) 187 = some (0, 140, [426, 428, 0, 23]) := by decide +kernel
theorem d97_5 : decode (cdN 97) 5 = .ok (.aload_n 0, 1) := by decide +kernel
theorem d97_6 : decode (cdN 97) 6 = .ok (.getfield 54, 3) := by decide +kernel
theorem f97_54 : ftN (owN 97) 54 = some (9, 6, 389) := by decide +kernel
theorem d97_9 : decode (cdN 97) 9 = .ok (.getfield 180, 3) := by decide +kernel
theorem f97_180 : ftN (owN 97) 180 = some (5, 11, 302) := by decide +kernel
theorem d97_12 : decode (cdN 97) 12 = .ok (.iload_n 1, 1) := by decide +kernel
theorem d97_13 : decode (cdN 97) 13 = .ok (.iload_n 2, 1) := by decide +kernel
theorem d97_14 : decode (cdN 97) 14 = .ok (.invokevirtual 196, 3) := by decide +kernel
theorem c97_196 : ctN (owN 97) 196 = some (0, 21, [1017, 531, 532, 31]) := by decide +kernel
theorem d97_17 : decode (cdN 97) 17 = .ok (.ireturn, 1) := by decide +kernel
theorem d98_0 : decode (cdN 98) 0 = .ok (.aload_n 0, 1) := by decide +kernel
theorem d98_1 : decode (cdN 98) 1 = .ok (.iload_n 1, 1) := by decide +kernel
theorem d98_2 : decode (cdN 98) 2 = .ok (.invokevirtual 187, 3) := by decide +kernel
theorem c98_187 : ctN (owN 98) 187 = some (0, 140, [426, 428, 0, 23]) := by decide +kernel
theorem d98_5 : decode (cdN 98) 5 = .ok (.aload_n 0, 1) := by decide +kernel
theorem d98_6 : decode (cdN 98) 6 = .ok (.getfield 54, 3) := by decide +kernel
theorem f98_54 : ftN (owN 98) 54 = some (9, 6, 389) := by decide +kernel
theorem d98_9 : decode (cdN 98) 9 = .ok (.getfield 180, 3) := by decide +kernel
theorem f98_180 : ftN (owN 98) 180 = some (5, 11, 302) := by decide +kernel
theorem d98_12 : decode (cdN 98) 12 = .ok (.getfield 200, 3) := by decide +kernel
theorem f98_200 : ftN (owN 98) 200 = some (3, 2, 201) := by decide +kernel
theorem d98_15 : decode (cdN 98) 15 = .ok (.iload_n 1, 1) := by decide +kernel
theorem d98_16 : decode (cdN 98) 16 = .ok (.iaload, 1) := by decide +kernel
theorem d98_17 : decode (cdN 98) 17 = .ok (.ireturn, 1) := by decide +kernel
theorem d99_0 : decode (cdN 99) 0 = .ok (.aload_n 0, 1) := by decide +kernel
theorem d99_1 : decode (cdN 99) 1 = .ok (.iload_n 1, 1) := by decide +kernel
theorem d99_2 : decode (cdN 99) 2 = .ok (.invokevirtual 187, 3) := by decide +kernel
theorem c99_187 : ctN (owN 99) 187 = some (0, 140, [426, 428, 0, 23]) := by decide +kernel
theorem d99_5 : decode (cdN 99) 5 = .ok (.aload_n 0, 1) := by decide +kernel
theorem d99_6 : decode (cdN 99) 6 = .ok (.getfield 54, 3) := by decide +kernel
theorem f99_54 : ftN (owN 99) 54 = some (9, 6, 389) := by decide +kernel
theorem d99_9 : decode (cdN 99) 9 = .ok (.getfield 180, 3) := by decide +kernel
theorem f99_180 : ftN (owN 99) 180 = some (5, 11, 302) := by decide +kernel
theorem d99_12 : decode (cdN 99) 12 = .ok (.getfield 203, 3) := by decide +kernel
theorem f99_203 : ftN (owN 99) 203 = some (3, 3, 204) := by decide +kernel
theorem d99_15 : decode (cdN 99) 15 = .ok (.iload_n 1, 1) := by decide +kernel
theorem d99_16 : decode (cdN 99) 16 = .ok (.iaload, 1) := by decide +kernel
theorem d99_17 : decode (cdN 99) 17 = .ok (.ireturn, 1) := by decide +kernel
theorem d100_0 : decode (cdN 100) 0 = .ok (.aload_n 0, 1) := by decide +kernel
theorem d100_1 : decode (cdN 100) 1 = .ok (.iload_n 1, 1) := by decide +kernel
theorem d100_2 : decode (cdN 100) 2 = .ok (.invokevirtual 187, 3) := by decide +kernel
theorem c100_187 : ctN (owN 100) 187 = some (0, 140, [426, 428, 0, 23]) := by decide +kernel
theorem d100_5 : decode (cdN 100) 5 = .ok (.aload_n 0, 1) := by decide +kernel
theorem d100_6 : decode (cdN 100) 6 = .ok (.getfield 54, 3) := by decide +kernel
theorem f100_54 : ftN (owN 100) 54 = some (9, 6, 389) := by decide +kernel
theorem d100_9 : decode (cdN 100) 9 = .ok (.getfield 180, 3) := by decide +kernel
theorem f100_180 : ftN (owN 100) 180 = some (5, 11, 302) := by decide +kernel
theorem d100_12 : decode (cdN 100) 12 = .ok (.getfield 206, 3) := by decide +kernel
theorem f100_206 : ftN (owN 100) 206 = some (3, 4, 206) := by decide +kernel
theorem d100_15 : decode (cdN 100) 15 = .ok (.iload_n 1, 1) := by decide +kernel
theorem d100_16 : decode (cdN 100) 16 = .ok (.iaload, 1) := by decide +kernel
theorem d100_17 : decode (cdN 100) 17 = .ok (.ifCond .le 7, 3) := by decide +kernel
theorem d100_20 : decode (cdN 100) 20 = .ok (.iconst 1, 1) := by decide +kernel
theorem d100_21 : decode (cdN 100) 21 = .ok (.goto 4, 3) := by decide +kernel
theorem d100_24 : decode (cdN 100) 24 = .ok (.iconst 0, 1) := by decide +kernel
theorem d100_25 : decode (cdN 100) 25 = .ok (.ireturn, 1) := by decide +kernel
theorem d101_0 : decode (cdN 101) 0 = .ok (.aload_n 0, 1) := by decide +kernel
theorem d101_1 : decode (cdN 101) 1 = .ok (.iload_n 1, 1) := by decide +kernel
theorem d101_2 : decode (cdN 101) 2 = .ok (.invokevirtual 187, 3) := by decide +kernel
theorem c101_187 : ctN (owN 101) 187 = some (0, 140, [426, 428, 0, 23]) := by decide +kernel
theorem d101_5 : decode (cdN 101) 5 = .ok (.aload_n 0, 1) := by decide +kernel
theorem d101_6 : decode (cdN 101) 6 = .ok (.getfield 54, 3) := by decide +kernel
theorem f101_54 : ftN (owN 101) 54 = some (9, 6, 389) := by decide +kernel
theorem d101_9 : decode (cdN 101) 9 = .ok (.getfield 180, 3) := by decide +kernel
theorem f101_180 : ftN (owN 101) 180 = some (5, 11, 302) := by decide +kernel
theorem d101_12 : decode (cdN 101) 12 = .ok (.getfield 206, 3) := by decide +kernel
theorem f101_206 : ftN (owN 101) 206 = some (3, 4, 206) := by decide +kernel
theorem d101_15 : decode (cdN 101) 15 = .ok (.iload_n 1, 1) := by decide +kernel
theorem d101_16 : decode (cdN 101) 16 = .ok (.iaload, 1) := by decide +kernel
theorem d101_17 : decode (cdN 101) 17 = .ok (.ifCond .eq 23, 3) := by decide +kernel
theorem d101_20 : decode (cdN 101) 20 = .ok (.iload_n 2, 1) := by decide +kernel
theorem d101_21 : decode (cdN 101) 21 = .ok (.ifCond .lt 19, 3) := by decide +kernel
theorem d101_24 : decode (cdN 101) 24 = .ok (.iload_n 2, 1) := by decide +kernel
theorem d101_25 : decode (cdN 101) 25 = .ok (.aload_n 0, 1) := by decide +kernel
theorem d101_26 : decode (cdN 101) 26 = .ok (.getfield 54, 3) := by decide +kernel
theorem d101_29 : decode (cdN 101) 29 = .ok (.getfield 180, 3) := by decide +kernel
theorem d101_32 : decode (cdN 101) 32 = .ok (.getfield 190, 3) := by decide +kernel
theorem f101_190 : ftN (owN 101) 190 = some (3, 1, 198) := by decide +kernel
theorem d101_35 : decode (cdN 101) 35 = .ok (.iload_n 1, 1) := by decide +kernel
theorem d101_36 : decode (cdN 101) 36 = .ok (.iaload, 1) := by decide +kernel
theorem d101_37 : decode (cdN 101) 37 = .ok (.if_icmp .lt 5, 3) := by decide +kernel
theorem d101_40 : decode (cdN 101) 40 = .ok (.iconst (-1), 1) := by decide +kernel
theorem d101_41 : decode (cdN 101) 41 = .ok (.ireturn, 1) := by decide +kernel
theorem d101_42 : decode (cdN 101) 42 = .ok (.aload_n 0, 1) := by decide +kernel
theorem d101_43 : decode (cdN 101) 43 = .ok (.getfield 54, 3) := by decide +kernel
theorem d101_46 : decode (cdN 101) 46 = .ok (.getfield 180, 3) := by decide +kernel
theorem d101_49 : decode (cdN 101) 49 = .ok (.getfield 209, 3) := by decide +kernel
theorem f101_209 : ftN (owN 101) 209 = some (3, 6, 211) := by decide +kernel
theorem d101_52 : decode (cdN 101) 52 = .ok (.iload_n 1, 1) := by decide +kernel
theorem d101_53 : decode (cdN 101) 53 = .ok (.bipush 6, 2) := by decide +kernel
theorem d101_55 : decode (cdN 101) 55 = .ok (.imul, 1) := by decide +kernel
theorem d101_56 : decode (cdN 101) 56 = .ok (.iload_n 2, 1) := by decide +kernel
theorem d101_57 : decode (cdN 101) 57 = .ok (.iadd, 1) := by decide +kernel
theorem d101_58 : decode (cdN 101) 58 = .ok (.iaload, 1) := by decide +kernel
theorem d101_59 : decode (cdN 101) 59 = .ok (.ireturn, 1) := by decide +kernel
theorem d102_0 : decode (cdN 102) 0 = .ok (.aload_n 0, 1) := by decide +kernel
theorem d102_1 : decode (cdN 102) 1 = .ok (.iload_n 1, 1) := by decide +kernel
theorem d102_2 : decode (cdN 102) 2 = .ok (.invokevirtual 187, 3) := by decide +kernel
theorem c102_187 : ctN (owN 102) 187 = some (0, 140, [426, 428, 0, 23]) := by decide +kernel
theorem d102_5 : decode (cdN 102) 5 = .ok (.aload_n 0, 1) := by decide +kernel
theorem d102_6 : decode (cdN 102) 6 = .ok (.getfield 54, 3) := by decide +kernel
theorem f102_54 : ftN (owN 102) 54 = some (9, 6, 389) := by decide +kernel
theorem d102_9 : decode (cdN 102) 9 = .ok (.getfield 180, 3) := by decide +kernel
theorem f102_180 : ftN (owN 102) 180 = some (5, 11, 302) := by decide +kernel
theorem d102_12 : decode (cdN 102) 12 = .ok (.iload_n 1, 1) := by decide +kernel
theorem d102_13 : decode (cdN 102) 13 = .ok (.invokevirtual 212, 3) := by decide +kernel
theorem c102_212 : ctN (owN 102) 212 = some (0, 24, [1022, 1023, 1024, 31]) := by decide +kernel
theorem d102_16 : decode (cdN 102) 16 = .ok (.ireturn, 1) := by decide +kernel
theorem d103_0 : decode (cdN 103) 0 = .ok (.iload_n 1, 1) := by decide +kernel
theorem d103_1 : decode (cdN 103) 1 = .ok (.ifCond .lt 9, 3) := by decide +kernel
theorem d103_4 : decode (cdN 103) 4 = .ok (.iload_n 1, 1) := by decide +kernel
theorem d103_5 : decode (cdN 103) 5 = .ok (.bipush 100, 2) := by decide +kernel
theorem d103_7 : decode (cdN 103) 7 = .ok (.if_icmp .lt 13, 3) := by decide +kernel
theorem d103_10 : decode (cdN 103) 10 = .ok (.new 103, 3) := by decide +kernel
theorem d103_13 : decode (cdN 103) 13 = .ok (.dup, 1) := by decide +kernel
theorem d103_14 : decode (cdN 103) 14 = .ok (.ldc 215, 2) := by decide +kernel
theorem k103_215 : ksN (owN 103) 215 = some 8 := by decide +kernel
theorem d103_16 : decode (cdN 103) 16 = .ok (.invokespecial 107, 3) := by decide +kernel
theorem d103_19 : decode (cdN 103) 19 = .ok (.athrow, 1) := by decide +kernel
theorem d103_20 : decode (cdN 103) 20 = .ok (.iload_n 1, 1) := by decide +kernel
theorem d103_21 : decode (cdN 103) 21 = .ok (.aload_n 0, 1) := by decide +kernel
theorem d103_22 : decode (cdN 103) 22 = .ok (.getfield 54, 3) := by decide +kernel
theorem f103_54 : ftN (owN 103) 54 = some (9, 6, 389) := by decide +kernel
theorem d103_25 : decode (cdN 103) 25 = .ok (.getfield 149, 3) := by decide +kernel
theorem f103_149 : ftN (owN 103) 149 = some (5, 1, 283) := by decide +kernel
theorem d103_28 : decode (cdN 103) 28 = .ok (.invokestatic 217, 3) := by decide +kernel
theorem c103_217 : ctN (owN 103) 217 = some (1, 145, [1048, 549, 23]) := by decide +kernel
theorem d103_31 : decode (cdN 103) 31 = .ok (.ireturn, 1) := by decide +kernel
theorem x103_10 : xtN 103 10 = some (0, 103, 215, 107, false, 8) := by decide +kernel
theorem d104_0 : decode (cdN 104) 0 = .ok (.iconst 0, 1) := by decide +kernel
theorem d104_1 : decode (cdN 104) 1 = .ok (.istore_n 1, 1) := by decide +kernel
theorem d104_2 : decode (cdN 104) 2 = .ok (.iload_n 1, 1) := by decide +kernel
theorem d104_3 : decode (cdN 104) 3 = .ok (.bipush 100, 2) := by decide +kernel
theorem d104_5 : decode (cdN 104) 5 = .ok (.if_icmp .ge 26, 3) := by decide +kernel
theorem d104_8 : decode (cdN 104) 8 = .ok (.iload_n 1, 1) := by decide +kernel
theorem d104_9 : decode (cdN 104) 9 = .ok (.aload_n 0, 1) := by decide +kernel
theorem d104_10 : decode (cdN 104) 10 = .ok (.getfield 54, 3) := by decide +kernel
theorem f104_54 : ftN (owN 104) 54 = some (9, 6, 389) := by decide +kernel
theorem d104_13 : decode (cdN 104) 13 = .ok (.getfield 149, 3) := by decide +kernel
theorem f104_149 : ftN (owN 104) 149 = some (5, 1, 283) := by decide +kernel
theorem d104_16 : decode (cdN 104) 16 = .ok (.invokestatic 217, 3) := by decide +kernel
theorem c104_217 : ctN (owN 104) 217 = some (1, 145, [1048, 549, 23]) := by decide +kernel
theorem d104_19 : decode (cdN 104) 19 = .ok (.iload_n 1, 1) := by decide +kernel
theorem d104_20 : decode (cdN 104) 20 = .ok (.if_icmp .eq 5, 3) := by decide +kernel
theorem d104_23 : decode (cdN 104) 23 = .ok (.iload_n 1, 1) := by decide +kernel
theorem d104_24 : decode (cdN 104) 24 = .ok (.ireturn, 1) := by decide +kernel
theorem d104_25 : decode (cdN 104) 25 = .ok (.iinc 1 1, 3) := by decide +kernel
theorem d104_28 : decode (cdN 104) 28 = .ok (.goto (-26), 3) := by decide +kernel
theorem d104_31 : decode (cdN 104) 31 = .ok (.bipush 100, 2) := by decide +kernel
theorem d104_33 : decode (cdN 104) 33 = .ok (.ireturn, 1) := by decide +kernel
theorem d105_0 : decode (cdN 105) 0 = .ok (.aload_n 0, 1) := by decide +kernel
theorem d105_1 : decode (cdN 105) 1 = .ok (.iload_n 1, 1) := by decide +kernel
theorem d105_2 : decode (cdN 105) 2 = .ok (.invokevirtual 187, 3) := by decide +kernel
theorem c105_187 : ctN (owN 105) 187 = some (0, 140, [426, 428, 0, 23]) := by decide +kernel
theorem d105_5 : decode (cdN 105) 5 = .ok (.iload_n 3, 1) := by decide +kernel
theorem d105_6 : decode (cdN 105) 6 = .ok (.invokestatic 152, 3) := by decide +kernel
theorem c105_152 : ctN (owN 105) 152 = some (1, 142, [498, 499, 23]) := by decide +kernel
theorem d105_9 : decode (cdN 105) 9 = .ok (.aload_n 0, 1) := by decide +kernel
theorem d105_10 : decode (cdN 105) 10 = .ok (.getfield 40, 3) := by decide +kernel
theorem f105_40 : ftN (owN 105) 40 = some (9, 4, 387) := by decide +kernel
theorem d105_13 : decode (cdN 105) 13 = .ok (.aload_n 0, 1) := by decide +kernel
theorem d105_14 : decode (cdN 105) 14 = .ok (.getfield 54, 3) := by decide +kernel
theorem f105_54 : ftN (owN 105) 54 = some (9, 6, 389) := by decide +kernel
theorem d105_17 : decode (cdN 105) 17 = .ok (.iload_n 1, 1) := by decide +kernel
theorem d105_18 : decode (cdN 105) 18 = .ok (.iload_n 3, 1) := by decide +kernel
theorem d105_19 : decode (cdN 105) 19 = .ok (.aload_n 0, 1) := by decide +kernel
theorem d105_20 : decode (cdN 105) 20 = .ok (.getfield 54, 3) := by decide +kernel
theorem d105_23 : decode (cdN 105) 23 = .ok (.getfield 146, 3) := by decide +kernel
theorem f105_146 : ftN (owN 105) 146 = some (5, 0, 280) := by decide +kernel
theorem d105_26 : decode (cdN 105) 26 = .ok (.invokevirtual 220, 3) := by decide +kernel
theorem c105_220 : ctN (owN 105) 220 = some (0, 56, [1053, 523, 524, 27]) := by decide +kernel
theorem d105_29 : decode (cdN 105) 29 = .ok (.iload_n 2, 1) := by decide +kernel
theorem d105_30 : decode (cdN 105) 30 = .ok (.ifCond .lt 14, 3) := by decide +kernel
theorem d105_33 : decode (cdN 105) 33 = .ok (.iload_n 2, 1) := by decide +kernel
theorem d105_34 : decode (cdN 105) 34 = .ok (.aload_n 0, 1) := by decide +kernel
theorem d105_35 : decode (cdN 105) 35 = .ok (.getfield 40, 3) := by decide +kernel
theorem d105_38 : decode (cdN 105) 38 = .ok (.getfield 224, 3) := by decide +kernel
theorem f105_224 : ftN (owN 105) 224 = some (6, 2, 137) := by decide +kernel
theorem d105_41 : decode (cdN 105) 41 = .ok (.if_icmp .lt 5, 3) := by decide +kernel
theorem d105_44 : decode (cdN 105) 44 = .ok (.iconst (-1), 1) := by decide +kernel
theorem d105_45 : decode (cdN 105) 45 = .ok (.ireturn, 1) := by decide +kernel
theorem d105_46 : decode (cdN 105) 46 = .ok (.aload_n 0, 1) := by decide +kernel
theorem d105_47 : decode (cdN 105) 47 = .ok (.getfield 40, 3) := by decide +kernel
theorem d105_50 : decode (cdN 105) 50 = .ok (.iload_n 2, 1) := by decide +kernel
theorem d105_51 : decode (cdN 105) 51 = .ok (.aload_n 0, 1) := by decide +kernel
theorem d105_52 : decode (cdN 105) 52 = .ok (.getfield 54, 3) := by decide +kernel
theorem d105_55 : decode (cdN 105) 55 = .ok (.getfield 149, 3) := by decide +kernel
theorem f105_149 : ftN (owN 105) 149 = some (5, 1, 283) := by decide +kernel
theorem d105_58 : decode (cdN 105) 58 = .ok (.invokevirtual 227, 3) := by decide +kernel
theorem c105_227 : ctN (owN 105) 227 = some (0, 57, [1054, 545, 546, 27]) := by decide +kernel
theorem d105_61 : decode (cdN 105) 61 = .ok (.ireturn, 1) := by decide +kernel
theorem d106_0 : decode (cdN 106) 0 = .ok (.aload_n 0, 1) := by decide +kernel
theorem d106_1 : decode (cdN 106) 1 = .ok (.iload_n 1, 1) := by decide +kernel
theorem d106_2 : decode (cdN 106) 2 = .ok (.invokevirtual 187, 3) := by decide +kernel
theorem c106_187 : ctN (owN 106) 187 = some (0, 140, [426, 428, 0, 23]) := by decide +kernel
theorem d106_5 : decode (cdN 106) 5 = .ok (.iload_n 2, 1) := by decide +kernel
theorem d106_6 : decode (cdN 106) 6 = .ok (.invokestatic 152, 3) := by decide +kernel
theorem c106_152 : ctN (owN 106) 152 = some (1, 142, [498, 499, 23]) := by decide +kernel
theorem d106_9 : decode (cdN 106) 9 = .ok (.aload_n 0, 1) := by decide +kernel
theorem d106_10 : decode (cdN 106) 10 = .ok (.getfield 40, 3) := by decide +kernel
theorem f106_40 : ftN (owN 106) 40 = some (9, 4, 387) := by decide +kernel
theorem d106_13 : decode (cdN 106) 13 = .ok (.aload_n 0, 1) := by decide +kernel
theorem d106_14 : decode (cdN 106) 14 = .ok (.getfield 54, 3) := by decide +kernel
theorem f106_54 : ftN (owN 106) 54 = some (9, 6, 389) := by decide +kernel
theorem d106_17 : decode (cdN 106) 17 = .ok (.iload_n 1, 1) := by decide +kernel
theorem d106_18 : decode (cdN 106) 18 = .ok (.iload_n 2, 1) := by decide +kernel
theorem d106_19 : decode (cdN 106) 19 = .ok (.aload_n 0, 1) := by decide +kernel
theorem d106_20 : decode (cdN 106) 20 = .ok (.getfield 54, 3) := by decide +kernel
theorem d106_23 : decode (cdN 106) 23 = .ok (.getfield 146, 3) := by decide +kernel
theorem f106_146 : ftN (owN 106) 146 = some (5, 0, 280) := by decide +kernel
theorem d106_26 : decode (cdN 106) 26 = .ok (.invokevirtual 220, 3) := by decide +kernel
theorem c106_220 : ctN (owN 106) 220 = some (0, 56, [1053, 523, 524, 27]) := by decide +kernel
theorem d106_29 : decode (cdN 106) 29 = .ok (.aload_n 0, 1) := by decide +kernel
theorem d106_30 : decode (cdN 106) 30 = .ok (.getfield 40, 3) := by decide +kernel
theorem d106_33 : decode (cdN 106) 33 = .ok (.getfield 230, 3) := by decide +kernel
theorem f106_230 : ftN (owN 106) 230 = some (6, 3, 139) := by decide +kernel
theorem d106_36 : decode (cdN 106) 36 = .ok (.ireturn, 1) := by decide +kernel
theorem d107_0 : decode (cdN 107) 0 = .ok (.aload_n 0, 1) := by decide +kernel
theorem d107_1 : decode (cdN 107) 1 = .ok (.iload_n 1, 1) := by decide +kernel
theorem d107_2 : decode (cdN 107) 2 = .ok (.invokevirtual 187, 3) := by decide +kernel
theorem c107_187 : ctN (owN 107) 187 = some (0, 140, [426, 428, 0, 23]) := by decide +kernel
theorem d107_5 : decode (cdN 107) 5 = .ok (.iload_n 2, 1) := by decide +kernel
theorem d107_6 : decode (cdN 107) 6 = .ok (.invokestatic 152, 3) := by decide +kernel
theorem c107_152 : ctN (owN 107) 152 = some (1, 142, [498, 499, 23]) := by decide +kernel
theorem d107_9 : decode (cdN 107) 9 = .ok (.aload_n 0, 1) := by decide +kernel
theorem d107_10 : decode (cdN 107) 10 = .ok (.getfield 40, 3) := by decide +kernel
theorem f107_40 : ftN (owN 107) 40 = some (9, 4, 387) := by decide +kernel
theorem d107_13 : decode (cdN 107) 13 = .ok (.aload_n 0, 1) := by decide +kernel
theorem d107_14 : decode (cdN 107) 14 = .ok (.getfield 54, 3) := by decide +kernel
theorem f107_54 : ftN (owN 107) 54 = some (9, 6, 389) := by decide +kernel
theorem d107_17 : decode (cdN 107) 17 = .ok (.iload_n 1, 1) := by decide +kernel
theorem d107_18 : decode (cdN 107) 18 = .ok (.iload_n 2, 1) := by decide +kernel
theorem d107_19 : decode (cdN 107) 19 = .ok (.aload_n 0, 1) := by decide +kernel
theorem d107_20 : decode (cdN 107) 20 = .ok (.getfield 54, 3) := by decide +kernel
theorem d107_23 : decode (cdN 107) 23 = .ok (.getfield 146, 3) := by decide +kernel
theorem f107_146 : ftN (owN 107) 146 = some (5, 0, 280) := by decide +kernel
theorem d107_26 : decode (cdN 107) 26 = .ok (.invokevirtual 220, 3) := by decide +kernel
theorem c107_220 : ctN (owN 107) 220 = some (0, 56, [1053, 523, 524, 27]) := by decide +kernel
theorem d107_29 : decode (cdN 107) 29 = .ok (.aload_n 0, 1) := by decide +kernel
theorem d107_30 : decode (cdN 107) 30 = .ok (.getfield 40, 3) := by decide +kernel
theorem d107_33 : decode (cdN 107) 33 = .ok (.getfield 233, 3) := by decide +kernel
theorem f107_233 : ftN (owN 107) 233 = some (6, 4, 141) := by decide +kernel
theorem d107_36 : decode (cdN 107) 36 = .ok (.ireturn, 1) := by decide +kernel
theorem d108_0 : decode (cdN 108) 0 = .ok (.aload_n 0, 1) := by decide +kernel
theorem d108_1 : decode (cdN 108) 1 = .ok (.iload_n 1, 1) := by decide +kernel
theorem d108_2 : decode (cdN 108) 2 = .ok (.invokevirtual 187, 3) := by decide +kernel
theorem c108_187 : ctN (owN 108) 187 = some (0, 140, [426, 428, 0, 23]) := by decide +kernel
theorem d108_5 : decode (cdN 108) 5 = .ok (.iload_n 2, 1) := by decide +kernel
theorem d108_6 : decode (cdN 108) 6 = .ok (.invokestatic 152, 3) := by decide +kernel
theorem c108_152 : ctN (owN 108) 152 = some (1, 142, [498, 499, 23]) := by decide +kernel
theorem d108_9 : decode (cdN 108) 9 = .ok (.aload_n 0, 1) := by decide +kernel
theorem d108_10 : decode (cdN 108) 10 = .ok (.getfield 40, 3) := by decide +kernel
theorem f108_40 : ftN (owN 108) 40 = some (9, 4, 387) := by decide +kernel
theorem d108_13 : decode (cdN 108) 13 = .ok (.aload_n 0, 1) := by decide +kernel
theorem d108_14 : decode (cdN 108) 14 = .ok (.getfield 54, 3) := by decide +kernel
theorem f108_54 : ftN (owN 108) 54 = some (9, 6, 389) := by decide +kernel
theorem d108_17 : decode (cdN 108) 17 = .ok (.iload_n 1, 1) := by decide +kernel
theorem d108_18 : decode (cdN 108) 18 = .ok (.iload_n 2, 1) := by decide +kernel
theorem d108_19 : decode (cdN 108) 19 = .ok (.aload_n 0, 1) := by decide +kernel
theorem d108_20 : decode (cdN 108) 20 = .ok (.getfield 54, 3) := by decide +kernel
theorem d108_23 : decode (cdN 108) 23 = .ok (.getfield 146, 3) := by decide +kernel
theorem f108_146 : ftN (owN 108) 146 = some (5, 0, 280) := by decide +kernel
theorem d108_26 : decode (cdN 108) 26 = .ok (.invokevirtual 220, 3) := by decide +kernel
theorem c108_220 : ctN (owN 108) 220 = some (0, 56, [1053, 523, 524, 27]) := by decide +kernel
theorem d108_29 : decode (cdN 108) 29 = .ok (.iconst 0, 1) := by decide +kernel
theorem d108_30 : decode (cdN 108) 30 = .ok (.istore_n 3, 1) := by decide +kernel
theorem d108_31 : decode (cdN 108) 31 = .ok (.iconst 0, 1) := by decide +kernel
theorem d108_32 : decode (cdN 108) 32 = .ok (.istore 4, 2) := by decide +kernel
theorem d108_34 : decode (cdN 108) 34 = .ok (.iload 4, 2) := by decide +kernel
theorem d108_36 : decode (cdN 108) 36 = .ok (.aload_n 0, 1) := by decide +kernel
theorem d108_37 : decode (cdN 108) 37 = .ok (.getfield 40, 3) := by decide +kernel
theorem d108_40 : decode (cdN 108) 40 = .ok (.getfield 224, 3) := by decide +kernel
theorem f108_224 : ftN (owN 108) 224 = some (6, 2, 137) := by decide +kernel
theorem d108_43 : decode (cdN 108) 43 = .ok (.if_icmp .ge 44, 3) := by decide +kernel
theorem d108_46 : decode (cdN 108) 46 = .ok (.aload_n 0, 1) := by decide +kernel
theorem d108_47 : decode (cdN 108) 47 = .ok (.getfield 40, 3) := by decide +kernel
theorem d108_50 : decode (cdN 108) 50 = .ok (.iload 4, 2) := by decide +kernel
theorem d108_52 : decode (cdN 108) 52 = .ok (.aload_n 0, 1) := by decide +kernel
theorem d108_53 : decode (cdN 108) 53 = .ok (.getfield 54, 3) := by decide +kernel
theorem d108_56 : decode (cdN 108) 56 = .ok (.getfield 149, 3) := by decide +kernel
theorem f108_149 : ftN (owN 108) 149 = some (5, 1, 283) := by decide +kernel
theorem d108_59 : decode (cdN 108) 59 = .ok (.invokevirtual 227, 3) := by decide +kernel
theorem c108_227 : ctN (owN 108) 227 = some (0, 57, [1054, 545, 546, 27]) := by decide +kernel
theorem d108_62 : decode (cdN 108) 62 = .ok (.aload_n 0, 1) := by decide +kernel
theorem d108_63 : decode (cdN 108) 63 = .ok (.getfield 54, 3) := by decide +kernel
theorem d108_66 : decode (cdN 108) 66 = .ok (.getfield 180, 3) := by decide +kernel
theorem f108_180 : ftN (owN 108) 180 = some (5, 11, 302) := by decide +kernel
theorem d108_69 : decode (cdN 108) 69 = .ok (.iload_n 1, 1) := by decide +kernel
theorem d108_70 : decode (cdN 108) 70 = .ok (.iload 4, 2) := by decide +kernel
theorem d108_72 : decode (cdN 108) 72 = .ok (.invokevirtual 196, 3) := by decide +kernel
theorem c108_196 : ctN (owN 108) 196 = some (0, 21, [1017, 531, 532, 31]) := by decide +kernel
theorem d108_75 : decode (cdN 108) 75 = .ok (.if_icmp .eq 6, 3) := by decide +kernel
theorem d108_78 : decode (cdN 108) 78 = .ok (.iinc 3 1, 3) := by decide +kernel
theorem d108_81 : decode (cdN 108) 81 = .ok (.iinc 4 1, 3) := by decide +kernel
theorem d108_84 : decode (cdN 108) 84 = .ok (.goto (-50), 3) := by decide +kernel
theorem d108_87 : decode (cdN 108) 87 = .ok (.iload_n 3, 1) := by decide +kernel
theorem d108_88 : decode (cdN 108) 88 = .ok (.ireturn, 1) := by decide +kernel
theorem d109_0 : decode (cdN 109) 0 = .ok (.aload_n 0, 1) := by decide +kernel
theorem d109_1 : decode (cdN 109) 1 = .ok (.iload_n 1, 1) := by decide +kernel
theorem d109_2 : decode (cdN 109) 2 = .ok (.invokevirtual 187, 3) := by decide +kernel
theorem c109_187 : ctN (owN 109) 187 = some (0, 140, [426, 428, 0, 23]) := by decide +kernel
theorem d109_5 : decode (cdN 109) 5 = .ok (.iload_n 2, 1) := by decide +kernel
theorem d109_6 : decode (cdN 109) 6 = .ok (.invokestatic 152, 3) := by decide +kernel
theorem c109_152 : ctN (owN 109) 152 = some (1, 142, [498, 499, 23]) := by decide +kernel
theorem d109_9 : decode (cdN 109) 9 = .ok (.aload_n 0, 1) := by decide +kernel
theorem d109_10 : decode (cdN 109) 10 = .ok (.getfield 40, 3) := by decide +kernel
theorem f109_40 : ftN (owN 109) 40 = some (9, 4, 387) := by decide +kernel
theorem d109_13 : decode (cdN 109) 13 = .ok (.aload_n 0, 1) := by decide +kernel
theorem d109_14 : decode (cdN 109) 14 = .ok (.getfield 54, 3) := by decide +kernel
theorem f109_54 : ftN (owN 109) 54 = some (9, 6, 389) := by decide +kernel
theorem d109_17 : decode (cdN 109) 17 = .ok (.iload_n 1, 1) := by decide +kernel
theorem d109_18 : decode (cdN 109) 18 = .ok (.iload_n 2, 1) := by decide +kernel
theorem d109_19 : decode (cdN 109) 19 = .ok (.aload_n 0, 1) := by decide +kernel
theorem d109_20 : decode (cdN 109) 20 = .ok (.getfield 54, 3) := by decide +kernel
theorem d109_23 : decode (cdN 109) 23 = .ok (.getfield 146, 3) := by decide +kernel
theorem f109_146 : ftN (owN 109) 146 = some (5, 0, 280) := by decide +kernel
theorem d109_26 : decode (cdN 109) 26 = .ok (.invokevirtual 236, 3) := by decide +kernel
theorem c109_236 : ctN (owN 109) 236 = some (0, 61, [518, 519, 520, 27]) := by decide +kernel
theorem d109_29 : decode (cdN 109) 29 = .ok (.ireturn, 1) := by decide +kernel
theorem d110_0 : decode (cdN 110) 0 = .ok (.aload_n 0, 1) := by decide +kernel
theorem d110_1 : decode (cdN 110) 1 = .ok (.iload_n 1, 1) := by decide +kernel
theorem d110_2 : decode (cdN 110) 2 = .ok (.invokevirtual 187, 3) := by decide +kernel
theorem c110_187 : ctN (owN 110) 187 = some (0, 140, [426, 428, 0, 23]) := by decide +kernel
theorem d110_5 : decode (cdN 110) 5 = .ok (.iload_n 2, 1) := by decide +kernel
theorem d110_6 : decode (cdN 110) 6 = .ok (.iconst 1, 1) := by decide +kernel
theorem d110_7 : decode (cdN 110) 7 = .ok (.if_icmp .lt 9, 3) := by decide +kernel
theorem d110_10 : decode (cdN 110) 10 = .ok (.iload_n 2, 1) := by decide +kernel
theorem d110_11 : decode (cdN 110) 11 = .ok (.ldc 240, 2) := by decide +kernel
theorem k110_240 : kiN (owN 110) 240 = some (65535, 890) := by decide +kernel
theorem d110_13 : decode (cdN 110) 13 = .ok (.if_icmp .le 13, 3) := by decide +kernel
theorem d110_16 : decode (cdN 110) 16 = .ok (.new 103, 3) := by decide +kernel
theorem d110_19 : decode (cdN 110) 19 = .ok (.dup, 1) := by decide +kernel
theorem d110_20 : decode (cdN 110) 20 = .ok (.ldc 241, 2) := by decide +kernel
theorem k110_241 : ksN (owN 110) 241 = some 9 := by decide +kernel
theorem d110_22 : decode (cdN 110) 22 = .ok (.invokespecial 107, 3) := by decide +kernel
theorem d110_25 : decode (cdN 110) 25 = .ok (.athrow, 1) := by decide +kernel
theorem d110_26 : decode (cdN 110) 26 = .ok (.iload_n 2, 1) := by decide +kernel
theorem d110_27 : decode (cdN 110) 27 = .ok (.invokestatic 243, 3) := by decide +kernel
theorem c110_243 : ctN (owN 110) 243 = some (1, 144, [892, 893, 23]) := by decide +kernel
theorem d110_30 : decode (cdN 110) 30 = .ok (.istore 4, 2) := by decide +kernel
theorem d110_32 : decode (cdN 110) 32 = .ok (.iload_n 3, 1) := by decide +kernel
theorem d110_33 : decode (cdN 110) 33 = .ok (.ifCond .lt 25, 3) := by decide +kernel
theorem d110_36 : decode (cdN 110) 36 = .ok (.iload_n 3, 1) := by decide +kernel
theorem d110_37 : decode (cdN 110) 37 = .ok (.aload_n 0, 1) := by decide +kernel
theorem d110_38 : decode (cdN 110) 38 = .ok (.getfield 54, 3) := by decide +kernel
theorem f110_54 : ftN (owN 110) 54 = some (9, 6, 389) := by decide +kernel
theorem d110_41 : decode (cdN 110) 41 = .ok (.getfield 180, 3) := by decide +kernel
theorem f110_180 : ftN (owN 110) 180 = some (5, 11, 302) := by decide +kernel
theorem d110_44 : decode (cdN 110) 44 = .ok (.getfield 190, 3) := by decide +kernel
theorem f110_190 : ftN (owN 110) 190 = some (3, 1, 198) := by decide +kernel
theorem d110_47 : decode (cdN 110) 47 = .ok (.iload_n 1, 1) := by decide +kernel
theorem d110_48 : decode (cdN 110) 48 = .ok (.iaload, 1) := by decide +kernel
theorem d110_49 : decode (cdN 110) 49 = .ok (.bipush 8, 2) := by decide +kernel
theorem d110_51 : decode (cdN 110) 51 = .ok (.imul, 1) := by decide +kernel
theorem d110_52 : decode (cdN 110) 52 = .ok (.iload 4, 2) := by decide +kernel
theorem d110_54 : decode (cdN 110) 54 = .ok (.isub, 1) := by decide +kernel
theorem d110_55 : decode (cdN 110) 55 = .ok (.if_icmp .le 13, 3) := by decide +kernel
theorem d110_58 : decode (cdN 110) 58 = .ok (.new 103, 3) := by decide +kernel
theorem d110_61 : decode (cdN 110) 61 = .ok (.dup, 1) := by decide +kernel
theorem d110_62 : decode (cdN 110) 62 = .ok (.ldc 246, 2) := by decide +kernel
theorem k110_246 : ksN (owN 110) 246 = some 10 := by decide +kernel
theorem d110_64 : decode (cdN 110) 64 = .ok (.invokespecial 107, 3) := by decide +kernel
theorem d110_67 : decode (cdN 110) 67 = .ok (.athrow, 1) := by decide +kernel
theorem d110_68 : decode (cdN 110) 68 = .ok (.aload_n 0, 1) := by decide +kernel
theorem d110_69 : decode (cdN 110) 69 = .ok (.getfield 40, 3) := by decide +kernel
theorem f110_40 : ftN (owN 110) 40 = some (9, 4, 387) := by decide +kernel
theorem d110_72 : decode (cdN 110) 72 = .ok (.aload_n 0, 1) := by decide +kernel
theorem d110_73 : decode (cdN 110) 73 = .ok (.getfield 54, 3) := by decide +kernel
theorem d110_76 : decode (cdN 110) 76 = .ok (.getfield 180, 3) := by decide +kernel
theorem d110_79 : decode (cdN 110) 79 = .ok (.iload_n 1, 1) := by decide +kernel
theorem d110_80 : decode (cdN 110) 80 = .ok (.iload_n 2, 1) := by decide +kernel
theorem d110_81 : decode (cdN 110) 81 = .ok (.iload 4, 2) := by decide +kernel
theorem d110_83 : decode (cdN 110) 83 = .ok (.iload_n 3, 1) := by decide +kernel
theorem d110_84 : decode (cdN 110) 84 = .ok (.invokevirtual 248, 3) := by decide +kernel
theorem c110_248 : ctN (owN 110) 248 = some (0, 59, [896, 897, 898, 27]) := by decide +kernel
theorem d110_87 : decode (cdN 110) 87 = .ok (.aload_n 0, 1) := by decide +kernel
theorem d110_88 : decode (cdN 110) 88 = .ok (.getfield 40, 3) := by decide +kernel
theorem d110_91 : decode (cdN 110) 91 = .ok (.invokevirtual 252, 3) := by decide +kernel
theorem c110_252 : ctN (owN 110) 252 = some (0, 60, [900, 552, 553, 27]) := by decide +kernel
theorem d110_94 : decode (cdN 110) 94 = .ok (.ireturn, 1) := by decide +kernel
theorem x110_16 : xtN 110 16 = some (0, 103, 241, 107, false, 9) := by decide +kernel
theorem x110_58 : xtN 110 58 = some (0, 103, 246, 107, false, 10) := by decide +kernel
theorem d111_0 : decode (cdN 111) 0 = .ok (.aload_n 0, 1) := by decide +kernel
theorem d111_1 : decode (cdN 111) 1 = .ok (.iload_n 1, 1) := by decide +kernel
theorem d111_2 : decode (cdN 111) 2 = .ok (.invokevirtual 187, 3) := by decide +kernel
theorem c111_187 : ctN (owN 111) 187 = some (0, 140, [426, 428, 0, 23]) := by decide +kernel
theorem d111_5 : decode (cdN 111) 5 = .ok (.iconst 0, 1) := by decide +kernel
theorem d111_6 : decode (cdN 111) 6 = .ok (.istore_n 2, 1) := by decide +kernel
theorem d111_7 : decode (cdN 111) 7 = .ok (.iload_n 2, 1) := by decide +kernel
theorem d111_8 : decode (cdN 111) 8 = .ok (.sipush 600, 3) := by decide +kernel
theorem d111_11 : decode (cdN 111) 11 = .ok (.if_icmp .gt 42, 3) := by decide +kernel
theorem d111_14 : decode (cdN 111) 14 = .ok (.aload_n 0, 1) := by decide +kernel
theorem d111_15 : decode (cdN 111) 15 = .ok (.getfield 40, 3) := by decide +kernel
theorem f111_40 : ftN (owN 111) 40 = some (9, 4, 387) := by decide +kernel
theorem d111_18 : decode (cdN 111) 18 = .ok (.aload_n 0, 1) := by decide +kernel
theorem d111_19 : decode (cdN 111) 19 = .ok (.getfield 54, 3) := by decide +kernel
theorem f111_54 : ftN (owN 111) 54 = some (9, 6, 389) := by decide +kernel
theorem d111_22 : decode (cdN 111) 22 = .ok (.iload_n 1, 1) := by decide +kernel
theorem d111_23 : decode (cdN 111) 23 = .ok (.aload_n 0, 1) := by decide +kernel
theorem d111_24 : decode (cdN 111) 24 = .ok (.getfield 54, 3) := by decide +kernel
theorem d111_27 : decode (cdN 111) 27 = .ok (.getfield 143, 3) := by decide +kernel
theorem f111_143 : ftN (owN 111) 143 = some (5, 4, 287) := by decide +kernel
theorem d111_30 : decode (cdN 111) 30 = .ok (.iload_n 2, 1) := by decide +kernel
theorem d111_31 : decode (cdN 111) 31 = .ok (.iadd, 1) := by decide +kernel
theorem d111_32 : decode (cdN 111) 32 = .ok (.aload_n 0, 1) := by decide +kernel
theorem d111_33 : decode (cdN 111) 33 = .ok (.getfield 54, 3) := by decide +kernel
theorem d111_36 : decode (cdN 111) 36 = .ok (.getfield 146, 3) := by decide +kernel
theorem f111_146 : ftN (owN 111) 146 = some (5, 0, 280) := by decide +kernel
theorem d111_39 : decode (cdN 111) 39 = .ok (.invokevirtual 236, 3) := by decide +kernel
theorem c111_236 : ctN (owN 111) 236 = some (0, 61, [518, 519, 520, 27]) := by decide +kernel
theorem d111_42 : decode (cdN 111) 42 = .ok (.ifCond .ne 5, 3) := by decide +kernel
theorem d111_45 : decode (cdN 111) 45 = .ok (.iload_n 2, 1) := by decide +kernel
theorem d111_46 : decode (cdN 111) 46 = .ok (.ireturn, 1) := by decide +kernel
theorem d111_47 : decode (cdN 111) 47 = .ok (.iinc 2 1, 3) := by decide +kernel
theorem d111_50 : decode (cdN 111) 50 = .ok (.goto (-43), 3) := by decide +kernel
theorem d111_53 : decode (cdN 111) 53 = .ok (.iconst (-1), 1) := by decide +kernel
theorem d111_54 : decode (cdN 111) 54 = .ok (.ireturn, 1) := by decide +kernel
theorem d113_0 : decode (cdN 113) 0 = .ok (.aload_n 0, 1) := by decide +kernel
theorem d113_1 : decode (cdN 113) 1 = .ok (.getfield 54, 3) := by decide +kernel
theorem f113_54 : ftN (owN 113) 54 = some (9, 6, 389) := by decide +kernel
theorem d113_4 : decode (cdN 113) 4 = .ok (.getfield 180, 3) := by decide +kernel
theorem f113_180 : ftN (owN 113) 180 = some (5, 11, 302) := by decide +kernel
theorem d113_7 : decode (cdN 113) 7 = .ok (.invokevirtual 256, 3) := by decide +kernel
theorem c113_256 : ctN (owN 113) 256 = some (0, 22, [1071, 781, 782, 31]) := by decide +kernel
theorem d113_10 : decode (cdN 113) 10 = .ok (.ireturn, 1) := by decide +kernel
theorem d114_0 : decode (cdN 114) 0 = .ok (.aload_n 0, 1) := by decide +kernel
theorem d114_1 : decode (cdN 114) 1 = .ok (.getfield 54, 3) := by decide +kernel
theorem f114_54 : ftN (owN 114) 54 = some (9, 6, 389) := by decide +kernel
theorem d114_4 : decode (cdN 114) 4 = .ok (.getfield 260, 3) := by decide +kernel
theorem f114_260 : ftN (owN 114) 260 = some (5, 5, 289) := by decide +kernel
theorem d114_7 : decode (cdN 114) 7 = .ok (.ireturn, 1) := by decide +kernel
theorem d115_0 : decode (cdN 115) 0 = .ok (.aload_n 0, 1) := by decide +kernel
theorem d115_1 : decode (cdN 115) 1 = .ok (.getfield 61, 3) := by decide +kernel
theorem f115_61 : ftN (owN 115) 61 = some (9, 8, 391) := by decide +kernel
theorem d115_4 : decode (cdN 115) 4 = .ok (.aload_n 0, 1) := by decide +kernel
theorem d115_5 : decode (cdN 115) 5 = .ok (.getfield 54, 3) := by decide +kernel
theorem f115_54 : ftN (owN 115) 54 = some (9, 6, 389) := by decide +kernel
theorem d115_8 : decode (cdN 115) 8 = .ok (.invokevirtual 114, 3) := by decide +kernel
theorem c115_114 : ctN (owN 115) 114 = some (0, 34, [564, 565, 566, 29]) := by decide +kernel
theorem d115_11 : decode (cdN 115) 11 = .ok (.aload_n 0, 1) := by decide +kernel
theorem d115_12 : decode (cdN 115) 12 = .ok (.getfield 61, 3) := by decide +kernel
theorem d115_15 : decode (cdN 115) 15 = .ok (.sipush 432, 3) := by decide +kernel
theorem d115_18 : decode (cdN 115) 18 = .ok (.aload_n 0, 1) := by decide +kernel
theorem d115_19 : decode (cdN 115) 19 = .ok (.getfield 40, 3) := by decide +kernel
theorem f115_40 : ftN (owN 115) 40 = some (9, 4, 387) := by decide +kernel
theorem d115_22 : decode (cdN 115) 22 = .ok (.invokevirtual 263, 3) := by decide +kernel
theorem c115_263 : ctN (owN 115) 263 = some (0, 50, [776, 777, 778, 29]) := by decide +kernel
theorem d115_25 : decode (cdN 115) 25 = .ok (.ireturn, 1) := by decide +kernel
theorem d116_0 : decode (cdN 116) 0 = .ok (.aload_n 0, 1) := by decide +kernel
theorem d116_1 : decode (cdN 116) 1 = .ok (.getfield 61, 3) := by decide +kernel
theorem f116_61 : ftN (owN 116) 61 = some (9, 8, 391) := by decide +kernel
theorem d116_4 : decode (cdN 116) 4 = .ok (.aload_n 0, 1) := by decide +kernel
theorem d116_5 : decode (cdN 116) 5 = .ok (.getfield 54, 3) := by decide +kernel
theorem f116_54 : ftN (owN 116) 54 = some (9, 6, 389) := by decide +kernel
theorem d116_8 : decode (cdN 116) 8 = .ok (.invokevirtual 114, 3) := by decide +kernel
theorem c116_114 : ctN (owN 116) 114 = some (0, 34, [564, 565, 566, 29]) := by decide +kernel
theorem d116_11 : decode (cdN 116) 11 = .ok (.aload_n 0, 1) := by decide +kernel
theorem d116_12 : decode (cdN 116) 12 = .ok (.getfield 61, 3) := by decide +kernel
theorem d116_15 : decode (cdN 116) 15 = .ok (.sipush 432, 3) := by decide +kernel
theorem d116_18 : decode (cdN 116) 18 = .ok (.aload_n 0, 1) := by decide +kernel
theorem d116_19 : decode (cdN 116) 19 = .ok (.getfield 40, 3) := by decide +kernel
theorem f116_40 : ftN (owN 116) 40 = some (9, 4, 387) := by decide +kernel
theorem d116_22 : decode (cdN 116) 22 = .ok (.invokevirtual 263, 3) := by decide +kernel
theorem c116_263 : ctN (owN 116) 263 = some (0, 50, [776, 777, 778, 29]) := by decide +kernel
theorem d116_25 : decode (cdN 116) 25 = .ok (.pop, 1) := by decide +kernel
theorem d116_26 : decode (cdN 116) 26 = .ok (.aload_n 0, 1) := by decide +kernel
theorem d116_27 : decode (cdN 116) 27 = .ok (.getfield 61, 3) := by decide +kernel
theorem d116_30 : decode (cdN 116) 30 = .ok (.getfield 143, 3) := by decide +kernel
theorem f116_143 : ftN (owN 116) 143 = some (5, 4, 287) := by decide +kernel
theorem d116_33 : decode (cdN 116) 33 = .ok (.ireturn, 1) := by decide +kernel
theorem d117_0 : decode (cdN 117) 0 = .ok (.aload_n 0, 1) := by decide +kernel
theorem d117_1 : decode (cdN 117) 1 = .ok (.getfield 54, 3) := by decide +kernel
theorem f117_54 : ftN (owN 117) 54 = some (9, 6, 389) := by decide +kernel
theorem d117_4 : decode (cdN 117) 4 = .ok (.getfield 267, 3) := by decide +kernel
theorem f117_267 : ftN (owN 117) 267 = some (5, 12, 304) := by decide +kernel
theorem d117_7 : decode (cdN 117) 7 = .ok (.getfield 271, 3) := by decide +kernel
theorem f117_271 : ftN (owN 117) 271 = some (1, 0, 235) := by decide +kernel
theorem d117_10 : decode (cdN 117) 10 = .ok (.ireturn, 1) := by decide +kernel
theorem d118_0 : decode (cdN 118) 0 = .ok (.aload_n 0, 1) := by decide +kernel
theorem d118_1 : decode (cdN 118) 1 = .ok (.getfield 54, 3) := by decide +kernel
theorem f118_54 : ftN (owN 118) 54 = some (9, 6, 389) := by decide +kernel
theorem d118_4 : decode (cdN 118) 4 = .ok (.getfield 267, 3) := by decide +kernel
theorem f118_267 : ftN (owN 118) 267 = some (5, 12, 304) := by decide +kernel
theorem d118_7 : decode (cdN 118) 7 = .ok (.getfield 276, 3) := by decide +kernel
theorem f118_276 : ftN (owN 118) 276 = some (1, 1, 238) := by decide +kernel
theorem d118_10 : decode (cdN 118) 10 = .ok (.ireturn, 1) := by decide +kernel
theorem d119_0 : decode (cdN 119) 0 = .ok (.aload_n 0, 1) := by decide +kernel
theorem d119_1 : decode (cdN 119) 1 = .ok (.getfield 54, 3) := by decide +kernel
theorem f119_54 : ftN (owN 119) 54 = some (9, 6, 389) := by decide +kernel
theorem d119_4 : decode (cdN 119) 4 = .ok (.getfield 267, 3) := by decide +kernel
theorem f119_267 : ftN (owN 119) 267 = some (5, 12, 304) := by decide +kernel
theorem d119_7 : decode (cdN 119) 7 = .ok (.getfield 279, 3) := by decide +kernel
theorem f119_279 : ftN (owN 119) 279 = some (1, 2, 241) := by decide +kernel
theorem d119_10 : decode (cdN 119) 10 = .ok (.ireturn, 1) := by decide +kernel
theorem d120_0 : decode (cdN 120) 0 = .ok (.aload_n 0, 1) := by decide +kernel
theorem d120_1 : decode (cdN 120) 1 = .ok (.getfield 54, 3) := by decide +kernel
theorem f120_54 : ftN (owN 120) 54 = some (9, 6, 389) := by decide +kernel
theorem d120_4 : decode (cdN 120) 4 = .ok (.getfield 267, 3) := by decide +kernel
theorem f120_267 : ftN (owN 120) 267 = some (5, 12, 304) := by decide +kernel
theorem d120_7 : decode (cdN 120) 7 = .ok (.getfield 282, 3) := by decide +kernel
theorem f120_282 : ftN (owN 120) 282 = some (1, 4, 247) := by decide +kernel
theorem d120_10 : decode (cdN 120) 10 = .ok (.ireturn, 1) := by decide +kernel
theorem d121_0 : decode (cdN 121) 0 = .ok (.aload_n 0, 1) := by decide +kernel
theorem d121_1 : decode (cdN 121) 1 = .ok (.getfield 54, 3) := by decide +kernel
theorem f121_54 : ftN (owN 121) 54 = some (9, 6, 389) := by decide +kernel
theorem d121_4 : decode (cdN 121) 4 = .ok (.getfield 267, 3) := by decide +kernel
theorem f121_267 : ftN (owN 121) 267 = some (5, 12, 304) := by decide +kernel
theorem d121_7 : decode (cdN 121) 7 = .ok (.getfield 285, 3) := by decide +kernel
theorem f121_285 : ftN (owN 121) 285 = some (1, 7, 256) := by decide +kernel
theorem d121_10 : decode (cdN 121) 10 = .ok (.ireturn, 1) := by decide +kernel
theorem d122_0 : decode (cdN 122) 0 = .ok (.aload_n 0, 1) := by decide +kernel
theorem d122_1 : decode (cdN 122) 1 = .ok (.getfield 54, 3) := by decide +kernel
theorem f122_54 : ftN (owN 122) 54 = some (9, 6, 389) := by decide +kernel
theorem d122_4 : decode (cdN 122) 4 = .ok (.getfield 267, 3) := by decide +kernel
theorem f122_267 : ftN (owN 122) 267 = some (5, 12, 304) := by decide +kernel
theorem d122_7 : decode (cdN 122) 7 = .ok (.getfield 288, 3) := by decide +kernel
theorem f122_288 : ftN (owN 122) 288 = some (1, 5, 250) := by decide +kernel
theorem d122_10 : decode (cdN 122) 10 = .ok (.ireturn, 1) := by decide +kernel
theorem d123_0 : decode (cdN 123) 0 = .ok (.aload_n 0, 1) := by decide +kernel
theorem d123_1 : decode (cdN 123) 1 = .ok (.getfield 54, 3) := by decide +kernel
theorem f123_54 : ftN (owN 123) 54 = some (9, 6, 389) := by decide +kernel
theorem d123_4 : decode (cdN 123) 4 = .ok (.getfield 267, 3) := by decide +kernel
theorem f123_267 : ftN (owN 123) 267 = some (5, 12, 304) := by decide +kernel
theorem d123_7 : decode (cdN 123) 7 = .ok (.astore_n 1, 1) := by decide +kernel
theorem d123_8 : decode (cdN 123) 8 = .ok (.aload_n 1, 1) := by decide +kernel
theorem d123_9 : decode (cdN 123) 9 = .ok (.getfield 276, 3) := by decide +kernel
theorem f123_276 : ftN (owN 123) 276 = some (1, 1, 238) := by decide +kernel
theorem d123_12 : decode (cdN 123) 12 = .ok (.aload_n 1, 1) := by decide +kernel
theorem d123_13 : decode (cdN 123) 13 = .ok (.getfield 279, 3) := by decide +kernel
theorem f123_279 : ftN (owN 123) 279 = some (1, 2, 241) := by decide +kernel
theorem d123_16 : decode (cdN 123) 16 = .ok (.iadd, 1) := by decide +kernel
theorem d123_17 : decode (cdN 123) 17 = .ok (.aload_n 1, 1) := by decide +kernel
theorem d123_18 : decode (cdN 123) 18 = .ok (.getfield 289, 3) := by decide +kernel
theorem f123_289 : ftN (owN 123) 289 = some (1, 3, 244) := by decide +kernel
theorem d123_21 : decode (cdN 123) 21 = .ok (.iadd, 1) := by decide +kernel
theorem d123_22 : decode (cdN 123) 22 = .ok (.istore_n 2, 1) := by decide +kernel
theorem d123_23 : decode (cdN 123) 23 = .ok (.aload_n 1, 1) := by decide +kernel
theorem d123_24 : decode (cdN 123) 24 = .ok (.getfield 271, 3) := by decide +kernel
theorem f123_271 : ftN (owN 123) 271 = some (1, 0, 235) := by decide +kernel
theorem d123_27 : decode (cdN 123) 27 = .ok (.iload_n 2, 1) := by decide +kernel
theorem d123_28 : decode (cdN 123) 28 = .ok (.isub, 1) := by decide +kernel
theorem d123_29 : decode (cdN 123) 29 = .ok (.invokestatic 291, 3) := by decide +kernel
theorem c123_291 : ctN (owN 123) 291 = some (7, 0, [1088, 611, 17, 612]) := by decide +kernel
theorem d123_32 : decode (cdN 123) 32 = .ok (.aload_n 1, 1) := by decide +kernel
theorem d123_33 : decode (cdN 123) 33 = .ok (.getfield 271, 3) := by decide +kernel
theorem d123_36 : decode (cdN 123) 36 = .ok (.aload_n 0, 1) := by decide +kernel
theorem d123_37 : decode (cdN 123) 37 = .ok (.getfield 54, 3) := by decide +kernel
theorem d123_40 : decode (cdN 123) 40 = .ok (.getfield 180, 3) := by decide +kernel
theorem f123_180 : ftN (owN 123) 180 = some (5, 11, 302) := by decide +kernel
theorem d123_43 : decode (cdN 123) 43 = .ok (.invokevirtual 296, 3) := by decide +kernel
theorem c123_296 : ctN (owN 123) 296 = some (0, 25, [1089, 1090, 1091, 31]) := by decide +kernel
theorem d123_46 : decode (cdN 123) 46 = .ok (.isub, 1) := by decide +kernel
theorem d123_47 : decode (cdN 123) 47 = .ok (.invokestatic 291, 3) := by decide +kernel
theorem d123_50 : decode (cdN 123) 50 = .ok (.iadd, 1) := by decide +kernel
theorem d123_51 : decode (cdN 123) 51 = .ok (.aload_n 0, 1) := by decide +kernel
theorem d123_52 : decode (cdN 123) 52 = .ok (.getfield 54, 3) := by decide +kernel
theorem d123_55 : decode (cdN 123) 55 = .ok (.getfield 180, 3) := by decide +kernel
theorem d123_58 : decode (cdN 123) 58 = .ok (.invokevirtual 299, 3) := by decide +kernel
theorem c123_299 : ctN (owN 123) 299 = some (0, 26, [1093, 1094, 1095, 31]) := by decide +kernel
theorem d123_61 : decode (cdN 123) 61 = .ok (.iadd, 1) := by decide +kernel
theorem d123_62 : decode (cdN 123) 62 = .ok (.ireturn, 1) := by decide +kernel
theorem d124_0 : decode (cdN 124) 0 = .ok (.aload_n 0, 1) := by decide +kernel
theorem d124_1 : decode (cdN 124) 1 = .ok (.getfield 54, 3) := by decide +kernel
theorem f124_54 : ftN (owN 124) 54 = some (9, 6, 389) := by decide +kernel
theorem d124_4 : decode (cdN 124) 4 = .ok (.getfield 267, 3) := by decide +kernel
theorem f124_267 : ftN (owN 124) 267 = some (5, 12, 304) := by decide +kernel
theorem d124_7 : decode (cdN 124) 7 = .ok (.astore_n 1, 1) := by decide +kernel
theorem d124_8 : decode (cdN 124) 8 = .ok (.aload_n 0, 1) := by decide +kernel
theorem d124_9 : decode (cdN 124) 9 = .ok (.getfield 54, 3) := by decide +kernel
theorem d124_12 : decode (cdN 124) 12 = .ok (.getfield 143, 3) := by decide +kernel
theorem f124_143 : ftN (owN 124) 143 = some (5, 4, 287) := by decide +kernel
theorem d124_15 : decode (cdN 124) 15 = .ok (.aload_n 1, 1) := by decide +kernel
theorem d124_16 : decode (cdN 124) 16 = .ok (.getfield 302, 3) := by decide +kernel
theorem f124_302 : ftN (owN 124) 302 = some (1, 6, 253) := by decide +kernel
theorem d124_19 : decode (cdN 124) 19 = .ok (.isub, 1) := by decide +kernel
theorem d124_20 : decode (cdN 124) 20 = .ok (.aload_n 1, 1) := by decide +kernel
theorem d124_21 : decode (cdN 124) 21 = .ok (.getfield 285, 3) := by decide +kernel
theorem f124_285 : ftN (owN 124) 285 = some (1, 7, 256) := by decide +kernel
theorem d124_24 : decode (cdN 124) 24 = .ok (.isub, 1) := by decide +kernel
theorem d124_25 : decode (cdN 124) 25 = .ok (.aload_n 1, 1) := by decide +kernel
theorem d124_26 : decode (cdN 124) 26 = .ok (.getfield 305, 3) := by decide +kernel
theorem f124_305 : ftN (owN 124) 305 = some (1, 8, 259) := by decide +kernel
theorem d124_29 : decode (cdN 124) 29 = .ok (.isub, 1) := by decide +kernel
theorem d124_30 : decode (cdN 124) 30 = .ok (.ireturn, 1) := by decide +kernel
theorem d125_0 : decode (cdN 125) 0 = .ok (.aload_n 0, 1) := by decide +kernel
theorem d125_1 : decode (cdN 125) 1 = .ok (.getfield 54, 3) := by decide +kernel
theorem f125_54 : ftN (owN 125) 54 = some (9, 6, 389) := by decide +kernel
theorem d125_4 : decode (cdN 125) 4 = .ok (.getfield 267, 3) := by decide +kernel
theorem f125_267 : ftN (owN 125) 267 = some (5, 12, 304) := by decide +kernel
theorem d125_7 : decode (cdN 125) 7 = .ok (.astore_n 1, 1) := by decide +kernel
theorem d125_8 : decode (cdN 125) 8 = .ok (.aload_n 1, 1) := by decide +kernel
theorem d125_9 : decode (cdN 125) 9 = .ok (.getfield 271, 3) := by decide +kernel
theorem f125_271 : ftN (owN 125) 271 = some (1, 0, 235) := by decide +kernel
theorem d125_12 : decode (cdN 125) 12 = .ok (.ifCond .ne 5, 3) := by decide +kernel
theorem d125_15 : decode (cdN 125) 15 = .ok (.fconst 0, 1) := by decide +kernel
theorem d125_16 : decode (cdN 125) 16 = .ok (.freturn, 1) := by decide +kernel
theorem d125_17 : decode (cdN 125) 17 = .ok (.aload_n 1, 1) := by decide +kernel
theorem d125_18 : decode (cdN 125) 18 = .ok (.getfield 276, 3) := by decide +kernel
theorem f125_276 : ftN (owN 125) 276 = some (1, 1, 238) := by decide +kernel
theorem d125_21 : decode (cdN 125) 21 = .ok (.aload_n 1, 1) := by decide +kernel
theorem d125_22 : decode (cdN 125) 22 = .ok (.getfield 282, 3) := by decide +kernel
theorem f125_282 : ftN (owN 125) 282 = some (1, 4, 247) := by decide +kernel
theorem d125_25 : decode (cdN 125) 25 = .ok (.iadd, 1) := by decide +kernel
theorem d125_26 : decode (cdN 125) 26 = .ok (.i2f, 1) := by decide +kernel
theorem d125_27 : decode (cdN 125) 27 = .ok (.aload_n 1, 1) := by decide +kernel
theorem d125_28 : decode (cdN 125) 28 = .ok (.getfield 271, 3) := by decide +kernel
theorem d125_31 : decode (cdN 125) 31 = .ok (.i2f, 1) := by decide +kernel
theorem d125_32 : decode (cdN 125) 32 = .ok (.fdiv, 1) := by decide +kernel
theorem d125_33 : decode (cdN 125) 33 = .ok (.freturn, 1) := by decide +kernel
theorem d126_0 : decode (cdN 126) 0 = .ok (.aload_n 0, 1) := by decide +kernel
theorem d126_1 : decode (cdN 126) 1 = .ok (.getfield 54, 3) := by decide +kernel
theorem f126_54 : ftN (owN 126) 54 = some (9, 6, 389) := by decide +kernel
theorem d126_4 : decode (cdN 126) 4 = .ok (.getfield 143, 3) := by decide +kernel
theorem f126_143 : ftN (owN 126) 143 = some (5, 4, 287) := by decide +kernel
theorem d126_7 : decode (cdN 126) 7 = .ok (.ifCond .ne 5, 3) := by decide +kernel
theorem d126_10 : decode (cdN 126) 10 = .ok (.dconst 0, 1) := by decide +kernel
theorem d126_11 : decode (cdN 126) 11 = .ok (.dreturn, 1) := by decide +kernel
theorem d126_12 : decode (cdN 126) 12 = .ok (.aload_n 0, 1) := by decide +kernel
theorem d126_13 : decode (cdN 126) 13 = .ok (.getfield 54, 3) := by decide +kernel
theorem d126_16 : decode (cdN 126) 16 = .ok (.getfield 180, 3) := by decide +kernel
theorem f126_180 : ftN (owN 126) 180 = some (5, 11, 302) := by decide +kernel
theorem d126_19 : decode (cdN 126) 19 = .ok (.invokevirtual 308, 3) := by decide +kernel
theorem c126_308 : ctN (owN 126) 308 = some (0, 27, [1076, 1077, 1078, 31]) := by decide +kernel
theorem d126_22 : decode (cdN 126) 22 = .ok (.i2d, 1) := by decide +kernel
theorem d126_23 : decode (cdN 126) 23 = .ok (.aload_n 0, 1) := by decide +kernel
theorem d126_24 : decode (cdN 126) 24 = .ok (.getfield 54, 3) := by decide +kernel
theorem d126_27 : decode (cdN 126) 27 = .ok (.getfield 143, 3) := by decide +kernel
theorem d126_30 : decode (cdN 126) 30 = .ok (.i2d, 1) := by decide +kernel
theorem d126_31 : decode (cdN 126) 31 = .ok (.ddiv, 1) := by decide +kernel
theorem d126_32 : decode (cdN 126) 32 = .ok (.dreturn, 1) := by decide +kernel
theorem d127_0 : decode (cdN 127) 0 = .ok (.aload_n 0, 1) := by decide +kernel
theorem d127_1 : decode (cdN 127) 1 = .ok (.getfield 14, 3) := by decide +kernel
theorem f127_14 : ftN (owN 127) 14 = some (9, 0, 383) := by decide +kernel
theorem d127_4 : decode (cdN 127) 4 = .ok (.getfield 85, 3) := by decide +kernel
theorem f127_85 : ftN (owN 127) 85 = some (7, 1, 58) := by decide +kernel
theorem d127_7 : decode (cdN 127) 7 = .ok (.iconst 1, 1) := by decide +kernel
theorem d127_8 : decode (cdN 127) 8 = .ok (.if_icmp .lt 15, 3) := by decide +kernel
theorem d127_11 : decode (cdN 127) 11 = .ok (.aload_n 0, 1) := by decide +kernel
theorem d127_12 : decode (cdN 127) 12 = .ok (.getfield 14, 3) := by decide +kernel
theorem d127_15 : decode (cdN 127) 15 = .ok (.getfield 85, 3) := by decide +kernel
theorem d127_18 : decode (cdN 127) 18 = .ok (.bipush 16, 2) := by decide +kernel
theorem d127_20 : decode (cdN 127) 20 = .ok (.if_icmp .le 14, 3) := by decide +kernel
theorem d127_23 : decode (cdN 127) 23 = .ok (.new 103, 3) := by decide +kernel
theorem d127_26 : decode (cdN 127) 26 = .ok (.dup, 1) := by decide +kernel
theorem d127_27 : decode (cdN 127) 27 = .ok (.ldc_w 311, 3) := by decide +kernel
theorem k127_311 : ksN (owN 127) 311 = some 11 := by decide +kernel
theorem d127_30 : decode (cdN 127) 30 = .ok (.invokespecial 107, 3) := by decide +kernel
theorem d127_33 : decode (cdN 127) 33 = .ok (.athrow, 1) := by decide +kernel
theorem d127_34 : decode (cdN 127) 34 = .ok (.aload_n 0, 1) := by decide +kernel
theorem d127_35 : decode (cdN 127) 35 = .ok (.getfield 54, 3) := by decide +kernel
theorem f127_54 : ftN (owN 127) 54 = some (9, 6, 389) := by decide +kernel
theorem d127_38 : decode (cdN 127) 38 = .ok (.invokevirtual 313, 3) := by decide +kernel
theorem c127_313 : ctN (owN 127) 313 = some (0, 39, [757, 366, 367, 29]) := by decide +kernel
theorem d127_41 : decode (cdN 127) 41 = .ok (.ifCond .ne 14, 3) := by decide +kernel
theorem d127_44 : decode (cdN 127) 44 = .ok (.new 93, 3) := by decide +kernel
theorem d127_47 : decode (cdN 127) 47 = .ok (.dup, 1) := by decide +kernel
theorem d127_48 : decode (cdN 127) 48 = .ok (.ldc_w 316, 3) := by decide +kernel
theorem k127_316 : ksN (owN 127) 316 = some 12 := by decide +kernel
theorem d127_51 : decode (cdN 127) 51 = .ok (.invokespecial 97, 3) := by decide +kernel
theorem d127_54 : decode (cdN 127) 54 = .ok (.athrow, 1) := by decide +kernel
theorem d127_55 : decode (cdN 127) 55 = .ok (.aload_n 0, 1) := by decide +kernel
theorem d127_56 : decode (cdN 127) 56 = .ok (.getfield 47, 3) := by decide +kernel
theorem f127_47 : ftN (owN 127) 47 = some (9, 5, 388) := by decide +kernel
theorem d127_59 : decode (cdN 127) 59 = .ok (.aload_n 0, 1) := by decide +kernel
theorem d127_60 : decode (cdN 127) 60 = .ok (.getfield 54, 3) := by decide +kernel
theorem d127_63 : decode (cdN 127) 63 = .ok (.invokevirtual 129, 3) := by decide +kernel
theorem c127_129 : ctN (owN 127) 129 = some (0, 29, [759, 760, 761, 28]) := by decide +kernel
theorem d127_66 : decode (cdN 127) 66 = .ok (.aload_n 0, 1) := by decide +kernel
theorem d127_67 : decode (cdN 127) 67 = .ok (.getfield 54, 3) := by decide +kernel
theorem d127_70 : decode (cdN 127) 70 = .ok (.aload_n 0, 1) := by decide +kernel
theorem d127_71 : decode (cdN 127) 71 = .ok (.getfield 14, 3) := by decide +kernel
theorem d127_74 : decode (cdN 127) 74 = .ok (.getfield 81, 3) := by decide +kernel
theorem f127_81 : ftN (owN 127) 81 = some (7, 0, 57) := by decide +kernel
theorem d127_77 : decode (cdN 127) 77 = .ok (.iconst 0, 1) := by decide +kernel
theorem d127_78 : decode (cdN 127) 78 = .ok (.aload_n 0, 1) := by decide +kernel
theorem d127_79 : decode (cdN 127) 79 = .ok (.getfield 14, 3) := by decide +kernel
theorem d127_82 : decode (cdN 127) 82 = .ok (.getfield 85, 3) := by decide +kernel
theorem d127_85 : decode (cdN 127) 85 = .ok (.invokevirtual 89, 3) := by decide +kernel
theorem c127_89 : ctN (owN 127) 89 = some (0, 40, [361, 362, 363, 29]) := by decide +kernel
theorem d127_88 : decode (cdN 127) 88 = .ok (.istore_n 1, 1) := by decide +kernel
theorem d127_89 : decode (cdN 127) 89 = .ok (.aload_n 0, 1) := by decide +kernel
theorem d127_90 : decode (cdN 127) 90 = .ok (.getfield 14, 3) := by decide +kernel
theorem d127_93 : decode (cdN 127) 93 = .ok (.iconst 0, 1) := by decide +kernel
theorem d127_94 : decode (cdN 127) 94 = .ok (.putfield 85, 3) := by decide +kernel
theorem d127_97 : decode (cdN 127) 97 = .ok (.iload_n 1, 1) := by decide +kernel
theorem d127_98 : decode (cdN 127) 98 = .ok (.ireturn, 1) := by decide +kernel
theorem x127_23 : xtN 127 23 = some (0, 103, 311, 107, true, 11) := by decide +kernel
theorem x127_44 : xtN 127 44 = some (1, 93, 316, 97, true, 12) := by decide +kernel
theorem d128_0 : decode (cdN 128) 0 = .ok (.iload_n 1, 1) := by decide +kernel
theorem d128_1 : decode (cdN 128) 1 = .ok (.iconst 1, 1) := by decide +kernel
theorem d128_2 : decode (cdN 128) 2 = .ok (.if_icmp .lt 9, 3) := by decide +kernel
theorem d128_5 : decode (cdN 128) 5 = .ok (.iload_n 1, 1) := by decide +kernel
theorem d128_6 : decode (cdN 128) 6 = .ok (.bipush 60, 2) := by decide +kernel
theorem d128_8 : decode (cdN 128) 8 = .ok (.if_icmp .le 14, 3) := by decide +kernel
theorem d128_11 : decode (cdN 128) 11 = .ok (.new 103, 3) := by decide +kernel
theorem d128_14 : decode (cdN 128) 14 = .ok (.dup, 1) := by decide +kernel
theorem d128_15 : decode (cdN 128) 15 = .ok (.ldc_w 318, 3) := by decide +kernel
theorem k128_318 : ksN (owN 128) 318 = some 13 := by decide +kernel
theorem d128_18 : decode (cdN 128) 18 = .ok (.invokespecial 107, 3) := by decide +kernel
theorem d128_21 : decode (cdN 128) 21 = .ok (.athrow, 1) := by decide +kernel
theorem d128_22 : decode (cdN 128) 22 = .ok (.aload_n 0, 1) := by decide +kernel
theorem d128_23 : decode (cdN 128) 23 = .ok (.getfield 54, 3) := by decide +kernel
theorem f128_54 : ftN (owN 128) 54 = some (9, 6, 389) := by decide +kernel
theorem d128_26 : decode (cdN 128) 26 = .ok (.invokevirtual 320, 3) := by decide +kernel
theorem c128_320 : ctN (owN 128) 320 = some (0, 49, [770, 771, 772, 29]) := by decide +kernel
theorem d128_29 : decode (cdN 128) 29 = .ok (.ifCond .ne 14, 3) := by decide +kernel
theorem d128_32 : decode (cdN 128) 32 = .ok (.new 93, 3) := by decide +kernel
theorem d128_35 : decode (cdN 128) 35 = .ok (.dup, 1) := by decide +kernel
theorem d128_36 : decode (cdN 128) 36 = .ok (.ldc_w 323, 3) := by decide +kernel
theorem k128_323 : ksN (owN 128) 323 = some 14 := by decide +kernel
theorem d128_39 : decode (cdN 128) 39 = .ok (.invokespecial 97, 3) := by decide +kernel
theorem d128_42 : decode (cdN 128) 42 = .ok (.athrow, 1) := by decide +kernel
theorem d128_43 : decode (cdN 128) 43 = .ok (.aload_n 0, 1) := by decide +kernel
theorem d128_44 : decode (cdN 128) 44 = .ok (.getfield 47, 3) := by decide +kernel
theorem f128_47 : ftN (owN 128) 47 = some (9, 5, 388) := by decide +kernel
theorem d128_47 : decode (cdN 128) 47 = .ok (.aload_n 0, 1) := by decide +kernel
theorem d128_48 : decode (cdN 128) 48 = .ok (.getfield 54, 3) := by decide +kernel
theorem d128_51 : decode (cdN 128) 51 = .ok (.invokevirtual 129, 3) := by decide +kernel
theorem c128_129 : ctN (owN 128) 129 = some (0, 29, [759, 760, 761, 28]) := by decide +kernel
theorem d128_54 : decode (cdN 128) 54 = .ok (.aload_n 0, 1) := by decide +kernel
theorem d128_55 : decode (cdN 128) 55 = .ok (.getfield 54, 3) := by decide +kernel
theorem d128_58 : decode (cdN 128) 58 = .ok (.iload_n 1, 1) := by decide +kernel
theorem d128_59 : decode (cdN 128) 59 = .ok (.aload_n 0, 1) := by decide +kernel
theorem d128_60 : decode (cdN 128) 60 = .ok (.getfield 40, 3) := by decide +kernel
theorem f128_40 : ftN (owN 128) 40 = some (9, 4, 387) := by decide +kernel
theorem d128_63 : decode (cdN 128) 63 = .ok (.invokevirtual 263, 3) := by decide +kernel
theorem c128_263 : ctN (owN 128) 263 = some (0, 50, [776, 777, 778, 29]) := by decide +kernel
theorem d128_66 : decode (cdN 128) 66 = .ok (.ireturn, 1) := by decide +kernel
theorem x128_11 : xtN 128 11 = some (0, 103, 318, 107, true, 13) := by decide +kernel
theorem x128_32 : xtN 128 32 = some (1, 93, 323, 97, true, 14) := by decide +kernel
theorem d129_0 : decode (cdN 129) 0 = .ok (.aload_n 0, 1) := by decide +kernel
theorem d129_1 : decode (cdN 129) 1 = .ok (.iload_n 1, 1) := by decide +kernel
theorem d129_2 : decode (cdN 129) 2 = .ok (.invokevirtual 167, 3) := by decide +kernel
theorem c129_167 : ctN (owN 129) 167 = some (0, 141, [809, 811, 9, 23]) := by decide +kernel
theorem d129_5 : decode (cdN 129) 5 = .ok (.aload_n 0, 1) := by decide +kernel
theorem d129_6 : decode (cdN 129) 6 = .ok (.getfield 54, 3) := by decide +kernel
theorem f129_54 : ftN (owN 129) 54 = some (9, 6, 389) := by decide +kernel
theorem d129_9 : decode (cdN 129) 9 = .ok (.iload_n 1, 1) := by decide +kernel
theorem d129_10 : decode (cdN 129) 10 = .ok (.invokevirtual 325, 3) := by decide +kernel
theorem c129_325 : ctN (owN 129) 325 = some (0, 43, [814, 815, 816, 29]) := by decide +kernel
theorem d129_13 : decode (cdN 129) 13 = .ok (.ifCond .ne 14, 3) := by decide +kernel
theorem d129_16 : decode (cdN 129) 16 = .ok (.new 93, 3) := by decide +kernel
theorem d129_19 : decode (cdN 129) 19 = .ok (.dup, 1) := by decide +kernel
theorem d129_20 : decode (cdN 129) 20 = .ok (.ldc_w 328, 3) := by decide +kernel
theorem k129_328 : ksN (owN 129) 328 = some 15 := by decide +kernel
theorem d129_23 : decode (cdN 129) 23 = .ok (.invokespecial 97, 3) := by decide +kernel
theorem d129_26 : decode (cdN 129) 26 = .ok (.athrow, 1) := by decide +kernel
theorem d129_27 : decode (cdN 129) 27 = .ok (.aload_n 0, 1) := by decide +kernel
theorem d129_28 : decode (cdN 129) 28 = .ok (.getfield 47, 3) := by decide +kernel
theorem f129_47 : ftN (owN 129) 47 = some (9, 5, 388) := by decide +kernel
theorem d129_31 : decode (cdN 129) 31 = .ok (.aload_n 0, 1) := by decide +kernel
theorem d129_32 : decode (cdN 129) 32 = .ok (.getfield 54, 3) := by decide +kernel
theorem d129_35 : decode (cdN 129) 35 = .ok (.invokevirtual 129, 3) := by decide +kernel
theorem c129_129 : ctN (owN 129) 129 = some (0, 29, [759, 760, 761, 28]) := by decide +kernel
theorem d129_38 : decode (cdN 129) 38 = .ok (.aload_n 0, 1) := by decide +kernel
theorem d129_39 : decode (cdN 129) 39 = .ok (.getfield 54, 3) := by decide +kernel
theorem d129_42 : decode (cdN 129) 42 = .ok (.iload_n 1, 1) := by decide +kernel
theorem d129_43 : decode (cdN 129) 43 = .ok (.invokevirtual 330, 3) := by decide +kernel
theorem c129_330 : ctN (owN 129) 330 = some (0, 44, [832, 833, 834, 29]) := by decide +kernel
theorem d129_46 : decode (cdN 129) 46 = .ok (.ireturn, 1) := by decide +kernel
theorem x129_16 : xtN 129 16 = some (1, 93, 328, 97, true, 15) := by decide +kernel
theorem d130_0 : decode (cdN 130) 0 = .ok (.aload_n 0, 1) := by decide +kernel
theorem d130_1 : decode (cdN 130) 1 = .ok (.iload_n 1, 1) := by decide +kernel
theorem d130_2 : decode (cdN 130) 2 = .ok (.invokevirtual 167, 3) := by decide +kernel
theorem c130_167 : ctN (owN 130) 167 = some (0, 141, [809, 811, 9, 23]) := by decide +kernel
theorem d130_5 : decode (cdN 130) 5 = .ok (.aload_n 0, 1) := by decide +kernel
theorem d130_6 : decode (cdN 130) 6 = .ok (.getfield 54, 3) := by decide +kernel
theorem f130_54 : ftN (owN 130) 54 = some (9, 6, 389) := by decide +kernel
theorem d130_9 : decode (cdN 130) 9 = .ok (.iload_n 1, 1) := by decide +kernel
theorem d130_10 : decode (cdN 130) 10 = .ok (.invokevirtual 333, 3) := by decide +kernel
theorem c130_333 : ctN (owN 130) 333 = some (0, 45, [841, 842, 843, 29]) := by decide +kernel
theorem d130_13 : decode (cdN 130) 13 = .ok (.ifCond .ne 14, 3) := by decide +kernel
theorem d130_16 : decode (cdN 130) 16 = .ok (.new 93, 3) := by decide +kernel
theorem d130_19 : decode (cdN 130) 19 = .ok (.dup, 1) := by decide +kernel
theorem d130_20 : decode (cdN 130) 20 = .ok (.ldc_w 336, 3) := by decide +kernel
theorem k130_336 : ksN (owN 130) 336 = some 16 := by decide +kernel
theorem d130_23 : decode (cdN 130) 23 = .ok (.invokespecial 97, 3) := by decide +kernel
theorem d130_26 : decode (cdN 130) 26 = .ok (.athrow, 1) := by decide +kernel
theorem d130_27 : decode (cdN 130) 27 = .ok (.aload_n 0, 1) := by decide +kernel
theorem d130_28 : decode (cdN 130) 28 = .ok (.getfield 47, 3) := by decide +kernel
theorem f130_47 : ftN (owN 130) 47 = some (9, 5, 388) := by decide +kernel
theorem d130_31 : decode (cdN 130) 31 = .ok (.aload_n 0, 1) := by decide +kernel
theorem d130_32 : decode (cdN 130) 32 = .ok (.getfield 54, 3) := by decide +kernel
theorem d130_35 : decode (cdN 130) 35 = .ok (.invokevirtual 129, 3) := by decide +kernel
theorem c130_129 : ctN (owN 130) 129 = some (0, 29, [759, 760, 761, 28]) := by decide +kernel
theorem d130_38 : decode (cdN 130) 38 = .ok (.aload_n 0, 1) := by decide +kernel
theorem d130_39 : decode (cdN 130) 39 = .ok (.getfield 54, 3) := by decide +kernel
theorem d130_42 : decode (cdN 130) 42 = .ok (.iload_n 1, 1) := by decide +kernel
theorem d130_43 : decode (cdN 130) 43 = .ok (.invokevirtual 338, 3) := by decide +kernel
theorem c130_338 : ctN (owN 130) 338 = some (0, 46, [846, 847, 848, 29]) := by decide +kernel
theorem d130_46 : decode (cdN 130) 46 = .ok (.ireturn, 1) := by decide +kernel
theorem x130_16 : xtN 130 16 = some (1, 93, 336, 97, true, 16) := by decide +kernel
theorem d131_0 : decode (cdN 131) 0 = .ok (.iload_n 1, 1) := by decide +kernel
theorem d131_1 : decode (cdN 131) 1 = .ok (.iconst 1, 1) := by decide +kernel
theorem d131_2 : decode (cdN 131) 2 = .ok (.if_icmp .lt 10, 3) := by decide +kernel
theorem d131_5 : decode (cdN 131) 5 = .ok (.iload_n 1, 1) := by decide +kernel
theorem d131_6 : decode (cdN 131) 6 = .ok (.sipush 999, 3) := by decide +kernel
theorem d131_9 : decode (cdN 131) 9 = .ok (.if_icmp .le 14, 3) := by decide +kernel
theorem d131_12 : decode (cdN 131) 12 = .ok (.new 103, 3) := by decide +kernel
theorem d131_15 : decode (cdN 131) 15 = .ok (.dup, 1) := by decide +kernel
theorem d131_16 : decode (cdN 131) 16 = .ok (.ldc_w 341, 3) := by decide +kernel
theorem k131_341 : ksN (owN 131) 341 = some 17 := by decide +kernel
theorem d131_19 : decode (cdN 131) 19 = .ok (.invokespecial 107, 3) := by decide +kernel
theorem d131_22 : decode (cdN 131) 22 = .ok (.athrow, 1) := by decide +kernel
theorem d131_23 : decode (cdN 131) 23 = .ok (.aload_n 0, 1) := by decide +kernel
theorem d131_24 : decode (cdN 131) 24 = .ok (.getfield 54, 3) := by decide +kernel
theorem f131_54 : ftN (owN 131) 54 = some (9, 6, 389) := by decide +kernel
theorem d131_27 : decode (cdN 131) 27 = .ok (.iload_n 1, 1) := by decide +kernel
theorem d131_28 : decode (cdN 131) 28 = .ok (.invokevirtual 343, 3) := by decide +kernel
theorem c131_343 : ctN (owN 131) 343 = some (0, 47, [856, 857, 858, 29]) := by decide +kernel
theorem d131_31 : decode (cdN 131) 31 = .ok (.ifCond .ne 14, 3) := by decide +kernel
theorem d131_34 : decode (cdN 131) 34 = .ok (.new 93, 3) := by decide +kernel
theorem d131_37 : decode (cdN 131) 37 = .ok (.dup, 1) := by decide +kernel
theorem d131_38 : decode (cdN 131) 38 = .ok (.ldc_w 346, 3) := by decide +kernel
theorem k131_346 : ksN (owN 131) 346 = some 18 := by decide +kernel
theorem d131_41 : decode (cdN 131) 41 = .ok (.invokespecial 97, 3) := by decide +kernel
theorem d131_44 : decode (cdN 131) 44 = .ok (.athrow, 1) := by decide +kernel
theorem d131_45 : decode (cdN 131) 45 = .ok (.aload_n 0, 1) := by decide +kernel
theorem d131_46 : decode (cdN 131) 46 = .ok (.getfield 47, 3) := by decide +kernel
theorem f131_47 : ftN (owN 131) 47 = some (9, 5, 388) := by decide +kernel
theorem d131_49 : decode (cdN 131) 49 = .ok (.aload_n 0, 1) := by decide +kernel
theorem d131_50 : decode (cdN 131) 50 = .ok (.getfield 54, 3) := by decide +kernel
theorem d131_53 : decode (cdN 131) 53 = .ok (.invokevirtual 129, 3) := by decide +kernel
theorem c131_129 : ctN (owN 131) 129 = some (0, 29, [759, 760, 761, 28]) := by decide +kernel
theorem d131_56 : decode (cdN 131) 56 = .ok (.aload_n 0, 1) := by decide +kernel
theorem d131_57 : decode (cdN 131) 57 = .ok (.getfield 54, 3) := by decide +kernel
theorem d131_60 : decode (cdN 131) 60 = .ok (.iload_n 1, 1) := by decide +kernel
theorem d131_61 : decode (cdN 131) 61 = .ok (.invokevirtual 348, 3) := by decide +kernel
theorem c131_348 : ctN (owN 131) 348 = some (0, 48, [861, 862, 863, 29]) := by decide +kernel
theorem d131_64 : decode (cdN 131) 64 = .ok (.pop, 1) := by decide +kernel
theorem d131_65 : decode (cdN 131) 65 = .ok (.aload_n 0, 1) := by decide +kernel
theorem d131_66 : decode (cdN 131) 66 = .ok (.getfield 54, 3) := by decide +kernel
theorem d131_69 : decode (cdN 131) 69 = .ok (.getfield 143, 3) := by decide +kernel
theorem f131_143 : ftN (owN 131) 143 = some (5, 4, 287) := by decide +kernel
theorem d131_72 : decode (cdN 131) 72 = .ok (.ireturn, 1) := by decide +kernel
theorem x131_12 : xtN 131 12 = some (0, 103, 341, 107, true, 17) := by decide +kernel
theorem x131_34 : xtN 131 34 = some (1, 93, 346, 97, true, 18) := by decide +kernel
theorem d132_0 : decode (cdN 132) 0 = .ok (.iload_n 1, 1) := by decide +kernel
theorem d132_1 : decode (cdN 132) 1 = .ok (.bipush (-99), 2) := by decide +kernel
theorem d132_3 : decode (cdN 132) 3 = .ok (.if_icmp .lt 9, 3) := by decide +kernel
theorem d132_6 : decode (cdN 132) 6 = .ok (.iload_n 1, 1) := by decide +kernel
theorem d132_7 : decode (cdN 132) 7 = .ok (.bipush 99, 2) := by decide +kernel
theorem d132_9 : decode (cdN 132) 9 = .ok (.if_icmp .le 14, 3) := by decide +kernel
theorem d132_12 : decode (cdN 132) 12 = .ok (.new 103, 3) := by decide +kernel
theorem d132_15 : decode (cdN 132) 15 = .ok (.dup, 1) := by decide +kernel
theorem d132_16 : decode (cdN 132) 16 = .ok (.ldc_w 351, 3) := by decide +kernel
theorem k132_351 : ksN (owN 132) 351 = some 19 := by decide +kernel
theorem d132_19 : decode (cdN 132) 19 = .ok (.invokespecial 107, 3) := by decide +kernel
theorem d132_22 : decode (cdN 132) 22 = .ok (.athrow, 1) := by decide +kernel
theorem d132_23 : decode (cdN 132) 23 = .ok (.aload_n 0, 1) := by decide +kernel
theorem d132_24 : decode (cdN 132) 24 = .ok (.getfield 47, 3) := by decide +kernel
theorem f132_47 : ftN (owN 132) 47 = some (9, 5, 388) := by decide +kernel
theorem d132_27 : decode (cdN 132) 27 = .ok (.aload_n 0, 1) := by decide +kernel
theorem d132_28 : decode (cdN 132) 28 = .ok (.getfield 54, 3) := by decide +kernel
theorem f132_54 : ftN (owN 132) 54 = some (9, 6, 389) := by decide +kernel
theorem d132_31 : decode (cdN 132) 31 = .ok (.invokevirtual 129, 3) := by decide +kernel
theorem c132_129 : ctN (owN 132) 129 = some (0, 29, [759, 760, 761, 28]) := by decide +kernel
theorem d132_34 : decode (cdN 132) 34 = .ok (.aload_n 0, 1) := by decide +kernel
theorem d132_35 : decode (cdN 132) 35 = .ok (.getfield 54, 3) := by decide +kernel
theorem d132_38 : decode (cdN 132) 38 = .ok (.getfield 149, 3) := by decide +kernel
theorem f132_149 : ftN (owN 132) 149 = some (5, 1, 283) := by decide +kernel
theorem d132_41 : decode (cdN 132) 41 = .ok (.istore_n 2, 1) := by decide +kernel
theorem d132_42 : decode (cdN 132) 42 = .ok (.aload_n 0, 1) := by decide +kernel
theorem d132_43 : decode (cdN 132) 43 = .ok (.getfield 54, 3) := by decide +kernel
theorem d132_46 : decode (cdN 132) 46 = .ok (.iload_n 1, 1) := by decide +kernel
theorem d132_47 : decode (cdN 132) 47 = .ok (.putfield 149, 3) := by decide +kernel
theorem d132_50 : decode (cdN 132) 50 = .ok (.iload_n 2, 1) := by decide +kernel
theorem d132_51 : decode (cdN 132) 51 = .ok (.ireturn, 1) := by decide +kernel
theorem x132_12 : xtN 132 12 = some (0, 103, 351, 107, true, 19) := by decide +kernel
theorem d133_0 : decode (cdN 133) 0 = .ok (.iload_n 1, 1) := by decide +kernel
theorem d133_1 : decode (cdN 133) 1 = .ok (.iconst 2, 1) := by decide +kernel
theorem d133_2 : decode (cdN 133) 2 = .ok (.if_icmp .lt 31, 3) := by decide +kernel
theorem d133_5 : decode (cdN 133) 5 = .ok (.iload_n 1, 1) := by decide +kernel
theorem d133_6 : decode (cdN 133) 6 = .ok (.sipush 999, 3) := by decide +kernel
theorem d133_9 : decode (cdN 133) 9 = .ok (.if_icmp .gt 24, 3) := by decide +kernel
theorem d133_12 : decode (cdN 133) 12 = .ok (.iload_n 2, 1) := by decide +kernel
theorem d133_13 : decode (cdN 133) 13 = .ok (.iconst 1, 1) := by decide +kernel
theorem d133_14 : decode (cdN 133) 14 = .ok (.if_icmp .lt 19, 3) := by decide +kernel
theorem d133_17 : decode (cdN 133) 17 = .ok (.iload_n 2, 1) := by decide +kernel
theorem d133_18 : decode (cdN 133) 18 = .ok (.iload_n 1, 1) := by decide +kernel
theorem d133_19 : decode (cdN 133) 19 = .ok (.if_icmp .ge 14, 3) := by decide +kernel
theorem d133_22 : decode (cdN 133) 22 = .ok (.iload_n 3, 1) := by decide +kernel
theorem d133_23 : decode (cdN 133) 23 = .ok (.ifCond .lt 10, 3) := by decide +kernel
theorem d133_26 : decode (cdN 133) 26 = .ok (.iload_n 3, 1) := by decide +kernel
theorem d133_27 : decode (cdN 133) 27 = .ok (.sipush 999, 3) := by decide +kernel
theorem d133_30 : decode (cdN 133) 30 = .ok (.if_icmp .le 14, 3) := by decide +kernel
theorem d133_33 : decode (cdN 133) 33 = .ok (.new 103, 3) := by decide +kernel
theorem d133_36 : decode (cdN 133) 36 = .ok (.dup, 1) := by decide +kernel
theorem d133_37 : decode (cdN 133) 37 = .ok (.ldc_w 353, 3) := by decide +kernel
theorem k133_353 : ksN (owN 133) 353 = some 20 := by decide +kernel
theorem d133_40 : decode (cdN 133) 40 = .ok (.invokespecial 107, 3) := by decide +kernel
theorem d133_43 : decode (cdN 133) 43 = .ok (.athrow, 1) := by decide +kernel
theorem d133_44 : decode (cdN 133) 44 = .ok (.aload_n 0, 1) := by decide +kernel
theorem d133_45 : decode (cdN 133) 45 = .ok (.getfield 54, 3) := by decide +kernel
theorem f133_54 : ftN (owN 133) 54 = some (9, 6, 389) := by decide +kernel
theorem d133_48 : decode (cdN 133) 48 = .ok (.getfield 68, 3) := by decide +kernel
theorem f133_68 : ftN (owN 133) 68 = some (5, 10, 298) := by decide +kernel
theorem d133_51 : decode (cdN 133) 51 = .ok (.getfield 121, 3) := by decide +kernel
theorem f133_121 : ftN (owN 133) 121 = some (2, 0, 174) := by decide +kernel
theorem d133_54 : decode (cdN 133) 54 = .ok (.iconst 3, 1) := by decide +kernel
theorem d133_55 : decode (cdN 133) 55 = .ok (.if_icmp .lt 14, 3) := by decide +kernel
theorem d133_58 : decode (cdN 133) 58 = .ok (.new 93, 3) := by decide +kernel
theorem d133_61 : decode (cdN 133) 61 = .ok (.dup, 1) := by decide +kernel
theorem d133_62 : decode (cdN 133) 62 = .ok (.ldc_w 355, 3) := by decide +kernel
theorem k133_355 : ksN (owN 133) 355 = some 21 := by decide +kernel
theorem d133_65 : decode (cdN 133) 65 = .ok (.invokespecial 97, 3) := by decide +kernel
theorem d133_68 : decode (cdN 133) 68 = .ok (.athrow, 1) := by decide +kernel
theorem d133_69 : decode (cdN 133) 69 = .ok (.aload_n 0, 1) := by decide +kernel
theorem d133_70 : decode (cdN 133) 70 = .ok (.getfield 47, 3) := by decide +kernel
theorem f133_47 : ftN (owN 133) 47 = some (9, 5, 388) := by decide +kernel
theorem d133_73 : decode (cdN 133) 73 = .ok (.aload_n 0, 1) := by decide +kernel
theorem d133_74 : decode (cdN 133) 74 = .ok (.getfield 54, 3) := by decide +kernel
theorem d133_77 : decode (cdN 133) 77 = .ok (.invokevirtual 129, 3) := by decide +kernel
theorem c133_129 : ctN (owN 133) 129 = some (0, 29, [759, 760, 761, 28]) := by decide +kernel
theorem d133_80 : decode (cdN 133) 80 = .ok (.aload_n 0, 1) := by decide +kernel
theorem d133_81 : decode (cdN 133) 81 = .ok (.getfield 54, 3) := by decide +kernel
theorem d133_84 : decode (cdN 133) 84 = .ok (.getfield 68, 3) := by decide +kernel
theorem d133_87 : decode (cdN 133) 87 = .ok (.iload_n 1, 1) := by decide +kernel
theorem d133_88 : decode (cdN 133) 88 = .ok (.iload_n 2, 1) := by decide +kernel
theorem d133_89 : decode (cdN 133) 89 = .ok (.iload_n 3, 1) := by decide +kernel
theorem d133_90 : decode (cdN 133) 90 = .ok (.invokevirtual 72, 3) := by decide +kernel
theorem c133_72 : ctN (owN 133) 72 = some (0, 14, [353, 354, 355, 30]) := by decide +kernel
theorem d133_93 : decode (cdN 133) 93 = .ok (.pop, 1) := by decide +kernel
theorem d133_94 : decode (cdN 133) 94 = .ok (.aload_n 0, 1) := by decide +kernel
theorem d133_95 : decode (cdN 133) 95 = .ok (.getfield 54, 3) := by decide +kernel
theorem d133_98 : decode (cdN 133) 98 = .ok (.getfield 68, 3) := by decide +kernel
theorem d133_101 : decode (cdN 133) 101 = .ok (.getfield 121, 3) := by decide +kernel
theorem d133_104 : decode (cdN 133) 104 = .ok (.iconst 1, 1) := by decide +kernel
theorem d133_105 : decode (cdN 133) 105 = .ok (.isub, 1) := by decide +kernel
theorem d133_106 : decode (cdN 133) 106 = .ok (.ireturn, 1) := by decide +kernel
theorem x133_33 : xtN 133 33 = some (0, 103, 353, 107, true, 20) := by decide +kernel
theorem x133_58 : xtN 133 58 = some (1, 93, 355, 97, true, 21) := by decide +kernel
theorem d134_0 : decode (cdN 134) 0 = .ok (.iload_n 1, 1) := by decide +kernel
theorem d134_1 : decode (cdN 134) 1 = .ok (.ifCond .lt 17, 3) := by decide +kernel
theorem d134_4 : decode (cdN 134) 4 = .ok (.iload_n 1, 1) := by decide +kernel
theorem d134_5 : decode (cdN 134) 5 = .ok (.aload_n 0, 1) := by decide +kernel
theorem d134_6 : decode (cdN 134) 6 = .ok (.getfield 54, 3) := by decide +kernel
theorem f134_54 : ftN (owN 134) 54 = some (9, 6, 389) := by decide +kernel
theorem d134_9 : decode (cdN 134) 9 = .ok (.getfield 68, 3) := by decide +kernel
theorem f134_68 : ftN (owN 134) 68 = some (5, 10, 298) := by decide +kernel
theorem d134_12 : decode (cdN 134) 12 = .ok (.getfield 121, 3) := by decide +kernel
theorem f134_121 : ftN (owN 134) 121 = some (2, 0, 174) := by decide +kernel
theorem d134_15 : decode (cdN 134) 15 = .ok (.if_icmp .lt 14, 3) := by decide +kernel
theorem d134_18 : decode (cdN 134) 18 = .ok (.new 357, 3) := by decide +kernel
theorem d134_21 : decode (cdN 134) 21 = .ok (.dup, 1) := by decide +kernel
theorem d134_22 : decode (cdN 134) 22 = .ok (.ldc_w 359, 3) := by decide +kernel
theorem k134_359 : ksN (owN 134) 359 = some 22 := by decide +kernel
theorem d134_25 : decode (cdN 134) 25 = .ok (.invokespecial 361, 3) := by decide +kernel
theorem d134_28 : decode (cdN 134) 28 = .ok (.athrow, 1) := by decide +kernel
theorem d134_29 : decode (cdN 134) 29 = .ok (.aload_n 0, 1) := by decide +kernel
theorem d134_30 : decode (cdN 134) 30 = .ok (.getfield 47, 3) := by decide +kernel
theorem f134_47 : ftN (owN 134) 47 = some (9, 5, 388) := by decide +kernel
theorem d134_33 : decode (cdN 134) 33 = .ok (.aload_n 0, 1) := by decide +kernel
theorem d134_34 : decode (cdN 134) 34 = .ok (.getfield 54, 3) := by decide +kernel
theorem d134_37 : decode (cdN 134) 37 = .ok (.invokevirtual 129, 3) := by decide +kernel
theorem c134_129 : ctN (owN 134) 129 = some (0, 29, [759, 760, 761, 28]) := by decide +kernel
theorem d134_40 : decode (cdN 134) 40 = .ok (.aload_n 0, 1) := by decide +kernel
theorem d134_41 : decode (cdN 134) 41 = .ok (.getfield 54, 3) := by decide +kernel
theorem d134_44 : decode (cdN 134) 44 = .ok (.getfield 68, 3) := by decide +kernel
theorem d134_47 : decode (cdN 134) 47 = .ok (.iload_n 1, 1) := by decide +kernel
theorem d134_48 : decode (cdN 134) 48 = .ok (.invokevirtual 362, 3) := by decide +kernel
theorem c134_362 : ctN (owN 134) 362 = some (0, 15, [882, 883, 884, 30]) := by decide +kernel
theorem d134_51 : decode (cdN 134) 51 = .ok (.pop, 1) := by decide +kernel
theorem d134_52 : decode (cdN 134) 52 = .ok (.aload_n 0, 1) := by decide +kernel
theorem d134_53 : decode (cdN 134) 53 = .ok (.getfield 54, 3) := by decide +kernel
theorem d134_56 : decode (cdN 134) 56 = .ok (.getfield 68, 3) := by decide +kernel
theorem d134_59 : decode (cdN 134) 59 = .ok (.getfield 121, 3) := by decide +kernel
theorem d134_62 : decode (cdN 134) 62 = .ok (.ireturn, 1) := by decide +kernel
theorem x134_18 : xtN 134 18 = some (2, 357, 359, 361, true, 22) := by decide +kernel
theorem d135_0 : decode (cdN 135) 0 = .ok (.aload_n 0, 1) := by decide +kernel
theorem d135_1 : decode (cdN 135) 1 = .ok (.getfield 47, 3) := by decide +kernel
theorem f135_47 : ftN (owN 135) 47 = some (9, 5, 388) := by decide +kernel
theorem d135_4 : decode (cdN 135) 4 = .ok (.getfield 365, 3) := by decide +kernel
theorem f135_365 : ftN (owN 135) 365 = some (4, 0, 333) := by decide +kernel
theorem d135_7 : decode (cdN 135) 7 = .ok (.ifCond .ne 14, 3) := by decide +kernel
theorem d135_10 : decode (cdN 135) 10 = .ok (.new 93, 3) := by decide +kernel
theorem d135_13 : decode (cdN 135) 13 = .ok (.dup, 1) := by decide +kernel
theorem d135_14 : decode (cdN 135) 14 = .ok (.ldc_w 366, 3) := by decide +kernel
theorem k135_366 : ksN (owN 135) 366 = some 23 := by decide +kernel
theorem d135_17 : decode (cdN 135) 17 = .ok (.invokespecial 97, 3) := by decide +kernel
theorem d135_20 : decode (cdN 135) 20 = .ok (.athrow, 1) := by decide +kernel
theorem d135_21 : decode (cdN 135) 21 = .ok (.aload_n 0, 1) := by decide +kernel
theorem d135_22 : decode (cdN 135) 22 = .ok (.getfield 47, 3) := by decide +kernel
theorem d135_25 : decode (cdN 135) 25 = .ok (.aload_n 0, 1) := by decide +kernel
theorem d135_26 : decode (cdN 135) 26 = .ok (.getfield 54, 3) := by decide +kernel
theorem f135_54 : ftN (owN 135) 54 = some (9, 6, 389) := by decide +kernel
theorem d135_29 : decode (cdN 135) 29 = .ok (.invokevirtual 368, 3) := by decide +kernel
theorem c135_368 : ctN (owN 135) 368 = some (0, 30, [906, 907, 908, 28]) := by decide +kernel
theorem d135_32 : decode (cdN 135) 32 = .ok (.aload_n 0, 1) := by decide +kernel
theorem d135_33 : decode (cdN 135) 33 = .ok (.getfield 47, 3) := by decide +kernel
theorem d135_36 : decode (cdN 135) 36 = .ok (.getfield 365, 3) := by decide +kernel
theorem d135_39 : decode (cdN 135) 39 = .ok (.ireturn, 1) := by decide +kernel
theorem x135_10 : xtN 135 10 = some (1, 93, 366, 97, true, 23) := by decide +kernel
theorem d136_0 : decode (cdN 136) 0 = .ok (.aload_n 0, 1) := by decide +kernel
theorem d136_1 : decode (cdN 136) 1 = .ok (.getfield 58, 3) := by decide +kernel
theorem f136_58 : ftN (owN 136) 58 = some (9, 7, 390) := by decide +kernel
theorem d136_4 : decode (cdN 136) 4 = .ok (.aload_n 0, 1) := by decide +kernel
theorem d136_5 : decode (cdN 136) 5 = .ok (.getfield 54, 3) := by decide +kernel
theorem f136_54 : ftN (owN 136) 54 = some (9, 6, 389) := by decide +kernel
theorem d136_8 : decode (cdN 136) 8 = .ok (.invokevirtual 114, 3) := by decide +kernel
theorem c136_114 : ctN (owN 136) 114 = some (0, 34, [564, 565, 566, 29]) := by decide +kernel
theorem d136_11 : decode (cdN 136) 11 = .ok (.aload_n 0, 1) := by decide +kernel
theorem d136_12 : decode (cdN 136) 12 = .ok (.iconst 1, 1) := by decide +kernel
theorem d136_13 : decode (cdN 136) 13 = .ok (.putfield 371, 3) := by decide +kernel
theorem f136_371 : ftN (owN 136) 371 = some (9, 9, 392) := by decide +kernel
theorem d136_16 : decode (cdN 136) 16 = .ok (.aload_n 0, 1) := by decide +kernel
theorem d136_17 : decode (cdN 136) 17 = .ok (.getfield 54, 3) := by decide +kernel
theorem d136_20 : decode (cdN 136) 20 = .ok (.getfield 143, 3) := by decide +kernel
theorem f136_143 : ftN (owN 136) 143 = some (5, 4, 287) := by decide +kernel
theorem d136_23 : decode (cdN 136) 23 = .ok (.ireturn, 1) := by decide +kernel
theorem d137_0 : decode (cdN 137) 0 = .ok (.aload_n 0, 1) := by decide +kernel
theorem d137_1 : decode (cdN 137) 1 = .ok (.getfield 371, 3) := by decide +kernel
theorem f137_371 : ftN (owN 137) 371 = some (9, 9, 392) := by decide +kernel
theorem d137_4 : decode (cdN 137) 4 = .ok (.ifCond .ne 14, 3) := by decide +kernel
theorem d137_7 : decode (cdN 137) 7 = .ok (.new 93, 3) := by decide +kernel
theorem d137_10 : decode (cdN 137) 10 = .ok (.dup, 1) := by decide +kernel
theorem d137_11 : decode (cdN 137) 11 = .ok (.ldc_w 375, 3) := by decide +kernel
theorem k137_375 : ksN (owN 137) 375 = some 24 := by decide +kernel
theorem d137_14 : decode (cdN 137) 14 = .ok (.invokespecial 97, 3) := by decide +kernel
theorem d137_17 : decode (cdN 137) 17 = .ok (.athrow, 1) := by decide +kernel
theorem d137_18 : decode (cdN 137) 18 = .ok (.aload_n 0, 1) := by decide +kernel
theorem d137_19 : decode (cdN 137) 19 = .ok (.getfield 54, 3) := by decide +kernel
theorem f137_54 : ftN (owN 137) 54 = some (9, 6, 389) := by decide +kernel
theorem d137_22 : decode (cdN 137) 22 = .ok (.aload_n 0, 1) := by decide +kernel
theorem d137_23 : decode (cdN 137) 23 = .ok (.getfield 58, 3) := by decide +kernel
theorem f137_58 : ftN (owN 137) 58 = some (9, 7, 390) := by decide +kernel
theorem d137_26 : decode (cdN 137) 26 = .ok (.invokevirtual 114, 3) := by decide +kernel
theorem c137_114 : ctN (owN 137) 114 = some (0, 34, [564, 565, 566, 29]) := by decide +kernel
theorem d137_29 : decode (cdN 137) 29 = .ok (.aload_n 0, 1) := by decide +kernel
theorem d137_30 : decode (cdN 137) 30 = .ok (.getfield 47, 3) := by decide +kernel
theorem f137_47 : ftN (owN 137) 47 = some (9, 5, 388) := by decide +kernel
theorem d137_33 : decode (cdN 137) 33 = .ok (.invokevirtual 118, 3) := by decide +kernel
theorem c137_118 : ctN (owN 137) 118 = some (0, 31, [602, 603, 604, 28]) := by decide +kernel
theorem d137_36 : decode (cdN 137) 36 = .ok (.aload_n 0, 1) := by decide +kernel
theorem d137_37 : decode (cdN 137) 37 = .ok (.getfield 54, 3) := by decide +kernel
theorem d137_40 : decode (cdN 137) 40 = .ok (.getfield 143, 3) := by decide +kernel
theorem f137_143 : ftN (owN 137) 143 = some (5, 4, 287) := by decide +kernel
theorem d137_43 : decode (cdN 137) 43 = .ok (.ireturn, 1) := by decide +kernel
theorem x137_7 : xtN 137 7 = some (1, 93, 375, 97, true, 24) := by decide +kernel
theorem d140_0 : decode (cdN 140) 0 = .ok (.iload_n 1, 1) := by decide +kernel
theorem d140_1 : decode (cdN 140) 1 = .ok (.ifCond .lt 17, 3) := by decide +kernel
theorem d140_4 : decode (cdN 140) 4 = .ok (.iload_n 1, 1) := by decide +kernel
theorem d140_5 : decode (cdN 140) 5 = .ok (.aload_n 0, 1) := by decide +kernel
theorem d140_6 : decode (cdN 140) 6 = .ok (.getfield 54, 3) := by decide +kernel
theorem f140_54 : ftN (owN 140) 54 = some (9, 6, 389) := by decide +kernel
theorem d140_9 : decode (cdN 140) 9 = .ok (.getfield 180, 3) := by decide +kernel
theorem f140_180 : ftN (owN 140) 180 = some (5, 11, 302) := by decide +kernel
theorem d140_12 : decode (cdN 140) 12 = .ok (.getfield 184, 3) := by decide +kernel
theorem f140_184 : ftN (owN 140) 184 = some (3, 0, 195) := by decide +kernel
theorem d140_15 : decode (cdN 140) 15 = .ok (.if_icmp .lt 14, 3) := by decide +kernel
theorem d140_18 : decode (cdN 140) 18 = .ok (.new 357, 3) := by decide +kernel
theorem d140_21 : decode (cdN 140) 21 = .ok (.dup, 1) := by decide +kernel
theorem d140_22 : decode (cdN 140) 22 = .ok (.ldc_w 383, 3) := by decide +kernel
theorem k140_383 : ksN (owN 140) 383 = some 25 := by decide +kernel
theorem d140_25 : decode (cdN 140) 25 = .ok (.invokespecial 361, 3) := by decide +kernel
theorem d140_28 : decode (cdN 140) 28 = .ok (.athrow, 1) := by decide +kernel
theorem d140_29 : decode (cdN 140) 29 = .ok (.return_, 1) := by decide +kernel
theorem x140_18 : xtN 140 18 = some (2, 357, 383, 361, true, 25) := by decide +kernel
theorem d141_0 : decode (cdN 141) 0 = .ok (.iload_n 1, 1) := by decide +kernel
theorem d141_1 : decode (cdN 141) 1 = .ok (.ifCond .lt 14, 3) := by decide +kernel
theorem d141_4 : decode (cdN 141) 4 = .ok (.iload_n 1, 1) := by decide +kernel
theorem d141_5 : decode (cdN 141) 5 = .ok (.aload_n 0, 1) := by decide +kernel
theorem d141_6 : decode (cdN 141) 6 = .ok (.getfield 54, 3) := by decide +kernel
theorem f141_54 : ftN (owN 141) 54 = some (9, 6, 389) := by decide +kernel
theorem d141_9 : decode (cdN 141) 9 = .ok (.getfield 164, 3) := by decide +kernel
theorem f141_164 : ftN (owN 141) 164 = some (5, 7, 292) := by decide +kernel
theorem d141_12 : decode (cdN 141) 12 = .ok (.if_icmp .lt 14, 3) := by decide +kernel
theorem d141_15 : decode (cdN 141) 15 = .ok (.new 357, 3) := by decide +kernel
theorem d141_18 : decode (cdN 141) 18 = .ok (.dup, 1) := by decide +kernel
theorem d141_19 : decode (cdN 141) 19 = .ok (.ldc_w 385, 3) := by decide +kernel
theorem k141_385 : ksN (owN 141) 385 = some 26 := by decide +kernel
theorem d141_22 : decode (cdN 141) 22 = .ok (.invokespecial 361, 3) := by decide +kernel
theorem d141_25 : decode (cdN 141) 25 = .ok (.athrow, 1) := by decide +kernel
theorem d141_26 : decode (cdN 141) 26 = .ok (.return_, 1) := by decide +kernel
theorem x141_15 : xtN 141 15 = some (2, 357, 385, 361, true, 26) := by decide +kernel
theorem d142_0 : decode (cdN 142) 0 = .ok (.iload_n 0, 1) := by decide +kernel
theorem d142_1 : decode (cdN 142) 1 = .ok (.ifCond .lt 10, 3) := by decide +kernel
theorem d142_4 : decode (cdN 142) 4 = .ok (.iload_n 0, 1) := by decide +kernel
theorem d142_5 : decode (cdN 142) 5 = .ok (.ldc_w 387, 3) := by decide +kernel
theorem k142_387 : kiN (owN 142) 387 = some (999999, 501) := by decide +kernel
theorem d142_8 : decode (cdN 142) 8 = .ok (.if_icmp .le 14, 3) := by decide +kernel
theorem d142_11 : decode (cdN 142) 11 = .ok (.new 103, 3) := by decide +kernel
theorem d142_14 : decode (cdN 142) 14 = .ok (.dup, 1) := by decide +kernel
theorem d142_15 : decode (cdN 142) 15 = .ok (.ldc_w 388, 3) := by decide +kernel
theorem k142_388 : ksN (owN 142) 388 = some 27 := by decide +kernel
theorem d142_18 : decode (cdN 142) 18 = .ok (.invokespecial 107, 3) := by decide +kernel
theorem d142_21 : decode (cdN 142) 21 = .ok (.athrow, 1) := by decide +kernel
theorem d142_22 : decode (cdN 142) 22 = .ok (.return_, 1) := by decide +kernel
theorem x142_11 : xtN 142 11 = some (0, 103, 388, 107, true, 27) := by decide +kernel
