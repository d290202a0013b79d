/-! ===== Sending ===== -/
theorem d56_0 : decode (cdN 56) 0 = .ok (.aload_n 0, 1) := by decide +kernel
theorem d56_1 : decode (cdN 56) 1 = .ok (.aload_n 1, 1) := by decide +kernel
theorem d56_2 : decode (cdN 56) 2 = .ok (.getfield 18, 3) := by decide +kernel
theorem f56_18 : ftN (owN 56) 18 = some (5, 11, 301) := by decide +kernel
theorem d56_5 : decode (cdN 56) 5 = .ok (.iload_n 2, 1) := by decide +kernel
theorem d56_6 : decode (cdN 56) 6 = .ok (.invokevirtual 24, 3) := by decide +kernel
theorem c56_24 : ctN (owN 56) 24 = some (0, 20, [526, 527, 528, 31]) := by decide +kernel
theorem d56_9 : decode (cdN 56) 9 = .ok (.putfield 30, 3) := by decide +kernel
theorem f56_30 : ftN (owN 56) 30 = some (6, 2, 135) := by decide +kernel
theorem d56_12 : decode (cdN 56) 12 = .ok (.aload_n 0, 1) := by decide +kernel
theorem d56_13 : decode (cdN 56) 13 = .ok (.iconst 0, 1) := by decide +kernel
theorem d56_14 : decode (cdN 56) 14 = .ok (.putfield 34, 3) := by decide +kernel
theorem f56_34 : ftN (owN 56) 34 = some (6, 3, 138) := by decide +kernel
theorem d56_17 : decode (cdN 56) 17 = .ok (.aload_n 0, 1) := by decide +kernel
theorem d56_18 : decode (cdN 56) 18 = .ok (.iconst 0, 1) := by decide +kernel
theorem d56_19 : decode (cdN 56) 19 = .ok (.putfield 37, 3) := by decide +kernel
theorem f56_37 : ftN (owN 56) 37 = some (6, 4, 140) := by decide +kernel
theorem d56_22 : decode (cdN 56) 22 = .ok (.iconst 0, 1) := by decide +kernel
theorem d56_23 : decode (cdN 56) 23 = .ok (.istore 5, 2) := by decide +kernel
theorem d56_25 : decode (cdN 56) 25 = .ok (.iconst 0, 1) := by decide +kernel
theorem d56_26 : decode (cdN 56) 26 = .ok (.istore 6, 2) := by decide +kernel
theorem d56_28 : decode (cdN 56) 28 = .ok (.iload 6, 2) := by decide +kernel
theorem d56_30 : decode (cdN 56) 30 = .ok (.aload_n 0, 1) := by decide +kernel
theorem d56_31 : decode (cdN 56) 31 = .ok (.getfield 30, 3) := by decide +kernel
theorem d56_34 : decode (cdN 56) 34 = .ok (.if_icmp .ge 98, 3) := by decide +kernel
theorem d56_37 : decode (cdN 56) 37 = .ok (.iload 6, 2) := by decide +kernel
theorem d56_39 : decode (cdN 56) 39 = .ok (.bipush 48, 2) := by decide +kernel
theorem d56_41 : decode (cdN 56) 41 = .ok (.if_icmp .ge 91, 3) := by decide +kernel
theorem d56_44 : decode (cdN 56) 44 = .ok (.aload_n 0, 1) := by decide +kernel
theorem d56_45 : decode (cdN 56) 45 = .ok (.getfield 9, 3) := by decide +kernel
theorem f56_9 : ftN (owN 56) 9 = some (6, 0, 132) := by decide +kernel
theorem d56_48 : decode (cdN 56) 48 = .ok (.iload 6, 2) := by decide +kernel
theorem d56_50 : decode (cdN 56) 50 = .ok (.aload_n 1, 1) := by decide +kernel
theorem d56_51 : decode (cdN 56) 51 = .ok (.getfield 18, 3) := by decide +kernel
theorem d56_54 : decode (cdN 56) 54 = .ok (.iload_n 2, 1) := by decide +kernel
theorem d56_55 : decode (cdN 56) 55 = .ok (.iload 6, 2) := by decide +kernel
theorem d56_57 : decode (cdN 56) 57 = .ok (.invokevirtual 40, 3) := by decide +kernel
theorem c56_40 : ctN (owN 56) 40 = some (0, 21, [530, 531, 532, 31]) := by decide +kernel
theorem d56_60 : decode (cdN 56) 60 = .ok (.iastore, 1) := by decide +kernel
theorem d56_61 : decode (cdN 56) 61 = .ok (.aload_n 1, 1) := by decide +kernel
theorem d56_62 : decode (cdN 56) 62 = .ok (.getfield 44, 3) := by decide +kernel
theorem f56_44 : ftN (owN 56) 44 = some (5, 10, 299) := by decide +kernel
theorem d56_65 : decode (cdN 56) 65 = .ok (.iload_n 3, 1) := by decide +kernel
theorem d56_66 : decode (cdN 56) 66 = .ok (.iload 6, 2) := by decide +kernel
theorem d56_68 : decode (cdN 56) 68 = .ok (.iload 4, 2) := by decide +kernel
theorem d56_70 : decode (cdN 56) 70 = .ok (.imul, 1) := by decide +kernel
theorem d56_71 : decode (cdN 56) 71 = .ok (.iadd, 1) := by decide +kernel
theorem d56_72 : decode (cdN 56) 72 = .ok (.invokevirtual 48, 3) := by decide +kernel
theorem c56_48 : ctN (owN 56) 48 = some (0, 16, [535, 536, 537, 30]) := by decide +kernel
theorem d56_75 : decode (cdN 56) 75 = .ok (.ifCond .eq 48, 3) := by decide +kernel
theorem d56_78 : decode (cdN 56) 78 = .ok (.aload_n 0, 1) := by decide +kernel
theorem d56_79 : decode (cdN 56) 79 = .ok (.getfield 9, 3) := by decide +kernel
theorem d56_82 : decode (cdN 56) 82 = .ok (.iload 6, 2) := by decide +kernel
theorem d56_84 : decode (cdN 56) 84 = .ok (.iconst 1, 1) := by decide +kernel
theorem d56_85 : decode (cdN 56) 85 = .ok (.aload_n 0, 1) := by decide +kernel
theorem d56_86 : decode (cdN 56) 86 = .ok (.getfield 9, 3) := by decide +kernel
theorem d56_89 : decode (cdN 56) 89 = .ok (.iload 6, 2) := by decide +kernel
theorem d56_91 : decode (cdN 56) 91 = .ok (.iaload, 1) := by decide +kernel
theorem d56_92 : decode (cdN 56) 92 = .ok (.isub, 1) := by decide +kernel
theorem d56_93 : decode (cdN 56) 93 = .ok (.iastore, 1) := by decide +kernel
theorem d56_94 : decode (cdN 56) 94 = .ok (.aload_n 0, 1) := by decide +kernel
theorem d56_95 : decode (cdN 56) 95 = .ok (.dup, 1) := by decide +kernel
theorem d56_96 : decode (cdN 56) 96 = .ok (.getfield 34, 3) := by decide +kernel
theorem d56_99 : decode (cdN 56) 99 = .ok (.iconst 1, 1) := by decide +kernel
theorem d56_100 : decode (cdN 56) 100 = .ok (.iadd, 1) := by decide +kernel
theorem d56_101 : decode (cdN 56) 101 = .ok (.putfield 34, 3) := by decide +kernel
theorem d56_104 : decode (cdN 56) 104 = .ok (.iinc 5 1, 3) := by decide +kernel
theorem d56_107 : decode (cdN 56) 107 = .ok (.aload_n 0, 1) := by decide +kernel
theorem d56_108 : decode (cdN 56) 108 = .ok (.aload_n 0, 1) := by decide +kernel
theorem d56_109 : decode (cdN 56) 109 = .ok (.getfield 37, 3) := by decide +kernel
theorem d56_112 : decode (cdN 56) 112 = .ok (.iload 5, 2) := by decide +kernel
theorem d56_114 : decode (cdN 56) 114 = .ok (.invokestatic 54, 3) := by decide +kernel
theorem c56_54 : ctN (owN 56) 54 = some (5, 0, [539, 54, 17, 55]) := by decide +kernel
theorem d56_117 : decode (cdN 56) 117 = .ok (.putfield 37, 3) := by decide +kernel
theorem d56_120 : decode (cdN 56) 120 = .ok (.goto 6, 3) := by decide +kernel
theorem d56_123 : decode (cdN 56) 123 = .ok (.iconst 0, 1) := by decide +kernel
theorem d56_124 : decode (cdN 56) 124 = .ok (.istore 5, 2) := by decide +kernel
theorem d56_126 : decode (cdN 56) 126 = .ok (.iinc 6 1, 3) := by decide +kernel
theorem d56_129 : decode (cdN 56) 129 = .ok (.goto (-101), 3) := by decide +kernel
theorem d56_132 : decode (cdN 56) 132 = .ok (.return_, 1) := by decide +kernel
theorem d57_0 : decode (cdN 57) 0 = .ok (.iload_n 1, 1) := by decide +kernel
theorem d57_1 : decode (cdN 57) 1 = .ok (.iload_n 2, 1) := by decide +kernel
theorem d57_2 : decode (cdN 57) 2 = .ok (.invokestatic 59, 3) := by decide +kernel
theorem c57_59 : ctN (owN 57) 59 = some (3, 145, [549, 23]) := by decide +kernel
theorem d57_5 : decode (cdN 57) 5 = .ok (.istore_n 3, 1) := by decide +kernel
theorem d57_6 : decode (cdN 57) 6 = .ok (.iload_n 3, 1) := by decide +kernel
theorem d57_7 : decode (cdN 57) 7 = .ok (.ifCond .lt 26, 3) := by decide +kernel
theorem d57_10 : decode (cdN 57) 10 = .ok (.iload_n 3, 1) := by decide +kernel
theorem d57_11 : decode (cdN 57) 11 = .ok (.aload_n 0, 1) := by decide +kernel
theorem d57_12 : decode (cdN 57) 12 = .ok (.getfield 30, 3) := by decide +kernel
theorem f57_30 : ftN (owN 57) 30 = some (6, 2, 135) := by decide +kernel
theorem d57_15 : decode (cdN 57) 15 = .ok (.if_icmp .ge 18, 3) := by decide +kernel
theorem d57_18 : decode (cdN 57) 18 = .ok (.iload_n 3, 1) := by decide +kernel
theorem d57_19 : decode (cdN 57) 19 = .ok (.bipush 48, 2) := by decide +kernel
theorem d57_21 : decode (cdN 57) 21 = .ok (.if_icmp .ge 12, 3) := by decide +kernel
theorem d57_24 : decode (cdN 57) 24 = .ok (.aload_n 0, 1) := by decide +kernel
theorem d57_25 : decode (cdN 57) 25 = .ok (.getfield 9, 3) := by decide +kernel
theorem f57_9 : ftN (owN 57) 9 = some (6, 0, 132) := by decide +kernel
theorem d57_28 : decode (cdN 57) 28 = .ok (.iload_n 3, 1) := by decide +kernel
theorem d57_29 : decode (cdN 57) 29 = .ok (.iaload, 1) := by decide +kernel
theorem d57_30 : decode (cdN 57) 30 = .ok (.goto 4, 3) := by decide +kernel
theorem d57_33 : decode (cdN 57) 33 = .ok (.iconst 0, 1) := by decide +kernel
theorem d57_34 : decode (cdN 57) 34 = .ok (.ireturn, 1) := by decide +kernel
theorem d58_0 : decode (cdN 58) 0 = .ok (.iconst 0, 1) := by decide +kernel
theorem d58_1 : decode (cdN 58) 1 = .ok (.istore_n 2, 1) := by decide +kernel
theorem d58_2 : decode (cdN 58) 2 = .ok (.iload_n 2, 1) := by decide +kernel
theorem d58_3 : decode (cdN 58) 3 = .ok (.bipush 6, 2) := by decide +kernel
theorem d58_5 : decode (cdN 58) 5 = .ok (.if_icmp .ge 16, 3) := by decide +kernel
theorem d58_8 : decode (cdN 58) 8 = .ok (.aload_n 0, 1) := by decide +kernel
theorem d58_9 : decode (cdN 58) 9 = .ok (.getfield 15, 3) := by decide +kernel
theorem f58_15 : ftN (owN 58) 15 = some (6, 1, 133) := by decide +kernel
theorem d58_12 : decode (cdN 58) 12 = .ok (.iload_n 2, 1) := by decide +kernel
theorem d58_13 : decode (cdN 58) 13 = .ok (.iconst 0, 1) := by decide +kernel
theorem d58_14 : decode (cdN 58) 14 = .ok (.iastore, 1) := by decide +kernel
theorem d58_15 : decode (cdN 58) 15 = .ok (.iinc 2 1, 3) := by decide +kernel
theorem d58_18 : decode (cdN 58) 18 = .ok (.goto (-16), 3) := by decide +kernel
theorem d58_21 : decode (cdN 58) 21 = .ok (.iconst 0, 1) := by decide +kernel
theorem d58_22 : decode (cdN 58) 22 = .ok (.istore_n 2, 1) := by decide +kernel
theorem d58_23 : decode (cdN 58) 23 = .ok (.iload_n 2, 1) := by decide +kernel
theorem d58_24 : decode (cdN 58) 24 = .ok (.aload_n 0, 1) := by decide +kernel
theorem d58_25 : decode (cdN 58) 25 = .ok (.getfield 30, 3) := by decide +kernel
theorem f58_30 : ftN (owN 58) 30 = some (6, 2, 135) := by decide +kernel
theorem d58_28 : decode (cdN 58) 28 = .ok (.if_icmp .ge 42, 3) := by decide +kernel
theorem d58_31 : decode (cdN 58) 31 = .ok (.iload_n 2, 1) := by decide +kernel
theorem d58_32 : decode (cdN 58) 32 = .ok (.bipush 48, 2) := by decide +kernel
theorem d58_34 : decode (cdN 58) 34 = .ok (.if_icmp .ge 36, 3) := by decide +kernel
theorem d58_37 : decode (cdN 58) 37 = .ok (.aload_n 0, 1) := by decide +kernel
theorem d58_38 : decode (cdN 58) 38 = .ok (.getfield 15, 3) := by decide +kernel
theorem d58_41 : decode (cdN 58) 41 = .ok (.iload_n 2, 1) := by decide +kernel
theorem d58_42 : decode (cdN 58) 42 = .ok (.bipush 8, 2) := by decide +kernel
theorem d58_44 : decode (cdN 58) 44 = .ok (.idiv, 1) := by decide +kernel
theorem d58_45 : decode (cdN 58) 45 = .ok (.aload_n 0, 1) := by decide +kernel
theorem d58_46 : decode (cdN 58) 46 = .ok (.getfield 15, 3) := by decide +kernel
theorem d58_49 : decode (cdN 58) 49 = .ok (.iload_n 2, 1) := by decide +kernel
theorem d58_50 : decode (cdN 58) 50 = .ok (.bipush 8, 2) := by decide +kernel
theorem d58_52 : decode (cdN 58) 52 = .ok (.idiv, 1) := by decide +kernel
theorem d58_53 : decode (cdN 58) 53 = .ok (.iaload, 1) := by decide +kernel
theorem d58_54 : decode (cdN 58) 54 = .ok (.iconst 2, 1) := by decide +kernel
theorem d58_55 : decode (cdN 58) 55 = .ok (.imul, 1) := by decide +kernel
theorem d58_56 : decode (cdN 58) 56 = .ok (.aload_n 0, 1) := by decide +kernel
theorem d58_57 : decode (cdN 58) 57 = .ok (.iload_n 2, 1) := by decide +kernel
theorem d58_58 : decode (cdN 58) 58 = .ok (.iload_n 1, 1) := by decide +kernel
theorem d58_59 : decode (cdN 58) 59 = .ok (.invokevirtual 62, 3) := by decide +kernel
theorem c58_62 : ctN (owN 58) 62 = some (0, 57, [544, 545, 546, 27]) := by decide +kernel
theorem d58_62 : decode (cdN 58) 62 = .ok (.iadd, 1) := by decide +kernel
theorem d58_63 : decode (cdN 58) 63 = .ok (.iastore, 1) := by decide +kernel
theorem d58_64 : decode (cdN 58) 64 = .ok (.iinc 2 1, 3) := by decide +kernel
theorem d58_67 : decode (cdN 58) 67 = .ok (.goto (-44), 3) := by decide +kernel
theorem d58_70 : decode (cdN 58) 70 = .ok (.return_, 1) := by decide +kernel
theorem d59_0 : decode (cdN 59) 0 = .ok (.aload_n 0, 1) := by decide +kernel
theorem d59_1 : decode (cdN 59) 1 = .ok (.aload_n 1, 1) := by decide +kernel
theorem d59_2 : decode (cdN 59) 2 = .ok (.iload_n 2, 1) := by decide +kernel
theorem d59_3 : decode (cdN 59) 3 = .ok (.invokevirtual 24, 3) := by decide +kernel
theorem c59_24 : ctN (owN 59) 24 = some (0, 20, [526, 527, 528, 31]) := by decide +kernel
theorem d59_6 : decode (cdN 59) 6 = .ok (.putfield 30, 3) := by decide +kernel
theorem f59_30 : ftN (owN 59) 30 = some (6, 2, 135) := by decide +kernel
theorem d59_9 : decode (cdN 59) 9 = .ok (.iconst 0, 1) := by decide +kernel
theorem d59_10 : decode (cdN 59) 10 = .ok (.istore 6, 2) := by decide +kernel
theorem d59_12 : decode (cdN 59) 12 = .ok (.iload 6, 2) := by decide +kernel
theorem d59_14 : decode (cdN 59) 14 = .ok (.aload_n 0, 1) := by decide +kernel
theorem d59_15 : decode (cdN 59) 15 = .ok (.getfield 30, 3) := by decide +kernel
theorem d59_18 : decode (cdN 59) 18 = .ok (.if_icmp .ge 69, 3) := by decide +kernel
theorem d59_21 : decode (cdN 59) 21 = .ok (.iload 6, 2) := by decide +kernel
theorem d59_23 : decode (cdN 59) 23 = .ok (.bipush 48, 2) := by decide +kernel
theorem d59_25 : decode (cdN 59) 25 = .ok (.if_icmp .ge 62, 3) := by decide +kernel
theorem d59_28 : decode (cdN 59) 28 = .ok (.iload 5, 2) := by decide +kernel
theorem d59_30 : decode (cdN 59) 30 = .ok (.iload 4, 2) := by decide +kernel
theorem d59_32 : decode (cdN 59) 32 = .ok (.iadd, 1) := by decide +kernel
theorem d59_33 : decode (cdN 59) 33 = .ok (.iconst 1, 1) := by decide +kernel
theorem d59_34 : decode (cdN 59) 34 = .ok (.isub, 1) := by decide +kernel
theorem d59_35 : decode (cdN 59) 35 = .ok (.iload 6, 2) := by decide +kernel
theorem d59_37 : decode (cdN 59) 37 = .ok (.isub, 1) := by decide +kernel
theorem d59_38 : decode (cdN 59) 38 = .ok (.istore 7, 2) := by decide +kernel
theorem d59_40 : decode (cdN 59) 40 = .ok (.iload 7, 2) := by decide +kernel
theorem d59_42 : decode (cdN 59) 42 = .ok (.ifCond .lt 19, 3) := by decide +kernel
theorem d59_45 : decode (cdN 59) 45 = .ok (.iload 7, 2) := by decide +kernel
theorem d59_47 : decode (cdN 59) 47 = .ok (.iload 4, 2) := by decide +kernel
theorem d59_49 : decode (cdN 59) 49 = .ok (.if_icmp .ge 12, 3) := by decide +kernel
theorem d59_52 : decode (cdN 59) 52 = .ok (.iload_n 3, 1) := by decide +kernel
theorem d59_53 : decode (cdN 59) 53 = .ok (.iload 7, 2) := by decide +kernel
theorem d59_55 : decode (cdN 59) 55 = .ok (.ishr, 1) := by decide +kernel
theorem d59_56 : decode (cdN 59) 56 = .ok (.iconst 1, 1) := by decide +kernel
theorem d59_57 : decode (cdN 59) 57 = .ok (.iand, 1) := by decide +kernel
theorem d59_58 : decode (cdN 59) 58 = .ok (.goto 4, 3) := by decide +kernel
theorem d59_61 : decode (cdN 59) 61 = .ok (.iconst 0, 1) := by decide +kernel
theorem d59_62 : decode (cdN 59) 62 = .ok (.istore 8, 2) := by decide +kernel
theorem d59_64 : decode (cdN 59) 64 = .ok (.aload_n 0, 1) := by decide +kernel
theorem d59_65 : decode (cdN 59) 65 = .ok (.getfield 9, 3) := by decide +kernel
theorem f59_9 : ftN (owN 59) 9 = some (6, 0, 132) := by decide +kernel
theorem d59_68 : decode (cdN 59) 68 = .ok (.iload 6, 2) := by decide +kernel
theorem d59_70 : decode (cdN 59) 70 = .ok (.aload_n 1, 1) := by decide +kernel
theorem d59_71 : decode (cdN 59) 71 = .ok (.iload_n 2, 1) := by decide +kernel
theorem d59_72 : decode (cdN 59) 72 = .ok (.iload 6, 2) := by decide +kernel
theorem d59_74 : decode (cdN 59) 74 = .ok (.invokevirtual 40, 3) := by decide +kernel
theorem c59_40 : ctN (owN 59) 40 = some (0, 21, [530, 531, 532, 31]) := by decide +kernel
theorem d59_77 : decode (cdN 59) 77 = .ok (.iload 8, 2) := by decide +kernel
theorem d59_79 : decode (cdN 59) 79 = .ok (.ixor, 1) := by decide +kernel
theorem d59_80 : decode (cdN 59) 80 = .ok (.iastore, 1) := by decide +kernel
theorem d59_81 : decode (cdN 59) 81 = .ok (.iinc 6 1, 3) := by decide +kernel
theorem d59_84 : decode (cdN 59) 84 = .ok (.goto (-72), 3) := by decide +kernel
theorem d59_87 : decode (cdN 59) 87 = .ok (.aload_n 0, 1) := by decide +kernel
theorem d59_88 : decode (cdN 59) 88 = .ok (.iconst 0, 1) := by decide +kernel
theorem d59_89 : decode (cdN 59) 89 = .ok (.invokevirtual 65, 3) := by decide +kernel
theorem c59_65 : ctN (owN 59) 65 = some (0, 58, [540, 542, 2, 27]) := by decide +kernel
theorem d59_92 : decode (cdN 59) 92 = .ok (.return_, 1) := by decide +kernel
theorem d60_0 : decode (cdN 60) 0 = .ok (.aload_n 0, 1) := by decide +kernel
theorem d60_1 : decode (cdN 60) 1 = .ok (.getfield 30, 3) := by decide +kernel
theorem f60_30 : ftN (owN 60) 30 = some (6, 2, 135) := by decide +kernel
theorem d60_4 : decode (cdN 60) 4 = .ok (.bipush 8, 2) := by decide +kernel
theorem d60_6 : decode (cdN 60) 6 = .ok (.idiv, 1) := by decide +kernel
theorem d60_7 : decode (cdN 60) 7 = .ok (.iconst 1, 1) := by decide +kernel
theorem d60_8 : decode (cdN 60) 8 = .ok (.isub, 1) := by decide +kernel
theorem d60_9 : decode (cdN 60) 9 = .ok (.istore_n 1, 1) := by decide +kernel
theorem d60_10 : decode (cdN 60) 10 = .ok (.iload_n 1, 1) := by decide +kernel
theorem d60_11 : decode (cdN 60) 11 = .ok (.ifCond .lt 46, 3) := by decide +kernel
theorem d60_14 : decode (cdN 60) 14 = .ok (.iload_n 1, 1) := by decide +kernel
theorem d60_15 : decode (cdN 60) 15 = .ok (.bipush 6, 2) := by decide +kernel
theorem d60_17 : decode (cdN 60) 17 = .ok (.if_icmp .ge 40, 3) := by decide +kernel
theorem d60_20 : decode (cdN 60) 20 = .ok (.aload_n 0, 1) := by decide +kernel
theorem d60_21 : decode (cdN 60) 21 = .ok (.getfield 15, 3) := by decide +kernel
theorem f60_15 : ftN (owN 60) 15 = some (6, 1, 133) := by decide +kernel
theorem d60_24 : decode (cdN 60) 24 = .ok (.iload_n 1, 1) := by decide +kernel
theorem d60_25 : decode (cdN 60) 25 = .ok (.iaload, 1) := by decide +kernel
theorem d60_26 : decode (cdN 60) 26 = .ok (.aload_n 0, 1) := by decide +kernel
theorem d60_27 : decode (cdN 60) 27 = .ok (.getfield 15, 3) := by decide +kernel
theorem d60_30 : decode (cdN 60) 30 = .ok (.iconst 0, 1) := by decide +kernel
theorem d60_31 : decode (cdN 60) 31 = .ok (.iload_n 1, 1) := by decide +kernel
theorem d60_32 : decode (cdN 60) 32 = .ok (.invokestatic 69, 3) := by decide +kernel
theorem c60_69 : ctN (owN 60) 69 = some (3, 143, [380, 23]) := by decide +kernel
theorem d60_35 : decode (cdN 60) 35 = .ok (.if_icmp .ne 22, 3) := by decide +kernel
theorem d60_38 : decode (cdN 60) 38 = .ok (.aload_n 0, 1) := by decide +kernel
theorem d60_39 : decode (cdN 60) 39 = .ok (.getfield 15, 3) := by decide +kernel
theorem d60_42 : decode (cdN 60) 42 = .ok (.iconst 0, 1) := by decide +kernel
theorem d60_43 : decode (cdN 60) 43 = .ok (.iaload, 1) := by decide +kernel
theorem d60_44 : decode (cdN 60) 44 = .ok (.bipush 15, 2) := by decide +kernel
theorem d60_46 : decode (cdN 60) 46 = .ok (.iand, 1) := by decide +kernel
theorem d60_47 : decode (cdN 60) 47 = .ok (.iload_n 1, 1) := by decide +kernel
theorem d60_48 : decode (cdN 60) 48 = .ok (.iconst 1, 1) := by decide +kernel
theorem d60_49 : decode (cdN 60) 49 = .ok (.isub, 1) := by decide +kernel
theorem d60_50 : decode (cdN 60) 50 = .ok (.if_icmp .ne 7, 3) := by decide +kernel
theorem d60_53 : decode (cdN 60) 53 = .ok (.iconst 1, 1) := by decide +kernel
theorem d60_54 : decode (cdN 60) 54 = .ok (.goto 4, 3) := by decide +kernel
theorem d60_57 : decode (cdN 60) 57 = .ok (.iconst 0, 1) := by decide +kernel
theorem d60_58 : decode (cdN 60) 58 = .ok (.ireturn, 1) := by decide +kernel
theorem d61_0 : decode (cdN 61) 0 = .ok (.aload_n 0, 1) := by decide +kernel
theorem d61_1 : decode (cdN 61) 1 = .ok (.aload_n 1, 1) := by decide +kernel
theorem d61_2 : decode (cdN 61) 2 = .ok (.iload_n 2, 1) := by decide +kernel
theorem d61_3 : decode (cdN 61) 3 = .ok (.iload_n 3, 1) := by decide +kernel
theorem d61_4 : decode (cdN 61) 4 = .ok (.iload 4, 2) := by decide +kernel
theorem d61_6 : decode (cdN 61) 6 = .ok (.invokevirtual 73, 3) := by decide +kernel
theorem c61_73 : ctN (owN 61) 73 = some (0, 56, [522, 523, 524, 27]) := by decide +kernel
theorem d61_9 : decode (cdN 61) 9 = .ok (.aload_n 0, 1) := by decide +kernel
theorem d61_10 : decode (cdN 61) 10 = .ok (.aload_n 1, 1) := by decide +kernel
theorem d61_11 : decode (cdN 61) 11 = .ok (.getfield 77, 3) := by decide +kernel
theorem f61_77 : ftN (owN 61) 77 = some (5, 1, 282) := by decide +kernel
theorem d61_14 : decode (cdN 61) 14 = .ok (.invokevirtual 65, 3) := by decide +kernel
theorem c61_65 : ctN (owN 61) 65 = some (0, 58, [540, 542, 2, 27]) := by decide +kernel
theorem d61_17 : decode (cdN 61) 17 = .ok (.aload_n 0, 1) := by decide +kernel
theorem d61_18 : decode (cdN 61) 18 = .ok (.invokevirtual 80, 3) := by decide +kernel
theorem c61_80 : ctN (owN 61) 80 = some (0, 60, [551, 552, 553, 27]) := by decide +kernel
theorem d61_21 : decode (cdN 61) 21 = .ok (.ifCond .ne 5, 3) := by decide +kernel
theorem d61_24 : decode (cdN 61) 24 = .ok (.iconst 1, 1) := by decide +kernel
theorem d61_25 : decode (cdN 61) 25 = .ok (.ireturn, 1) := by decide +kernel
theorem d61_26 : decode (cdN 61) 26 = .ok (.aload_n 0, 1) := by decide +kernel
theorem d61_27 : decode (cdN 61) 27 = .ok (.getfield 30, 3) := by decide +kernel
theorem f61_30 : ftN (owN 61) 30 = some (6, 2, 135) := by decide +kernel
theorem d61_30 : decode (cdN 61) 30 = .ok (.istore 5, 2) := by decide +kernel
theorem d61_32 : decode (cdN 61) 32 = .ok (.iload 5, 2) := by decide +kernel
theorem d61_34 : decode (cdN 61) 34 = .ok (.aload_n 0, 1) := by decide +kernel
theorem d61_35 : decode (cdN 61) 35 = .ok (.getfield 30, 3) := by decide +kernel
theorem d61_38 : decode (cdN 61) 38 = .ok (.bipush 8, 2) := by decide +kernel
theorem d61_40 : decode (cdN 61) 40 = .ok (.iadd, 1) := by decide +kernel
theorem d61_41 : decode (cdN 61) 41 = .ok (.if_icmp .ge 28, 3) := by decide +kernel
theorem d61_44 : decode (cdN 61) 44 = .ok (.aload_n 1, 1) := by decide +kernel
theorem d61_45 : decode (cdN 61) 45 = .ok (.getfield 44, 3) := by decide +kernel
theorem f61_44 : ftN (owN 61) 44 = some (5, 10, 299) := by decide +kernel
theorem d61_48 : decode (cdN 61) 48 = .ok (.iload_n 3, 1) := by decide +kernel
theorem d61_49 : decode (cdN 61) 49 = .ok (.iload 5, 2) := by decide +kernel
theorem d61_51 : decode (cdN 61) 51 = .ok (.iload 4, 2) := by decide +kernel
theorem d61_53 : decode (cdN 61) 53 = .ok (.imul, 1) := by decide +kernel
theorem d61_54 : decode (cdN 61) 54 = .ok (.iadd, 1) := by decide +kernel
theorem d61_55 : decode (cdN 61) 55 = .ok (.invokevirtual 48, 3) := by decide +kernel
theorem c61_48 : ctN (owN 61) 48 = some (0, 16, [535, 536, 537, 30]) := by decide +kernel
theorem d61_58 : decode (cdN 61) 58 = .ok (.ifCond .eq 5, 3) := by decide +kernel
theorem d61_61 : decode (cdN 61) 61 = .ok (.iconst 2, 1) := by decide +kernel
theorem d61_62 : decode (cdN 61) 62 = .ok (.ireturn, 1) := by decide +kernel
theorem d61_63 : decode (cdN 61) 63 = .ok (.iinc 5 1, 3) := by decide +kernel
theorem d61_66 : decode (cdN 61) 66 = .ok (.goto (-34), 3) := by decide +kernel
theorem d61_69 : decode (cdN 61) 69 = .ok (.iconst 0, 1) := by decide +kernel
theorem d61_70 : decode (cdN 61) 70 = .ok (.ireturn, 1) := by decide +kernel
def runN (ch : Int → Bool) : Nat → Int
  | 0 => 0
  | n + 1 => if ch n then runN ch n + 1 else 0
def bstN (ch : Int → Bool) : Nat → Int
  | 0 => 0
  | n + 1 => if ch n then max (bstN ch n) (runN ch n + 1) else bstN ch n
theorem runN_r (ch : Int → Bool) : ∀ n : Nat, 0 ≤ runN ch n ∧ runN ch n ≤ n
  | 0 => ⟨Int.le_refl 0, Int.le_refl 0⟩
  | n + 1 => by
    have := runN_r ch n
    unfold runN
    split <;> omega
theorem bstN_r (ch : Int → Bool) : ∀ n : Nat, 0 ≤ bstN ch n ∧ bstN ch n ≤ n
  | 0 => ⟨Int.le_refl 0, Int.le_refl 0⟩
  | n + 1 => by
    have := bstN_r ch n
    have := runN_r ch n
    unfold bstN
    split <;> omega
def invN (ch : Int → Bool) (n : Nat) : Int := sumF (fun b => b01 (ch b)) n
theorem invN_r (ch : Int → Bool) : ∀ n : Nat, 0 ≤ invN ch n ∧ invN ch n ≤ n
  | 0 => ⟨Int.le_refl 0, Int.le_refl 0⟩
  | n + 1 => by
    have := invN_r ch n
    have h2 := b01_or (ch n)
    show 0 ≤ invN ch n + b01 (ch n) ∧ invN ch n + b01 (ch n) ≤ ((n + 1 : Nat) : Int)
    omega
/-- J is I but for the cable -/
def offC (I J : Nat → Int → Int) : Prop := ∀ a, a ≠ 11 → a ≠ 12 → a ≠ 13 → J a = I a
theorem offC.rf {I : Nat → Int → Int} : offC I I := fun _ _ _ _ => rfl
theorem offC.trans {I J K : Nat → Int → Int} (h : offC I J) (h2 : offC J K) : offC I K := fun a h0 h1 h3 => (h2 a h0 h1 h3).trans (h a h0 h1 h3)
theorem offC.up {I J : Nat → Int → Int} (h : offC I J) {k : Nat} {j z : Int} (hk : k = 11 ∨ k = 12 ∨ k = 13) : offC I (up2 J k j z) := fun a h0 h1 h3 => by
  rw [← h a h0 h1 h3]
  funext b
  exact up2_p (by omega)
theorem DogsOK.off {I J : Nat → Int → Int} {p : Nat} (h : offC I J) (hp : 16 ≤ p) (hD : DogsOK I p) : DogsOK J p := by
  unfold DogsOK
  rw [h (p + 3) (by omega) (by omega) (by omega), h (p + 4) (by omega) (by omega) (by omega), h (p + 5) (by omega) (by omega) (by omega), h (p + 6) (by omega) (by omega) (by omega)]
  exact hD
theorem chew_off {I J : Nat → Int → Int} {p : Nat} (h : offC I J) (hp : 16 ≤ p) (t : Int) : chew J p t = chew I p t := by
  unfold chew
  rw [h (p + 3) (by omega) (by omega) (by omega), h (p + 4) (by omega) (by omega) (by omega), h (p + 5) (by omega) (by omega) (by omega), h (p + 6) (by omega) (by omega) (by omega)]
theorem FramesOK.off {I J : Nat → Int → Int} {p : Nat} (h : offC I J) (hp : 16 ≤ p) (hD : FramesOK I p) : FramesOK J p := by
  unfold FramesOK
  rw [h (p + 7) (by omega) (by omega) (by omega), h (p + 8) (by omega) (by omega) (by omega), h (p + 9) (by omega) (by omega) (by omega), h (p + 10) (by omega) (by omega) (by omega), h (p + 11) (by omega) (by omega) (by omega), h (p + 12) (by omega) (by omega) (by omega), h (p + 13) (by omega) (by omega) (by omega)]
  exact hD
/-- frame f's bytes as sent; what is chewed at a tick with a bit time; the cable -/
def Sf (I : Nat → Int → Int) (p : Nat) (f : Int) : Int → Int := fun k => I (p + 12) (f * 6 + k)
def chF (I : Nat → Int → Int) (p : Nat) (t bt : Int) : Int → Bool := fun b => chew I p (t + b * bt)
def cabF (I : Nat → Int → Int) (p : Nat) (f t bt : Int) : Int → Int := cabZ (Sf I p f) (chF I p t bt)
/-- i bits are on the cable -/
def PutI (I J : Nat → Int → Int) (p : Nat) (f t bt : Int) (n : Int) (i : Nat) : Prop := offC I J ∧ J 11 2 = n ∧ J 11 3 = invN (chF I p t bt) i ∧ J 11 4 = bstN (chF I p t bt) i ∧ ∀ b : Int, 0 ≤ b → b < i → J 12 b = cabF I p f t bt b
theorem put_f {I J : Nat → Int → Int} {p : Nat} {f t bt n : Int} {i : Nat} (h : PutI I J p f t bt n i) (hc : chew I p (t + i * bt) = false) : PutI I (up2 J 12 i (bitZ (Sf I p f) i)) p f t bt n (i + 1) := by
  obtain ⟨j0, j1, j2, j3, j4⟩ := h
  have hc2 : chF I p t bt i = false := hc
  refine ⟨j0.up (by decide), by rw [up2_p (by decide)]; exact j1, ?_, ?_, fun b hb hb2 => ?_⟩
  · rw [up2_p (by decide), j2]
    show _ = invN (chF I p t bt) i + b01 (chF I p t bt i)
    rw [hc2, b01_f, Int.add_zero]
  · rw [up2_p (by decide), j3]
    show _ = if chF I p t bt i then _ else _
    rw [hc2]
    rfl
  · by_cases e : b = i
    · subst e
      rw [up2_s]
      unfold cabF cabZ
      rw [hc2]
      rfl
    · rw [up2_i e]
      exact j4 b hb (by omega)
theorem put_t {I J : Nat → Int → Int} {p : Nat} {f t bt n : Int} {i : Nat} (h : PutI I J p f t bt n i) (hc : chew I p (t + i * bt) = true) : PutI I (up2 (up2 (up2 (up2 J 12 i (bitZ (Sf I p f) i)) 12 i (1 - bitZ (Sf I p f) i)) 11 3 (invN (chF I p t bt) i + 1)) 11 4 (max (bstN (chF I p t bt) i) (runN (chF I p t bt) i + 1))) p f t bt n (i + 1) := by
  obtain ⟨j0, j1, j2, j3, j4⟩ := h
  have hc2 : chF I p t bt i = true := hc
  refine ⟨(((j0.up (by decide)).up (by decide)).up (by decide)).up (by decide), ?_, ?_, ?_, fun b hb hb2 => ?_⟩
  · rw [up2_i (by decide), up2_i (by decide), up2_p (by decide), up2_p (by decide)]; exact j1
  · rw [up2_i (by decide), up2_s]
    show _ = invN (chF I p t bt) i + b01 (chF I p t bt i)
    rw [hc2, b01_t]
  · rw [up2_s]
    show _ = if chF I p t bt i then _ else _
    rw [hc2]
    rfl
  · rw [up2_p (by decide), up2_p (by decide)]
    by_cases e : b = i
    · subst e
      rw [up2_s]
      unfold cabF cabZ
      rw [hc2]
      rfl
    · rw [up2_i e, up2_i e]
      exact j4 b hb (by omega)
theorem runN_f {ch : Int → Bool} {i : Nat} (h : ch i = false) : (0 : Int) = runN ch (i + 1) := by
  show 0 = if ch i then _ else _
  rw [h]; rfl
theorem runN_t {ch : Int → Bool} {i : Nat} (h : ch i = true) : runN ch i + 1 = runN ch (i + 1) := by
  show _ = if ch i then _ else _
  rw [h]; rfl
section Send
variable {l : LX} {q p : Nat} {I : Nat → Int → Int} {v : Int} {fr : Bool}
theorem dt_bitJ (hl : l.1.stackTraces = false) (hp : LineAt q p) (hF : FramesOK I p) {J : Nat → Int → Int} (hJ : offC I J) {f b : Int} (h0 : 0 ≤ f) (h1 : f < I (p + 7) 0) (h2 : 0 ≤ b) (h3 : b < I (p + 8) f * 8) : DT l 21 [.ref (p + 7), .int (iI f), .int (iI b)] (mm q J v fr) 0 0 (.inl (some (.int (iI (bitZ (Sf I p f) b)))), mm q J v fr) := by
  have hpb := hp.b
  have := dt_bitOf (fr := fr) (v := v) hl hp (hF.off hJ (by omega)) (f := f) (b := b) h0 (by rw [hJ (p + 7) (by omega) (by omega) (by omega)]; exact h1) h2 (by rw [hJ (p + 8) (by omega) (by omega) (by omega)]; exact h3)
  rw [hJ (p + 12) (by omega) (by omega) (by omega)] at this
  exact this
theorem dt_bitsJ (hl : l.1.stackTraces = false) (hp : LineAt q p) (hF : FramesOK I p) {J : Nat → Int → Int} (hJ : offC I J) {f : Int} (h0 : 0 ≤ f) (h1 : f < I (p + 7) 0) : DT l 20 [.ref (p + 7), .int (iI f)] (mm q J v fr) 0 0 (.inl (some (.int (iI (I (p + 8) f * 8)))), mm q J v fr) := by
  have hpb := hp.b
  have := dt_bitsOf (fr := fr) (v := v) hl hp (hF.off hJ (by omega)) (f := f) h0 (by rw [hJ (p + 7) (by omega) (by omega) (by omega)]; exact h1)
  rw [hJ (p + 8) (by omega) (by omega) (by omega)] at this
  exact this
theorem dt_chewJ (hl : l.1.stackTraces = false) (hp : LineAt q p) (hD : DogsOK I p) {J : Nat → Int → Int} (hJ : offC I J) {t : Int} (ht : 0 ≤ t) (ht2 : t ≤ 100000000) : DT l 16 [.ref (p + 3), .int (iI t)] (mm q J v fr) 0 0 (.inl (some (.int (iI (b01 (chew I p t))))), mm q J v fr) := by
  have hpb := hp.b
  have := dt_chewIn (fr := fr) (v := v) hl hp (hD.off hJ (by omega)) (t := t) ht ht2
  rw [chew_off hJ (by omega)] at this
  exact this
theorem lp_put (hl : l.1.stackTraces = false) (hq : 181 ≤ q) (hp : LineAt q p) (hD : DogsOK I p) (hF : FramesOK I p) {f t bt : Int} (h0 : 0 ≤ f) (h1 : f < I (p + 7) 0) (ht : 0 ≤ t) (ht2 : t ≤ 50000000) (hb1 : 1 ≤ bt) (hb2 : bt ≤ 9) : ∀ (m i : Nat) (J : Nat → Int → Int), I (p + 8) f * 8 - i = m → PutI I J p f t bt (I (p + 8) f * 8) i →
    Ex l 56 0 0 28 [some (.ref 11), some (.ref p), some (.int (iI f)), some (.int (iI t)), some (.int (iI bt)), some (.int (iI (runN (chF I p t bt) i))), some (.int (iI i))] [] (mm q J v fr) (oE q v fr none (fun K => PutI I K p f t bt (I (p + 8) f * 8) (I (p + 8) f * 8).toNat)) := by
  have hpb := hp.b
  have hc := hF.1
  have hf := hF.2.1 f h0 h1
  intro m
  induction m with
  | zero =>
    intro i J h2 hJ
    obtain ⟨j0, j1, j2, j3, j4⟩ := id hJ
    refine x_iload (pc := 28) rfl d56_28 ?_
    refine x_aload_n (pc := 30) rfl d56_30 ?_
    refine m_getI (pc := 31) (z := 2) f56_30 (by decide +kernel) rfl (ko11 (by omega)) d56_31 ?_
    refine x_val (pc := 34) (w := (I (p + 8) f * 8)) (j1) ?_
    refine x_icmp_ge (pc := 34) (tgt := 132) ⟨by omega, by omega⟩ ⟨by omega, by omega⟩ d56_34 (by decide) (fun g34 => ?_) (fun g34 => ?_)
    · refine x_vret (pc := 132) rfl (fun _ => rfl) d56_132 ?_
      exact ⟨J, rfl, by rw [show (I (p + 8) f * 8).toNat = i from by omega]; exact hJ⟩
    · refine x_iload (pc := 37) rfl d56_37 ?_
      refine x_bipush (pc := 39) (by decide) d56_39 ?_
      refine x_icmp_ge (pc := 41) (tgt := 132) ⟨by omega, by omega⟩ ⟨by omega, by omega⟩ d56_41 (by decide) (fun g41 => ?_) (fun g41 => ?_)
      · refine x_vret (pc := 132) rfl (fun _ => rfl) d56_132 ?_
        first | rfl | (exfalso; omega)
      · refine x_aload_n (pc := 44) rfl d56_44 ?_
        refine m_getR (pc := 45) f56_9 (by decide +kernel) (ko11 (by omega)) rr11_0 d56_45 ?_
        refine x_iload (pc := 48) rfl d56_48 ?_
        refine x_aload_n (pc := 50) rfl d56_50 ?_
        refine m_getR (pc := 51) f56_18 (by decide +kernel) hp.o0 hp.r0_11 d56_51 ?_
        refine x_iload_n (pc := 54) rfl d56_54 ?_
        refine x_iload (pc := 55) rfl d56_55 ?_
        refine x_cVs (pc := 57) c56_40 (dt_bitJ hl hp hF j0 (f := f) (b := i) (by omega) (by omega) (by omega) (by omega)) hp.o7 rfl rfl (Nat.le_of_ble_eq_true rfl) (by decide +kernel) (by decide +kernel) rfl d56_57 ?_
        refine m_iast (pc := 60) (ka12 (by omega)) (by omega) (by omega) (by omega) d56_60 ?_
        refine x_aload_n (pc := 61) rfl d56_61 ?_
        refine m_getR (pc := 62) f56_44 (by decide +kernel) hp.o0 hp.r0_10 d56_62 ?_
        refine x_iload_n (pc := 65) rfl d56_65 ?_
        refine x_iload (pc := 66) rfl d56_66 ?_
        refine x_iload (pc := 68) rfl d56_68 ?_
        refine x_imul (pc := 70) d56_70 ?_
        refine x_iadd (pc := 71) d56_71 ?_
        refine x_cVs (pc := 72) c56_48 (dt_chewJ hl hp hD (j0.up (by decide)) (t := (t + (i * bt))) (by omega) (by omega)) hp.o3 rfl rfl (Nat.le_of_ble_eq_true rfl) (by decide +kernel) (by decide +kernel) rfl d56_72 ?_
        refine x_ifB_eq (pc := 75) (tgt := 123) d56_75 (by decide) (fun g75 => ?_) (fun g75 => ?_)
        · refine x_iconst (pc := 123) d56_123 ?_
          refine x_istore (pc := 124) (by decide +kernel) rfl d56_124 ?_
          dsimp only [List.set]
          refine x_iinc (pc := 126) rfl (by decide +kernel) rfl d56_126 ?_
          dsimp only [List.set]
          refine x_goto (pc := 129) (tgt := 28) d56_129 (by decide) ?_
          first | rfl | (exfalso; omega)
        · refine x_aload_n (pc := 78) rfl d56_78 ?_
          refine m_getR (pc := 79) f56_9 (by decide +kernel) (ko11 (by omega)) rr11_0 d56_79 ?_
          refine x_iload (pc := 82) rfl d56_82 ?_
          refine x_iconst (pc := 84) d56_84 ?_
          refine x_aload_n (pc := 85) rfl d56_85 ?_
          refine m_getR (pc := 86) f56_9 (by decide +kernel) (ko11 (by omega)) rr11_0 d56_86 ?_
          refine x_iload (pc := 89) rfl d56_89 ?_
          refine m_ialdW (pc := 91) (w := (bitZ (Sf I p f) i)) (ka12 (by omega)) (by omega) (by omega) (by omega) (by rw [up2_s]) d56_91 ?_
          refine x_isub (pc := 92) d56_92 ?_
          refine m_iast (pc := 93) (ka12 (by omega)) (by omega) (by omega) (by omega) d56_93 ?_
          refine x_aload_n (pc := 94) rfl d56_94 ?_
          refine x_dup (pc := 95) rfl d56_95 ?_
          refine m_getW (pc := 96) (z := 3) (w := (J 11 3)) f56_34 (by decide +kernel) rfl (ko11 (by omega)) (by rw [up2_p (by omega), up2_p (by omega)]) d56_96 ?_
          refine x_iconst (pc := 99) d56_99 ?_
          refine x_iadd (pc := 100) d56_100 ?_
          refine m_putI (pc := 101) (z := 3) f56_34 (by decide +kernel) (by decide +kernel) rfl (ko11 (by omega)) d56_101 ?_
          refine x_iinc (pc := 104) rfl (by decide +kernel) rfl d56_104 ?_
          dsimp only [List.set]
          refine x_aload_n (pc := 107) rfl d56_107 ?_
          refine x_aload_n (pc := 108) rfl d56_108 ?_
          refine m_getW (pc := 109) (z := 4) (w := (J 11 4)) f56_37 (by decide +kernel) rfl (ko11 (by omega)) (by rw [up2_i (by decide), up2_p (by omega), up2_p (by omega)]) d56_109 ?_
          refine x_iload (pc := 112) rfl d56_112 ?_
          refine x_max (pc := 114) ⟨by omega, by omega⟩ ⟨by omega, by omega⟩ c56_54 (by decide +kernel) (Nat.le_of_ble_eq_true rfl) d56_114 ?_
          refine m_putI (pc := 117) (z := 4) f56_37 (by decide +kernel) (by decide +kernel) rfl (ko11 (by omega)) d56_117 ?_
          refine x_goto (pc := 120) (tgt := 126) d56_120 (by decide) ?_
          refine x_iinc (pc := 126) rfl (by decide +kernel) rfl d56_126 ?_
          dsimp only [List.set]
          refine x_goto (pc := 129) (tgt := 28) d56_129 (by decide) ?_
          first | rfl | (exfalso; omega)
  | succ m ih =>
    intro i J h2 hJ
    obtain ⟨j0, j1, j2, j3, j4⟩ := id hJ
    have hr := runN_r (chF I p t bt) i
    have hb := bstN_r (chF I p t bt) i
    have hv := invN_r (chF I p t bt) i
    have hm0 : 0 ≤ (i : Int) * bt := Int.mul_nonneg (by omega) (by omega)
    have hm1 : (i : Int) * bt ≤ 48 * 9 := Int.mul_le_mul (by omega) (by omega) (by omega) (by omega)
    refine x_iload (pc := 28) rfl d56_28 ?_
    refine x_aload_n (pc := 30) rfl d56_30 ?_
    refine m_getI (pc := 31) (z := 2) f56_30 (by decide +kernel) rfl (ko11 (by omega)) d56_31 ?_
    refine x_val (pc := 34) (w := (I (p + 8) f * 8)) (j1) ?_
    refine x_icmp_ge (pc := 34) (tgt := 132) ⟨by omega, by omega⟩ ⟨by omega, by omega⟩ d56_34 (by decide) (fun g34 => ?_) (fun g34 => ?_)
    · refine x_vret (pc := 132) rfl (fun _ => rfl) d56_132 ?_
      exfalso; omega
    · refine x_iload (pc := 37) rfl d56_37 ?_
      refine x_bipush (pc := 39) (by decide) d56_39 ?_
      refine x_icmp_ge (pc := 41) (tgt := 132) ⟨by omega, by omega⟩ ⟨by omega, by omega⟩ d56_41 (by decide) (fun g41 => ?_) (fun g41 => ?_)
      · refine x_vret (pc := 132) rfl (fun _ => rfl) d56_132 ?_
        exfalso; omega
      · refine x_aload_n (pc := 44) rfl d56_44 ?_
        refine m_getR (pc := 45) f56_9 (by decide +kernel) (ko11 (by omega)) rr11_0 d56_45 ?_
        refine x_iload (pc := 48) rfl d56_48 ?_
        refine x_aload_n (pc := 50) rfl d56_50 ?_
        refine m_getR (pc := 51) f56_18 (by decide +kernel) hp.o0 hp.r0_11 d56_51 ?_
        refine x_iload_n (pc := 54) rfl d56_54 ?_
        refine x_iload (pc := 55) rfl d56_55 ?_
        refine x_cVs (pc := 57) c56_40 (dt_bitJ hl hp hF j0 (f := f) (b := i) (by omega) (by omega) (by omega) (by omega)) hp.o7 rfl rfl (Nat.le_of_ble_eq_true rfl) (by decide +kernel) (by decide +kernel) rfl d56_57 ?_
        refine m_iast (pc := 60) (ka12 (by omega)) (by omega) (by omega) (by omega) d56_60 ?_
        refine x_aload_n (pc := 61) rfl d56_61 ?_
        refine m_getR (pc := 62) f56_44 (by decide +kernel) hp.o0 hp.r0_10 d56_62 ?_
        refine x_iload_n (pc := 65) rfl d56_65 ?_
        refine x_iload (pc := 66) rfl d56_66 ?_
        refine x_iload (pc := 68) rfl d56_68 ?_
        refine x_imul (pc := 70) d56_70 ?_
        refine x_iadd (pc := 71) d56_71 ?_
        refine x_cVs (pc := 72) c56_48 (dt_chewJ hl hp hD (j0.up (by decide)) (t := (t + (i * bt))) (by omega) (by omega)) hp.o3 rfl rfl (Nat.le_of_ble_eq_true rfl) (by decide +kernel) (by decide +kernel) rfl d56_72 ?_
        refine x_ifB_eq (pc := 75) (tgt := 123) d56_75 (by decide) (fun g75 => ?_) (fun g75 => ?_)
        · refine x_iconst (pc := 123) d56_123 ?_
          refine x_istore (pc := 124) (by decide +kernel) rfl d56_124 ?_
          dsimp only [List.set]
          refine x_iinc (pc := 126) rfl (by decide +kernel) rfl d56_126 ?_
          dsimp only [List.set]
          refine x_goto (pc := 129) (tgt := 28) d56_129 (by decide) ?_
          have h9 := ih (i + 1) _ (by omega) (put_f hJ g75)
          rw [← runN_f (show chF I p t bt i = false from g75)] at h9
          exact h9
        · refine x_aload_n (pc := 78) rfl d56_78 ?_
          refine m_getR (pc := 79) f56_9 (by decide +kernel) (ko11 (by omega)) rr11_0 d56_79 ?_
          refine x_iload (pc := 82) rfl d56_82 ?_
          refine x_iconst (pc := 84) d56_84 ?_
          refine x_aload_n (pc := 85) rfl d56_85 ?_
          refine m_getR (pc := 86) f56_9 (by decide +kernel) (ko11 (by omega)) rr11_0 d56_86 ?_
          refine x_iload (pc := 89) rfl d56_89 ?_
          refine m_ialdW (pc := 91) (w := (bitZ (Sf I p f) i)) (ka12 (by omega)) (by omega) (by omega) (by omega) (by rw [up2_s]) d56_91 ?_
          refine x_isub (pc := 92) d56_92 ?_
          refine m_iast (pc := 93) (ka12 (by omega)) (by omega) (by omega) (by omega) d56_93 ?_
          refine x_aload_n (pc := 94) rfl d56_94 ?_
          refine x_dup (pc := 95) rfl d56_95 ?_
          refine m_getW (pc := 96) (z := 3) (w := (J 11 3)) f56_34 (by decide +kernel) rfl (ko11 (by omega)) (by rw [up2_p (by omega), up2_p (by omega)]) d56_96 ?_
          refine x_val (pc := 99) (w := (invN (chF I p t bt) i)) (j2) ?_
          refine x_iconst (pc := 99) d56_99 ?_
          refine x_iadd (pc := 100) d56_100 ?_
          refine m_putI (pc := 101) (z := 3) f56_34 (by decide +kernel) (by decide +kernel) rfl (ko11 (by omega)) d56_101 ?_
          refine x_iinc (pc := 104) rfl (by decide +kernel) rfl d56_104 ?_
          dsimp only [List.set]
          refine x_aload_n (pc := 107) rfl d56_107 ?_
          refine x_aload_n (pc := 108) rfl d56_108 ?_
          refine m_getW (pc := 109) (z := 4) (w := (J 11 4)) f56_37 (by decide +kernel) rfl (ko11 (by omega)) (by rw [up2_i (by decide), up2_p (by omega), up2_p (by omega)]) d56_109 ?_
          refine x_val (pc := 112) (w := (bstN (chF I p t bt) i)) (j3) ?_
          refine x_iload (pc := 112) rfl d56_112 ?_
          refine x_max (pc := 114) ⟨by omega, by omega⟩ ⟨by omega, by omega⟩ c56_54 (by decide +kernel) (Nat.le_of_ble_eq_true rfl) d56_114 ?_
          refine m_putI (pc := 117) (z := 4) f56_37 (by decide +kernel) (by decide +kernel) rfl (ko11 (by omega)) d56_117 ?_
          refine x_goto (pc := 120) (tgt := 126) d56_120 (by decide) ?_
          refine x_iinc (pc := 126) rfl (by decide +kernel) rfl d56_126 ?_
          dsimp only [List.set]
          refine x_goto (pc := 129) (tgt := 28) d56_129 (by decide) ?_
          have h9 := ih (i + 1) _ (by omega) (put_t hJ g75)
          rw [← runN_t (show chF I p t bt i = true from g75)] at h9
          exact h9
/-- putOnCable -/
theorem ct_put (hl : l.1.stackTraces = false) (hq : 181 ≤ q) (hp : LineAt q p) (hD : DogsOK I p) (hF : FramesOK I p) {J0 : Nat → Int → Int} (hJ0 : offC I J0) {f t bt : Int} (h0 : 0 ≤ f) (h1 : f < I (p + 7) 0) (ht : 0 ≤ t) (ht2 : t ≤ 50000000) (hb1 : 1 ≤ bt) (hb2 : bt ≤ 9) : CT l 56 [.ref 11, .ref p, .int (iI f), .int (iI t), .int (iI bt)] (mm q J0 v fr) 0 0 (oE q v fr none (fun K => PutI I K p f t bt (I (p + 8) f * 8) (I (p + 8) f * 8).toNat)) := by
  have hpb := hp.b
  have hc := hF.1
  have hf := hF.2.1 f h0 h1
  refine mkct2 hl (by decide) (Nat.le_of_ble_eq_true rfl) (L := [some (.ref 11), some (.ref p), some (.int (iI f)), some (.int (iI t)), some (.int (iI bt)), none, none]) rfl ?_
  refine x_aload_n (pc := 0) rfl d56_0 ?_
  refine x_aload_n (pc := 1) rfl d56_1 ?_
  refine m_getR (pc := 2) f56_18 (by decide +kernel) hp.o0 hp.r0_11 d56_2 ?_
  refine x_iload_n (pc := 5) rfl d56_5 ?_
  refine x_cVs (pc := 6) c56_24 (dt_bitsJ hl hp hF hJ0 (f := f) (by omega) (by omega)) hp.o7 rfl rfl (Nat.le_of_ble_eq_true rfl) (by decide +kernel) (by decide +kernel) rfl d56_6 ?_
  refine m_putI (pc := 9) (z := 2) f56_30 (by decide +kernel) (by decide +kernel) rfl (ko11 (by omega)) d56_9 ?_
  refine x_aload_n (pc := 12) rfl d56_12 ?_
  refine x_iconst (pc := 13) d56_13 ?_
  refine m_putI (pc := 14) (z := 3) f56_34 (by decide +kernel) (by decide +kernel) rfl (ko11 (by omega)) d56_14 ?_
  refine x_aload_n (pc := 17) rfl d56_17 ?_
  refine x_iconst (pc := 18) d56_18 ?_
  refine m_putI (pc := 19) (z := 4) f56_37 (by decide +kernel) (by decide +kernel) rfl (ko11 (by omega)) d56_19 ?_
  refine x_iconst (pc := 22) d56_22 ?_
  refine x_istore (pc := 23) (by decide +kernel) rfl d56_23 ?_
  dsimp only [List.set]
  refine x_iconst (pc := 25) d56_25 ?_
  refine x_istore (pc := 26) (by decide +kernel) rfl d56_26 ?_
  dsimp only [List.set]
  refine lp_put hl hq hp hD hF h0 h1 ht ht2 hb1 hb2 (I (p + 8) f * 8).toNat 0 _ (by omega) ⟨((hJ0.up (by decide)).up (by decide)).up (by decide), ?_, ?_, up2_s, fun b hb hb2 => by omega⟩
  · rw [up2_i (by decide), up2_i (by decide), up2_s]
  · rw [up2_i (by decide), up2_s]; rfl
end Send
